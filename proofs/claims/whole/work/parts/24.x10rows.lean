def rmX10_found : Jvm.Room := { frames := 0, cells := 0, slots := 0, locals := 0 }
set_option maxHeartbeats 4000000 in
set_option maxRecDepth 100000 in
theorem t_X10_found (l : Launch) (D : Dc) (G : Gg) (S : Sg) (z : Nat) (hG : GrG G) (hP : GrP G S) (a1 : Int32) : ML l yX10_found wsX10_found rmX10_found D G S z [.ref (gA G 0), .int a1] (fun r S' => S' = ri S 0 (va_up (gi S 0) 9 a1) ∧ r = FND a1) := by
  refine Met.ofW (cc := cX10_found) (maxL := 2) (ret := (some .long)) (by decide +kernel) rfl ?_
  intro pP eE s mM args bl mT cD s₁ bD hml hv
  obtain ⟨rfl, hv⟩ := hv
  have hz := hv.1
  subst hz
  have hx := bD.exec
  have hb := bD.bytes
  have hr := bD.returns
  have hts := atoms_spec (ws := wsX10_found) bD.pre
  have hown : s.vm.findClass RX10 = some mM.cls := findClass_of_methodNamed bD.named
  have hlocks := bD.notSynchronized
  have hW := Wd.start hv
  have hA : ∀ q, s.heap.size ≤ q → AW G s.heap.size q := fun q h => Or.inr h
  have hl := lv_entry ([.ref (gA G 0), .int a1]) (n := 2) (Nat.le_of_ble_eq_true rfl)
  rw [lg_entry_eq]
  generalize (lg_sl ([.ref (gA G 0), .int a1]) ++ List.replicate (2 - (lg_sl ([.ref (gA G 0), .int a1])).length) Slot.unset).toArray = ls at hl ⊢
  have hl : lv_has ls 2 [(0, .ref (gA G 0)), (1, .int a1)] := hl
  have q0 := hts (.fieldLink RX10 251 "WoodForTwo" "latestFinding" "I") (List.mem_of_getElem? (i := 1) rfl)
  have q1 := hts (.constantLong RX10 254 (-9000000000000000010)) (List.mem_of_getElem? (i := 2) rfl)
  have iX10 : ∀ w ∈ wsX100, w ∈ wsX10_found := fun _ h => List.mem_cons_of_mem _ (List.mem_append_right _ (h))
  refine lv_aload_n hx hb dX10_found_0 rfl (lv_at hl 0 rfl) ?_
  refine lv_iload_n hx hb dX10_found_1 rfl (lv_at hl 1 rfl) ?_
  refine r_puti (ci := 9) (C := RX10) (T := TX10) (N := 10) hx hb hts iX10 tyX10 tyX10_ok nmX10 hown hW rfl 0 9 rfl (g_lt hG (by decide)) (g_kd hG (by decide) rfl) (by decide) q0 (fun _ h9 => h9) rfl (tyX10_ok 9 (by decide)) rfl rfl (ri S 0 (va_up (gi S 0) 9 a1)) (gi S 0) (va_up (gi S 0) 9 a1) rfl (e_is _ _ _) rfl rfl rfl (Nat.le_of_ble_eq_true rfl) rfl c_i0 dX10_found_2 (fun H locs hW => ?_)
  refine lv_ldc2 (v := (-9000000000000000010)) hx hb hown q1 dX10_found_5 ?_
  refine lv_iload_n hx hb dX10_found_8 rfl (lv_at hl 1 rfl) ?_
  refine lv_i2l hx hb dX10_found_9 rfl ?_
  refine lv_lsub hx hb dX10_found_10 ?_
  refine r_lret hx hb hr hlocks hW ?_ dX10_found_11
  exact ⟨rfl, rfl⟩

def rmX10_fine : Jvm.Room := { frames := 0, cells := 0, slots := 0, locals := 0 }
set_option maxHeartbeats 4000000 in
set_option maxRecDepth 100000 in
theorem t_X10_fine (l : Launch) (D : Dc) (G : Gg) (S : Sg) (z : Nat) (hG : GrG G) (hP : GrP G S) (a1 : Int64) : ML l yX10_fine wsX10_fine rmX10_fine D G S z [.ref (gA G 0), .long a1] (fun r S' => S' = ri S 0 (va_up (gi S 0) 9 0) ∧ r = a1) := by
  refine Met.ofW (cc := cX10_fine) (maxL := 3) (ret := (some .long)) (by decide +kernel) rfl ?_
  intro pP eE s mM args bl mT cD s₁ bD hml hv
  obtain ⟨rfl, hv⟩ := hv
  have hz := hv.1
  subst hz
  have hx := bD.exec
  have hb := bD.bytes
  have hr := bD.returns
  have hts := atoms_spec (ws := wsX10_fine) bD.pre
  have hown : s.vm.findClass RX10 = some mM.cls := findClass_of_methodNamed bD.named
  have hlocks := bD.notSynchronized
  have hW := Wd.start hv
  have hA : ∀ q, s.heap.size ≤ q → AW G s.heap.size q := fun q h => Or.inr h
  have hl := lv_entry ([.ref (gA G 0), .long a1]) (n := 3) (Nat.le_of_ble_eq_true rfl)
  rw [lg_entry_eq]
  generalize (lg_sl ([.ref (gA G 0), .long a1]) ++ List.replicate (3 - (lg_sl ([.ref (gA G 0), .long a1])).length) Slot.unset).toArray = ls at hl ⊢
  have hl : lv_has ls 3 [(0, .ref (gA G 0)), (1, .long a1)] := hl
  have q0 := hts (.fieldLink RX10 251 "WoodForTwo" "latestFinding" "I") (List.mem_of_getElem? (i := 1) rfl)
  have iX10 : ∀ w ∈ wsX100, w ∈ wsX10_fine := fun _ h => List.mem_cons_of_mem _ (List.mem_append_right _ (h))
  refine lv_aload_n hx hb dX10_fine_0 rfl (lv_at hl 0 rfl) ?_
  refine lv_iconst (v := 0) hx hb dX10_fine_1 (by decide) ?_
  refine r_puti (ci := 9) (C := RX10) (T := TX10) (N := 10) hx hb hts iX10 tyX10 tyX10_ok nmX10 hown hW rfl 0 9 rfl (g_lt hG (by decide)) (g_kd hG (by decide) rfl) (by decide) q0 (fun _ h9 => h9) rfl (tyX10_ok 9 (by decide)) rfl rfl (ri S 0 (va_up (gi S 0) 9 0)) (gi S 0) (va_up (gi S 0) 9 0) rfl (e_is _ _ _) rfl rfl rfl (Nat.le_of_ble_eq_true rfl) rfl c_i0 dX10_fine_2 (fun H locs hW => ?_)
  refine lv_lload_n hx hb dX10_fine_5 rfl (lv_at hl 1 rfl) ?_
  refine r_lret hx hb hr hlocks hW ?_ dX10_fine_6
  exact ⟨rfl, rfl⟩

def rmX10_isSpan : Jvm.Room := { frames := 0, cells := 0, slots := 0, locals := 0 }
set_option maxHeartbeats 4000000 in
set_option maxRecDepth 100000 in
theorem t_X10_isSpan (l : Launch) (D : Dc) (G : Gg) (S : Sg) (z : Nat) (a0 a1 a2 : Int32) (h0 : 0 ≤ a0.toInt) (h40 : a0.toInt ≤ 40) : MI l yX10_isSpan wsX10_isSpan rmX10_isSpan D G S z [.int a0, .int a1, .int a2] (fun r S' => S' = S ∧ ((r = 1 ∧ (0 ≤ a1.toInt ∧ 0 ≤ a2.toInt ∧ a1.toInt + a2.toInt ≤ a0.toInt)) ∨ (r = 0 ∧ ¬ (0 ≤ a1.toInt ∧ 0 ≤ a2.toInt ∧ a1.toInt + a2.toInt ≤ a0.toInt)))) := by
  refine Met.ofW (cc := cX10_isSpan) (maxL := 3) (ret := (some .boolean)) (by decide +kernel) rfl ?_
  intro pP eE s mM args bl mT cD s₁ bD hml hv
  obtain ⟨rfl, hv⟩ := hv
  have hz := hv.1
  subst hz
  have hx := bD.exec
  have hb := bD.bytes
  have hr := bD.returns
  have hts := atoms_spec (ws := wsX10_isSpan) bD.pre
  have hown : s.vm.findClass RX10 = some mM.cls := findClass_of_methodNamed bD.named
  have hlocks := bD.notSynchronized
  have hW := Wd.start hv
  have hA : ∀ q, s.heap.size ≤ q → AW G s.heap.size q := fun q h => Or.inr h
  have hl := lv_entry ([.int a0, .int a1, .int a2]) (n := 3) (Nat.le_of_ble_eq_true rfl)
  rw [lg_entry_eq]
  generalize (lg_sl ([.int a0, .int a1, .int a2]) ++ List.replicate (3 - (lg_sl ([.int a0, .int a1, .int a2])).length) Slot.unset).toArray = ls at hl ⊢
  have hl : lv_has ls 3 [(0, .int a0), (1, .int a1), (2, .int a2)] := hl
  refine lv_iload_n hx hb dX10_isSpan_0 rfl (lv_at hl 1 rfl) ?_
  refine lv_if_lt (tgt := 24) hx hb dX10_isSpan_1 (by decide) (fun c1 => ?_) (fun c1 => ?_)
  · skip
    rw [t_lt, show (0 : Int32).toInt = 0 from by decide] at c1
    refine lv_iconst (v := 0) hx hb dX10_isSpan_24 (by decide) ?_
    refine r_zret hx hb hr hlocks hW (Or.inl rfl) ?_ dX10_isSpan_25
    exact ⟨rfl, Or.inr ⟨rfl, by omega⟩⟩
  · skip
    rw [t_lt, show (0 : Int32).toInt = 0 from by decide] at c1
    refine lv_iload_n hx hb dX10_isSpan_4 rfl (lv_at hl 2 rfl) ?_
    refine lv_if_lt (tgt := 24) hx hb dX10_isSpan_5 (by decide) (fun c5 => ?_) (fun c5 => ?_)
    · skip
      rw [t_lt, show (0 : Int32).toInt = 0 from by decide] at c5
      refine lv_iconst (v := 0) hx hb dX10_isSpan_24 (by decide) ?_
      refine r_zret hx hb hr hlocks hW (Or.inl rfl) ?_ dX10_isSpan_25
      exact ⟨rfl, Or.inr ⟨rfl, by omega⟩⟩
    · skip
      rw [t_lt, show (0 : Int32).toInt = 0 from by decide] at c5
      refine lv_iload_n hx hb dX10_isSpan_8 rfl (lv_at hl 2 rfl) ?_
      refine lv_iload_n hx hb dX10_isSpan_9 rfl (lv_at hl 0 rfl) ?_
      refine lv_icmp_gt (tgt := 24) hx hb dX10_isSpan_10 (by decide) (fun c10 => ?_) (fun c10 => ?_)
      · skip
        rw [t_lt] at c10
        refine lv_iconst (v := 0) hx hb dX10_isSpan_24 (by decide) ?_
        refine r_zret hx hb hr hlocks hW (Or.inl rfl) ?_ dX10_isSpan_25
        exact ⟨rfl, Or.inr ⟨rfl, by omega⟩⟩
      · skip
        rw [t_lt] at c10
        refine lv_iload_n hx hb dX10_isSpan_13 rfl (lv_at hl 1 rfl) ?_
        refine lv_iload_n hx hb dX10_isSpan_14 rfl (lv_at hl 0 rfl) ?_
        refine lv_iload_n hx hb dX10_isSpan_15 rfl (lv_at hl 2 rfl) ?_
        refine lv_isub hx hb dX10_isSpan_16 ?_
        have hsub : (a0 - a2).toInt = a0.toInt - a2.toInt := t_sub (by omega) (by omega)
        refine lv_icmp_gt (tgt := 24) hx hb dX10_isSpan_17 (by decide) (fun c17 => ?_) (fun c17 => ?_)
        · skip
          rw [t_lt] at c17
          refine lv_iconst (v := 0) hx hb dX10_isSpan_24 (by decide) ?_
          refine r_zret hx hb hr hlocks hW (Or.inl rfl) ?_ dX10_isSpan_25
          exact ⟨rfl, Or.inr ⟨rfl, by omega⟩⟩
        · skip
          rw [t_lt] at c17
          refine lv_iconst (v := 1) hx hb dX10_isSpan_20 (by decide) ?_
          refine lv_goto (tgt := 25) hx hb dX10_isSpan_21 (by decide) ?_
          refine r_zret hx hb hr hlocks hW (Or.inr rfl) ?_ dX10_isSpan_25
          exact ⟨rfl, Or.inl ⟨rfl, by omega⟩⟩

def rmX10_findingOfSpan : Jvm.Room := { frames := 1, cells := 0, slots := 0, locals := 22 }
set_option maxHeartbeats 4000000 in
set_option maxRecDepth 100000 in
theorem t_X10_findingOfSpan (l : Launch) (D : Dc) (G : Gg) (S : Sg) (z : Nat) (hG : GrG G) (hP : GrP G S) (a1 a2 a3 : Int32) (h1 : 0 ≤ a1.toInt) (h8 : a1.toInt < 8) (hz9 : (gi S 11 a1.toNatClampNeg).toInt = -1 ∨ (0 ≤ (gi S 11 a1.toNatClampNeg).toInt ∧ (gi S 11 a1.toNatClampNeg).toInt ≤ 40)) : MI l yX10_findingOfSpan wsX10_findingOfSpan rmX10_findingOfSpan D G S z [.ref (gA G 0), .int a1, .int a2, .int a3] (fun r S' => S' = S ∧ r = fos (gi S 11 a1.toNatClampNeg) a2 a3) := by
  refine Met.ofW (cc := cX10_findingOfSpan) (maxL := 4) (ret := (some .int)) (by decide +kernel) rfl ?_
  intro pP eE s mM args bl mT cD s₁ bD hml hv
  obtain ⟨rfl, hv⟩ := hv
  have hz := hv.1
  subst hz
  have hx := bD.exec
  have hb := bD.bytes
  have hr := bD.returns
  have hts := atoms_spec (ws := wsX10_findingOfSpan) bD.pre
  have hown : s.vm.findClass RX10 = some mM.cls := findClass_of_methodNamed bD.named
  have hlocks := bD.notSynchronized
  have hW := Wd.start hv
  have hA : ∀ q, s.heap.size ≤ q → AW G s.heap.size q := fun q h => Or.inr h
  have hl := lv_entry ([.ref (gA G 0), .int a1, .int a2, .int a3]) (n := 4) (Nat.le_of_ble_eq_true rfl)
  rw [lg_entry_eq]
  generalize (lg_sl ([.ref (gA G 0), .int a1, .int a2, .int a3]) ++ List.replicate (4 - (lg_sl ([.ref (gA G 0), .int a1, .int a2, .int a3])).length) Slot.unset).toArray = ls at hl ⊢
  have hl : lv_has ls 4 [(0, .ref (gA G 0)), (1, .int a1), (2, .int a2), (3, .int a3)] := hl
  have q0 := hts (.fieldLink RX10 18 "WoodForTwo" "sizes" "[I") (List.mem_of_getElem? (i := 1) rfl)
  have iX10 : ∀ w ∈ wsX100, w ∈ wsX10_findingOfSpan := fun _ h => List.mem_cons_of_mem _ (List.mem_append_right _ (h))
  refine lv_aload_n hx hb dX10_findingOfSpan_0 rfl (lv_at hl 0 rfl) ?_
  refine r_getr (ci := 9) (C := RX10) (T := TX10) (N := 10) hx hb hts iX10 hown hW rfl 0 2 rfl (g_lt hG (by decide)) (g_kd hG (by decide) rfl) (by decide) q0 (fun _ h9 => h9) (hP _ (List.mem_of_getElem? (i := 2) rfl)) rfl rfl dX10_findingOfSpan_1 ?_
  refine lv_iload_n hx hb dX10_findingOfSpan_4 rfl (lv_at hl 1 rfl) ?_
  refine r_iald hx hb hW 11 rfl (g_lt hG (by decide)) (g_kd hG (by decide) rfl) (g_ix hG (c := 8) (by decide) rfl (t_in h1 h8)) ((gi S 11) (a1).toNatClampNeg) rfl dX10_findingOfSpan_5 ?_
  refine lv_iconst (v := (-1)) hx hb dX10_findingOfSpan_6 (by decide) ?_
  refine lv_icmp_ne (tgt := 12) hx hb dX10_findingOfSpan_7 (by decide) (fun c7 => ?_) (fun c7 => ?_)
  · skip
    rw [t_eq, show ((-1) : Int32).toInt = -1 from by decide] at c7
    refine lv_aload_n hx hb dX10_findingOfSpan_12 rfl (lv_at hl 0 rfl) ?_
    refine r_getr (ci := 9) (C := RX10) (T := TX10) (N := 10) hx hb hts iX10 hown hW rfl 0 2 rfl (g_lt hG (by decide)) (g_kd hG (by decide) rfl) (by decide) q0 (fun _ h9 => h9) (hP _ (List.mem_of_getElem? (i := 2) rfl)) rfl rfl dX10_findingOfSpan_13 ?_
    refine lv_iload_n hx hb dX10_findingOfSpan_16 rfl (lv_at hl 1 rfl) ?_
    refine r_iald hx hb hW 11 rfl (g_lt hG (by decide)) (g_kd hG (by decide) rfl) (g_ix hG (c := 8) (by decide) rfl (t_in h1 h8)) ((gi S 11) (a1).toNatClampNeg) rfl dX10_findingOfSpan_17 ?_
    refine lv_iload_n hx hb dX10_findingOfSpan_18 rfl (lv_at hl 2 rfl) ?_
    refine lv_iload_n hx hb dX10_findingOfSpan_19 rfl (lv_at hl 3 rfl) ?_
    refine r_calli hW hA (va_runS (As := [.int ((gi S 11) (a1).toNatClampNeg), .int a2, .int a3]) (rest := []) ⟨hx, hb, hml, hown, hts⟩ (t_X10_isSpan l D G S _ ((gi S 11) (a1).toNatClampNeg) a2 a3 (by omega) (by omega)) (va_cwS 3 hts gX10_findingOfSpan_X10_isSpan rfl rfl rfl (by decide +kernel) ⟨Nat.le_of_ble_eq_true rfl, Nat.le_of_ble_eq_true rfl⟩) (r_preS hA hW) rfl rfl hl.1 rfl (lv_room (Nat.le_of_ble_eq_true rfl)) dX10_findingOfSpan_20 ⟨Nat.zero_le _, Nat.zero_le _⟩) (fun r20 S20 H locs hp20 hW => ?_)
    obtain ⟨hs20, hp20⟩ := hp20
    rw [hs20] at hW
    rcases hp20 with ⟨rfl, h20⟩ | ⟨rfl, h20⟩
    · skip
      refine lv_if_eq (tgt := 30) hx hb dX10_findingOfSpan_23 (by decide) (fun c23 => ?_) (fun c23 => ?_)
      · exact absurd c23 (by decide)
      · skip
        refine lv_iconst (v := 0) hx hb dX10_findingOfSpan_26 (by decide) ?_
        refine lv_goto (tgt := 31) hx hb dX10_findingOfSpan_27 (by decide) ?_
        refine r_iret hx hb hr hlocks hW ?_ dX10_findingOfSpan_31
        refine ⟨rfl, ?_⟩
        unfold fos
        first | rw [if_pos (by omega)] | rw [if_neg (by omega), if_pos h20] | rw [if_neg (by omega), if_neg h20]
    · skip
      refine lv_if_eq (tgt := 30) hx hb dX10_findingOfSpan_23 (by decide) (fun c23 => ?_) (fun c23 => ?_)
      · skip
        refine lv_iconst (v := 2) hx hb dX10_findingOfSpan_30 (by decide) ?_
        refine r_iret hx hb hr hlocks hW ?_ dX10_findingOfSpan_31
        refine ⟨rfl, ?_⟩
        unfold fos
        first | rw [if_pos (by omega)] | rw [if_neg (by omega), if_pos h20] | rw [if_neg (by omega), if_neg h20]
      · exact absurd (by decide) c23
  · skip
    rw [t_eq, show ((-1) : Int32).toInt = -1 from by decide] at c7
    refine lv_iconst (v := 1) hx hb dX10_findingOfSpan_10 (by decide) ?_
    refine r_iret hx hb hr hlocks hW ?_ dX10_findingOfSpan_11
    refine ⟨rfl, ?_⟩
    unfold fos
    first | rw [if_pos (by omega)] | rw [if_neg (by omega), if_pos h20] | rw [if_neg (by omega), if_neg h20]

def rmX10_lowestBits : Jvm.Room := { frames := 0, cells := 0, slots := 0, locals := 0 }
set_option maxHeartbeats 4000000 in
set_option maxRecDepth 100000 in
theorem t_X10_lowestBits (l : Launch) (D : Dc) (G : Gg) (S : Sg) (z : Nat) (a0 a1 : Int32) : MI l yX10_lowestBits wsX10_lowestBits rmX10_lowestBits D G S z [.int a0, .int a1] (fun r S' => S' = S ∧ r = lowB a0 a1) := by
  refine Met.ofW (cc := cX10_lowestBits) (maxL := 2) (ret := (some .int)) (by decide +kernel) rfl ?_
  intro pP eE s mM args bl mT cD s₁ bD hml hv
  obtain ⟨rfl, hv⟩ := hv
  have hz := hv.1
  subst hz
  have hx := bD.exec
  have hb := bD.bytes
  have hr := bD.returns
  have hts := atoms_spec (ws := wsX10_lowestBits) bD.pre
  have hown : s.vm.findClass RX10 = some mM.cls := findClass_of_methodNamed bD.named
  have hlocks := bD.notSynchronized
  have hW := Wd.start hv
  have hA : ∀ q, s.heap.size ≤ q → AW G s.heap.size q := fun q h => Or.inr h
  have hl := lv_entry ([.int a0, .int a1]) (n := 2) (Nat.le_of_ble_eq_true rfl)
  rw [lg_entry_eq]
  generalize (lg_sl ([.int a0, .int a1]) ++ List.replicate (2 - (lg_sl ([.int a0, .int a1])).length) Slot.unset).toArray = ls at hl ⊢
  have hl : lv_has ls 2 [(0, .int a0), (1, .int a1)] := hl
  refine lv_iload_n hx hb dX10_lowestBits_0 rfl (lv_at hl 0 rfl) ?_
  refine lv_if_ne (tgt := 7) hx hb dX10_lowestBits_1 (by decide) (fun c1 => ?_) (fun c1 => ?_)
  · skip
    rw [t_eq, show (0 : Int32).toInt = 0 from by decide] at c1
    refine lv_iload_n hx hb dX10_lowestBits_7 rfl (lv_at hl 0 rfl) ?_
    refine lv_iconst (v := 1) hx hb dX10_lowestBits_8 (by decide) ?_
    refine lv_icmp_ne (tgt := 17) hx hb dX10_lowestBits_9 (by decide) (fun c9 => ?_) (fun c9 => ?_)
    · skip
      rw [t_eq, show (1 : Int32).toInt = 1 from by decide] at c9
      refine lv_iload_n hx hb dX10_lowestBits_17 rfl (lv_at hl 1 rfl) ?_
      refine r_iret hx hb hr hlocks hW ?_ dX10_lowestBits_18
      refine ⟨rfl, ?_⟩
      unfold lowB
      first | rw [if_pos (by omega)] | rw [if_neg (by omega), if_pos (by omega)] | rw [if_neg (by omega), if_neg (by omega)]
    · skip
      rw [t_eq, show (1 : Int32).toInt = 1 from by decide] at c9
      refine lv_iload_n hx hb dX10_lowestBits_12 rfl (lv_at hl 1 rfl) ?_
      refine lv_i2s hx hb dX10_lowestBits_13 rfl ?_
      refine lv_goto (tgt := 18) hx hb dX10_lowestBits_14 (by decide) ?_
      refine r_iret hx hb hr hlocks hW ?_ dX10_lowestBits_18
      refine ⟨rfl, ?_⟩
      unfold lowB
      first | rw [if_pos (by omega)] | rw [if_neg (by omega), if_pos (by omega)] | rw [if_neg (by omega), if_neg (by omega)]
  · skip
    rw [t_eq, show (0 : Int32).toInt = 0 from by decide] at c1
    refine lv_iload_n hx hb dX10_lowestBits_4 rfl (lv_at hl 1 rfl) ?_
    refine lv_i2b hx hb dX10_lowestBits_5 rfl ?_
    refine r_iret hx hb hr hlocks hW ?_ dX10_lowestBits_6
    refine ⟨rfl, ?_⟩
    unfold lowB
    first | rw [if_pos (by omega)] | rw [if_neg (by omega), if_pos (by omega)] | rw [if_neg (by omega), if_neg (by omega)]

def rmX10_row : Jvm.Room := { frames := 1, cells := 0, slots := 0, locals := 23 }
set_option maxHeartbeats 4000000 in
set_option maxRecDepth 100000 in
theorem t_X10_row (l : Launch) (D : Dc) (G : Gg) (S : Sg) (z : Nat) (hG : GrG G) (hP : GrP G S) (it : Nat → Nat → Int32) (la le : Nat → Int32) (hR : RowsX S it la le) (hL : LeOK le) (st : Int32) (hst : gi S 0 9 = st) (a1 a2 a3 : Int32) : ML l yX10_row wsX10_row rmX10_row D G S z [.ref (gA G 0), .int a1, .int a2, .int a3] (fun r S' => RowsX S' (fRow it la le st a1 a2 a3).2.1 (fRow it la le st a1 a2 a3).2.2.1 (fRow it la le st a1 a2 a3).2.2.2.1 ∧ gi S' 0 9 = (fRow it la le st a1 a2 a3).2.2.2.2 ∧ r = (fRow it la le st a1 a2 a3).1 ∧ Ch (fun k => k = 0 ∨ (2 ≤ k ∧ k ≤ 11)) S S') := by
  refine Met.ofW (cc := cX10_row) (maxL := 4) (ret := (some .long)) (by decide +kernel) rfl ?_
  intro pP eE s mM args bl mT cD s₁ bD hml hv
  obtain ⟨rfl, hv⟩ := hv
  have hz := hv.1
  subst hz
  have hx := bD.exec
  have hb := bD.bytes
  have hr := bD.returns
  have hts := atoms_spec (ws := wsX10_row) bD.pre
  have hown : s.vm.findClass RX10 = some mM.cls := findClass_of_methodNamed bD.named
  have hlocks := bD.notSynchronized
  have hW := Wd.start hv
  have hA : ∀ q, s.heap.size ≤ q → AW G s.heap.size q := fun q h => Or.inr h
  have hl := lv_entry ([.ref (gA G 0), .int a1, .int a2, .int a3]) (n := 4) (Nat.le_of_ble_eq_true rfl)
  rw [lg_entry_eq]
  generalize (lg_sl ([.ref (gA G 0), .int a1, .int a2, .int a3]) ++ List.replicate (4 - (lg_sl ([.ref (gA G 0), .int a1, .int a2, .int a3])).length) Slot.unset).toArray = ls at hl ⊢
  have hl : lv_has ls 4 [(0, .ref (gA G 0)), (1, .int a1), (2, .int a2), (3, .int a3)] := hl
  have q0 := hts (.constantLong RX10 66 (-9000000000000000001)) (List.mem_of_getElem? (i := 1) rfl)
  have q1 := hts (.fieldLink RX10 14 "WoodForTwo" "lanes" "[I") (List.mem_of_getElem? (i := 2) rfl)
  have q2 := hts (.fieldLink RX10 18 "WoodForTwo" "sizes" "[I") (List.mem_of_getElem? (i := 3) rfl)
  have q3 := hts (.fieldLink RX10 11 "WoodForTwo" "items" "[[I") (List.mem_of_getElem? (i := 4) rfl)
  have iX10 : ∀ w ∈ wsX100, w ∈ wsX10_row := fun _ h => List.mem_cons_of_mem _ (List.mem_append_right _ (h))
  refine lv_iload_n hx hb dX10_row_0 rfl (lv_at hl 1 rfl) ?_
  refine r_calli hW hA (va_runS (As := [.int a1]) (rest := []) ⟨hx, hb, hml, hown, hts⟩ (t_X10_isRow l D G S _ a1) (va_cwS 1 hts gX10_row_X10_isRow rfl rfl rfl (by decide +kernel) ⟨Nat.le_of_ble_eq_true rfl, Nat.le_of_ble_eq_true rfl⟩) (r_preS hA hW) rfl rfl hl.1 rfl (lv_room (Nat.le_of_ble_eq_true rfl)) dX10_row_1 ⟨Nat.zero_le _, Nat.zero_le _⟩) (fun r1 S1 H locs hp1 hW => ?_)
  obtain ⟨hs1, hp1⟩ := hp1
  rw [hs1] at hW
  rcases hp1 with ⟨rfl, h1⟩ | ⟨rfl, h1⟩
  · skip
    refine lv_if_eq (tgt := 22) hx hb dX10_row_4 (by decide) (fun c4 => ?_) (fun c4 => ?_)
    · exact absurd c4 (by decide)
    · skip
      refine lv_iload_n hx hb dX10_row_7 rfl (lv_at hl 2 rfl) ?_
      refine lv_if_lt (tgt := 22) hx hb dX10_row_8 (by decide) (fun c8 => ?_) (fun c8 => ?_)
      · skip
        rw [t_lt, show (0 : Int32).toInt = 0 from by decide] at c8
        refine lv_ldc2 (v := (-9000000000000000001)) hx hb hown q0 dX10_row_22 ?_
        refine r_lret hx hb hr hlocks hW ?_ dX10_row_25
        have e : fRow it la le st a1 a2 a3 = (BADL, it, la, le, st) := by unfold fRow; rw [if_neg (by omega)]
        rw [e]; dsimp only
        exact ⟨hR, hst, rfl, Ch.rf⟩
      · skip
        rw [t_lt, show (0 : Int32).toInt = 0 from by decide] at c8
        refine lv_iload_n hx hb dX10_row_11 rfl (lv_at hl 2 rfl) ?_
        refine lv_iconst (v := 2) hx hb dX10_row_12 (by decide) ?_
        refine lv_icmp_gt (tgt := 22) hx hb dX10_row_13 (by decide) (fun c13 => ?_) (fun c13 => ?_)
        · skip
          rw [t_lt, show (2 : Int32).toInt = 2 from by decide] at c13
          refine lv_ldc2 (v := (-9000000000000000001)) hx hb hown q0 dX10_row_22 ?_
          refine r_lret hx hb hr hlocks hW ?_ dX10_row_25
          have e : fRow it la le st a1 a2 a3 = (BADL, it, la, le, st) := by unfold fRow; rw [if_neg (by omega)]
          rw [e]; dsimp only
          exact ⟨hR, hst, rfl, Ch.rf⟩
        · skip
          rw [t_lt, show (2 : Int32).toInt = 2 from by decide] at c13
          refine lv_iload_n hx hb dX10_row_16 rfl (lv_at hl 3 rfl) ?_
          refine lv_bipush (v := 40) hx hb dX10_row_17 (by decide) ?_
          refine lv_icmp_le (tgt := 26) hx hb dX10_row_19 (by decide) (fun c19 => ?_) (fun c19 => ?_)
          · skip
            rw [t_le, show (40 : Int32).toInt = 40 from by decide] at c19
            refine lv_iload_n hx hb dX10_row_26 rfl (lv_at hl 3 rfl) ?_
            refine lv_if_ge (tgt := 36) hx hb dX10_row_27 (by decide) (fun c27 => ?_) (fun c27 => ?_)
            · skip
              rw [t_le, show (0 : Int32).toInt = 0 from by decide] at c27
              have hn_a1 := n_nat (x := a1) (by omega)
              refine lv_aload_n hx hb dX10_row_36 rfl (lv_at hl 0 rfl) ?_
              refine r_getr (ci := 9) (C := RX10) (T := TX10) (N := 10) hx hb hts iX10 hown hW rfl 0 1 rfl (g_lt hG (by decide)) (g_kd hG (by decide) rfl) (by decide) q1 (fun _ h9 => h9) (hP _ (List.mem_of_getElem? (i := 1) rfl)) rfl rfl dX10_row_37 ?_
              refine lv_iload_n hx hb dX10_row_40 rfl (lv_at hl 1 rfl) ?_
              refine lv_iload_n hx hb dX10_row_41 rfl (lv_at hl 2 rfl) ?_
              refine r_iast hx hb hW 10 rfl (g_lt hG (by decide)) (g_kd hG (by decide) rfl) (g_ix hG (c := 8) (by decide) rfl (t_in (by omega) (by omega))) (ri S 10 (va_up (gi S 10) (a1).toNatClampNeg a2)) (gi S 10) rfl (e_is _ _ _) rfl rfl c_i0 dX10_row_42 (fun H locs hW => ?_)
              refine lv_aload_n hx hb dX10_row_43 rfl (lv_at hl 0 rfl) ?_
              refine r_getr (ci := 9) (C := RX10) (T := TX10) (N := 10) hx hb hts iX10 hown hW rfl 0 2 rfl (g_lt hG (by decide)) (g_kd hG (by decide) rfl) (by decide) q2 (fun _ h9 => h9) (hP _ (List.mem_of_getElem? (i := 2) rfl)) rfl rfl dX10_row_44 ?_
              refine lv_iload_n hx hb dX10_row_47 rfl (lv_at hl 1 rfl) ?_
              refine lv_iload_n hx hb dX10_row_48 rfl (lv_at hl 3 rfl) ?_
              refine r_iast hx hb hW 11 rfl (g_lt hG (by decide)) (g_kd hG (by decide) rfl) (g_ix hG (c := 8) (by decide) rfl (t_in (by omega) (by omega))) (ri (ri S 10 (va_up (gi S 10) (a1).toNatClampNeg a2)) 11 (va_up (gi S 11) (a1).toNatClampNeg a3)) (gi S 11) (e_in (by decide) rfl) (e_is _ _ _) rfl rfl c_i0 dX10_row_49 (fun H locs hW => ?_)
              refine lv_aload_n hx hb dX10_row_50 rfl (lv_at hl 0 rfl) ?_
              refine r_getr (ci := 9) (C := RX10) (T := TX10) (N := 10) hx hb hts iX10 hown hW rfl 0 0 rfl (g_lt hG (by decide)) (g_kd hG (by decide) rfl) (by decide) q3 (fun _ h9 => h9) (hP _ (List.mem_of_getElem? (i := 0) rfl)) rfl rfl dX10_row_51 ?_
              refine lv_iload_n hx hb dX10_row_54 rfl (lv_at hl 1 rfl) ?_
              refine r_aald hx hb hW 1 rfl (g_lt hG (by decide)) 16 5 (g_kd hG (by decide) rfl) rfl rfl (fun _ _ _ _ => rfl) (g_ix hG (c := 8) (by decide) rfl (t_in (by omega) (by omega))) (some (gA G (2 + a1.toNatClampNeg))) (rw_lk hP (by omega)) dX10_row_55 ?_
              refine W.eq (g2 := F0 mM 56 ls [.ref (gA G (2 + a1.toNatClampNeg))]) rfl ?_
              refine lv_iconst (v := 0) hx hb dX10_row_56 (by decide) ?_
              refine r_callv hW hA (va_runS (As := [.ref (gA G (2 + a1.toNatClampNeg)), .int 0]) (rest := []) ⟨hx, hb, hml, hown, hts⟩ (t_J7_fill_53178 l D G (ri (ri S 10 (va_up (gi S 10) (a1).toNatClampNeg a2)) 11 (va_up (gi S 11) (a1).toNatClampNeg a3)) _ (2 + a1.toNatClampNeg) 40 (rw_lt hG (r := a1.toNatClampNeg) (by omega)) (rw_kd hG (r := a1.toNatClampNeg) (by omega)) (rw_z hG (by omega)) (by decide) 0) (va_cwS 2 hts gX10_row_J7_fill_53178 rfl rfl rfl (by decide +kernel) ⟨Nat.le_of_ble_eq_true rfl, Nat.le_of_ble_eq_true rfl⟩) (r_preS hA hW) rfl rfl hl.1 rfl (lv_room (Nat.le_of_ble_eq_true rfl)) dX10_row_57 ⟨Nat.zero_le _, Nat.zero_le _⟩) (fun S57 H locs hp57 hW => ?_)
              rw [hp57, show gi (ri (ri S 10 (va_up (gi S 10) (a1).toNatClampNeg a2)) 11 (va_up (gi S 11) (a1).toNatClampNeg a3)) (2 + a1.toNatClampNeg) = (gi S (2 + a1.toNatClampNeg)) from (e_in (by omega) (e_in (by omega) rfl))] at hW
              refine lv_aload_n hx hb dX10_row_60 rfl (lv_at hl 0 rfl) ?_
              refine lv_iload_n hx hb dX10_row_61 rfl (lv_at hl 3 rfl) ?_
              refine lv_i2l hx hb dX10_row_62 rfl ?_
              refine r_calll hW hA (va_runV (As := [.long (Int32.toInt64 a3)]) (rest := []) ⟨hx, hb, hml, hown, hts⟩ (t_X10_fine l D G (ri (ri (ri S 10 (va_up (gi S 10) (a1).toNatClampNeg a2)) 11 (va_up (gi S 11) (a1).toNatClampNeg a3)) (2 + a1.toNatClampNeg) (flR (gi S (2 + a1.toNatClampNeg)) 40 0)) _ hG hP (Int32.toInt64 a3)) (cwV 1 hts gX10_row_X10_fine rfl rfl rfl (by decide +kernel) ⟨Nat.le_of_ble_eq_true rfl, Nat.le_of_ble_eq_true rfl⟩) (r_preV (k := 0) hA hW (ci := 9) (C := RX10) (T := TX10) (N := 10) rfl rfl (g_lt hG (by decide)) (g_kd hG (by decide) rfl) rfl rfl) rfl rfl hl.1 rfl (lv_room (Nat.le_of_ble_eq_true rfl)) dX10_row_63 ⟨Nat.zero_le _, Nat.zero_le _⟩) (fun r63 S63 H locs hp63 hW => ?_)
              obtain ⟨hs63, rfl⟩ := hp63
              rw [hs63] at hW
              refine r_lret hx hb hr hlocks hW ?_ dX10_row_66
              have e : fRow it la le st a1 a2 a3 = (a3.toInt64, va_up it a1.toNatClampNeg (fun _ => 0), va_up la a1.toNatClampNeg a2, va_up le a1.toNatClampNeg a3, 0) := by unfold fRow; rw [if_pos (by omega), if_neg (by omega)]
              rw [e]; dsimp only
              refine ⟨?_, (congrFun (e_is _ _ _) 9).trans rfl, rfl, (Ch.ri (Ch.ri (Ch.ri (Ch.ri Ch.rf (by omega)) (by omega)) (by omega)) (by omega))⟩
              intro j hj
              obtain ⟨y1, y2, y3⟩ := hR j hj
              refine ⟨?_, ?_, fun i hi => ?_⟩
              · rw [(e_in (by decide) (e_in (by omega) (e_in (by decide) (e_is _ _ _))))]; exact up_cg _ _ y1
              · rw [(e_in (by decide) (e_in (by omega) (e_is _ _ _)))]; exact up_cg _ _ y2
              · by_cases hja : j = a1.toNatClampNeg
                · rw [hja, (e_in (by omega) (e_is _ _ _)), up_s]; unfold flR; rw [if_pos (by omega)]
                · rw [up_n _ _ hja]; refine Eq.trans ?_ (y3 i hi)
                  simp only [gi_ri]
                  rw [up_n _ _ (by omega), up_n _ _ (by omega), up_n _ _ (by omega), up_n _ _ (by omega)]
            · skip
              rw [t_le, show (0 : Int32).toInt = 0 from by decide] at c27
              refine lv_aload_n hx hb dX10_row_30 rfl (lv_at hl 0 rfl) ?_
              refine lv_iconst (v := 4) hx hb dX10_row_31 (by decide) ?_
              refine r_calll hW hA (va_runV (As := [.int 4]) (rest := []) ⟨hx, hb, hml, hown, hts⟩ (t_X10_found l D G S _ hG hP 4) (cwV 1 hts gX10_row_X10_found rfl rfl rfl (by decide +kernel) ⟨Nat.le_of_ble_eq_true rfl, Nat.le_of_ble_eq_true rfl⟩) (r_preV (k := 0) hA hW (ci := 9) (C := RX10) (T := TX10) (N := 10) rfl rfl (g_lt hG (by decide)) (g_kd hG (by decide) rfl) rfl rfl) rfl rfl hl.1 rfl (lv_room (Nat.le_of_ble_eq_true rfl)) dX10_row_32 ⟨Nat.zero_le _, Nat.zero_le _⟩) (fun r32 S32 H locs hp32 hW => ?_)
              obtain ⟨hs32, rfl⟩ := hp32
              rw [hs32] at hW
              refine r_lret hx hb hr hlocks hW ?_ dX10_row_35
              have e : fRow it la le st a1 a2 a3 = (FND 4, it, la, le, 4) := by unfold fRow; rw [if_pos (by omega), if_pos (by omega)]
              rw [e]; dsimp only
              refine ⟨?_, congrFun (e_is _ _ _) 9, rfl, (Ch.ri Ch.rf (by omega))⟩
              intro j hj
              obtain ⟨y1, y2, y3⟩ := hR j hj
              exact ⟨(congrFun (e_in (by omega) rfl) j).trans y1, (congrFun (e_in (by omega) rfl) j).trans y2, fun i hi => (congrFun (e_in (by omega) rfl) i).trans (y3 i hi)⟩
          · skip
            rw [t_le, show (40 : Int32).toInt = 40 from by decide] at c19
            refine lv_ldc2 (v := (-9000000000000000001)) hx hb hown q0 dX10_row_22 ?_
            refine r_lret hx hb hr hlocks hW ?_ dX10_row_25
            have e : fRow it la le st a1 a2 a3 = (BADL, it, la, le, st) := by unfold fRow; rw [if_neg (by omega)]
            rw [e]; dsimp only
            exact ⟨hR, hst, rfl, Ch.rf⟩
  · skip
    refine lv_if_eq (tgt := 22) hx hb dX10_row_4 (by decide) (fun c4 => ?_) (fun c4 => ?_)
    · skip
      refine lv_ldc2 (v := (-9000000000000000001)) hx hb hown q0 dX10_row_22 ?_
      refine r_lret hx hb hr hlocks hW ?_ dX10_row_25
      have e : fRow it la le st a1 a2 a3 = (BADL, it, la, le, st) := by unfold fRow; rw [if_neg (by omega)]
      rw [e]; dsimp only
      exact ⟨hR, hst, rfl, Ch.rf⟩
    · exact absurd (by decide) c4

def rmX10_set : Jvm.Room := { frames := 2, cells := 0, slots := 0, locals := 45 }
set_option maxHeartbeats 4000000 in
set_option maxRecDepth 100000 in
theorem t_X10_set (l : Launch) (D : Dc) (G : Gg) (S : Sg) (z : Nat) (hG : GrG G) (hP : GrP G S) (it : Nat → Nat → Int32) (la le : Nat → Int32) (hR : RowsX S it la le) (hL : LeOK le) (st : Int32) (hst : gi S 0 9 = st) (a1 a2 a3 : Int32) : ML l yX10_set wsX10_set rmX10_set D G S z [.ref (gA G 0), .int a1, .int a2, .int a3] (fun r S' => RowsX S' (fSet it la le st a1 a2 a3).2.1 la le ∧ gi S' 0 9 = (fSet it la le st a1 a2 a3).2.2 ∧ r = (fSet it la le st a1 a2 a3).1 ∧ Ch (fun k => k = 0 ∨ (2 ≤ k ∧ k ≤ 11)) S S') := by
  refine Met.ofW (cc := cX10_set) (maxL := 6) (ret := (some .long)) (by decide +kernel) rfl ?_
  intro pP eE s mM args bl mT cD s₁ bD hml hv
  obtain ⟨rfl, hv⟩ := hv
  have hz := hv.1
  subst hz
  have hx := bD.exec
  have hb := bD.bytes
  have hr := bD.returns
  have hts := atoms_spec (ws := wsX10_set) bD.pre
  have hown : s.vm.findClass RX10 = some mM.cls := findClass_of_methodNamed bD.named
  have hlocks := bD.notSynchronized
  have hW := Wd.start hv
  have hA : ∀ q, s.heap.size ≤ q → AW G s.heap.size q := fun q h => Or.inr h
  have hl := lv_entry ([.ref (gA G 0), .int a1, .int a2, .int a3]) (n := 6) (Nat.le_of_ble_eq_true rfl)
  rw [lg_entry_eq]
  generalize (lg_sl ([.ref (gA G 0), .int a1, .int a2, .int a3]) ++ List.replicate (6 - (lg_sl ([.ref (gA G 0), .int a1, .int a2, .int a3])).length) Slot.unset).toArray = ls at hl ⊢
  have hl : lv_has ls 6 [(0, .ref (gA G 0)), (1, .int a1), (2, .int a2), (3, .int a3)] := hl
  have q0 := hts (.fieldLink RX10 14 "WoodForTwo" "lanes" "[I") (List.mem_of_getElem? (i := 2) rfl)
  have q1 := hts (.fieldLink RX10 11 "WoodForTwo" "items" "[[I") (List.mem_of_getElem? (i := 3) rfl)
  have q2 := hts (.constantLong RX10 66 (-9000000000000000001)) (List.mem_of_getElem? (i := 1) rfl)
  have iX10 : ∀ w ∈ wsX100, w ∈ wsX10_set := fun _ h => List.mem_cons_of_mem _ (List.mem_append_right _ (h))
  refine lv_iload_n hx hb dX10_set_0 rfl (lv_at hl 1 rfl) ?_
  refine r_calli hW hA (va_runS (As := [.int a1]) (rest := []) ⟨hx, hb, hml, hown, hts⟩ (t_X10_isRow l D G S _ a1) (va_cwS 1 hts gX10_set_X10_isRow rfl rfl rfl (by decide +kernel) ⟨Nat.le_of_ble_eq_true rfl, Nat.le_of_ble_eq_true rfl⟩) (r_preS hA hW) rfl rfl hl.1 rfl (lv_room (Nat.le_of_ble_eq_true rfl)) dX10_set_1 ⟨Nat.zero_le _, Nat.zero_le _⟩) (fun r1 S1 H locs hp1 hW => ?_)
  obtain ⟨hs1, hp1⟩ := hp1
  rw [hs1] at hW
  rcases hp1 with ⟨rfl, h1⟩ | ⟨rfl, h1⟩
  · skip
    refine lv_if_ne (tgt := 11) hx hb dX10_set_4 (by decide) (fun c4 => ?_) (fun c4 => ?_)
    · skip
      have hn_a1 := n_nat (x := a1) (by omega)
      have hr_a1 := hR a1.toNatClampNeg (by omega)
      have hle_a1 := hL a1.toNatClampNeg (by omega)
      refine lv_aload_n hx hb dX10_set_11 rfl (lv_at hl 0 rfl) ?_
      refine lv_iload_n hx hb dX10_set_12 rfl (lv_at hl 1 rfl) ?_
      refine lv_iload_n hx hb dX10_set_13 rfl (lv_at hl 2 rfl) ?_
      refine lv_iconst (v := 1) hx hb dX10_set_14 (by decide) ?_
      refine r_calli hW hA (va_runV (As := [.int a1, .int a2, .int 1]) (rest := []) ⟨hx, hb, hml, hown, hts⟩ (t_X10_findingOfSpan l D G S _ hG hP a1 a2 1 (by omega) (by omega) (by rw [hr_a1.2.1]; exact hle_a1)) (cwV 3 hts gX10_set_X10_findingOfSpan rfl rfl rfl (by decide +kernel) ⟨Nat.le_of_ble_eq_true rfl, Nat.le_of_ble_eq_true rfl⟩) (r_preV (k := 0) hA hW (ci := 9) (C := RX10) (T := TX10) (N := 10) rfl rfl (g_lt hG (by decide)) (g_kd hG (by decide) rfl) rfl rfl) rfl rfl hl.1 rfl (lv_room (Nat.le_of_ble_eq_true rfl)) dX10_set_15 ⟨Nat.zero_le _, Nat.zero_le _⟩) (fun r15 S15 H locs hp15 hW => ?_)
      obtain ⟨hs15, rfl⟩ := hp15
      rw [hs15] at hW
      refine lv_istore (lv' := [(4, .int (fos (gi S 11 a1.toNatClampNeg) a2 1)), (0, .ref (gA G 0)), (1, .int a1), (2, .int a2), (3, .int a3)]) hx hb dX10_set_18 hl (by decide) rfl (fun ls hl => ?_)
      refine lv_iload hx hb dX10_set_20 (lv_at hl 0 rfl) ?_
      refine lv_if_eq (tgt := 32) hx hb dX10_set_22 (by decide) (fun c22 => ?_) (fun c22 => ?_)
      · skip
        rw [t_eq, show (0 : Int32).toInt = 0 from by decide] at c22
        have hf0 : fos (le a1.toNatClampNeg) a2 1 = 0 := by rw [← hr_a1.2.1, t_eq]; exact c22
        have hf1 : 0 ≤ a2.toInt ∧ a2.toInt < 40 := by
          unfold fos at hf0
          by_cases z1 : (le a1.toNatClampNeg).toInt = -1
          · rw [if_pos z1] at hf0; exact absurd hf0 (by decide)
          · rw [if_neg z1] at hf0
            by_cases z2 : 0 ≤ a2.toInt ∧ 0 ≤ (1 : Int32).toInt ∧ a2.toInt + (1 : Int32).toInt ≤ (le a1.toNatClampNeg).toInt
            · rw [show (1 : Int32).toInt = 1 from by decide] at z2; omega
            · rw [if_neg z2] at hf0; exact absurd hf0 (by decide)
        refine lv_aload_n hx hb dX10_set_32 rfl (lv_at hl 1 rfl) ?_
        refine r_getr (ci := 9) (C := RX10) (T := TX10) (N := 10) hx hb hts iX10 hown hW rfl 0 1 rfl (g_lt hG (by decide)) (g_kd hG (by decide) rfl) (by decide) q0 (fun _ h9 => h9) (hP _ (List.mem_of_getElem? (i := 1) rfl)) rfl rfl dX10_set_33 ?_
        refine lv_iload_n hx hb dX10_set_36 rfl (lv_at hl 2 rfl) ?_
        refine r_iald hx hb hW 10 rfl (g_lt hG (by decide)) (g_kd hG (by decide) rfl) (g_ix hG (c := 8) (by decide) rfl (t_in (by omega) (by omega))) ((gi S 10) (a1).toNatClampNeg) rfl dX10_set_37 ?_
        refine lv_iload_n hx hb dX10_set_38 rfl (lv_at hl 4 rfl) ?_
        refine r_calli hW hA (va_runS (As := [.int ((gi S 10) (a1).toNatClampNeg), .int a3]) (rest := []) ⟨hx, hb, hml, hown, hts⟩ (t_X10_lowestBits l D G S _ ((gi S 10) (a1).toNatClampNeg) a3) (va_cwS 2 hts gX10_set_X10_lowestBits rfl rfl rfl (by decide +kernel) ⟨Nat.le_of_ble_eq_true rfl, Nat.le_of_ble_eq_true rfl⟩) (r_preS hA hW) rfl rfl hl.1 rfl (lv_room (Nat.le_of_ble_eq_true rfl)) dX10_set_39 ⟨Nat.zero_le _, Nat.zero_le _⟩) (fun r39 S39 H locs hp39 hW => ?_)
        obtain ⟨hs39, rfl⟩ := hp39
        rw [hs39] at hW
        refine lv_istore (lv' := [(5, .int (lowB ((gi S 10) (a1).toNatClampNeg) a3)), (4, .int (fos (gi S 11 a1.toNatClampNeg) a2 1)), (0, .ref (gA G 0)), (1, .int a1), (2, .int a2), (3, .int a3)]) hx hb dX10_set_42 hl (by decide) rfl (fun ls hl => ?_)
        refine lv_aload_n hx hb dX10_set_44 rfl (lv_at hl 2 rfl) ?_
        refine r_getr (ci := 9) (C := RX10) (T := TX10) (N := 10) hx hb hts iX10 hown hW rfl 0 0 rfl (g_lt hG (by decide)) (g_kd hG (by decide) rfl) (by decide) q1 (fun _ h9 => h9) (hP _ (List.mem_of_getElem? (i := 0) rfl)) rfl rfl dX10_set_45 ?_
        refine lv_iload_n hx hb dX10_set_48 rfl (lv_at hl 3 rfl) ?_
        refine r_aald hx hb hW 1 rfl (g_lt hG (by decide)) 16 5 (g_kd hG (by decide) rfl) rfl rfl (fun _ _ _ _ => rfl) (g_ix hG (c := 8) (by decide) rfl (t_in (by omega) (by omega))) (some (gA G (2 + a1.toNatClampNeg))) (rw_lk hP (by omega)) dX10_set_49 ?_
        refine W.eq (g2 := F0 mM 50 ls [.ref (gA G (2 + a1.toNatClampNeg))]) rfl ?_
        refine lv_iload_n hx hb dX10_set_50 rfl (lv_at hl 4 rfl) ?_
        refine lv_iload hx hb dX10_set_51 (lv_at hl 0 rfl) ?_
        refine r_iast hx hb hW (2 + a1.toNatClampNeg) rfl (rw_lt hG (r := a1.toNatClampNeg) (by omega)) (rw_kd hG (r := a1.toNatClampNeg) (by omega)) (by rw [rw_z hG (by omega)]; exact t_in hf1.1 hf1.2) (ri S (2 + a1.toNatClampNeg) (va_up (gi S (2 + a1.toNatClampNeg)) (a2).toNatClampNeg (lowB ((gi S 10) (a1).toNatClampNeg) a3))) (gi S (2 + a1.toNatClampNeg)) rfl (e_is _ _ _) rfl rfl c_i0 dX10_set_53 (fun H locs hW => ?_)
        refine lv_aload_n hx hb dX10_set_54 rfl (lv_at hl 2 rfl) ?_
        refine lv_iload hx hb dX10_set_55 (lv_at hl 0 rfl) ?_
        refine lv_i2l hx hb dX10_set_57 rfl ?_
        refine r_calll hW hA (va_runV (As := [.long (Int32.toInt64 (lowB ((gi S 10) (a1).toNatClampNeg) a3))]) (rest := []) ⟨hx, hb, hml, hown, hts⟩ (t_X10_fine l D G (ri S (2 + a1.toNatClampNeg) (va_up (gi S (2 + a1.toNatClampNeg)) (a2).toNatClampNeg (lowB ((gi S 10) (a1).toNatClampNeg) a3))) _ hG hP (Int32.toInt64 (lowB ((gi S 10) (a1).toNatClampNeg) a3))) (cwV 1 hts gX10_set_X10_fine rfl rfl rfl (by decide +kernel) ⟨Nat.le_of_ble_eq_true rfl, Nat.le_of_ble_eq_true rfl⟩) (r_preV (k := 0) hA hW (ci := 9) (C := RX10) (T := TX10) (N := 10) rfl rfl (g_lt hG (by decide)) (g_kd hG (by decide) rfl) rfl rfl) rfl rfl hl.1 rfl (lv_room (Nat.le_of_ble_eq_true rfl)) dX10_set_58 ⟨Nat.zero_le _, Nat.zero_le _⟩) (fun r58 S58 H locs hp58 hW => ?_)
        obtain ⟨hs58, rfl⟩ := hp58
        rw [hs58] at hW
        refine r_lret hx hb hr hlocks hW ?_ dX10_set_61
        have e : fSet it la le st a1 a2 a3 = ((lowB (la a1.toNatClampNeg) a3).toInt64, va_up it a1.toNatClampNeg (va_up (it a1.toNatClampNeg) a2.toNatClampNeg (lowB (la a1.toNatClampNeg) a3)), 0) := by unfold fSet; rw [if_pos (by omega), if_pos hf0]
        rw [e, ← hr_a1.1]; dsimp only
        refine ⟨?_, rfl, rfl, (Ch.ri (Ch.ri Ch.rf (by omega)) (by omega))⟩
        intro j hj
        obtain ⟨y1, y2, y3⟩ := hR j hj
        refine ⟨?_, ?_, fun i hi => ?_⟩
        · refine Eq.trans ?_ y1; simp only [gi_ri]; rw [up_n _ _ (by omega), up_n _ _ (by omega)]
        · refine Eq.trans ?_ y2; simp only [gi_ri]; rw [up_n _ _ (by omega), up_n _ _ (by omega)]
        · by_cases hja : j = a1.toNatClampNeg
          · rw [hja, (e_in (by omega) (e_is _ _ _)), up_s]; exact up_cg _ _ (hr_a1.2.2 i hi)
          · rw [up_n _ _ hja]; refine Eq.trans ?_ (y3 i hi)
            simp only [gi_ri]
            rw [up_n _ _ (by omega), up_n _ _ (by omega)]
      · skip
        rw [t_eq, show (0 : Int32).toInt = 0 from by decide] at c22
        refine lv_aload_n hx hb dX10_set_25 rfl (lv_at hl 1 rfl) ?_
        refine lv_iload hx hb dX10_set_26 (lv_at hl 0 rfl) ?_
        refine r_calll hW hA (va_runV (As := [.int (fos (gi S 11 a1.toNatClampNeg) a2 1)]) (rest := []) ⟨hx, hb, hml, hown, hts⟩ (t_X10_found l D G S _ hG hP (fos (gi S 11 a1.toNatClampNeg) a2 1)) (cwV 1 hts gX10_set_X10_found rfl rfl rfl (by decide +kernel) ⟨Nat.le_of_ble_eq_true rfl, Nat.le_of_ble_eq_true rfl⟩) (r_preV (k := 0) hA hW (ci := 9) (C := RX10) (T := TX10) (N := 10) rfl rfl (g_lt hG (by decide)) (g_kd hG (by decide) rfl) rfl rfl) rfl rfl hl.1 rfl (lv_room (Nat.le_of_ble_eq_true rfl)) dX10_set_28 ⟨Nat.zero_le _, Nat.zero_le _⟩) (fun r28 S28 H locs hp28 hW => ?_)
        obtain ⟨hs28, rfl⟩ := hp28
        rw [hs28] at hW
        refine r_lret hx hb hr hlocks hW ?_ dX10_set_31
        have e : fSet it la le st a1 a2 a3 = (FND (fos (le a1.toNatClampNeg) a2 1), it, fos (le a1.toNatClampNeg) a2 1) := by unfold fSet; rw [if_pos (by omega), if_neg (fun q => by rw [hr_a1.2.1, q] at c22; exact c22 (by decide))]
        rw [e]; dsimp only
        refine ⟨?_, (congrFun (e_is _ _ _) 9).trans (by rw [← hr_a1.2.1]; rfl), by rw [← hr_a1.2.1], (Ch.ri Ch.rf (by omega))⟩
        intro j hj
        obtain ⟨y1, y2, y3⟩ := hR j hj
        exact ⟨(congrFun (e_in (by omega) rfl) j).trans y1, (congrFun (e_in (by omega) rfl) j).trans y2, fun i hi => (congrFun (e_in (by omega) rfl) i).trans (y3 i hi)⟩
    · exact absurd c4 (by decide)
  · skip
    refine lv_if_ne (tgt := 11) hx hb dX10_set_4 (by decide) (fun c4 => ?_) (fun c4 => ?_)
    · exact absurd (by decide) c4
    · skip
      refine lv_ldc2 (v := (-9000000000000000001)) hx hb hown q2 dX10_set_7 ?_
      refine r_lret hx hb hr hlocks hW ?_ dX10_set_10
      have e : fSet it la le st a1 a2 a3 = (BADL, it, st) := by unfold fSet; rw [if_neg (by omega)]
      rw [e]; dsimp only
      exact ⟨hR, hst, rfl, Ch.rf⟩

def rmX10_drop : Jvm.Room := { frames := 1, cells := 0, slots := 0, locals := 22 }
set_option maxHeartbeats 4000000 in
set_option maxRecDepth 100000 in
theorem t_X10_drop (l : Launch) (D : Dc) (G : Gg) (S : Sg) (z : Nat) (hG : GrG G) (hP : GrP G S) (it : Nat → Nat → Int32) (la le : Nat → Int32) (hR : RowsX S it la le) (hL : LeOK le) (st : Int32) (hst : gi S 0 9 = st) (a1 : Int32) : ML l yX10_drop wsX10_drop rmX10_drop D G S z [.ref (gA G 0), .int a1] (fun r S' => RowsX S' it la (fDrop le st a1).2.1 ∧ gi S' 0 9 = (fDrop le st a1).2.2 ∧ r = (fDrop le st a1).1 ∧ Ch (fun k => k = 0 ∨ (2 ≤ k ∧ k ≤ 11)) S S') := by
  refine Met.ofW (cc := cX10_drop) (maxL := 3) (ret := (some .long)) (by decide +kernel) rfl ?_
  intro pP eE s mM args bl mT cD s₁ bD hml hv
  obtain ⟨rfl, hv⟩ := hv
  have hz := hv.1
  subst hz
  have hx := bD.exec
  have hb := bD.bytes
  have hr := bD.returns
  have hts := atoms_spec (ws := wsX10_drop) bD.pre
  have hown : s.vm.findClass RX10 = some mM.cls := findClass_of_methodNamed bD.named
  have hlocks := bD.notSynchronized
  have hW := Wd.start hv
  have hA : ∀ q, s.heap.size ≤ q → AW G s.heap.size q := fun q h => Or.inr h
  have hl := lv_entry ([.ref (gA G 0), .int a1]) (n := 3) (Nat.le_of_ble_eq_true rfl)
  rw [lg_entry_eq]
  generalize (lg_sl ([.ref (gA G 0), .int a1]) ++ List.replicate (3 - (lg_sl ([.ref (gA G 0), .int a1])).length) Slot.unset).toArray = ls at hl ⊢
  have hl : lv_has ls 3 [(0, .ref (gA G 0)), (1, .int a1)] := hl
  have q0 := hts (.fieldLink RX10 18 "WoodForTwo" "sizes" "[I") (List.mem_of_getElem? (i := 2) rfl)
  have q1 := hts (.constantLong RX10 66 (-9000000000000000001)) (List.mem_of_getElem? (i := 1) rfl)
  have iX10 : ∀ w ∈ wsX100, w ∈ wsX10_drop := fun _ h => List.mem_cons_of_mem _ (List.mem_append_right _ (h))
  refine lv_iload_n hx hb dX10_drop_0 rfl (lv_at hl 1 rfl) ?_
  refine r_calli hW hA (va_runS (As := [.int a1]) (rest := []) ⟨hx, hb, hml, hown, hts⟩ (t_X10_isRow l D G S _ a1) (va_cwS 1 hts gX10_drop_X10_isRow rfl rfl rfl (by decide +kernel) ⟨Nat.le_of_ble_eq_true rfl, Nat.le_of_ble_eq_true rfl⟩) (r_preS hA hW) rfl rfl hl.1 rfl (lv_room (Nat.le_of_ble_eq_true rfl)) dX10_drop_1 ⟨Nat.zero_le _, Nat.zero_le _⟩) (fun r1 S1 H locs hp1 hW => ?_)
  obtain ⟨hs1, hp1⟩ := hp1
  rw [hs1] at hW
  rcases hp1 with ⟨rfl, h1⟩ | ⟨rfl, h1⟩
  · skip
    refine lv_if_ne (tgt := 11) hx hb dX10_drop_4 (by decide) (fun c4 => ?_) (fun c4 => ?_)
    · skip
      have hn_a1 := n_nat (x := a1) (by omega)
      have hr_a1 := hR a1.toNatClampNeg (by omega)
      have hle_a1 := hL a1.toNatClampNeg (by omega)
      refine lv_aload_n hx hb dX10_drop_11 rfl (lv_at hl 0 rfl) ?_
      refine r_getr (ci := 9) (C := RX10) (T := TX10) (N := 10) hx hb hts iX10 hown hW rfl 0 2 rfl (g_lt hG (by decide)) (g_kd hG (by decide) rfl) (by decide) q0 (fun _ h9 => h9) (hP _ (List.mem_of_getElem? (i := 2) rfl)) rfl rfl dX10_drop_12 ?_
      refine lv_iload_n hx hb dX10_drop_15 rfl (lv_at hl 1 rfl) ?_
      refine r_iald hx hb hW 11 rfl (g_lt hG (by decide)) (g_kd hG (by decide) rfl) (g_ix hG (c := 8) (by decide) rfl (t_in (by omega) (by omega))) ((gi S 11) (a1).toNatClampNeg) rfl dX10_drop_16 ?_
      refine lv_iconst (v := (-1)) hx hb dX10_drop_17 (by decide) ?_
      refine lv_icmp_ne (tgt := 27) hx hb dX10_drop_18 (by decide) (fun c18 => ?_) (fun c18 => ?_)
      · skip
        rw [t_eq, show ((-1) : Int32).toInt = -1 from by decide] at c18
        refine lv_aload_n hx hb dX10_drop_27 rfl (lv_at hl 0 rfl) ?_
        refine r_getr (ci := 9) (C := RX10) (T := TX10) (N := 10) hx hb hts iX10 hown hW rfl 0 2 rfl (g_lt hG (by decide)) (g_kd hG (by decide) rfl) (by decide) q0 (fun _ h9 => h9) (hP _ (List.mem_of_getElem? (i := 2) rfl)) rfl rfl dX10_drop_28 ?_
        refine lv_iload_n hx hb dX10_drop_31 rfl (lv_at hl 1 rfl) ?_
        refine r_iald hx hb hW 11 rfl (g_lt hG (by decide)) (g_kd hG (by decide) rfl) (g_ix hG (c := 8) (by decide) rfl (t_in (by omega) (by omega))) ((gi S 11) (a1).toNatClampNeg) rfl dX10_drop_32 ?_
        refine lv_istore_n (lv' := [(2, .int ((gi S 11) (a1).toNatClampNeg)), (0, .ref (gA G 0)), (1, .int a1)]) hx hb dX10_drop_33 rfl hl (by decide) rfl (fun ls hl => ?_)
        refine lv_aload_n hx hb dX10_drop_34 rfl (lv_at hl 1 rfl) ?_
        refine r_getr (ci := 9) (C := RX10) (T := TX10) (N := 10) hx hb hts iX10 hown hW rfl 0 2 rfl (g_lt hG (by decide)) (g_kd hG (by decide) rfl) (by decide) q0 (fun _ h9 => h9) (hP _ (List.mem_of_getElem? (i := 2) rfl)) rfl rfl dX10_drop_35 ?_
        refine lv_iload_n hx hb dX10_drop_38 rfl (lv_at hl 2 rfl) ?_
        refine lv_iconst (v := (-1)) hx hb dX10_drop_39 (by decide) ?_
        refine r_iast hx hb hW 11 rfl (g_lt hG (by decide)) (g_kd hG (by decide) rfl) (g_ix hG (c := 8) (by decide) rfl (t_in (by omega) (by omega))) (ri S 11 (va_up (gi S 11) (a1).toNatClampNeg (-1))) (gi S 11) rfl (e_is _ _ _) rfl rfl c_i0 dX10_drop_40 (fun H locs hW => ?_)
        refine lv_aload_n hx hb dX10_drop_41 rfl (lv_at hl 1 rfl) ?_
        refine lv_iload_n hx hb dX10_drop_42 rfl (lv_at hl 0 rfl) ?_
        refine lv_i2l hx hb dX10_drop_43 rfl ?_
        refine r_calll hW hA (va_runV (As := [.long (Int32.toInt64 ((gi S 11) (a1).toNatClampNeg))]) (rest := []) ⟨hx, hb, hml, hown, hts⟩ (t_X10_fine l D G (ri S 11 (va_up (gi S 11) (a1).toNatClampNeg (-1))) _ hG hP (Int32.toInt64 ((gi S 11) (a1).toNatClampNeg))) (cwV 1 hts gX10_drop_X10_fine rfl rfl rfl (by decide +kernel) ⟨Nat.le_of_ble_eq_true rfl, Nat.le_of_ble_eq_true rfl⟩) (r_preV (k := 0) hA hW (ci := 9) (C := RX10) (T := TX10) (N := 10) rfl rfl (g_lt hG (by decide)) (g_kd hG (by decide) rfl) rfl rfl) rfl rfl hl.1 rfl (lv_room (Nat.le_of_ble_eq_true rfl)) dX10_drop_44 ⟨Nat.zero_le _, Nat.zero_le _⟩) (fun r44 S44 H locs hp44 hW => ?_)
        obtain ⟨hs44, rfl⟩ := hp44
        rw [hs44] at hW
        refine r_lret hx hb hr hlocks hW ?_ dX10_drop_47
        have e : fDrop le st a1 = ((le a1.toNatClampNeg).toInt64, va_up le a1.toNatClampNeg (-1), 0) := by unfold fDrop; rw [if_pos (by omega), if_neg (by rw [← hr_a1.2.1]; exact c18)]
        rw [e, ← hr_a1.2.1]; dsimp only
        refine ⟨?_, rfl, rfl, (Ch.ri (Ch.ri Ch.rf (by omega)) (by omega))⟩
        intro j hj
        obtain ⟨y1, y2, y3⟩ := hR j hj
        refine ⟨?_, ?_, fun i hi => ?_⟩
        · refine Eq.trans ?_ y1; simp only [gi_ri]; rw [up_n _ _ (by omega), up_n _ _ (by omega)]
        · rw [(e_in (by decide) (e_is _ _ _))]; exact up_cg _ _ y2
        · refine Eq.trans ?_ (y3 i hi); simp only [gi_ri]; rw [up_n _ _ (by omega), up_n _ _ (by omega)]
      · skip
        rw [t_eq, show ((-1) : Int32).toInt = -1 from by decide] at c18
        refine lv_aload_n hx hb dX10_drop_21 rfl (lv_at hl 0 rfl) ?_
        refine lv_iconst (v := 1) hx hb dX10_drop_22 (by decide) ?_
        refine r_calll hW hA (va_runV (As := [.int 1]) (rest := []) ⟨hx, hb, hml, hown, hts⟩ (t_X10_found l D G S _ hG hP 1) (cwV 1 hts gX10_drop_X10_found rfl rfl rfl (by decide +kernel) ⟨Nat.le_of_ble_eq_true rfl, Nat.le_of_ble_eq_true rfl⟩) (r_preV (k := 0) hA hW (ci := 9) (C := RX10) (T := TX10) (N := 10) rfl rfl (g_lt hG (by decide)) (g_kd hG (by decide) rfl) rfl rfl) rfl rfl hl.1 rfl (lv_room (Nat.le_of_ble_eq_true rfl)) dX10_drop_23 ⟨Nat.zero_le _, Nat.zero_le _⟩) (fun r23 S23 H locs hp23 hW => ?_)
        obtain ⟨hs23, rfl⟩ := hp23
        rw [hs23] at hW
        refine r_lret hx hb hr hlocks hW ?_ dX10_drop_26
        have e : fDrop le st a1 = (FND 1, le, 1) := by unfold fDrop; rw [if_pos (by omega), if_pos (by rw [← hr_a1.2.1]; exact c18)]
        rw [e]; dsimp only
        refine ⟨?_, congrFun (e_is _ _ _) 9, rfl, (Ch.ri Ch.rf (by omega))⟩
        intro j hj
        obtain ⟨y1, y2, y3⟩ := hR j hj
        exact ⟨(congrFun (e_in (by omega) rfl) j).trans y1, (congrFun (e_in (by omega) rfl) j).trans y2, fun i hi => (congrFun (e_in (by omega) rfl) i).trans (y3 i hi)⟩
    · exact absurd c4 (by decide)
  · skip
    refine lv_if_ne (tgt := 11) hx hb dX10_drop_4 (by decide) (fun c4 => ?_) (fun c4 => ?_)
    · exact absurd (by decide) c4
    · skip
      refine lv_ldc2 (v := (-9000000000000000001)) hx hb hown q1 dX10_drop_7 ?_
      refine r_lret hx hb hr hlocks hW ?_ dX10_drop_10
      have e : fDrop le st a1 = (BADL, le, st) := by unfold fDrop; rw [if_neg (by omega)]
      rw [e]; dsimp only
      exact ⟨hR, hst, rfl, Ch.rf⟩
