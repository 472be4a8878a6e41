theorem tE_ge {T : Nat → Nat} {ts a : Nat} (h : a ≤ ts) : SK T ts a ≤ tE T ts a := by
  have h1 := SK_le (T := T) h
  unfold tE
  split
  · split
    · exact (RN_le h1.2).1
    · split
      · exact (RN_le h1.2).1
      · split <;> omega
  · exact Nat.le_refl _
def chN (i j : Nat) : Nat := (chI i j).toNatClampNeg
theorem s_chn : ∀ i, i < 10 → ∀ j, j < 6 → chN i j ≤ 127 ∧ (chI i j).toInt = (chN i j : Int) := by decide +kernel
/-- the token from a is the i-th word -/
abbrev isW (T : Nat → Nat) (ts a i : Nat) : Prop := tS T ts a = 1 ∧ tE T ts a - SK T ts a = sLen.getD i 0 ∧ ∀ j, j < sLen.getD i 0 → T (SK T ts a + j) = chN i j
def rmX6_isWord : Jvm.Room := { frames := 4, cells := 0, slots := 0, locals := 85 }
set_option maxHeartbeats 4000000 in
set_option maxRecDepth 100000 in
theorem t_X6_isWord (l : Launch) (D : Dc) (G : Gg) (S : Sg) (z : Nat) (hG : GrG G) (hP : GrP G S) (T : Nat → Nat) (ts : Nat) (ht4 : ts ≤ 400) (hTB : ∀ i, i < ts → T i ≤ 255) (a : Nat) (hRd : RdX S T ts a) (i : Nat) (hi : i < 10) : MI l yX6_isWord wsX6_isWord rmX6_isWord D G S z [.ref (gA G 12), .ref (D.2.2.1 i)] (fun r S' => S' = S ∧ ((r = 1 ∧ isW T ts a i) ∨ (r = 0 ∧ ¬ isW T ts a i))) := by
  refine Met.ofW (cc := cX6_isWord) (maxL := 3) (ret := (some .boolean)) (by decide +kernel) rfl ?_
  intro pP eE s mM args bl mT cD s₁ bD hml hv
  obtain ⟨rfl, hv⟩ := hv
  have hz := hv.1
  subst hz
  have hx := bD.exec
  have hb := bD.bytes
  have hr := bD.returns
  have hts := atoms_spec (ws := wsX6_isWord) bD.pre
  have hown : s.vm.findClass RX6 = some mM.cls := findClass_of_methodNamed bD.named
  have hlocks := bD.notSynchronized
  have hW := Wd.start hv
  have hA : ∀ q, s.heap.size ≤ q → AW G s.heap.size q := fun q h => Or.inr h
  have hl := lv_entry ([.ref (gA G 12), .ref (D.2.2.1 i)]) (n := 3) (Nat.le_of_ble_eq_true rfl)
  rw [lg_entry_eq]
  generalize (lg_sl ([.ref (gA G 12), .ref (D.2.2.1 i)]) ++ List.replicate (3 - (lg_sl ([.ref (gA G 12), .ref (D.2.2.1 i)])).length) Slot.unset).toArray = ls at hl ⊢
  have hl : lv_has ls 3 [(0, .ref (gA G 12)), (1, .ref (D.2.2.1 i))] := hl
  have q0 := hts (.fieldLink RX6 76 "WoodForTwo$Reader" "sort" "I") (List.mem_of_getElem? (i := 1) rfl)
  have q1 := hts (.fieldLink RX6 19 "WoodForTwo$Reader" "behind" "I") (List.mem_of_getElem? (i := 2) rfl)
  have q2 := hts (.fieldLink RX6 144 "WoodForTwo$Reader" "start" "I") (List.mem_of_getElem? (i := 3) rfl)
  have q3 := hts (.fieldLink RX6 9 "WoodForTwo$Reader" "tape" "[B") (List.mem_of_getElem? (i := 4) rfl)
  have iX6 : ∀ w ∈ wsX60, w ∈ wsX6_isWord := fun _ h => List.mem_cons_of_mem _ (List.mem_append_right _ (h))
  generalize hQ0 : MQ bl _ _ s _ _ _ = Q0
  have hle := tE_le (T := T) hRd.2.2.2
  have htl := tS_le (T := T) (ts := ts) (a := a)
  have hl6 := (s_len i hi).2
  refine lv_aload_n hx hb dX6_isWord_0 rfl (lv_at hl 0 rfl) ?_
  refine r_geti (ci := 5) (C := RX6) (T := TX6) (N := 8) hx hb hts iX6 hown hW rfl 12 4 rfl (g_lt hG (by decide)) (g_kd hG (by decide) rfl) (by decide) q0 (fun _ h9 => h9) (nI (tS T ts a)) hRd.1.2.2.1 rfl rfl dX6_isWord_1 ?_
  refine lv_iconst (v := 1) hx hb dX6_isWord_4 (by decide) ?_
  refine lv_icmp_ne (tgt := 24) hx hb dX6_isWord_5 (by decide) (fun c5 => ?_) (fun c5 => ?_)
  · skip
    have hs1 : ¬ tS T ts a = 1 := fun z => c5 (by rw [z]; rfl)
    refine lv_iconst (v := 0) hx hb dX6_isWord_24 (by decide) ?_
    rw [← hQ0]
    refine r_zret hx hb hr hlocks hW (Or.inl rfl) ?_ dX6_isWord_25
    exact ⟨rfl, Or.inr ⟨rfl, fun z => hs1 z.1⟩⟩
  · skip
    have hs1 : tS T ts a = 1 := (n_eq (b := 1) (by omega) (by decide)).mp c5
    refine lv_aload_n hx hb dX6_isWord_8 rfl (lv_at hl 0 rfl) ?_
    refine r_geti (ci := 5) (C := RX6) (T := TX6) (N := 8) hx hb hts iX6 hown hW rfl 12 3 rfl (g_lt hG (by decide)) (g_kd hG (by decide) rfl) (by decide) q1 (fun _ h9 => h9) (nI (tE T ts a)) hRd.1.2.1 rfl rfl dX6_isWord_9 ?_
    refine lv_aload_n hx hb dX6_isWord_12 rfl (lv_at hl 0 rfl) ?_
    refine r_geti (ci := 5) (C := RX6) (T := TX6) (N := 8) hx hb hts iX6 hown hW rfl 12 2 rfl (g_lt hG (by decide)) (g_kd hG (by decide) rfl) (by decide) q2 (fun _ h9 => h9) (nI (SK T ts a)) hRd.1.1 rfl rfl dX6_isWord_13 ?_
    refine lv_isub hx hb dX6_isWord_16 ?_
    rw [show (((nI (tE T ts a)) - (nI (SK T ts a))) : Int32) = (nI (tE T ts a - SK T ts a)) from n_sub (tE_ge hRd.2.2.2)]
    refine lv_aload_n hx hb dX6_isWord_17 rfl (lv_at hl 1 rfl) ?_
    refine r_calli hW hA (va_runV (As := []) (rest := [.int (nI (tE T ts a - SK T ts a))]) ⟨hx, hb, hml, hown, hts⟩ (t_J0_length_8abf5 l D G S _ i hi) (cwV 0 hts gX6_isWord_J0_length_8abf5 rfl rfl rfl (by decide +kernel) ⟨Nat.le_of_ble_eq_true rfl, Nat.le_of_ble_eq_true rfl⟩) (r_preK hA hW hi) rfl rfl hl.1 rfl (lv_room (Nat.le_of_ble_eq_true rfl)) dX6_isWord_18 ⟨Nat.zero_le _, Nat.zero_le _⟩) (fun r18 S18 H locs hp18 hW => ?_)
    obtain ⟨hs18, rfl⟩ := hp18
    rw [hs18] at hW
    refine lv_icmp_eq (tgt := 26) hx hb dX6_isWord_21 (by decide) (fun c21 => ?_) (fun c21 => ?_)
    · skip
      have hlen : tE T ts a - SK T ts a = sLen.getD i 0 := (n_eq (by omega) (by omega)).mp c21
      refine lv_iconst (v := 0) hx hb dX6_isWord_26 (by decide) ?_
      refine lv_istore_n (lv' := [(2, .int 0), (0, .ref (gA G 12)), (1, .ref (D.2.2.1 i))]) hx hb dX6_isWord_27 rfl hl (by decide) rfl (fun ls hl => ?_)
      have L28 : ∀ (n : Nat) (k : Nat) (H : Heap) (locs : List Loc) (ls : Array Slot), (sLen.getD i 0 - k) < n → k ≤ sLen.getD i 0 → (∀ j, j < k → T (SK T ts a + j) = chN i j) → Wd D (AW G s.heap.size) s G S H locs → lv_has ls 3 [(2, .int (nI k)), (0, .ref (gA G 12)), (1, .ref (D.2.2.1 i))] → W pP l eE (headSpec wsX6_isWord rmX6_isWord).room s mM ([.ref (gA G 12), .ref (D.2.2.1 i)] : List Value).toArray bl mT cD H locs 0 0 Q0 (F0 mM 28 ls []) := by
        intro n
        induction n with
        | zero => intro k H locs ls hm; exact absurd hm (Nat.not_lt_zero _)
        | succ n ih28 =>
          intro k H locs ls hm28 hk hall hW hl
          refine lv_iload_n hx hb dX6_isWord_28 rfl (lv_at hl 0 rfl) ?_
          refine lv_aload_n hx hb dX6_isWord_29 rfl (lv_at hl 2 rfl) ?_
          refine r_calli hW hA (va_runV (As := []) (rest := [.int (nI k)]) ⟨hx, hb, hml, hown, hts⟩ (t_J0_length_8abf5 l D G S _ i hi) (cwV 0 hts gX6_isWord_J0_length_8abf5 rfl rfl rfl (by decide +kernel) ⟨Nat.le_of_ble_eq_true rfl, Nat.le_of_ble_eq_true rfl⟩) (r_preK hA hW hi) rfl rfl hl.1 rfl (lv_room (Nat.le_of_ble_eq_true rfl)) dX6_isWord_30 ⟨Nat.zero_le _, Nat.zero_le _⟩) (fun r30 S30 H locs hp30 hW => ?_)
          obtain ⟨hs30, rfl⟩ := hp30
          rw [hs30] at hW
          refine lv_icmp_ge (tgt := 63) hx hb dX6_isWord_33 (by decide) (fun c33 => ?_) (fun c33 => ?_)
          · skip
            have hge := (n_le (a := sLen.getD i 0) (b := k) (by omega) (by omega)).mp c33
            refine lv_iconst (v := 1) hx hb dX6_isWord_63 (by decide) ?_
            rw [← hQ0]
            refine r_zret hx hb hr hlocks hW (Or.inr rfl) ?_ dX6_isWord_64
            exact ⟨rfl, Or.inl ⟨rfl, hs1, hlen, fun j hj => hall j (by omega)⟩⟩
          · skip
            have hkl : k < sLen.getD i 0 := by
              have h9 : ¬ sLen.getD i 0 ≤ k := fun z => c33 ((n_le (a := sLen.getD i 0) (b := k) (by omega) (by omega)).mpr z)
              omega
            refine lv_aload_n hx hb dX6_isWord_36 rfl (lv_at hl 1 rfl) ?_
            refine r_getr (ci := 5) (C := RX6) (T := TX6) (N := 8) hx hb hts iX6 hown hW rfl 12 0 rfl (g_lt hG (by decide)) (g_kd hG (by decide) rfl) (by decide) q3 (fun _ h9 => h9) (hP _ (List.mem_of_getElem? (i := 15) rfl)) rfl rfl dX6_isWord_37 ?_
            refine lv_aload_n hx hb dX6_isWord_40 rfl (lv_at hl 1 rfl) ?_
            refine r_geti (ci := 5) (C := RX6) (T := TX6) (N := 8) hx hb hts iX6 hown hW rfl 12 2 rfl (g_lt hG (by decide)) (g_kd hG (by decide) rfl) (by decide) q2 (fun _ h9 => h9) (nI (SK T ts a)) hRd.1.1 rfl rfl dX6_isWord_41 ?_
            refine lv_iload_n hx hb dX6_isWord_44 rfl (lv_at hl 0 rfl) ?_
            refine lv_iadd hx hb dX6_isWord_45 ?_
            rw [show (((nI (SK T ts a)) + (nI k)) : Int32) = (nI ((SK T ts a) + k)) from n_add (SK T ts a) k]
            refine r_bald hx hb hW 13 rfl (g_lt hG (by decide)) (g_kd hG (by decide) rfl) (g_ix hG (c := 400) (by decide) rfl (n_inI (by omega) (by decide))) (sb (T (SK T ts a + k))) (by rw [n_clamp (by omega)]; exact hRd.2.2.1 _ (by omega)) dX6_isWord_46 ?_
            refine lv_aload_n hx hb dX6_isWord_47 rfl (lv_at hl 2 rfl) ?_
            refine lv_iload_n hx hb dX6_isWord_48 rfl (lv_at hl 0 rfl) ?_
            refine r_calli hW hA (va_runV (As := [.int (nI k)]) (rest := [.int (sb (T (SK T ts a + k)))]) ⟨hx, hb, hml, hown, hts⟩ (t_J0_charAt_5068e l D G S _ i hi k hkl) (cwV 1 hts gX6_isWord_J0_charAt_5068e rfl rfl rfl (by decide +kernel) ⟨Nat.le_of_ble_eq_true rfl, Nat.le_of_ble_eq_true rfl⟩) (r_preK hA hW hi) rfl rfl hl.1 rfl (lv_room (Nat.le_of_ble_eq_true rfl)) dX6_isWord_49 ⟨Nat.zero_le _, Nat.zero_le _⟩) (fun r49 S49 H locs hp49 hW => ?_)
            obtain ⟨hs49, rfl⟩ := hp49
            rw [hs49] at hW
            refine lv_icmp_eq (tgt := 57) hx hb dX6_isWord_52 (by decide) (fun c52 => ?_) (fun c52 => ?_)
            · skip
              have hye : T (SK T ts a + k) = chN i k := by
                have z := congrArg Int32.toInt c52
                have z1 := s_chn i hi k (by omega)
                have z3 := hTB (SK T ts a + k) (by omega)
                have z2 := sb_int z3
                omega
              refine lv_iinc (v := (nI (k + 1))) (lv' := [(2, .int (nI (k + 1))), (0, .ref (gA G 12)), (1, .ref (D.2.2.1 i))]) hx hb dX6_isWord_57 hl (k := 0) rfl (nI_1 k) (by decide) rfl (fun ls hl => ?_)
              refine lv_goto (tgt := 28) hx hb dX6_isWord_60 (by decide) ?_
              exact ih28 (k + 1) _ _ ls (by omega) hkl (fun j hj => by rcases Nat.lt_or_eq_of_le (Nat.lt_succ_iff.mp hj) with z | z; exact hall j z; rw [z]; exact hye) hW (lv_sub hl [0, 1, 2] rfl)
            · skip
              have hne : ¬ T (SK T ts a + k) = chN i k := fun z => c52 (by
                have z1 := s_chn i hi k (by omega)
                have z2 := sb_int (hTB (SK T ts a + k) (by omega))
                rw [t_eq, z1.2]; omega)
              refine lv_iconst (v := 0) hx hb dX6_isWord_55 (by decide) ?_
              rw [← hQ0]
              refine r_zret hx hb hr hlocks hW (Or.inl rfl) ?_ dX6_isWord_56
              exact ⟨rfl, Or.inr ⟨rfl, fun z => hne (z.2.2 k hkl)⟩⟩
      exact L28 _ 0 _ _ ls (Nat.lt_succ_self _) (Nat.zero_le _) (fun j hj => absurd hj (Nat.not_lt_zero _)) hW (lv_sub hl [0, 1, 2] rfl)
    · skip
      have hlen : ¬ tE T ts a - SK T ts a = sLen.getD i 0 := fun z => c21 (by rw [z])
      refine lv_iconst (v := 0) hx hb dX6_isWord_24 (by decide) ?_
      rw [← hQ0]
      refine r_zret hx hb hr hlocks hW (Or.inl rfl) ?_ dX6_isWord_25
      exact ⟨rfl, Or.inr ⟨rfl, fun z => hlen z.2.1⟩⟩

def pLaw (T : Nat → Nat) (ts a : Nat) : PRt Nat := if isW T ts a 3 then .inl (0, tE T ts a) else if isW T ts a 4 then .inl (1, tE T ts a) else if isW T ts a 5 then .inl (2, tE T ts a) else .inr (1, SK T ts a)
def pWay (T : Nat → Nat) (ts a : Nat) : PRt Nat := if isW T ts a 6 then .inl (0, tE T ts a) else if isW T ts a 7 then .inl (1, tE T ts a) else if isW T ts a 8 then .inl (2, tE T ts a) else if isW T ts a 9 then .inl (3, tE T ts a) else .inr (1, SK T ts a)
def rmX6_readLaw : Jvm.Room := { frames := 5, cells := 0, slots := 0, locals := 107 }
set_option maxHeartbeats 4000000 in
set_option maxRecDepth 100000 in
theorem t_X6_readLaw (l : Launch) (D : Dc) (G : Gg) (S : Sg) (z : Nat) (hG : GrG G) (hP : GrP G S) (T : Nat → Nat) (ts : Nat) (ht4 : ts ≤ 400) (hTB : ∀ i, i < ts → T i ≤ 255) (a : Nat) (hRd : RdX S T ts a) : MI l yX6_readLaw wsX6_readLaw rmX6_readLaw D G S z [.ref (gA G 12)] (fun r S' => (∃ v e, pLaw T ts a = .inl (v, e) ∧ r = nI v ∧ OkX S S' T ts e) ∨ (∃ f p, pLaw T ts a = .inr (f, p) ∧ r = (-1) ∧ FlX S S' f p)) := by
  refine Met.ofW (cc := cX6_readLaw) (maxL := 2) (ret := (some .int)) (by decide +kernel) rfl ?_
  intro pP eE s mM args bl mT cD s₁ bD hml hv
  obtain ⟨rfl, hv⟩ := hv
  have hz := hv.1
  subst hz
  have hx := bD.exec
  have hb := bD.bytes
  have hr := bD.returns
  have hts := atoms_spec (ws := wsX6_readLaw) bD.pre
  have hown : s.vm.findClass RX6 = some mM.cls := findClass_of_methodNamed bD.named
  have hlocks := bD.notSynchronized
  have hW := Wd.start hv
  have hA : ∀ q, s.heap.size ≤ q → AW G s.heap.size q := fun q h => Or.inr h
  have hl := lv_entry ([.ref (gA G 12)]) (n := 2) (Nat.le_of_ble_eq_true rfl)
  rw [lg_entry_eq]
  generalize (lg_sl ([.ref (gA G 12)]) ++ List.replicate (2 - (lg_sl ([.ref (gA G 12)])).length) Slot.unset).toArray = ls at hl ⊢
  have hl : lv_has ls 2 [(0, .ref (gA G 12))] := hl
  refine lv_aload_n hx hb dX6_readLaw_0 rfl (lv_at hl 0 rfl) ?_
  refine va_ldcS hx hb (own := RX6) hown (hW.2.2.2.2.2.1 3 (by decide)) dX6_readLaw_1 ?_
  refine r_calli hW hA (va_runV (As := [.ref (D.2.2.1 3)]) (rest := []) ⟨hx, hb, hml, hown, hts⟩ (t_X6_isWord l D G S _ hG hP T ts ht4 hTB a hRd 3 (by decide)) (cwV 1 hts gX6_readLaw_X6_isWord rfl rfl rfl (by decide +kernel) ⟨Nat.le_of_ble_eq_true rfl, Nat.le_of_ble_eq_true rfl⟩) (r_preV (k := 12) hA hW (ci := 5) (C := RX6) (T := TX6) (N := 8) rfl rfl (g_lt hG (by decide)) (g_kd hG (by decide) rfl) rfl rfl) rfl rfl hl.1 rfl (lv_room (Nat.le_of_ble_eq_true rfl)) dX6_readLaw_3 ⟨Nat.zero_le _, Nat.zero_le _⟩) (fun r3 S3 H locs hp3 hW => ?_)
  obtain ⟨hs3, hp3⟩ := hp3
  rw [hs3] at hW
  rcases hp3 with ⟨rfl, h3⟩ | ⟨rfl, h3⟩
  · skip
    refine lv_if_eq (tgt := 13) hx hb dX6_readLaw_6 (by decide) (fun c6 => ?_) (fun c6 => ?_)
    · exact absurd c6 (by decide)
    · skip
      refine lv_iconst (v := 0) hx hb dX6_readLaw_9 (by decide) ?_
      refine lv_goto (tgt := 40) hx hb dX6_readLaw_10 (by decide) ?_
      refine lv_istore_n (lv' := [(1, .int 0), (0, .ref (gA G 12))]) hx hb dX6_readLaw_40 rfl hl (by decide) rfl (fun ls hl => ?_)
      refine lv_aload_n hx hb dX6_readLaw_41 rfl (lv_at hl 1 rfl) ?_
      refine lv_iload_n hx hb dX6_readLaw_42 rfl (lv_at hl 0 rfl) ?_
      refine W.eq (g2 := F0 mM 43 ls [.int (nI 0), .ref (gA G 12)]) rfl ?_
      refine r_calli hW hA (va_runV (As := [.int (nI 0)]) (rest := []) ⟨hx, hb, hml, hown, hts⟩ (t_X6_pastName_ok l D G S _ hG hP T ts ht4 hTB a hRd 0 (by decide)) (cwV 1 hts gX6_readLaw_X6_pastName rfl rfl rfl (by decide +kernel) ⟨Nat.le_of_ble_eq_true rfl, Nat.le_of_ble_eq_true rfl⟩) (r_preV (k := 12) hA hW (ci := 5) (C := RX6) (T := TX6) (N := 8) rfl rfl (g_lt hG (by decide)) (g_kd hG (by decide) rfl) rfl rfl) rfl rfl hl.1 rfl (lv_room (Nat.le_of_ble_eq_true rfl)) dX6_readLaw_43 ⟨Nat.zero_le _, Nat.zero_le _⟩) (fun r43 S43 H locs hp43 hW => ?_)
      obtain ⟨rfl, hOk⟩ := hp43
      refine r_iret hx hb hr hlocks hW ?_ dX6_readLaw_46
      refine Or.inl ⟨0, tE T ts a, ?_, rfl, hOk⟩
      unfold pLaw; rw [if_pos h3]
  · skip
    refine lv_if_eq (tgt := 13) hx hb dX6_readLaw_6 (by decide) (fun c6 => ?_) (fun c6 => ?_)
    · skip
      refine lv_aload_n hx hb dX6_readLaw_13 rfl (lv_at hl 0 rfl) ?_
      refine va_ldcS hx hb (own := RX6) hown (hW.2.2.2.2.2.1 4 (by decide)) dX6_readLaw_14 ?_
      refine r_calli hW hA (va_runV (As := [.ref (D.2.2.1 4)]) (rest := []) ⟨hx, hb, hml, hown, hts⟩ (t_X6_isWord l D G S _ hG hP T ts ht4 hTB a hRd 4 (by decide)) (cwV 1 hts gX6_readLaw_X6_isWord rfl rfl rfl (by decide +kernel) ⟨Nat.le_of_ble_eq_true rfl, Nat.le_of_ble_eq_true rfl⟩) (r_preV (k := 12) hA hW (ci := 5) (C := RX6) (T := TX6) (N := 8) rfl rfl (g_lt hG (by decide)) (g_kd hG (by decide) rfl) rfl rfl) rfl rfl hl.1 rfl (lv_room (Nat.le_of_ble_eq_true rfl)) dX6_readLaw_16 ⟨Nat.zero_le _, Nat.zero_le _⟩) (fun r16 S16 H locs hp16 hW => ?_)
      obtain ⟨hs16, hp16⟩ := hp16
      rw [hs16] at hW
      rcases hp16 with ⟨rfl, h16⟩ | ⟨rfl, h16⟩
      · skip
        refine lv_if_eq (tgt := 26) hx hb dX6_readLaw_19 (by decide) (fun c19 => ?_) (fun c19 => ?_)
        · exact absurd c19 (by decide)
        · skip
          refine lv_iconst (v := 1) hx hb dX6_readLaw_22 (by decide) ?_
          refine lv_goto (tgt := 40) hx hb dX6_readLaw_23 (by decide) ?_
          refine lv_istore_n (lv' := [(1, .int 1), (0, .ref (gA G 12))]) hx hb dX6_readLaw_40 rfl hl (by decide) rfl (fun ls hl => ?_)
          refine lv_aload_n hx hb dX6_readLaw_41 rfl (lv_at hl 1 rfl) ?_
          refine lv_iload_n hx hb dX6_readLaw_42 rfl (lv_at hl 0 rfl) ?_
          refine W.eq (g2 := F0 mM 43 ls [.int (nI 1), .ref (gA G 12)]) rfl ?_
          refine r_calli hW hA (va_runV (As := [.int (nI 1)]) (rest := []) ⟨hx, hb, hml, hown, hts⟩ (t_X6_pastName_ok l D G S _ hG hP T ts ht4 hTB a hRd 1 (by decide)) (cwV 1 hts gX6_readLaw_X6_pastName rfl rfl rfl (by decide +kernel) ⟨Nat.le_of_ble_eq_true rfl, Nat.le_of_ble_eq_true rfl⟩) (r_preV (k := 12) hA hW (ci := 5) (C := RX6) (T := TX6) (N := 8) rfl rfl (g_lt hG (by decide)) (g_kd hG (by decide) rfl) rfl rfl) rfl rfl hl.1 rfl (lv_room (Nat.le_of_ble_eq_true rfl)) dX6_readLaw_43 ⟨Nat.zero_le _, Nat.zero_le _⟩) (fun r43 S43 H locs hp43 hW => ?_)
          obtain ⟨rfl, hOk⟩ := hp43
          refine r_iret hx hb hr hlocks hW ?_ dX6_readLaw_46
          refine Or.inl ⟨1, tE T ts a, ?_, rfl, hOk⟩
          unfold pLaw; rw [if_neg h3, if_pos h16]
      · skip
        refine lv_if_eq (tgt := 26) hx hb dX6_readLaw_19 (by decide) (fun c19 => ?_) (fun c19 => ?_)
        · skip
          refine lv_aload_n hx hb dX6_readLaw_26 rfl (lv_at hl 0 rfl) ?_
          refine va_ldcS hx hb (own := RX6) hown (hW.2.2.2.2.2.1 5 (by decide)) dX6_readLaw_27 ?_
          refine r_calli hW hA (va_runV (As := [.ref (D.2.2.1 5)]) (rest := []) ⟨hx, hb, hml, hown, hts⟩ (t_X6_isWord l D G S _ hG hP T ts ht4 hTB a hRd 5 (by decide)) (cwV 1 hts gX6_readLaw_X6_isWord rfl rfl rfl (by decide +kernel) ⟨Nat.le_of_ble_eq_true rfl, Nat.le_of_ble_eq_true rfl⟩) (r_preV (k := 12) hA hW (ci := 5) (C := RX6) (T := TX6) (N := 8) rfl rfl (g_lt hG (by decide)) (g_kd hG (by decide) rfl) rfl rfl) rfl rfl hl.1 rfl (lv_room (Nat.le_of_ble_eq_true rfl)) dX6_readLaw_29 ⟨Nat.zero_le _, Nat.zero_le _⟩) (fun r29 S29 H locs hp29 hW => ?_)
          obtain ⟨hs29, hp29⟩ := hp29
          rw [hs29] at hW
          rcases hp29 with ⟨rfl, h29⟩ | ⟨rfl, h29⟩
          · skip
            refine lv_if_eq (tgt := 39) hx hb dX6_readLaw_32 (by decide) (fun c32 => ?_) (fun c32 => ?_)
            · exact absurd c32 (by decide)
            · skip
              refine lv_iconst (v := 2) hx hb dX6_readLaw_35 (by decide) ?_
              refine lv_goto (tgt := 40) hx hb dX6_readLaw_36 (by decide) ?_
              refine lv_istore_n (lv' := [(1, .int 2), (0, .ref (gA G 12))]) hx hb dX6_readLaw_40 rfl hl (by decide) rfl (fun ls hl => ?_)
              refine lv_aload_n hx hb dX6_readLaw_41 rfl (lv_at hl 1 rfl) ?_
              refine lv_iload_n hx hb dX6_readLaw_42 rfl (lv_at hl 0 rfl) ?_
              refine W.eq (g2 := F0 mM 43 ls [.int (nI 2), .ref (gA G 12)]) rfl ?_
              refine r_calli hW hA (va_runV (As := [.int (nI 2)]) (rest := []) ⟨hx, hb, hml, hown, hts⟩ (t_X6_pastName_ok l D G S _ hG hP T ts ht4 hTB a hRd 2 (by decide)) (cwV 1 hts gX6_readLaw_X6_pastName rfl rfl rfl (by decide +kernel) ⟨Nat.le_of_ble_eq_true rfl, Nat.le_of_ble_eq_true rfl⟩) (r_preV (k := 12) hA hW (ci := 5) (C := RX6) (T := TX6) (N := 8) rfl rfl (g_lt hG (by decide)) (g_kd hG (by decide) rfl) rfl rfl) rfl rfl hl.1 rfl (lv_room (Nat.le_of_ble_eq_true rfl)) dX6_readLaw_43 ⟨Nat.zero_le _, Nat.zero_le _⟩) (fun r43 S43 H locs hp43 hW => ?_)
              obtain ⟨rfl, hOk⟩ := hp43
              refine r_iret hx hb hr hlocks hW ?_ dX6_readLaw_46
              refine Or.inl ⟨2, tE T ts a, ?_, rfl, hOk⟩
              unfold pLaw; rw [if_neg h3, if_neg h16, if_pos h29]
          · skip
            refine lv_if_eq (tgt := 39) hx hb dX6_readLaw_32 (by decide) (fun c32 => ?_) (fun c32 => ?_)
            · skip
              refine lv_iconst (v := (-1)) hx hb dX6_readLaw_39 (by decide) ?_
              refine lv_istore_n (lv' := [(1, .int (-1)), (0, .ref (gA G 12))]) hx hb dX6_readLaw_40 rfl hl (by decide) rfl (fun ls hl => ?_)
              refine lv_aload_n hx hb dX6_readLaw_41 rfl (lv_at hl 1 rfl) ?_
              refine lv_iload_n hx hb dX6_readLaw_42 rfl (lv_at hl 0 rfl) ?_
              refine r_calli hW hA (va_runV (As := [.int (-1)]) (rest := []) ⟨hx, hb, hml, hown, hts⟩ (t_X6_pastName_bad l D G S _ hG hP T ts ht4 hTB a hRd) (cwV 1 hts gX6_readLaw_X6_pastName rfl rfl rfl (by decide +kernel) ⟨Nat.le_of_ble_eq_true rfl, Nat.le_of_ble_eq_true rfl⟩) (r_preV (k := 12) hA hW (ci := 5) (C := RX6) (T := TX6) (N := 8) rfl rfl (g_lt hG (by decide)) (g_kd hG (by decide) rfl) rfl rfl) rfl rfl hl.1 rfl (lv_room (Nat.le_of_ble_eq_true rfl)) dX6_readLaw_43 ⟨Nat.zero_le _, Nat.zero_le _⟩) (fun r43 S43 H locs hp43 hW => ?_)
              obtain ⟨rfl, hFl⟩ := hp43
              refine r_iret hx hb hr hlocks hW ?_ dX6_readLaw_46
              refine Or.inr ⟨1, SK T ts a, ?_, rfl, hFl⟩
              unfold pLaw; rw [if_neg h3, if_neg h16, if_neg h29]
            · exact absurd (by decide) c32
        · exact absurd (by decide) c19
    · exact absurd (by decide) c6

def rmX6_readWay : Jvm.Room := { frames := 5, cells := 0, slots := 0, locals := 107 }
set_option maxHeartbeats 4000000 in
set_option maxRecDepth 100000 in
theorem t_X6_readWay (l : Launch) (D : Dc) (G : Gg) (S : Sg) (z : Nat) (hG : GrG G) (hP : GrP G S) (T : Nat → Nat) (ts : Nat) (ht4 : ts ≤ 400) (hTB : ∀ i, i < ts → T i ≤ 255) (a : Nat) (hRd : RdX S T ts a) : MI l yX6_readWay wsX6_readWay rmX6_readWay D G S z [.ref (gA G 12)] (fun r S' => (∃ v e, pWay T ts a = .inl (v, e) ∧ r = nI v ∧ OkX S S' T ts e) ∨ (∃ f p, pWay T ts a = .inr (f, p) ∧ r = (-1) ∧ FlX S S' f p)) := by
  refine Met.ofW (cc := cX6_readWay) (maxL := 2) (ret := (some .int)) (by decide +kernel) rfl ?_
  intro pP eE s mM args bl mT cD s₁ bD hml hv
  obtain ⟨rfl, hv⟩ := hv
  have hz := hv.1
  subst hz
  have hx := bD.exec
  have hb := bD.bytes
  have hr := bD.returns
  have hts := atoms_spec (ws := wsX6_readWay) bD.pre
  have hown : s.vm.findClass RX6 = some mM.cls := findClass_of_methodNamed bD.named
  have hlocks := bD.notSynchronized
  have hW := Wd.start hv
  have hA : ∀ q, s.heap.size ≤ q → AW G s.heap.size q := fun q h => Or.inr h
  have hl := lv_entry ([.ref (gA G 12)]) (n := 2) (Nat.le_of_ble_eq_true rfl)
  rw [lg_entry_eq]
  generalize (lg_sl ([.ref (gA G 12)]) ++ List.replicate (2 - (lg_sl ([.ref (gA G 12)])).length) Slot.unset).toArray = ls at hl ⊢
  have hl : lv_has ls 2 [(0, .ref (gA G 12))] := hl
  refine lv_aload_n hx hb dX6_readWay_0 rfl (lv_at hl 0 rfl) ?_
  refine va_ldcS hx hb (own := RX6) hown (hW.2.2.2.2.2.1 6 (by decide)) dX6_readWay_1 ?_
  refine r_calli hW hA (va_runV (As := [.ref (D.2.2.1 6)]) (rest := []) ⟨hx, hb, hml, hown, hts⟩ (t_X6_isWord l D G S _ hG hP T ts ht4 hTB a hRd 6 (by decide)) (cwV 1 hts gX6_readWay_X6_isWord rfl rfl rfl (by decide +kernel) ⟨Nat.le_of_ble_eq_true rfl, Nat.le_of_ble_eq_true rfl⟩) (r_preV (k := 12) hA hW (ci := 5) (C := RX6) (T := TX6) (N := 8) rfl rfl (g_lt hG (by decide)) (g_kd hG (by decide) rfl) rfl rfl) rfl rfl hl.1 rfl (lv_room (Nat.le_of_ble_eq_true rfl)) dX6_readWay_3 ⟨Nat.zero_le _, Nat.zero_le _⟩) (fun r3 S3 H locs hp3 hW => ?_)
  obtain ⟨hs3, hp3⟩ := hp3
  rw [hs3] at hW
  rcases hp3 with ⟨rfl, h3⟩ | ⟨rfl, h3⟩
  · skip
    refine lv_if_eq (tgt := 13) hx hb dX6_readWay_6 (by decide) (fun c6 => ?_) (fun c6 => ?_)
    · exact absurd c6 (by decide)
    · skip
      refine lv_iconst (v := 0) hx hb dX6_readWay_9 (by decide) ?_
      refine lv_goto (tgt := 53) hx hb dX6_readWay_10 (by decide) ?_
      refine lv_istore_n (lv' := [(1, .int 0), (0, .ref (gA G 12))]) hx hb dX6_readWay_53 rfl hl (by decide) rfl (fun ls hl => ?_)
      refine lv_aload_n hx hb dX6_readWay_54 rfl (lv_at hl 1 rfl) ?_
      refine lv_iload_n hx hb dX6_readWay_55 rfl (lv_at hl 0 rfl) ?_
      refine W.eq (g2 := F0 mM 56 ls [.int (nI 0), .ref (gA G 12)]) rfl ?_
      refine r_calli hW hA (va_runV (As := [.int (nI 0)]) (rest := []) ⟨hx, hb, hml, hown, hts⟩ (t_X6_pastName_ok l D G S _ hG hP T ts ht4 hTB a hRd 0 (by decide)) (cwV 1 hts gX6_readWay_X6_pastName rfl rfl rfl (by decide +kernel) ⟨Nat.le_of_ble_eq_true rfl, Nat.le_of_ble_eq_true rfl⟩) (r_preV (k := 12) hA hW (ci := 5) (C := RX6) (T := TX6) (N := 8) rfl rfl (g_lt hG (by decide)) (g_kd hG (by decide) rfl) rfl rfl) rfl rfl hl.1 rfl (lv_room (Nat.le_of_ble_eq_true rfl)) dX6_readWay_56 ⟨Nat.zero_le _, Nat.zero_le _⟩) (fun r56 S56 H locs hp56 hW => ?_)
      obtain ⟨rfl, hOk⟩ := hp56
      refine r_iret hx hb hr hlocks hW ?_ dX6_readWay_59
      refine Or.inl ⟨0, tE T ts a, ?_, rfl, hOk⟩
      unfold pWay; rw [if_pos h3]
  · skip
    refine lv_if_eq (tgt := 13) hx hb dX6_readWay_6 (by decide) (fun c6 => ?_) (fun c6 => ?_)
    · skip
      refine lv_aload_n hx hb dX6_readWay_13 rfl (lv_at hl 0 rfl) ?_
      refine va_ldcS hx hb (own := RX6) hown (hW.2.2.2.2.2.1 7 (by decide)) dX6_readWay_14 ?_
      refine r_calli hW hA (va_runV (As := [.ref (D.2.2.1 7)]) (rest := []) ⟨hx, hb, hml, hown, hts⟩ (t_X6_isWord l D G S _ hG hP T ts ht4 hTB a hRd 7 (by decide)) (cwV 1 hts gX6_readWay_X6_isWord rfl rfl rfl (by decide +kernel) ⟨Nat.le_of_ble_eq_true rfl, Nat.le_of_ble_eq_true rfl⟩) (r_preV (k := 12) hA hW (ci := 5) (C := RX6) (T := TX6) (N := 8) rfl rfl (g_lt hG (by decide)) (g_kd hG (by decide) rfl) rfl rfl) rfl rfl hl.1 rfl (lv_room (Nat.le_of_ble_eq_true rfl)) dX6_readWay_16 ⟨Nat.zero_le _, Nat.zero_le _⟩) (fun r16 S16 H locs hp16 hW => ?_)
      obtain ⟨hs16, hp16⟩ := hp16
      rw [hs16] at hW
      rcases hp16 with ⟨rfl, h16⟩ | ⟨rfl, h16⟩
      · skip
        refine lv_if_eq (tgt := 26) hx hb dX6_readWay_19 (by decide) (fun c19 => ?_) (fun c19 => ?_)
        · exact absurd c19 (by decide)
        · skip
          refine lv_iconst (v := 1) hx hb dX6_readWay_22 (by decide) ?_
          refine lv_goto (tgt := 53) hx hb dX6_readWay_23 (by decide) ?_
          refine lv_istore_n (lv' := [(1, .int 1), (0, .ref (gA G 12))]) hx hb dX6_readWay_53 rfl hl (by decide) rfl (fun ls hl => ?_)
          refine lv_aload_n hx hb dX6_readWay_54 rfl (lv_at hl 1 rfl) ?_
          refine lv_iload_n hx hb dX6_readWay_55 rfl (lv_at hl 0 rfl) ?_
          refine W.eq (g2 := F0 mM 56 ls [.int (nI 1), .ref (gA G 12)]) rfl ?_
          refine r_calli hW hA (va_runV (As := [.int (nI 1)]) (rest := []) ⟨hx, hb, hml, hown, hts⟩ (t_X6_pastName_ok l D G S _ hG hP T ts ht4 hTB a hRd 1 (by decide)) (cwV 1 hts gX6_readWay_X6_pastName rfl rfl rfl (by decide +kernel) ⟨Nat.le_of_ble_eq_true rfl, Nat.le_of_ble_eq_true rfl⟩) (r_preV (k := 12) hA hW (ci := 5) (C := RX6) (T := TX6) (N := 8) rfl rfl (g_lt hG (by decide)) (g_kd hG (by decide) rfl) rfl rfl) rfl rfl hl.1 rfl (lv_room (Nat.le_of_ble_eq_true rfl)) dX6_readWay_56 ⟨Nat.zero_le _, Nat.zero_le _⟩) (fun r56 S56 H locs hp56 hW => ?_)
          obtain ⟨rfl, hOk⟩ := hp56
          refine r_iret hx hb hr hlocks hW ?_ dX6_readWay_59
          refine Or.inl ⟨1, tE T ts a, ?_, rfl, hOk⟩
          unfold pWay; rw [if_neg h3, if_pos h16]
      · skip
        refine lv_if_eq (tgt := 26) hx hb dX6_readWay_19 (by decide) (fun c19 => ?_) (fun c19 => ?_)
        · skip
          refine lv_aload_n hx hb dX6_readWay_26 rfl (lv_at hl 0 rfl) ?_
          refine va_ldcS hx hb (own := RX6) hown (hW.2.2.2.2.2.1 8 (by decide)) dX6_readWay_27 ?_
          refine r_calli hW hA (va_runV (As := [.ref (D.2.2.1 8)]) (rest := []) ⟨hx, hb, hml, hown, hts⟩ (t_X6_isWord l D G S _ hG hP T ts ht4 hTB a hRd 8 (by decide)) (cwV 1 hts gX6_readWay_X6_isWord rfl rfl rfl (by decide +kernel) ⟨Nat.le_of_ble_eq_true rfl, Nat.le_of_ble_eq_true rfl⟩) (r_preV (k := 12) hA hW (ci := 5) (C := RX6) (T := TX6) (N := 8) rfl rfl (g_lt hG (by decide)) (g_kd hG (by decide) rfl) rfl rfl) rfl rfl hl.1 rfl (lv_room (Nat.le_of_ble_eq_true rfl)) dX6_readWay_29 ⟨Nat.zero_le _, Nat.zero_le _⟩) (fun r29 S29 H locs hp29 hW => ?_)
          obtain ⟨hs29, hp29⟩ := hp29
          rw [hs29] at hW
          rcases hp29 with ⟨rfl, h29⟩ | ⟨rfl, h29⟩
          · skip
            refine lv_if_eq (tgt := 39) hx hb dX6_readWay_32 (by decide) (fun c32 => ?_) (fun c32 => ?_)
            · exact absurd c32 (by decide)
            · skip
              refine lv_iconst (v := 2) hx hb dX6_readWay_35 (by decide) ?_
              refine lv_goto (tgt := 53) hx hb dX6_readWay_36 (by decide) ?_
              refine lv_istore_n (lv' := [(1, .int 2), (0, .ref (gA G 12))]) hx hb dX6_readWay_53 rfl hl (by decide) rfl (fun ls hl => ?_)
              refine lv_aload_n hx hb dX6_readWay_54 rfl (lv_at hl 1 rfl) ?_
              refine lv_iload_n hx hb dX6_readWay_55 rfl (lv_at hl 0 rfl) ?_
              refine W.eq (g2 := F0 mM 56 ls [.int (nI 2), .ref (gA G 12)]) rfl ?_
              refine r_calli hW hA (va_runV (As := [.int (nI 2)]) (rest := []) ⟨hx, hb, hml, hown, hts⟩ (t_X6_pastName_ok l D G S _ hG hP T ts ht4 hTB a hRd 2 (by decide)) (cwV 1 hts gX6_readWay_X6_pastName rfl rfl rfl (by decide +kernel) ⟨Nat.le_of_ble_eq_true rfl, Nat.le_of_ble_eq_true rfl⟩) (r_preV (k := 12) hA hW (ci := 5) (C := RX6) (T := TX6) (N := 8) rfl rfl (g_lt hG (by decide)) (g_kd hG (by decide) rfl) rfl rfl) rfl rfl hl.1 rfl (lv_room (Nat.le_of_ble_eq_true rfl)) dX6_readWay_56 ⟨Nat.zero_le _, Nat.zero_le _⟩) (fun r56 S56 H locs hp56 hW => ?_)
              obtain ⟨rfl, hOk⟩ := hp56
              refine r_iret hx hb hr hlocks hW ?_ dX6_readWay_59
              refine Or.inl ⟨2, tE T ts a, ?_, rfl, hOk⟩
              unfold pWay; rw [if_neg h3, if_neg h16, if_pos h29]
          · skip
            refine lv_if_eq (tgt := 39) hx hb dX6_readWay_32 (by decide) (fun c32 => ?_) (fun c32 => ?_)
            · skip
              refine lv_aload_n hx hb dX6_readWay_39 rfl (lv_at hl 0 rfl) ?_
              refine va_ldcS hx hb (own := RX6) hown (hW.2.2.2.2.2.1 9 (by decide)) dX6_readWay_40 ?_
              refine r_calli hW hA (va_runV (As := [.ref (D.2.2.1 9)]) (rest := []) ⟨hx, hb, hml, hown, hts⟩ (t_X6_isWord l D G S _ hG hP T ts ht4 hTB a hRd 9 (by decide)) (cwV 1 hts gX6_readWay_X6_isWord rfl rfl rfl (by decide +kernel) ⟨Nat.le_of_ble_eq_true rfl, Nat.le_of_ble_eq_true rfl⟩) (r_preV (k := 12) hA hW (ci := 5) (C := RX6) (T := TX6) (N := 8) rfl rfl (g_lt hG (by decide)) (g_kd hG (by decide) rfl) rfl rfl) rfl rfl hl.1 rfl (lv_room (Nat.le_of_ble_eq_true rfl)) dX6_readWay_42 ⟨Nat.zero_le _, Nat.zero_le _⟩) (fun r42 S42 H locs hp42 hW => ?_)
              obtain ⟨hs42, hp42⟩ := hp42
              rw [hs42] at hW
              rcases hp42 with ⟨rfl, h42⟩ | ⟨rfl, h42⟩
              · skip
                refine lv_if_eq (tgt := 52) hx hb dX6_readWay_45 (by decide) (fun c45 => ?_) (fun c45 => ?_)
                · exact absurd c45 (by decide)
                · skip
                  refine lv_iconst (v := 3) hx hb dX6_readWay_48 (by decide) ?_
                  refine lv_goto (tgt := 53) hx hb dX6_readWay_49 (by decide) ?_
                  refine lv_istore_n (lv' := [(1, .int 3), (0, .ref (gA G 12))]) hx hb dX6_readWay_53 rfl hl (by decide) rfl (fun ls hl => ?_)
                  refine lv_aload_n hx hb dX6_readWay_54 rfl (lv_at hl 1 rfl) ?_
                  refine lv_iload_n hx hb dX6_readWay_55 rfl (lv_at hl 0 rfl) ?_
                  refine W.eq (g2 := F0 mM 56 ls [.int (nI 3), .ref (gA G 12)]) rfl ?_
                  refine r_calli hW hA (va_runV (As := [.int (nI 3)]) (rest := []) ⟨hx, hb, hml, hown, hts⟩ (t_X6_pastName_ok l D G S _ hG hP T ts ht4 hTB a hRd 3 (by decide)) (cwV 1 hts gX6_readWay_X6_pastName rfl rfl rfl (by decide +kernel) ⟨Nat.le_of_ble_eq_true rfl, Nat.le_of_ble_eq_true rfl⟩) (r_preV (k := 12) hA hW (ci := 5) (C := RX6) (T := TX6) (N := 8) rfl rfl (g_lt hG (by decide)) (g_kd hG (by decide) rfl) rfl rfl) rfl rfl hl.1 rfl (lv_room (Nat.le_of_ble_eq_true rfl)) dX6_readWay_56 ⟨Nat.zero_le _, Nat.zero_le _⟩) (fun r56 S56 H locs hp56 hW => ?_)
                  obtain ⟨rfl, hOk⟩ := hp56
                  refine r_iret hx hb hr hlocks hW ?_ dX6_readWay_59
                  refine Or.inl ⟨3, tE T ts a, ?_, rfl, hOk⟩
                  unfold pWay; rw [if_neg h3, if_neg h16, if_neg h29, if_pos h42]
              · skip
                refine lv_if_eq (tgt := 52) hx hb dX6_readWay_45 (by decide) (fun c45 => ?_) (fun c45 => ?_)
                · skip
                  refine lv_iconst (v := (-1)) hx hb dX6_readWay_52 (by decide) ?_
                  refine lv_istore_n (lv' := [(1, .int (-1)), (0, .ref (gA G 12))]) hx hb dX6_readWay_53 rfl hl (by decide) rfl (fun ls hl => ?_)
                  refine lv_aload_n hx hb dX6_readWay_54 rfl (lv_at hl 1 rfl) ?_
                  refine lv_iload_n hx hb dX6_readWay_55 rfl (lv_at hl 0 rfl) ?_
                  refine r_calli hW hA (va_runV (As := [.int (-1)]) (rest := []) ⟨hx, hb, hml, hown, hts⟩ (t_X6_pastName_bad l D G S _ hG hP T ts ht4 hTB a hRd) (cwV 1 hts gX6_readWay_X6_pastName rfl rfl rfl (by decide +kernel) ⟨Nat.le_of_ble_eq_true rfl, Nat.le_of_ble_eq_true rfl⟩) (r_preV (k := 12) hA hW (ci := 5) (C := RX6) (T := TX6) (N := 8) rfl rfl (g_lt hG (by decide)) (g_kd hG (by decide) rfl) rfl rfl) rfl rfl hl.1 rfl (lv_room (Nat.le_of_ble_eq_true rfl)) dX6_readWay_56 ⟨Nat.zero_le _, Nat.zero_le _⟩) (fun r56 S56 H locs hp56 hW => ?_)
                  obtain ⟨rfl, hFl⟩ := hp56
                  refine r_iret hx hb hr hlocks hW ?_ dX6_readWay_59
                  refine Or.inr ⟨1, SK T ts a, ?_, rfl, hFl⟩
                  unfold pWay; rw [if_neg h3, if_neg h16, if_neg h29, if_neg h42]
                · exact absurd (by decide) c45
            · exact absurd (by decide) c32
        · exact absurd (by decide) c19
    · exact absurd (by decide) c6
