/-! the class reads: the spare pass as far as it is read -/
def SpX (G : Gg) (S : Sg) (h : Nat) (B : Nat → Nat) : Prop := gi S h 0 = 0 ∧ (gi S h 1 = nI (B 0) ∧ gi S h 2 = nI (B 1) ∧ gi S h 3 = nI (B 2) ∧ gi S h 4 = nI (B 3) ∧ gi S h 5 = nI (B 4) ∧ gi S h 6 = nI (B 17) ∧ gi S h 7 = 0 ∧ gi S h 8 = 0) ∧ RPc S h B ∧ RPp S h (fun _ => 0) ∧ RPt G S h B ∧ TdOK G S h
theorem RdX.mv {S S' : Sg} {T : Nat → Nat} {ts a : Nat} (h : RdX S T ts a) (e12 : gi S' 12 = gi S 12) (e13 : gi S' 13 = gi S 13) : RdX S' T ts a := by
  obtain ⟨⟨a1, a2, a3, a4⟩, b, c, d⟩ := h
  exact ⟨⟨by rw [e12]; exact a1, by rw [e12]; exact a2, by rw [e12]; exact a3, fun z => by rw [e12]; exact a4 z⟩, by rw [e12]; exact b, fun i hi => by rw [e13]; exact c i hi, d⟩
theorem SpX.mv {G : Gg} {S S' : Sg} {h : Nat} {B : Nat → Nat} (hs : SpX G S h B) (e : ∀ k, (h ≤ k ∧ k ≤ h + 7) ∨ 75 ≤ k → gi S' k = gi S k ∧ gp S' k = gp S k) : SpX G S' h B := by
  obtain ⟨r0, r1, r2, r3, r4, r5⟩ := hs
  refine ⟨by rw [(e h (by omega)).1]; exact r0, by rw [(e h (by omega)).1]; exact r1, by unfold RPc; rw [(e (h + 1) (by omega)).1, (e (h + 2) (by omega)).1]; exact r2, by unfold RPp; rw [(e (h + 3) (by omega)).1, (e (h + 4) (by omega)).1, (e (h + 5) (by omega)).1, (e (h + 6) (by omega)).1]; exact r3, fun i hi => ?_, by unfold TdOK; rw [(e (h + 7) (by omega)).2]; exact r5⟩
  obtain ⟨q, a1, a2, a3, a4⟩ := r4 i hi
  exact ⟨q, a1, a2, by rw [(e (h + 7) (by omega)).2]; exact a3, by unfold PtyOK; rw [(e q (Or.inr a1)).1]; exact a4⟩
theorem SpX.ch {G : Gg} {S S' : Sg} {h : Nat} {B : Nat → Nat} (hs : SpX G S h B) (hh : PassR h) (hC : Ch (fun k => k = 12) S S') : SpX G S' h B :=
  hs.mv fun k hk => ⟨(hC.2 k (by rcases hh with e | e | e | e <;> omega)).1, by rw [hC.1]⟩
theorem SpX.hut {G : Gg} {S S' : Sg} {h w b l n : Nat} (hs : SpX G S h (fun _ => 0)) (hh : PassR h) (hC : Ch (fun k => k = 12 ∨ k = h) S S') (hJ : gi S' h = va_up (va_up (va_up (va_up (gi S h) 1 (nI w)) 2 (nI b)) 3 (nI l)) 4 (nI n)) : SpX G S' h (hutB w b l n) := by
  obtain ⟨r0, ⟨s1, s2, s3, s4, s5, s6, s7, s8⟩, r2, r3, r4, r5⟩ := hs
  have e : ∀ k, h < k → gi S' k = gi S k := fun k hk => (hC.2 k (by rcases hh with e | e | e | e <;> omega)).1
  refine ⟨by rw [hJ]; exact r0, ⟨by rw [hJ]; rfl, by rw [hJ]; rfl, by rw [hJ]; rfl, by rw [hJ]; rfl, by rw [hJ]; exact s5, by rw [hJ]; exact s6, by rw [hJ]; exact s7, by rw [hJ]; exact s8⟩, fun i hi => absurd hi (Nat.not_lt_zero _), by unfold RPp; rw [e (h + 3) (by omega), e (h + 4) (by omega), e (h + 5) (by omega), e (h + 6) (by omega)]; exact r3, fun i hi => absurd hi (Nat.not_lt_zero _), by unfold TdOK; rw [hC.1]; exact r5⟩
theorem chB_4 {B : Nat → Nat} {s o : Nat} : chB B s o 4 = B 4 + 1 := by unfold chB; rw [if_neg (by omega), if_neg (by omega), if_pos rfl]
theorem chB_n {B : Nat → Nat} {s o k : Nat} (h4 : k ≠ 4) (h5 : k ≠ 5 + B 4) (h6 : k ≠ 11 + B 4) : chB B s o k = B k := by unfold chB; rw [if_neg h5, if_neg h6, if_neg h4]
theorem SpX.chance {G : Gg} {S S' : Sg} {h s o : Nat} {B : Nat → Nat} (hs : SpX G S h B) (hh : PassR h) (h4 : B 4 < 6) (h17 : B 17 = 0) (hE : S' = ri (ri (ri S (h + 1) (va_up (gi S (h + 1)) (B 4) (nI s))) (h + 2) (va_up (gi S (h + 2)) (B 4) (nI o))) h (va_up (gi S h) 5 (nI (B 4 + 1)))) : SpX G S' h (chB B s o) := by
  obtain ⟨r0, ⟨s1, s2, s3, s4, s5, s6, s7, s8⟩, r2, r3, r4, r5⟩ := hs
  have eh : gi S' h = va_up (gi S h) 5 (nI (B 4 + 1)) := by rw [hE]; exact e_is _ _ _
  have e1 : gi S' (h + 1) = va_up (gi S (h + 1)) (B 4) (nI s) := by rw [hE]; exact e_in (by omega) (e_in (by omega) (e_is _ _ _))
  have e2 : gi S' (h + 2) = va_up (gi S (h + 2)) (B 4) (nI o) := by rw [hE]; exact e_in (by omega) (e_is _ _ _)
  have e : ∀ k, h + 2 < k → gi S' k = gi S k := fun k hk => by rw [hE]; exact e_in (by omega) (e_in (by omega) (e_in (by omega) rfl))
  have ep : gp S' = gp S := by rw [hE]; rfl
  refine ⟨by rw [eh]; exact r0, ⟨?_, ?_, ?_, ?_, ?_, ?_, by rw [eh]; exact s7, by rw [eh]; exact s8⟩, fun i hi => ?_, by unfold RPp; rw [e (h + 3) (by omega), e (h + 4) (by omega), e (h + 5) (by omega), e (h + 6) (by omega)]; exact r3, fun i hi => ?_, by unfold TdOK; rw [ep]; exact r5⟩
  · rw [eh, chB_n (by omega) (by omega) (by omega)]; exact s1
  · rw [eh, chB_n (by omega) (by omega) (by omega)]; exact s2
  · rw [eh, chB_n (by omega) (by omega) (by omega)]; exact s3
  · rw [eh, chB_n (by omega) (by omega) (by omega)]; exact s4
  · rw [eh, chB_4]; rfl
  · rw [eh, chB_n (by omega) (by omega) (by omega)]; exact s6
  · rw [chB_4] at hi
    rw [e1, e2]
    by_cases z : i = B 4
    · subst z
      rw [up_s, up_s]
      exact ⟨by unfold chB; rw [if_pos rfl], by unfold chB; rw [if_neg (by omega), if_pos rfl]⟩
    · rw [up_n _ _ z, up_n _ _ z, chB_n (by omega) (by omega) (by omega), chB_n (by omega) (by omega) (by omega)]
      exact r2 i (by omega)
  · rw [chB_n (by omega) (by omega) (by omega)] at hi; omega
theorem pChs_e {T : Nat → Nat} {ts a : Nat} {B : Nat → Nat} (h4 : B 4 ≤ 6) (hw : ¬ isW T ts a 1) : pChs T ts (7 - B 4) B a = .inl (B, a) := by
  rw [show 7 - B 4 = (6 - B 4) + 1 by omega]
  show (if isW T ts a 1 then PB (pChance T ts B a) (fun B' a' => pChs T ts (6 - B 4) B' a') else .inl (B, a)) = _
  rw [if_neg hw]
theorem pChs_s {T : Nat → Nat} {ts a : Nat} {B : Nat → Nat} (h4 : B 4 ≤ 6) (hw : isW T ts a 1) : pChs T ts (7 - B 4) B a = PB (pChance T ts B a) (fun B' a' => pChs T ts (6 - B 4) B' a') := by
  rw [show 7 - B 4 = (6 - B 4) + 1 by omega]
  show (if isW T ts a 1 then PB (pChance T ts B a) (fun B' a' => pChs T ts (6 - B 4) B' a') else .inl (B, a)) = _
  rw [if_pos hw]
set_option maxHeartbeats 4000000 in
set_option maxRecDepth 100000 in
theorem t_X5_hasChance_n (l : Launch) (D : Dc) (G : Gg) (S : Sg) (z : Nat) (hG : GrG G) (hP : GrP G S) (h : Nat) (hh : PassR h) (nn : Nat) (hn : nn ≤ 6) (h5 : gi S h 5 = nI nn) (a1 : Int32) : MI l yX5_hasChance wsX5_hasChance rmX5_hasChance D G S z [.ref (gA G h), .int a1] (fun r S' => S' = S ∧ ((r = 1 ∧ ∃ i, i < nn ∧ gi S (h + 1) i = a1) ∨ (r = 0 ∧ ∀ i, i < nn → ¬ gi S (h + 1) i = a1))) := by
  refine Met.ofW (cc := cX5_hasChance) (maxL := 3) (ret := (some .boolean)) (by decide +kernel) rfl ?_
  intro pP eE s mM args bl mT cD s₁ bD hml hv
  obtain ⟨rfl, hv⟩ := hv
  have hz := hv.1
  subst hz
  have hx := bD.exec
  have hb := bD.bytes
  have hr := bD.returns
  have hts := atoms_spec (ws := wsX5_hasChance) bD.pre
  have hown : s.vm.findClass RX5 = some mM.cls := findClass_of_methodNamed bD.named
  have hlocks := bD.notSynchronized
  have hW := Wd.start hv
  have hA : ∀ q, s.heap.size ≤ q → AW G s.heap.size q := fun q h => Or.inr h
  have hl := lv_entry ([.ref (gA G h), .int a1]) (n := 3) (Nat.le_of_ble_eq_true rfl)
  rw [lg_entry_eq]
  generalize (lg_sl ([.ref (gA G h), .int a1]) ++ List.replicate (3 - (lg_sl ([.ref (gA G h), .int a1])).length) Slot.unset).toArray = ls at hl ⊢
  have hl : lv_has ls 3 [(0, .ref (gA G h)), (1, .int a1)] := hl
  have q0 := hts (.fieldLink RX5 53 "WoodForTwo$Pass" "chances" "I") (List.mem_of_getElem? (i := 1) rfl)
  have q1 := hts (.fieldLink RX5 9 "WoodForTwo$Pass" "chanceHeads" "[I") (List.mem_of_getElem? (i := 2) rfl)
  have iX5 : ∀ w ∈ wsX50, w ∈ wsX5_hasChance := fun _ h => List.mem_cons_of_mem _ (List.mem_append_right _ (h))
  generalize hQ0 : MQ bl _ _ s _ _ _ = Q0
  refine lv_iconst (v := 0) hx hb dX5_hasChance_0 (by decide) ?_
  refine lv_istore_n (lv' := [(2, .int 0), (0, .ref (gA G h)), (1, .int a1)]) hx hb dX5_hasChance_1 rfl hl (by decide) rfl (fun ls hl => ?_)
  have L2 : ∀ (n : Nat) (i : Nat) (H : Heap) (locs : List Loc) (ls : Array Slot), (nn - i) < n → i ≤ nn → (∀ j, j < i → ¬ gi S (h + 1) j = a1) → Wd D (AW G s.heap.size) s G S H locs → lv_has ls 3 [(2, .int (nI i)), (0, .ref (gA G h)), (1, .int a1)] → W pP l eE (headSpec wsX5_hasChance rmX5_hasChance).room s mM ([.ref (gA G h), .int a1] : List Value).toArray bl mT cD H locs 0 0 Q0 (F0 mM 2 ls []) := by
    intro n
    induction n with
    | zero => intro i H locs ls hm; exact absurd hm (Nat.not_lt_zero _)
    | succ n ih2 =>
      intro i H locs ls hm2 hi hno hW hl
      refine lv_iload_n hx hb dX5_hasChance_2 rfl (lv_at hl 0 rfl) ?_
      refine lv_aload_n hx hb dX5_hasChance_3 rfl (lv_at hl 1 rfl) ?_
      refine r_geti (ci := 4) (C := RX5) (T := TX5) (N := 16) hx hb hts iX5 hown hW rfl h 5 rfl (p_lt hG hh (i := 0) (by decide)) (p_kd hG hh) (by decide) q0 (fun _ h9 => h9) (nI nn) h5 rfl rfl dX5_hasChance_4 ?_
      refine lv_icmp_ge (tgt := 28) hx hb dX5_hasChance_7 (by decide) (fun c7 => ?_) (fun c7 => ?_)
      · skip
        have hge : nn ≤ i := (n_le (by omega) (by omega)).mp c7
        refine lv_iconst (v := 0) hx hb dX5_hasChance_28 (by decide) ?_
        rw [← hQ0]
        refine r_zret hx hb hr hlocks hW (Or.inl rfl) ?_ dX5_hasChance_29
        exact ⟨rfl, Or.inr ⟨rfl, fun j hj => hno j (by omega)⟩⟩
      · skip
        have hlt : i < nn := by
          have h9 : ¬ nn ≤ i := fun q => c7 ((n_le (by omega) (by omega)).mpr q)
          omega
        refine lv_aload_n hx hb dX5_hasChance_10 rfl (lv_at hl 1 rfl) ?_
        refine r_getr (ci := 4) (C := RX5) (T := TX5) (N := 16) hx hb hts iX5 hown hW rfl h 9 rfl (p_lt hG hh (i := 0) (by decide)) (p_kd hG hh) (by decide) q1 (fun _ h9 => h9) (p_lk hP hh 0 (by decide)) rfl rfl dX5_hasChance_11 ?_
        refine lv_iload_n hx hb dX5_hasChance_14 rfl (lv_at hl 0 rfl) ?_
        refine r_iald hx hb hW (h + 1) rfl (p_lt hG hh (i := 1) (by decide)) (p_kdA hG hh 1 (by decide) (by decide)) (by rw [p_z6 hG hh 1 (by decide) (by decide)]; exact n_inI (by omega) (by omega)) (gi S (h + 1) i) (by rw [n_clamp (by omega)]) dX5_hasChance_15 ?_
        refine lv_iload_n hx hb dX5_hasChance_16 rfl (lv_at hl 2 rfl) ?_
        refine lv_icmp_ne (tgt := 22) hx hb dX5_hasChance_17 (by decide) (fun c17 => ?_) (fun c17 => ?_)
        · skip
          refine lv_iinc (v := (nI (i + 1))) (lv' := [(2, .int (nI (i + 1))), (0, .ref (gA G h)), (1, .int a1)]) hx hb dX5_hasChance_22 hl (k := 0) rfl (nI_1 i) (by decide) rfl (fun ls hl => ?_)
          refine lv_goto (tgt := 2) hx hb dX5_hasChance_25 (by decide) ?_
          exact ih2 (i + 1) _ _ ls (by omega) hlt (fun j hj => by rcases Nat.lt_or_eq_of_le (Nat.lt_succ_iff.mp hj) with q | q; exact hno j q; rw [q]; exact c17) hW (lv_sub hl [0, 1, 2] rfl)
        · skip
          have hyes : gi S (h + 1) i = a1 := c17
          refine lv_iconst (v := 1) hx hb dX5_hasChance_20 (by decide) ?_
          rw [← hQ0]
          refine r_zret hx hb hr hlocks hW (Or.inr rfl) ?_ dX5_hasChance_21
          exact ⟨rfl, Or.inl ⟨rfl, i, hlt, hyes⟩⟩
  exact L2 _ 0 _ _ ls (Nat.lt_succ_self _) (Nat.zero_le _) (fun j hj => absurd hj (Nat.not_lt_zero _)) hW (lv_sub hl [0, 1, 2] rfl)

def rmX6_readHut : Jvm.Room := { frames := 6, cells := 0, slots := 0, locals := 128 }
set_option maxHeartbeats 4000000 in
set_option maxRecDepth 100000 in
theorem t_X6_readHut (l : Launch) (D : Dc) (G : Gg) (S : Sg) (z : Nat) (hG : GrG G) (hP : GrP G S) (T : Nat → Nat) (ts : Nat) (ht4 : ts ≤ 400) (hTB : ∀ i, i < ts → T i ≤ 255) (a0 : Nat) (hRd0 : RdX S T ts a0) (h : Nat) (hh : PassR h) (hS0 : SpX G S h (fun _ => 0)) : MI l yX6_readHut wsX6_readHut rmX6_readHut D G S z [.ref (gA G 12), .ref (gA G h)] (fun r S' => (∃ B e, pHut T ts a0 = .inl (B, e) ∧ r = 1 ∧ RdX S' T ts e ∧ gi S' 12 6 = gi S 12 6 ∧ gi S' 12 7 = gi S 12 7 ∧ SpX G S' h B ∧ Ch (fun k => k = 12 ∨ k = h) S S') ∨ (∃ f p, pHut T ts a0 = .inr (f, p) ∧ r = 0 ∧ gi S' 12 6 = nI f ∧ gi S' 12 7 = nI p ∧ Ch (fun k => k = 12 ∨ k = h) S S')) := by
  refine Met.ofW (cc := cX6_readHut) (maxL := 2) (ret := (some .boolean)) (by decide +kernel) rfl ?_
  intro pP eE s mM args bl mT cD s₁ bD hml hv
  obtain ⟨rfl, hv⟩ := hv
  have hz := hv.1
  subst hz
  have hx := bD.exec
  have hb := bD.bytes
  have hr := bD.returns
  have hts := atoms_spec (ws := wsX6_readHut) bD.pre
  have hown : s.vm.findClass RX6 = some mM.cls := findClass_of_methodNamed bD.named
  have hlocks := bD.notSynchronized
  have hW := Wd.start hv
  have hA : ∀ q, s.heap.size ≤ q → AW G s.heap.size q := fun q h => Or.inr h
  have hl := lv_entry ([.ref (gA G 12), .ref (gA G h)]) (n := 2) (Nat.le_of_ble_eq_true rfl)
  rw [lg_entry_eq]
  generalize (lg_sl ([.ref (gA G 12), .ref (gA G h)]) ++ List.replicate (2 - (lg_sl ([.ref (gA G 12), .ref (gA G h)])).length) Slot.unset).toArray = ls at hl ⊢
  have hl : lv_has ls 2 [(0, .ref (gA G 12)), (1, .ref (gA G h))] := hl
  have q0 := hts (.fieldLink RX6 53 "WoodForTwo$Pass" "wood" "I") (List.mem_of_getElem? (i := 1) rfl)
  have q1 := hts (.fieldLink RX6 58 "WoodForTwo$Pass" "burn" "I") (List.mem_of_getElem? (i := 2) rfl)
  have q2 := hts (.fieldLink RX6 65 "WoodForTwo$Pass" "law" "I") (List.mem_of_getElem? (i := 3) rfl)
  have q3 := hts (.fieldLink RX6 68 "WoodForTwo$Pass" "times" "I") (List.mem_of_getElem? (i := 4) rfl)
  have iX5 : ∀ w ∈ wsX50, w ∈ wsX6_readHut := fun _ h => List.mem_cons_of_mem _ (List.mem_append_left _ (List.mem_append_right _ (h)))
  refine lv_aload_n hx hb dX6_readHut_0 rfl (lv_at hl 0 rfl) ?_
  refine va_ldcS hx hb (own := RX6) hown (hW.2.2.2.2.2.1 0 (by decide)) dX6_readHut_1 ?_
  refine r_calli hW hA (va_runV (As := [.ref (D.2.2.1 0)]) (rest := []) ⟨hx, hb, hml, hown, hts⟩ (t_X6_isWord l D G S _ hG hP T ts ht4 hTB a0 hRd0 0 (by decide)) (cwV 1 hts gX6_readHut_X6_isWord rfl rfl rfl (by decide +kernel) ⟨Nat.le_of_ble_eq_true rfl, Nat.le_of_ble_eq_true rfl⟩) (r_preV (k := 12) hA hW (ci := 5) (C := RX6) (T := TX6) (N := 8) rfl rfl (g_lt hG (by decide)) (g_kd hG (by decide) rfl) rfl rfl) rfl rfl hl.1 rfl (lv_room (Nat.le_of_ble_eq_true rfl)) dX6_readHut_3 ⟨Nat.zero_le _, Nat.zero_le _⟩) (fun r3 S3 H locs hp3 hW => ?_)
  obtain ⟨hs3, hp3⟩ := hp3
  rw [hs3] at hW
  rcases hp3 with ⟨rfl, h3⟩ | ⟨rfl, h3⟩
  · skip
    refine lv_if_ne (tgt := 15) hx hb dX6_readHut_6 (by decide) (fun c6 => ?_) (fun c6 => ?_)
    · skip
      refine lv_aload_n hx hb dX6_readHut_15 rfl (lv_at hl 0 rfl) ?_
      have hRd16 := hRd0
      have hle16 := tE_le (T := T) hRd16.2.2.2
      refine r_callv hW hA (va_runV (As := []) (rest := []) ⟨hx, hb, hml, hown, hts⟩ (t_X6_nextToken l D G S _ hG hP T ts ht4 hTB hRd16.2.1 hRd16.2.2.1 (tE T ts a0) hle16.1 hRd16.1.2.1) (cwV 0 hts gX6_readHut_X6_nextToken rfl rfl rfl (by decide +kernel) ⟨Nat.le_of_ble_eq_true rfl, Nat.le_of_ble_eq_true rfl⟩) (r_preV (k := 12) hA hW (ci := 5) (C := RX6) (T := TX6) (N := 8) rfl rfl (g_lt hG (by decide)) (g_kd hG (by decide) rfl) rfl rfl) rfl rfl hl.1 rfl (lv_room (Nat.le_of_ble_eq_true rfl)) dX6_readHut_16 ⟨Nat.zero_le _, Nat.zero_le _⟩) (fun S16 H locs hp16 hW => ?_)
      have hok16 := OkX.mk' hRd16.2.1 hRd16.2.2.1 hle16.1 hp16
      have hP_S16 : GrP G S16 := fun q hq => by rw [hok16.2.2.2.1]; exact hP q hq
      have hj16 : gi S16 h = (gi S h) := (hok16.2.2.2.2 h (by omega)).1
      refine lv_aload_n hx hb dX6_readHut_19 rfl (lv_at hl 1 rfl) ?_
      refine lv_aload_n hx hb dX6_readHut_20 rfl (lv_at hl 0 rfl) ?_
      refine lv_iconst (v := 0) hx hb dX6_readHut_21 (by decide) ?_
      refine lv_sipush (v := 500) hx hb dX6_readHut_22 (by decide) ?_
      refine W.eq (g2 := F0 mM 25 ls [.int (nI 500), .int (nI 0), .ref (gA G 12), .ref (gA G h)]) rfl ?_
      refine r_calli hW hA (va_runV (As := [.int (nI 0), .int (nI 500)]) (rest := [.ref (gA G h)]) ⟨hx, hb, hml, hown, hts⟩ (t_X6_readNumber l D G S16 _ hG hP_S16 T ts ht4 hTB (tE T ts a0) hok16.1 0 500 (by decide) (by decide)) (cwV 2 hts gX6_readHut_X6_readNumber rfl rfl rfl (by decide +kernel) ⟨Nat.le_of_ble_eq_true rfl, Nat.le_of_ble_eq_true rfl⟩) (r_preV (k := 12) hA hW (ci := 5) (C := RX6) (T := TX6) (N := 8) rfl rfl (g_lt hG (by decide)) (g_kd hG (by decide) rfl) rfl rfl) rfl rfl hl.1 rfl (lv_room (Nat.le_of_ble_eq_true rfl)) dX6_readHut_25 ⟨Nat.zero_le _, Nat.zero_le _⟩) (fun r25 S25 H locs hp25 hW => ?_)
      rcases hp25 with ⟨v25, e25, hpn25, rfl, hok25⟩ | ⟨f25, p25, hpn25, rfl, hfl25⟩
      · skip
        have hP_S25 : GrP G S25 := fun q hq => by rw [hok25.2.2.2.1]; exact hP_S16 q hq
        have hj25 : gi S25 h = (gi S16 h) := (hok25.2.2.2.2 h (by omega)).1
        have hvb25 := pNum_b hpn25
        refine r_puti (ci := 4) (C := RX5) (T := TX5) (N := 16) hx hb hts iX5 tyX5 tyX5_ok nmX5 hown hW rfl h 1 rfl (p_lt hG hh (i := 0) (by decide)) (p_kd hG hh) (by decide) q0 (fun _ h9 => h9) rfl (tyX5_ok 1 (by decide)) rfl rfl (ri S25 h (va_up (gi S25 h) 1 (nI v25))) (gi S25 h) (va_up (gi S25 h) 1 (nI v25)) rfl (e_is _ _ _) rfl rfl rfl (Nat.le_of_ble_eq_true rfl) rfl c_i0 dX6_readHut_28 (fun H locs hW => ?_)
        refine lv_aload_n hx hb dX6_readHut_31 rfl (lv_at hl 1 rfl) ?_
        refine lv_aload_n hx hb dX6_readHut_32 rfl (lv_at hl 1 rfl) ?_
        refine r_geti (ci := 4) (C := RX5) (T := TX5) (N := 16) hx hb hts iX5 hown hW rfl h 1 rfl (p_lt hG hh (i := 0) (by decide)) (p_kd hG hh) (by decide) q0 (fun _ h9 => h9) (nI v25) (congrFun (e_is _ _ _) 1) rfl rfl dX6_readHut_33 ?_
        refine lv_iconst (v := (-1)) hx hb dX6_readHut_36 (by decide) ?_
        refine lv_icmp_ne (tgt := 44) hx hb dX6_readHut_37 (by decide) (fun c37 => ?_) (fun c37 => ?_)
        · skip
          rw [t_eq, show ((-1) : Int32).toInt = -1 from by decide] at c37
          refine lv_aload_n hx hb dX6_readHut_44 rfl (lv_at hl 0 rfl) ?_
          refine lv_iconst (v := 1) hx hb dX6_readHut_45 (by decide) ?_
          refine lv_bipush (v := 9) hx hb dX6_readHut_46 (by decide) ?_
          refine W.eq (g2 := F0 mM 48 ls [.int (nI 9), .int (nI 1), .ref (gA G 12), .ref (gA G h)]) rfl ?_
          refine r_calli hW hA (va_runV (As := [.int (nI 1), .int (nI 9)]) (rest := [.ref (gA G h)]) ⟨hx, hb, hml, hown, hts⟩ (t_X6_readNumber l D G (ri S25 h (va_up (gi S25 h) 1 (nI v25))) _ hG hP_S25 T ts ht4 hTB e25 (RdX.mv hok25.1 (e_in (by omega) rfl) (e_in (by omega) rfl)) 1 9 (by decide) (by decide)) (cwV 2 hts gX6_readHut_X6_readNumber rfl rfl rfl (by decide +kernel) ⟨Nat.le_of_ble_eq_true rfl, Nat.le_of_ble_eq_true rfl⟩) (r_preV (k := 12) hA hW (ci := 5) (C := RX6) (T := TX6) (N := 8) rfl rfl (g_lt hG (by decide)) (g_kd hG (by decide) rfl) rfl rfl) rfl rfl hl.1 rfl (lv_room (Nat.le_of_ble_eq_true rfl)) dX6_readHut_48 ⟨Nat.zero_le _, Nat.zero_le _⟩) (fun r48 S48 H locs hp48 hW => ?_)
          rcases hp48 with ⟨v48, e48, hpn48, rfl, hok48⟩ | ⟨f48, p48, hpn48, rfl, hfl48⟩
          · skip
            have hP_S48 : GrP G S48 := fun q hq => by rw [hok48.2.2.2.1]; exact hP_S25 q hq
            have hj48 : gi S48 h = (va_up (gi S25 h) 1 (nI v25)) := ((hok48.2.2.2.2 h (by omega)).1).trans (e_is _ _ _)
            have hvb48 := pNum_b hpn48
            refine r_puti (ci := 4) (C := RX5) (T := TX5) (N := 16) hx hb hts iX5 tyX5 tyX5_ok nmX5 hown hW rfl h 2 rfl (p_lt hG hh (i := 0) (by decide)) (p_kd hG hh) (by decide) q1 (fun _ h9 => h9) rfl (tyX5_ok 2 (by decide)) rfl rfl (ri S48 h (va_up (gi S48 h) 2 (nI v48))) (gi S48 h) (va_up (gi S48 h) 2 (nI v48)) rfl (e_is _ _ _) rfl rfl rfl (Nat.le_of_ble_eq_true rfl) rfl c_i0 dX6_readHut_51 (fun H locs hW => ?_)
            refine lv_aload_n hx hb dX6_readHut_54 rfl (lv_at hl 1 rfl) ?_
            refine lv_aload_n hx hb dX6_readHut_55 rfl (lv_at hl 1 rfl) ?_
            refine r_geti (ci := 4) (C := RX5) (T := TX5) (N := 16) hx hb hts iX5 hown hW rfl h 2 rfl (p_lt hG hh (i := 0) (by decide)) (p_kd hG hh) (by decide) q1 (fun _ h9 => h9) (nI v48) (congrFun (e_is _ _ _) 2) rfl rfl dX6_readHut_56 ?_
            refine lv_iconst (v := (-1)) hx hb dX6_readHut_59 (by decide) ?_
            refine lv_icmp_ne (tgt := 67) hx hb dX6_readHut_60 (by decide) (fun c60 => ?_) (fun c60 => ?_)
            · skip
              rw [t_eq, show ((-1) : Int32).toInt = -1 from by decide] at c60
              refine lv_aload_n hx hb dX6_readHut_67 rfl (lv_at hl 0 rfl) ?_
              refine r_calli hW hA (va_runV (As := []) (rest := [.ref (gA G h)]) ⟨hx, hb, hml, hown, hts⟩ (t_X6_readLaw l D G (ri S48 h (va_up (gi S48 h) 2 (nI v48))) _ hG hP_S48 T ts ht4 hTB e48 (RdX.mv hok48.1 (e_in (by omega) rfl) (e_in (by omega) rfl))) (cwV 0 hts gX6_readHut_X6_readLaw rfl rfl rfl (by decide +kernel) ⟨Nat.le_of_ble_eq_true rfl, Nat.le_of_ble_eq_true rfl⟩) (r_preV (k := 12) hA hW (ci := 5) (C := RX6) (T := TX6) (N := 8) rfl rfl (g_lt hG (by decide)) (g_kd hG (by decide) rfl) rfl rfl) rfl rfl hl.1 rfl (lv_room (Nat.le_of_ble_eq_true rfl)) dX6_readHut_68 ⟨Nat.zero_le _, Nat.zero_le _⟩) (fun r68 S68 H locs hp68 hW => ?_)
              rcases hp68 with ⟨v68, e68, hpn68, rfl, hok68⟩ | ⟨f68, p68, hpn68, rfl, hfl68⟩
              · skip
                have hP_S68 : GrP G S68 := fun q hq => by rw [hok68.2.2.2.1]; exact hP_S48 q hq
                have hj68 : gi S68 h = (va_up (gi S48 h) 2 (nI v48)) := ((hok68.2.2.2.2 h (by omega)).1).trans (e_is _ _ _)
                have hvb68 := pLaw_b hpn68
                refine r_puti (ci := 4) (C := RX5) (T := TX5) (N := 16) hx hb hts iX5 tyX5 tyX5_ok nmX5 hown hW rfl h 3 rfl (p_lt hG hh (i := 0) (by decide)) (p_kd hG hh) (by decide) q2 (fun _ h9 => h9) rfl (tyX5_ok 3 (by decide)) rfl rfl (ri S68 h (va_up (gi S68 h) 3 (nI v68))) (gi S68 h) (va_up (gi S68 h) 3 (nI v68)) rfl (e_is _ _ _) rfl rfl rfl (Nat.le_of_ble_eq_true rfl) rfl c_i0 dX6_readHut_71 (fun H locs hW => ?_)
                refine lv_aload_n hx hb dX6_readHut_74 rfl (lv_at hl 1 rfl) ?_
                refine lv_aload_n hx hb dX6_readHut_75 rfl (lv_at hl 1 rfl) ?_
                refine r_geti (ci := 4) (C := RX5) (T := TX5) (N := 16) hx hb hts iX5 hown hW rfl h 3 rfl (p_lt hG hh (i := 0) (by decide)) (p_kd hG hh) (by decide) q2 (fun _ h9 => h9) (nI v68) (congrFun (e_is _ _ _) 3) rfl rfl dX6_readHut_76 ?_
                refine lv_iconst (v := (-1)) hx hb dX6_readHut_79 (by decide) ?_
                refine lv_icmp_ne (tgt := 87) hx hb dX6_readHut_80 (by decide) (fun c80 => ?_) (fun c80 => ?_)
                · skip
                  rw [t_eq, show ((-1) : Int32).toInt = -1 from by decide] at c80
                  refine lv_aload_n hx hb dX6_readHut_87 rfl (lv_at hl 0 rfl) ?_
                  refine lv_iconst (v := 0) hx hb dX6_readHut_88 (by decide) ?_
                  refine lv_bipush (v := 9) hx hb dX6_readHut_89 (by decide) ?_
                  refine W.eq (g2 := F0 mM 91 ls [.int (nI 9), .int (nI 0), .ref (gA G 12), .ref (gA G h)]) rfl ?_
                  refine r_calli hW hA (va_runV (As := [.int (nI 0), .int (nI 9)]) (rest := [.ref (gA G h)]) ⟨hx, hb, hml, hown, hts⟩ (t_X6_readNumber l D G (ri S68 h (va_up (gi S68 h) 3 (nI v68))) _ hG hP_S68 T ts ht4 hTB e68 (RdX.mv hok68.1 (e_in (by omega) rfl) (e_in (by omega) rfl)) 0 9 (by decide) (by decide)) (cwV 2 hts gX6_readHut_X6_readNumber rfl rfl rfl (by decide +kernel) ⟨Nat.le_of_ble_eq_true rfl, Nat.le_of_ble_eq_true rfl⟩) (r_preV (k := 12) hA hW (ci := 5) (C := RX6) (T := TX6) (N := 8) rfl rfl (g_lt hG (by decide)) (g_kd hG (by decide) rfl) rfl rfl) rfl rfl hl.1 rfl (lv_room (Nat.le_of_ble_eq_true rfl)) dX6_readHut_91 ⟨Nat.zero_le _, Nat.zero_le _⟩) (fun r91 S91 H locs hp91 hW => ?_)
                  rcases hp91 with ⟨v91, e91, hpn91, rfl, hok91⟩ | ⟨f91, p91, hpn91, rfl, hfl91⟩
                  · skip
                    have hP_S91 : GrP G S91 := fun q hq => by rw [hok91.2.2.2.1]; exact hP_S68 q hq
                    have hj91 : gi S91 h = (va_up (gi S68 h) 3 (nI v68)) := ((hok91.2.2.2.2 h (by omega)).1).trans (e_is _ _ _)
                    have hvb91 := pNum_b hpn91
                    refine r_puti (ci := 4) (C := RX5) (T := TX5) (N := 16) hx hb hts iX5 tyX5 tyX5_ok nmX5 hown hW rfl h 4 rfl (p_lt hG hh (i := 0) (by decide)) (p_kd hG hh) (by decide) q3 (fun _ h9 => h9) rfl (tyX5_ok 4 (by decide)) rfl rfl (ri S91 h (va_up (gi S91 h) 4 (nI v91))) (gi S91 h) (va_up (gi S91 h) 4 (nI v91)) rfl (e_is _ _ _) rfl rfl rfl (Nat.le_of_ble_eq_true rfl) rfl c_i0 dX6_readHut_94 (fun H locs hW => ?_)
                    refine lv_aload_n hx hb dX6_readHut_97 rfl (lv_at hl 1 rfl) ?_
                    refine r_geti (ci := 4) (C := RX5) (T := TX5) (N := 16) hx hb hts iX5 hown hW rfl h 4 rfl (p_lt hG hh (i := 0) (by decide)) (p_kd hG hh) (by decide) q3 (fun _ h9 => h9) (nI v91) (congrFun (e_is _ _ _) 4) rfl rfl dX6_readHut_98 ?_
                    refine lv_iconst (v := (-1)) hx hb dX6_readHut_101 (by decide) ?_
                    refine lv_icmp_eq (tgt := 116) hx hb dX6_readHut_102 (by decide) (fun c102 => ?_) (fun c102 => ?_)
                    · skip
                      rw [t_eq, show ((-1) : Int32).toInt = -1 from by decide] at c102
                      exfalso; rw [n_toInt (by omega)] at c102; omega --stop
                    · skip
                      rw [t_eq, show ((-1) : Int32).toInt = -1 from by decide] at c102
                      refine lv_aload_n hx hb dX6_readHut_105 rfl (lv_at hl 0 rfl) ?_
                      refine r_calli hW hA (va_runV (As := []) (rest := []) ⟨hx, hb, hml, hown, hts⟩ (t_X6_readSign l D G (ri S91 h (va_up (gi S91 h) 4 (nI v91))) _ hG hP_S91 T ts ht4 hTB e91 (RdX.mv hok91.1 (e_in (by omega) rfl) (e_in (by omega) rfl))) (cwV 0 hts gX6_readHut_X6_readSign rfl rfl rfl (by decide +kernel) ⟨Nat.le_of_ble_eq_true rfl, Nat.le_of_ble_eq_true rfl⟩) (r_preV (k := 12) hA hW (ci := 5) (C := RX6) (T := TX6) (N := 8) rfl rfl (g_lt hG (by decide)) (g_kd hG (by decide) rfl) rfl rfl) rfl rfl hl.1 rfl (lv_room (Nat.le_of_ble_eq_true rfl)) dX6_readHut_106 ⟨Nat.zero_le _, Nat.zero_le _⟩) (fun r106 S106 H locs hp106 hW => ?_)
                      rcases hp106 with ⟨v106, e106, hpn106, rfl, hok106⟩ | ⟨f106, p106, hpn106, rfl, hfl106⟩
                      · skip
                        have hP_S106 : GrP G S106 := fun q hq => by rw [hok106.2.2.2.1]; exact hP_S91 q hq
                        have hj106 : gi S106 h = (va_up (gi S91 h) 4 (nI v91)) := ((hok106.2.2.2.2 h (by omega)).1).trans (e_is _ _ _)
                        refine lv_if_eq (tgt := 116) hx hb dX6_readHut_109 (by decide) (fun c109 => ?_) (fun c109 => ?_)
                        · exact absurd c109 (by decide)
                        · skip
                          refine lv_iconst (v := 1) hx hb dX6_readHut_112 (by decide) ?_
                          refine lv_goto (tgt := 117) hx hb dX6_readHut_113 (by decide) ?_
                          refine r_zret hx hb hr hlocks hW (Or.inr rfl) ?_ dX6_readHut_117
                          refine Or.inl ⟨hutB v25 v48 v68 v91, e106, ?_, rfl, hok106.1, (hok106.2.1.trans ((congrFun (e_in (by omega) rfl) 6).trans (hok91.2.1.trans ((congrFun (e_in (by omega) rfl) 6).trans (hok68.2.1.trans ((congrFun (e_in (by omega) rfl) 6).trans (hok48.2.1.trans ((congrFun (e_in (by omega) rfl) 6).trans (hok25.2.1.trans (hok16.2.1.trans rfl)))))))))), (hok106.2.2.1.trans ((congrFun (e_in (by omega) rfl) 7).trans (hok91.2.2.1.trans ((congrFun (e_in (by omega) rfl) 7).trans (hok68.2.2.1.trans ((congrFun (e_in (by omega) rfl) 7).trans (hok48.2.2.1.trans ((congrFun (e_in (by omega) rfl) 7).trans (hok25.2.2.1.trans (hok16.2.2.1.trans rfl)))))))))), SpX.hut hS0 hh (Ch.tr (Ch.ri (Ch.tr (Ch.ri (Ch.tr (Ch.ri (Ch.tr (Ch.ri (Ch.tr (Ch.tr Ch.rf (Ch.mono hok16.2.2.2 (fun _ z => Or.inl z))) (Ch.mono hok25.2.2.2 (fun _ z => Or.inl z))) (Or.inr rfl)) (Ch.mono hok48.2.2.2 (fun _ z => Or.inl z))) (Or.inr rfl)) (Ch.mono hok68.2.2.2 (fun _ z => Or.inl z))) (Or.inr rfl)) (Ch.mono hok91.2.2.2 (fun _ z => Or.inl z))) (Or.inr rfl)) (Ch.mono hok106.2.2.2 (fun _ z => Or.inl z))) ?_, (Ch.tr (Ch.ri (Ch.tr (Ch.ri (Ch.tr (Ch.ri (Ch.tr (Ch.ri (Ch.tr (Ch.tr Ch.rf (Ch.mono hok16.2.2.2 (fun _ z => Or.inl z))) (Ch.mono hok25.2.2.2 (fun _ z => Or.inl z))) (Or.inr rfl)) (Ch.mono hok48.2.2.2 (fun _ z => Or.inl z))) (Or.inr rfl)) (Ch.mono hok68.2.2.2 (fun _ z => Or.inl z))) (Or.inr rfl)) (Ch.mono hok91.2.2.2 (fun _ z => Or.inl z))) (Or.inr rfl)) (Ch.mono hok106.2.2.2 (fun _ z => Or.inl z)))⟩
                          · unfold pHut; rw [if_pos h3, PB_l hpn25, PB_l hpn48, PB_l hpn68, PB_l hpn91, PB_l hpn106]
                          · rw [hj106, hj91, hj68, hj48, hj25, hj16]
                      · skip
                        refine lv_if_eq (tgt := 116) hx hb dX6_readHut_109 (by decide) (fun c109 => ?_) (fun c109 => ?_)
                        · skip
                          refine lv_iconst (v := 0) hx hb dX6_readHut_116 (by decide) ?_
                          refine r_zret hx hb hr hlocks hW (Or.inl rfl) ?_ dX6_readHut_117
                          refine Or.inr ⟨f106, p106, ?_, rfl, hfl106.1, hfl106.2.1, (Ch.tr (Ch.ri (Ch.tr (Ch.ri (Ch.tr (Ch.ri (Ch.tr (Ch.ri (Ch.tr (Ch.tr Ch.rf (Ch.mono hok16.2.2.2 (fun _ z => Or.inl z))) (Ch.mono hok25.2.2.2 (fun _ z => Or.inl z))) (Or.inr rfl)) (Ch.mono hok48.2.2.2 (fun _ z => Or.inl z))) (Or.inr rfl)) (Ch.mono hok68.2.2.2 (fun _ z => Or.inl z))) (Or.inr rfl)) (Ch.mono hok91.2.2.2 (fun _ z => Or.inl z))) (Or.inr rfl)) (Ch.mono hfl106.2.2.2 (fun _ z => Or.inl z)))⟩
                          unfold pHut; rw [if_pos h3, PB_l hpn25, PB_l hpn48, PB_l hpn68, PB_l hpn91, PB_r hpn106]
                        · exact absurd (by decide) c109
                  · skip
                    refine r_puti (ci := 4) (C := RX5) (T := TX5) (N := 16) hx hb hts iX5 tyX5 tyX5_ok nmX5 hown hW rfl h 4 rfl (p_lt hG hh (i := 0) (by decide)) (p_kd hG hh) (by decide) q3 (fun _ h9 => h9) rfl (tyX5_ok 4 (by decide)) rfl rfl (ri S91 h (va_up (gi S91 h) 4 (-1))) (gi S91 h) (va_up (gi S91 h) 4 (-1)) rfl (e_is _ _ _) rfl rfl rfl (Nat.le_of_ble_eq_true rfl) rfl c_i0 dX6_readHut_94 (fun H locs hW => ?_)
                    refine lv_aload_n hx hb dX6_readHut_97 rfl (lv_at hl 1 rfl) ?_
                    refine r_geti (ci := 4) (C := RX5) (T := TX5) (N := 16) hx hb hts iX5 hown hW rfl h 4 rfl (p_lt hG hh (i := 0) (by decide)) (p_kd hG hh) (by decide) q3 (fun _ h9 => h9) (-1) (congrFun (e_is _ _ _) 4) rfl rfl dX6_readHut_98 ?_
                    refine lv_iconst (v := (-1)) hx hb dX6_readHut_101 (by decide) ?_
                    refine lv_icmp_eq (tgt := 116) hx hb dX6_readHut_102 (by decide) (fun c102 => ?_) (fun c102 => ?_)
                    · skip
                      refine lv_iconst (v := 0) hx hb dX6_readHut_116 (by decide) ?_
                      refine r_zret hx hb hr hlocks hW (Or.inl rfl) ?_ dX6_readHut_117
                      refine Or.inr ⟨f91, p91, ?_, rfl, ((congrFun (e_in (by omega) rfl) 6).trans hfl91.1), ((congrFun (e_in (by omega) rfl) 7).trans hfl91.2.1), (Ch.ri (Ch.tr (Ch.ri (Ch.tr (Ch.ri (Ch.tr (Ch.ri (Ch.tr (Ch.tr Ch.rf (Ch.mono hok16.2.2.2 (fun _ z => Or.inl z))) (Ch.mono hok25.2.2.2 (fun _ z => Or.inl z))) (Or.inr rfl)) (Ch.mono hok48.2.2.2 (fun _ z => Or.inl z))) (Or.inr rfl)) (Ch.mono hok68.2.2.2 (fun _ z => Or.inl z))) (Or.inr rfl)) (Ch.mono hfl91.2.2.2 (fun _ z => Or.inl z))) (Or.inr rfl))⟩
                      unfold pHut; rw [if_pos h3, PB_l hpn25, PB_l hpn48, PB_l hpn68, PB_r hpn91]
                    · exact absurd (by decide) c102
                · skip
                  rw [t_eq, show ((-1) : Int32).toInt = -1 from by decide] at c80
                  exfalso; rw [n_toInt (by omega)] at c80; omega --stop
              · skip
                refine r_puti (ci := 4) (C := RX5) (T := TX5) (N := 16) hx hb hts iX5 tyX5 tyX5_ok nmX5 hown hW rfl h 3 rfl (p_lt hG hh (i := 0) (by decide)) (p_kd hG hh) (by decide) q2 (fun _ h9 => h9) rfl (tyX5_ok 3 (by decide)) rfl rfl (ri S68 h (va_up (gi S68 h) 3 (-1))) (gi S68 h) (va_up (gi S68 h) 3 (-1)) rfl (e_is _ _ _) rfl rfl rfl (Nat.le_of_ble_eq_true rfl) rfl c_i0 dX6_readHut_71 (fun H locs hW => ?_)
                refine lv_aload_n hx hb dX6_readHut_74 rfl (lv_at hl 1 rfl) ?_
                refine lv_aload_n hx hb dX6_readHut_75 rfl (lv_at hl 1 rfl) ?_
                refine r_geti (ci := 4) (C := RX5) (T := TX5) (N := 16) hx hb hts iX5 hown hW rfl h 3 rfl (p_lt hG hh (i := 0) (by decide)) (p_kd hG hh) (by decide) q2 (fun _ h9 => h9) (-1) (congrFun (e_is _ _ _) 3) rfl rfl dX6_readHut_76 ?_
                refine lv_iconst (v := (-1)) hx hb dX6_readHut_79 (by decide) ?_
                refine lv_icmp_ne (tgt := 87) hx hb dX6_readHut_80 (by decide) (fun c80 => ?_) (fun c80 => ?_)
                · exact absurd (by decide) c80
                · skip
                  refine lv_iconst (v := (-1)) hx hb dX6_readHut_83 (by decide) ?_
                  refine lv_goto (tgt := 94) hx hb dX6_readHut_84 (by decide) ?_
                  refine r_puti (ci := 4) (C := RX5) (T := TX5) (N := 16) hx hb hts iX5 tyX5 tyX5_ok nmX5 hown hW rfl h 4 rfl (p_lt hG hh (i := 0) (by decide)) (p_kd hG hh) (by decide) q3 (fun _ h9 => h9) rfl (tyX5_ok 4 (by decide)) rfl rfl (ri S68 h (va_up (va_up (gi S68 h) 3 (-1)) 4 (-1))) (va_up (gi S68 h) 3 (-1)) (va_up (va_up (gi S68 h) 3 (-1)) 4 (-1)) (e_is _ _ _) (e_is _ _ _) rfl rfl rfl (Nat.le_of_ble_eq_true rfl) rfl c_i dX6_readHut_94 (fun H locs hW => ?_)
                  refine lv_aload_n hx hb dX6_readHut_97 rfl (lv_at hl 1 rfl) ?_
                  refine r_geti (ci := 4) (C := RX5) (T := TX5) (N := 16) hx hb hts iX5 hown hW rfl h 4 rfl (p_lt hG hh (i := 0) (by decide)) (p_kd hG hh) (by decide) q3 (fun _ h9 => h9) (-1) (congrFun (e_is _ _ _) 4) rfl rfl dX6_readHut_98 ?_
                  refine lv_iconst (v := (-1)) hx hb dX6_readHut_101 (by decide) ?_
                  refine lv_icmp_eq (tgt := 116) hx hb dX6_readHut_102 (by decide) (fun c102 => ?_) (fun c102 => ?_)
                  · skip
                    refine lv_iconst (v := 0) hx hb dX6_readHut_116 (by decide) ?_
                    refine r_zret hx hb hr hlocks hW (Or.inl rfl) ?_ dX6_readHut_117
                    refine Or.inr ⟨f68, p68, ?_, rfl, ((congrFun (e_in (by omega) rfl) 6).trans hfl68.1), ((congrFun (e_in (by omega) rfl) 7).trans hfl68.2.1), (Ch.ri (Ch.tr (Ch.ri (Ch.tr (Ch.ri (Ch.tr (Ch.tr Ch.rf (Ch.mono hok16.2.2.2 (fun _ z => Or.inl z))) (Ch.mono hok25.2.2.2 (fun _ z => Or.inl z))) (Or.inr rfl)) (Ch.mono hok48.2.2.2 (fun _ z => Or.inl z))) (Or.inr rfl)) (Ch.mono hfl68.2.2.2 (fun _ z => Or.inl z))) (Or.inr rfl))⟩
                    unfold pHut; rw [if_pos h3, PB_l hpn25, PB_l hpn48, PB_r hpn68]
                  · exact absurd (by decide) c102
            · skip
              rw [t_eq, show ((-1) : Int32).toInt = -1 from by decide] at c60
              exfalso; rw [n_toInt (by omega)] at c60; omega --stop
          · skip
            refine r_puti (ci := 4) (C := RX5) (T := TX5) (N := 16) hx hb hts iX5 tyX5 tyX5_ok nmX5 hown hW rfl h 2 rfl (p_lt hG hh (i := 0) (by decide)) (p_kd hG hh) (by decide) q1 (fun _ h9 => h9) rfl (tyX5_ok 2 (by decide)) rfl rfl (ri S48 h (va_up (gi S48 h) 2 (-1))) (gi S48 h) (va_up (gi S48 h) 2 (-1)) rfl (e_is _ _ _) rfl rfl rfl (Nat.le_of_ble_eq_true rfl) rfl c_i0 dX6_readHut_51 (fun H locs hW => ?_)
            refine lv_aload_n hx hb dX6_readHut_54 rfl (lv_at hl 1 rfl) ?_
            refine lv_aload_n hx hb dX6_readHut_55 rfl (lv_at hl 1 rfl) ?_
            refine r_geti (ci := 4) (C := RX5) (T := TX5) (N := 16) hx hb hts iX5 hown hW rfl h 2 rfl (p_lt hG hh (i := 0) (by decide)) (p_kd hG hh) (by decide) q1 (fun _ h9 => h9) (-1) (congrFun (e_is _ _ _) 2) rfl rfl dX6_readHut_56 ?_
            refine lv_iconst (v := (-1)) hx hb dX6_readHut_59 (by decide) ?_
            refine lv_icmp_ne (tgt := 67) hx hb dX6_readHut_60 (by decide) (fun c60 => ?_) (fun c60 => ?_)
            · exact absurd (by decide) c60
            · skip
              refine lv_iconst (v := (-1)) hx hb dX6_readHut_63 (by decide) ?_
              refine lv_goto (tgt := 71) hx hb dX6_readHut_64 (by decide) ?_
              refine r_puti (ci := 4) (C := RX5) (T := TX5) (N := 16) hx hb hts iX5 tyX5 tyX5_ok nmX5 hown hW rfl h 3 rfl (p_lt hG hh (i := 0) (by decide)) (p_kd hG hh) (by decide) q2 (fun _ h9 => h9) rfl (tyX5_ok 3 (by decide)) rfl rfl (ri S48 h (va_up (va_up (gi S48 h) 2 (-1)) 3 (-1))) (va_up (gi S48 h) 2 (-1)) (va_up (va_up (gi S48 h) 2 (-1)) 3 (-1)) (e_is _ _ _) (e_is _ _ _) rfl rfl rfl (Nat.le_of_ble_eq_true rfl) rfl c_i dX6_readHut_71 (fun H locs hW => ?_)
              refine lv_aload_n hx hb dX6_readHut_74 rfl (lv_at hl 1 rfl) ?_
              refine lv_aload_n hx hb dX6_readHut_75 rfl (lv_at hl 1 rfl) ?_
              refine r_geti (ci := 4) (C := RX5) (T := TX5) (N := 16) hx hb hts iX5 hown hW rfl h 3 rfl (p_lt hG hh (i := 0) (by decide)) (p_kd hG hh) (by decide) q2 (fun _ h9 => h9) (-1) (congrFun (e_is _ _ _) 3) rfl rfl dX6_readHut_76 ?_
              refine lv_iconst (v := (-1)) hx hb dX6_readHut_79 (by decide) ?_
              refine lv_icmp_ne (tgt := 87) hx hb dX6_readHut_80 (by decide) (fun c80 => ?_) (fun c80 => ?_)
              · exact absurd (by decide) c80
              · skip
                refine lv_iconst (v := (-1)) hx hb dX6_readHut_83 (by decide) ?_
                refine lv_goto (tgt := 94) hx hb dX6_readHut_84 (by decide) ?_
                refine r_puti (ci := 4) (C := RX5) (T := TX5) (N := 16) hx hb hts iX5 tyX5 tyX5_ok nmX5 hown hW rfl h 4 rfl (p_lt hG hh (i := 0) (by decide)) (p_kd hG hh) (by decide) q3 (fun _ h9 => h9) rfl (tyX5_ok 4 (by decide)) rfl rfl (ri S48 h (va_up (va_up (va_up (gi S48 h) 2 (-1)) 3 (-1)) 4 (-1))) (va_up (va_up (gi S48 h) 2 (-1)) 3 (-1)) (va_up (va_up (va_up (gi S48 h) 2 (-1)) 3 (-1)) 4 (-1)) (e_is _ _ _) (e_is _ _ _) rfl rfl rfl (Nat.le_of_ble_eq_true rfl) rfl c_i dX6_readHut_94 (fun H locs hW => ?_)
                refine lv_aload_n hx hb dX6_readHut_97 rfl (lv_at hl 1 rfl) ?_
                refine r_geti (ci := 4) (C := RX5) (T := TX5) (N := 16) hx hb hts iX5 hown hW rfl h 4 rfl (p_lt hG hh (i := 0) (by decide)) (p_kd hG hh) (by decide) q3 (fun _ h9 => h9) (-1) (congrFun (e_is _ _ _) 4) rfl rfl dX6_readHut_98 ?_
                refine lv_iconst (v := (-1)) hx hb dX6_readHut_101 (by decide) ?_
                refine lv_icmp_eq (tgt := 116) hx hb dX6_readHut_102 (by decide) (fun c102 => ?_) (fun c102 => ?_)
                · skip
                  refine lv_iconst (v := 0) hx hb dX6_readHut_116 (by decide) ?_
                  refine r_zret hx hb hr hlocks hW (Or.inl rfl) ?_ dX6_readHut_117
                  refine Or.inr ⟨f48, p48, ?_, rfl, ((congrFun (e_in (by omega) rfl) 6).trans hfl48.1), ((congrFun (e_in (by omega) rfl) 7).trans hfl48.2.1), (Ch.ri (Ch.tr (Ch.ri (Ch.tr (Ch.tr Ch.rf (Ch.mono hok16.2.2.2 (fun _ z => Or.inl z))) (Ch.mono hok25.2.2.2 (fun _ z => Or.inl z))) (Or.inr rfl)) (Ch.mono hfl48.2.2.2 (fun _ z => Or.inl z))) (Or.inr rfl))⟩
                  unfold pHut; rw [if_pos h3, PB_l hpn25, PB_r hpn48]
                · exact absurd (by decide) c102
        · skip
          rw [t_eq, show ((-1) : Int32).toInt = -1 from by decide] at c37
          exfalso; rw [n_toInt (by omega)] at c37; omega --stop
      · skip
        refine r_puti (ci := 4) (C := RX5) (T := TX5) (N := 16) hx hb hts iX5 tyX5 tyX5_ok nmX5 hown hW rfl h 1 rfl (p_lt hG hh (i := 0) (by decide)) (p_kd hG hh) (by decide) q0 (fun _ h9 => h9) rfl (tyX5_ok 1 (by decide)) rfl rfl (ri S25 h (va_up (gi S25 h) 1 (-1))) (gi S25 h) (va_up (gi S25 h) 1 (-1)) rfl (e_is _ _ _) rfl rfl rfl (Nat.le_of_ble_eq_true rfl) rfl c_i0 dX6_readHut_28 (fun H locs hW => ?_)
        refine lv_aload_n hx hb dX6_readHut_31 rfl (lv_at hl 1 rfl) ?_
        refine lv_aload_n hx hb dX6_readHut_32 rfl (lv_at hl 1 rfl) ?_
        refine r_geti (ci := 4) (C := RX5) (T := TX5) (N := 16) hx hb hts iX5 hown hW rfl h 1 rfl (p_lt hG hh (i := 0) (by decide)) (p_kd hG hh) (by decide) q0 (fun _ h9 => h9) (-1) (congrFun (e_is _ _ _) 1) rfl rfl dX6_readHut_33 ?_
        refine lv_iconst (v := (-1)) hx hb dX6_readHut_36 (by decide) ?_
        refine lv_icmp_ne (tgt := 44) hx hb dX6_readHut_37 (by decide) (fun c37 => ?_) (fun c37 => ?_)
        · exact absurd (by decide) c37
        · skip
          refine lv_iconst (v := (-1)) hx hb dX6_readHut_40 (by decide) ?_
          refine lv_goto (tgt := 51) hx hb dX6_readHut_41 (by decide) ?_
          refine r_puti (ci := 4) (C := RX5) (T := TX5) (N := 16) hx hb hts iX5 tyX5 tyX5_ok nmX5 hown hW rfl h 2 rfl (p_lt hG hh (i := 0) (by decide)) (p_kd hG hh) (by decide) q1 (fun _ h9 => h9) rfl (tyX5_ok 2 (by decide)) rfl rfl (ri S25 h (va_up (va_up (gi S25 h) 1 (-1)) 2 (-1))) (va_up (gi S25 h) 1 (-1)) (va_up (va_up (gi S25 h) 1 (-1)) 2 (-1)) (e_is _ _ _) (e_is _ _ _) rfl rfl rfl (Nat.le_of_ble_eq_true rfl) rfl c_i dX6_readHut_51 (fun H locs hW => ?_)
          refine lv_aload_n hx hb dX6_readHut_54 rfl (lv_at hl 1 rfl) ?_
          refine lv_aload_n hx hb dX6_readHut_55 rfl (lv_at hl 1 rfl) ?_
          refine r_geti (ci := 4) (C := RX5) (T := TX5) (N := 16) hx hb hts iX5 hown hW rfl h 2 rfl (p_lt hG hh (i := 0) (by decide)) (p_kd hG hh) (by decide) q1 (fun _ h9 => h9) (-1) (congrFun (e_is _ _ _) 2) rfl rfl dX6_readHut_56 ?_
          refine lv_iconst (v := (-1)) hx hb dX6_readHut_59 (by decide) ?_
          refine lv_icmp_ne (tgt := 67) hx hb dX6_readHut_60 (by decide) (fun c60 => ?_) (fun c60 => ?_)
          · exact absurd (by decide) c60
          · skip
            refine lv_iconst (v := (-1)) hx hb dX6_readHut_63 (by decide) ?_
            refine lv_goto (tgt := 71) hx hb dX6_readHut_64 (by decide) ?_
            refine r_puti (ci := 4) (C := RX5) (T := TX5) (N := 16) hx hb hts iX5 tyX5 tyX5_ok nmX5 hown hW rfl h 3 rfl (p_lt hG hh (i := 0) (by decide)) (p_kd hG hh) (by decide) q2 (fun _ h9 => h9) rfl (tyX5_ok 3 (by decide)) rfl rfl (ri S25 h (va_up (va_up (va_up (gi S25 h) 1 (-1)) 2 (-1)) 3 (-1))) (va_up (va_up (gi S25 h) 1 (-1)) 2 (-1)) (va_up (va_up (va_up (gi S25 h) 1 (-1)) 2 (-1)) 3 (-1)) (e_is _ _ _) (e_is _ _ _) rfl rfl rfl (Nat.le_of_ble_eq_true rfl) rfl c_i dX6_readHut_71 (fun H locs hW => ?_)
            refine lv_aload_n hx hb dX6_readHut_74 rfl (lv_at hl 1 rfl) ?_
            refine lv_aload_n hx hb dX6_readHut_75 rfl (lv_at hl 1 rfl) ?_
            refine r_geti (ci := 4) (C := RX5) (T := TX5) (N := 16) hx hb hts iX5 hown hW rfl h 3 rfl (p_lt hG hh (i := 0) (by decide)) (p_kd hG hh) (by decide) q2 (fun _ h9 => h9) (-1) (congrFun (e_is _ _ _) 3) rfl rfl dX6_readHut_76 ?_
            refine lv_iconst (v := (-1)) hx hb dX6_readHut_79 (by decide) ?_
            refine lv_icmp_ne (tgt := 87) hx hb dX6_readHut_80 (by decide) (fun c80 => ?_) (fun c80 => ?_)
            · exact absurd (by decide) c80
            · skip
              refine lv_iconst (v := (-1)) hx hb dX6_readHut_83 (by decide) ?_
              refine lv_goto (tgt := 94) hx hb dX6_readHut_84 (by decide) ?_
              refine r_puti (ci := 4) (C := RX5) (T := TX5) (N := 16) hx hb hts iX5 tyX5 tyX5_ok nmX5 hown hW rfl h 4 rfl (p_lt hG hh (i := 0) (by decide)) (p_kd hG hh) (by decide) q3 (fun _ h9 => h9) rfl (tyX5_ok 4 (by decide)) rfl rfl (ri S25 h (va_up (va_up (va_up (va_up (gi S25 h) 1 (-1)) 2 (-1)) 3 (-1)) 4 (-1))) (va_up (va_up (va_up (gi S25 h) 1 (-1)) 2 (-1)) 3 (-1)) (va_up (va_up (va_up (va_up (gi S25 h) 1 (-1)) 2 (-1)) 3 (-1)) 4 (-1)) (e_is _ _ _) (e_is _ _ _) rfl rfl rfl (Nat.le_of_ble_eq_true rfl) rfl c_i dX6_readHut_94 (fun H locs hW => ?_)
              refine lv_aload_n hx hb dX6_readHut_97 rfl (lv_at hl 1 rfl) ?_
              refine r_geti (ci := 4) (C := RX5) (T := TX5) (N := 16) hx hb hts iX5 hown hW rfl h 4 rfl (p_lt hG hh (i := 0) (by decide)) (p_kd hG hh) (by decide) q3 (fun _ h9 => h9) (-1) (congrFun (e_is _ _ _) 4) rfl rfl dX6_readHut_98 ?_
              refine lv_iconst (v := (-1)) hx hb dX6_readHut_101 (by decide) ?_
              refine lv_icmp_eq (tgt := 116) hx hb dX6_readHut_102 (by decide) (fun c102 => ?_) (fun c102 => ?_)
              · skip
                refine lv_iconst (v := 0) hx hb dX6_readHut_116 (by decide) ?_
                refine r_zret hx hb hr hlocks hW (Or.inl rfl) ?_ dX6_readHut_117
                refine Or.inr ⟨f25, p25, ?_, rfl, ((congrFun (e_in (by omega) rfl) 6).trans hfl25.1), ((congrFun (e_in (by omega) rfl) 7).trans hfl25.2.1), (Ch.ri (Ch.tr (Ch.tr Ch.rf (Ch.mono hok16.2.2.2 (fun _ z => Or.inl z))) (Ch.mono hfl25.2.2.2 (fun _ z => Or.inl z))) (Or.inr rfl))⟩
                unfold pHut; rw [if_pos h3, PB_r hpn25]
              · exact absurd (by decide) c102
    · exact absurd c6 (by decide)
  · skip
    refine lv_if_ne (tgt := 15) hx hb dX6_readHut_6 (by decide) (fun c6 => ?_) (fun c6 => ?_)
    · exact absurd (by decide) c6
    · skip
      refine lv_aload_n hx hb dX6_readHut_9 rfl (lv_at hl 0 rfl) ?_
      refine lv_iconst (v := 1) hx hb dX6_readHut_10 (by decide) ?_
      refine W.eq (g2 := F0 mM 11 ls [.int (nI 1), .ref (gA G 12)]) rfl ?_
      refine r_calli hW hA (va_runV (As := [.int (nI 1)]) (rest := []) ⟨hx, hb, hml, hown, hts⟩ (t_X6_fail l D G S _ hG hP 1 (SK T ts a0) hRd0.1.1) (cwV 1 hts gX6_readHut_X6_fail rfl rfl rfl (by decide +kernel) ⟨Nat.le_of_ble_eq_true rfl, Nat.le_of_ble_eq_true rfl⟩) (r_preV (k := 12) hA hW (ci := 5) (C := RX6) (T := TX6) (N := 8) rfl rfl (g_lt hG (by decide)) (g_kd hG (by decide) rfl) rfl rfl) rfl rfl hl.1 rfl (lv_room (Nat.le_of_ble_eq_true rfl)) dX6_readHut_11 ⟨Nat.zero_le _, Nat.zero_le _⟩) (fun r11 S11 H locs hp11 hW => ?_)
      obtain ⟨rfl, hfl11⟩ := hp11
      refine r_zret hx hb hr hlocks hW (Or.inl rfl) ?_ dX6_readHut_14
      refine Or.inr ⟨1, (SK T ts a0), ?_, rfl, hfl11.1, hfl11.2.1, (Ch.tr Ch.rf (Ch.mono hfl11.2.2.2 (fun _ z => Or.inl z)))⟩
      unfold pHut; rw [if_neg h3]

def rmX6_readChances : Jvm.Room := { frames := 5, cells := 0, slots := 0, locals := 107 }
set_option maxHeartbeats 4000000 in
set_option maxRecDepth 100000 in
theorem t_X6_readChances (l : Launch) (D : Dc) (G : Gg) (S : Sg) (z : Nat) (hG : GrG G) (hP : GrP G S) (T : Nat → Nat) (ts : Nat) (ht4 : ts ≤ 400) (hTB : ∀ i, i < ts → T i ≤ 255) (a0 : Nat) (hRd0 : RdX S T ts a0) (h : Nat) (hh : PassR h) (B0 : Nat → Nat) (hB0 : Tld B0) (h40 : B0 4 = 0) (h170 : B0 17 = 0) (hS0 : SpX G S h B0) : MI l yX6_readChances wsX6_readChances rmX6_readChances D G S z [.ref (gA G 12), .ref (gA G h)] (fun r S' => (∃ B e, pChs T ts 7 B0 a0 = .inl (B, e) ∧ r = 1 ∧ RdX S' T ts e ∧ gi S' 12 6 = gi S 12 6 ∧ gi S' 12 7 = gi S 12 7 ∧ SpX G S' h B ∧ Ch (fun k => k = 12 ∨ k = h ∨ k = h + 1 ∨ k = h + 2) S S') ∨ (∃ f p, pChs T ts 7 B0 a0 = .inr (f, p) ∧ r = 0 ∧ gi S' 12 6 = nI f ∧ gi S' 12 7 = nI p ∧ Ch (fun k => k = 12 ∨ k = h ∨ k = h + 1 ∨ k = h + 2) S S')) := by
  refine Met.ofW (cc := cX6_readChances) (maxL := 5) (ret := (some .boolean)) (by decide +kernel) rfl ?_
  intro pP eE s mM args bl mT cD s₁ bD hml hv
  obtain ⟨rfl, hv⟩ := hv
  have hz := hv.1
  subst hz
  have hx := bD.exec
  have hb := bD.bytes
  have hr := bD.returns
  have hts := atoms_spec (ws := wsX6_readChances) bD.pre
  have hown : s.vm.findClass RX6 = some mM.cls := findClass_of_methodNamed bD.named
  have hlocks := bD.notSynchronized
  have hW := Wd.start hv
  have hA : ∀ q, s.heap.size ≤ q → AW G s.heap.size q := fun q h => Or.inr h
  have hl := lv_entry ([.ref (gA G 12), .ref (gA G h)]) (n := 5) (Nat.le_of_ble_eq_true rfl)
  rw [lg_entry_eq]
  generalize (lg_sl ([.ref (gA G 12), .ref (gA G h)]) ++ List.replicate (5 - (lg_sl ([.ref (gA G 12), .ref (gA G h)])).length) Slot.unset).toArray = ls at hl ⊢
  have hl : lv_has ls 5 [(0, .ref (gA G 12)), (1, .ref (gA G h))] := hl
  have q0 := hts (.fieldLink RX6 76 "WoodForTwo$Reader" "sort" "I") (List.mem_of_getElem? (i := 1) rfl)
  have q1 := hts (.fieldLink RX6 79 "WoodForTwo$Reader" "value" "I") (List.mem_of_getElem? (i := 2) rfl)
  have iX6 : ∀ w ∈ wsX60, w ∈ wsX6_readChances := fun _ h => List.mem_cons_of_mem _ (List.mem_append_left _ (List.mem_append_right _ (h)))
  generalize hQ0 : MQ bl _ _ s _ _ _ = Q0
  refine lv_iconst (v := 0) hx hb dX6_readChances_0 (by decide) ?_
  refine lv_istore_n (lv' := [(2, .int 0), (0, .ref (gA G 12)), (1, .ref (gA G h))]) hx hb dX6_readChances_1 rfl hl (by decide) rfl (fun ls hl => ?_)
  have hl : lv_has ls 5 [(2, .int (nI (B0 4))), (0, .ref (gA G 12)), (1, .ref (gA G h))] := by rw [h40]; exact hl
  have L2 : ∀ (n : Nat) (T0 : Sg) (B : Nat → Nat) (a : Nat) (H : Heap) (locs : List Loc) (ls : Array Slot), (7 - B 4) < n → RdX T0 T ts a → gi T0 12 6 = gi S 12 6 → gi T0 12 7 = gi S 12 7 → SpX G T0 h B → Tld B → B 17 = 0 → Ch (fun k => k = 12 ∨ k = h ∨ k = h + 1 ∨ k = h + 2) S T0 → pChs T ts 7 B0 a0 = pChs T ts (7 - B 4) B a → Wd D (AW G s.heap.size) s G T0 H locs → lv_has ls 5 [(2, .int (nI (B 4))), (0, .ref (gA G 12)), (1, .ref (gA G h))] → W pP l eE (headSpec wsX6_readChances rmX6_readChances).room s mM ([.ref (gA G 12), .ref (gA G h)] : List Value).toArray bl mT cD H locs 0 0 Q0 (F0 mM 2 ls []) := by
    intro n
    induction n with
    | zero => intro T0 B a H locs ls hm; exact absurd hm (Nat.not_lt_zero _)
    | succ n ih2 =>
      intro T0 B a H locs ls hm2 hRd hl6 hl7 hsp hB h17 hCT hR hW hl
      have hP_T0 : GrP G T0 := fun q hq => by rw [hCT.1]; exact hP q hq
      have b46 := hB.1.2.2.2.2.2.2.1
      have b7 := hB.1.2.2.2.2.2.2.2.1
      refine lv_iload_n hx hb dX6_readChances_2 rfl (lv_at hl 0 rfl) ?_
      refine lv_bipush (v := 6) hx hb dX6_readChances_3 (by decide) ?_
      refine lv_icmp_gt (tgt := 112) hx hb dX6_readChances_5 (by decide) (fun c5 => ?_) (fun c5 => ?_)
      · skip
        rw [t_lt, show (6 : Int32).toInt = 6 from by decide] at c5
        exfalso; rw [n_toInt (by omega)] at c5; omega --stop
      · skip
        rw [t_lt, show (6 : Int32).toInt = 6 from by decide] at c5
        refine lv_aload_n hx hb dX6_readChances_8 rfl (lv_at hl 1 rfl) ?_
        refine va_ldcS hx hb (own := RX6) hown (hW.2.2.2.2.2.1 1 (by decide)) dX6_readChances_9 ?_
        refine r_calli hW hA (va_runV (As := [.ref (D.2.2.1 1)]) (rest := []) ⟨hx, hb, hml, hown, hts⟩ (t_X6_isWord l D G T0 _ hG hP_T0 T ts ht4 hTB a hRd 1 (by decide)) (cwV 1 hts gX6_readChances_X6_isWord rfl rfl rfl (by decide +kernel) ⟨Nat.le_of_ble_eq_true rfl, Nat.le_of_ble_eq_true rfl⟩) (r_preV (k := 12) hA hW (ci := 5) (C := RX6) (T := TX6) (N := 8) rfl rfl (g_lt hG (by decide)) (g_kd hG (by decide) rfl) rfl rfl) rfl rfl hl.1 rfl (lv_room (Nat.le_of_ble_eq_true rfl)) dX6_readChances_11 ⟨Nat.zero_le _, Nat.zero_le _⟩) (fun r11 S11 H locs hp11 hW => ?_)
        obtain ⟨hs11, hp11⟩ := hp11
        rw [hs11] at hW
        rcases hp11 with ⟨rfl, h11⟩ | ⟨rfl, h11⟩
        · skip
          refine lv_if_eq (tgt := 112) hx hb dX6_readChances_14 (by decide) (fun c14 => ?_) (fun c14 => ?_)
          · exact absurd c14 (by decide)
          · skip
            refine lv_iload_n hx hb dX6_readChances_17 rfl (lv_at hl 0 rfl) ?_
            refine lv_bipush (v := 6) hx hb dX6_readChances_18 (by decide) ?_
            refine lv_icmp_ne (tgt := 29) hx hb dX6_readChances_20 (by decide) (fun c20 => ?_) (fun c20 => ?_)
            · skip
              rw [t_eq, show (6 : Int32).toInt = 6 from by decide] at c20
              have hn6 : B 4 < 6 := by rw [n_toInt (by omega)] at c20; omega
              refine lv_aload_n hx hb dX6_readChances_29 rfl (lv_at hl 1 rfl) ?_
              have hRd30 := hRd
              have hle30 := tE_le (T := T) hRd30.2.2.2
              refine r_callv hW hA (va_runV (As := []) (rest := []) ⟨hx, hb, hml, hown, hts⟩ (t_X6_nextToken l D G T0 _ hG hP_T0 T ts ht4 hTB hRd30.2.1 hRd30.2.2.1 (tE T ts a) hle30.1 hRd30.1.2.1) (cwV 0 hts gX6_readChances_X6_nextToken rfl rfl rfl (by decide +kernel) ⟨Nat.le_of_ble_eq_true rfl, Nat.le_of_ble_eq_true rfl⟩) (r_preV (k := 12) hA hW (ci := 5) (C := RX6) (T := TX6) (N := 8) rfl rfl (g_lt hG (by decide)) (g_kd hG (by decide) rfl) rfl rfl) rfl rfl hl.1 rfl (lv_room (Nat.le_of_ble_eq_true rfl)) dX6_readChances_30 ⟨Nat.zero_le _, Nat.zero_le _⟩) (fun S30 H locs hp30 hW => ?_)
              have hok30 := OkX.mk' hRd30.2.1 hRd30.2.2.1 hle30.1 hp30
              have hP_S30 : GrP G S30 := fun q hq => by rw [hok30.2.2.2.1]; exact hP_T0 q hq
              have hsp30 := SpX.ch hsp hh hok30.2.2.2
              refine lv_aload_n hx hb dX6_readChances_33 rfl (lv_at hl 1 rfl) ?_
              refine r_geti (ci := 5) (C := RX6) (T := TX6) (N := 8) hx hb hts iX6 hown hW rfl 12 4 rfl (g_lt hG (by decide)) (g_kd hG (by decide) rfl) (by decide) q0 (fun _ h9 => h9) (nI (tS T ts (tE T ts a))) hok30.1.1.2.2.1 rfl rfl dX6_readChances_34 ?_
              refine lv_iconst (v := 2) hx hb dX6_readChances_37 (by decide) ?_
              refine lv_icmp_ne (tgt := 58) hx hb dX6_readChances_38 (by decide) (fun c38 => ?_) (fun c38 => ?_)
              · skip
                rw [t_eq, show (2 : Int32).toInt = 2 from by decide] at c38
                have hs2 : ¬ tS T ts (tE T ts a) = 2 := by have := tS_le (T := T) (ts := ts) (a := tE T ts a); rw [n_toInt (by omega)] at c38; omega
                refine lv_aload_n hx hb dX6_readChances_58 rfl (lv_at hl 1 rfl) ?_
                refine lv_iconst (v := 0) hx hb dX6_readChances_59 (by decide) ?_
                refine lv_bipush (v := 9) hx hb dX6_readChances_60 (by decide) ?_
                refine W.eq (g2 := F0 mM 62 ls [.int (nI 9), .int (nI 0), .ref (gA G 12)]) rfl ?_
                refine r_calli hW hA (va_runV (As := [.int (nI 0), .int (nI 9)]) (rest := []) ⟨hx, hb, hml, hown, hts⟩ (t_X6_readNumber l D G S30 _ hG hP_S30 T ts ht4 hTB (tE T ts a) hok30.1 0 9 (by decide) (by decide)) (cwV 2 hts gX6_readChances_X6_readNumber rfl rfl rfl (by decide +kernel) ⟨Nat.le_of_ble_eq_true rfl, Nat.le_of_ble_eq_true rfl⟩) (r_preV (k := 12) hA hW (ci := 5) (C := RX6) (T := TX6) (N := 8) rfl rfl (g_lt hG (by decide)) (g_kd hG (by decide) rfl) rfl rfl) rfl rfl hl.1 rfl (lv_room (Nat.le_of_ble_eq_true rfl)) dX6_readChances_62 ⟨Nat.zero_le _, Nat.zero_le _⟩) (fun r62 S62 H locs hp62 hW => ?_)
                rcases hp62 with ⟨v62, e62, hpn62, rfl, hok62⟩ | ⟨f62, p62, hpn62, rfl, hfl62⟩
                · skip
                  have hP_S62 : GrP G S62 := fun q hq => by rw [hok62.2.2.2.1]; exact hP_S30 q hq
                  have hsp62 := SpX.ch hsp30 hh hok62.2.2.2
                  have hvb62 := pNum_b hpn62
                  refine lv_istore_n (lv' := [(3, .int (nI v62)), (2, .int (nI (B 4))), (0, .ref (gA G 12)), (1, .ref (gA G h))]) hx hb dX6_readChances_65 rfl hl (by decide) rfl (fun ls hl => ?_)
                  have hag : agn B v62 (B 4) = false := absurd (pNum_i hpn62).1 hs2
                  refine lv_iload_n hx hb dX6_readChances_66 rfl (lv_at hl 0 rfl) ?_
                  refine lv_iconst (v := (-1)) hx hb dX6_readChances_67 (by decide) ?_
                  refine lv_icmp_ne (tgt := 75) hx hb dX6_readChances_68 (by decide) (fun c68 => ?_) (fun c68 => ?_)
                  · skip
                    rw [t_eq, show ((-1) : Int32).toInt = -1 from by decide] at c68
                    refine lv_aload_n hx hb dX6_readChances_75 rfl (lv_at hl 2 rfl) ?_
                    refine lv_iconst (v := 1) hx hb dX6_readChances_76 (by decide) ?_
                    refine lv_bipush (v := 9) hx hb dX6_readChances_77 (by decide) ?_
                    refine W.eq (g2 := F0 mM 79 ls [.int (nI 9), .int (nI 1), .ref (gA G 12)]) rfl ?_
                    refine r_calli hW hA (va_runV (As := [.int (nI 1), .int (nI 9)]) (rest := []) ⟨hx, hb, hml, hown, hts⟩ (t_X6_readNumber l D G S62 _ hG hP_S62 T ts ht4 hTB e62 hok62.1 1 9 (by decide) (by decide)) (cwV 2 hts gX6_readChances_X6_readNumber rfl rfl rfl (by decide +kernel) ⟨Nat.le_of_ble_eq_true rfl, Nat.le_of_ble_eq_true rfl⟩) (r_preV (k := 12) hA hW (ci := 5) (C := RX6) (T := TX6) (N := 8) rfl rfl (g_lt hG (by decide)) (g_kd hG (by decide) rfl) rfl rfl) rfl rfl hl.1 rfl (lv_room (Nat.le_of_ble_eq_true rfl)) dX6_readChances_79 ⟨Nat.zero_le _, Nat.zero_le _⟩) (fun r79 S79 H locs hp79 hW => ?_)
                    rcases hp79 with ⟨v79, e79, hpn79, rfl, hok79⟩ | ⟨f79, p79, hpn79, rfl, hfl79⟩
                    · skip
                      have hP_S79 : GrP G S79 := fun q hq => by rw [hok79.2.2.2.1]; exact hP_S62 q hq
                      have hsp79 := SpX.ch hsp62 hh hok79.2.2.2
                      have hvb79 := pNum_b hpn79
                      refine lv_istore (lv' := [(4, .int (nI v79)), (3, .int (nI v62)), (2, .int (nI (B 4))), (0, .ref (gA G 12)), (1, .ref (gA G h))]) hx hb dX6_readChances_82 hl (by decide) rfl (fun ls hl => ?_)
                      refine lv_iload hx hb dX6_readChances_84 (lv_at hl 0 rfl) ?_
                      refine lv_iconst (v := (-1)) hx hb dX6_readChances_86 (by decide) ?_
                      refine lv_icmp_eq (tgt := 97) hx hb dX6_readChances_87 (by decide) (fun c87 => ?_) (fun c87 => ?_)
                      · skip
                        rw [t_eq, show ((-1) : Int32).toInt = -1 from by decide] at c87
                        exfalso; rw [n_toInt (by omega)] at c87; omega --stop
                      · skip
                        rw [t_eq, show ((-1) : Int32).toInt = -1 from by decide] at c87
                        refine lv_aload_n hx hb dX6_readChances_90 rfl (lv_at hl 3 rfl) ?_
                        refine r_calli hW hA (va_runV (As := []) (rest := []) ⟨hx, hb, hml, hown, hts⟩ (t_X6_readSign l D G S79 _ hG hP_S79 T ts ht4 hTB e79 hok79.1) (cwV 0 hts gX6_readChances_X6_readSign rfl rfl rfl (by decide +kernel) ⟨Nat.le_of_ble_eq_true rfl, Nat.le_of_ble_eq_true rfl⟩) (r_preV (k := 12) hA hW (ci := 5) (C := RX6) (T := TX6) (N := 8) rfl rfl (g_lt hG (by decide)) (g_kd hG (by decide) rfl) rfl rfl) rfl rfl hl.1 rfl (lv_room (Nat.le_of_ble_eq_true rfl)) dX6_readChances_91 ⟨Nat.zero_le _, Nat.zero_le _⟩) (fun r91 S91 H locs hp91 hW => ?_)
                        rcases hp91 with ⟨v91, e91, hpn91, rfl, hok91⟩ | ⟨f91, p91, hpn91, rfl, hfl91⟩
                        · skip
                          have hP_S91 : GrP G S91 := fun q hq => by rw [hok91.2.2.2.1]; exact hP_S79 q hq
                          have hsp91 := SpX.ch hsp79 hh hok91.2.2.2
                          refine lv_if_ne (tgt := 99) hx hb dX6_readChances_94 (by decide) (fun c94 => ?_) (fun c94 => ?_)
                          · skip
                            refine lv_aload_n hx hb dX6_readChances_99 rfl (lv_at hl 4 rfl) ?_
                            refine lv_iload_n hx hb dX6_readChances_100 rfl (lv_at hl 1 rfl) ?_
                            refine lv_iload hx hb dX6_readChances_101 (lv_at hl 0 rfl) ?_
                            refine r_callv hW hA (va_runV (As := [.int (nI v62), .int (nI v79)]) (rest := []) ⟨hx, hb, hml, hown, hts⟩ (t_X5_addChance l D G S91 _ hG hP_S91 h hh (B 4) hn6 hsp91.2.1.2.2.2.2.1 (nI v62) (nI v79)) (cwV 2 hts gX6_readChances_X5_addChance rfl rfl rfl (by decide +kernel) ⟨Nat.le_of_ble_eq_true rfl, Nat.le_of_ble_eq_true rfl⟩) (r_preV (k := h) hA hW (ci := 4) (C := RX5) (T := TX5) (N := 16) rfl rfl (p_lt hG hh (i := 0) (by decide)) (p_kd hG hh) rfl rfl) rfl rfl hl.1 rfl (lv_room (Nat.le_of_ble_eq_true rfl)) dX6_readChances_103 ⟨Nat.zero_le _, Nat.zero_le _⟩) (fun S103 H locs hp103 hW => ?_)
                            have hP_S103 : GrP G S103 := fun q hq => by rw [hp103]; exact hP_S91 q hq
                            have hsp103 := SpX.chance hsp91 hh hn6 h17 hp103
                            have hrd103 : RdX S103 T ts e91 := by rw [hp103]; exact RdX.mv hok91.1 (e_in (by omega) (e_in (by omega) (e_in (by omega) rfl))) (e_in (by omega) (e_in (by omega) (e_in (by omega) rfl)))
                            have hl6n : gi S103 12 6 = gi S 12 6 := by rw [hp103]; exact (congrFun (e_in (by omega) (e_in (by omega) (e_in (by omega) rfl))) 6).trans (hok91.2.1.trans (hok79.2.1.trans (hok62.2.1.trans (hok30.2.1.trans hl6))))
                            have hl7n : gi S103 12 7 = gi S 12 7 := by rw [hp103]; exact (congrFun (e_in (by omega) (e_in (by omega) (e_in (by omega) rfl))) 7).trans (hok91.2.2.1.trans (hok79.2.2.1.trans (hok62.2.2.1.trans (hok30.2.2.1.trans hl7))))
                            have hCn : Ch (fun k => k = 12 ∨ k = h ∨ k = h + 1 ∨ k = h + 2) S S103 := by rw [hp103]; exact Ch.ri (Ch.ri (Ch.ri (Ch.tr (Ch.tr (Ch.tr (Ch.tr hCT (Ch.mono hok30.2.2.2 (fun _ z => Or.inl z))) (Ch.mono hok62.2.2.2 (fun _ z => Or.inl z))) (Ch.mono hok79.2.2.2 (fun _ z => Or.inl z))) (Ch.mono hok91.2.2.2 (fun _ z => Or.inl z))) (Or.inr (Or.inr (Or.inl rfl)))) (Or.inr (Or.inr (Or.inr rfl)))) (Or.inr (Or.inl rfl))
                            have hpc : pChance T ts B a = .inl (chB B v62 v79, e91) := by rw [pChance_n hn6 hpn62 hag, PB_l hpn79, PB_l hpn91]
                            have hpk := pChance_ok hpc hB h17
                            have hRn : pChs T ts 7 B0 a0 = pChs T ts (7 - chB B v62 v79 4) (chB B v62 v79) e91 := by rw [hR, pChs_s b46 h11, PB_l hpc, chB_4, show 7 - (B 4 + 1) = 6 - B 4 by omega]
                            refine lv_iinc (v := (nI (chB B v62 v79 4))) (lv' := [(2, .int (nI (chB B v62 v79 4))), (4, .int (nI v79)), (3, .int (nI v62)), (0, .ref (gA G 12)), (1, .ref (gA G h))]) hx hb dX6_readChances_106 hl (k := 2) rfl (by rw [chB_4]; exact nI_1 _) (by decide) rfl (fun ls hl => ?_)
                            refine lv_goto (tgt := 2) hx hb dX6_readChances_109 (by decide) ?_
                            exact ih2 S103 (chB B v62 v79) e91 _ _ ls (by rw [chB_4]; omega) hrd103 hl6n hl7n hsp103 hpk.1 hpk.2.2 hCn hRn hW (lv_sub hl [0, 3, 4] rfl)
                          · exact absurd c94 (by decide)
                        · skip
                          refine lv_if_ne (tgt := 99) hx hb dX6_readChances_94 (by decide) (fun c94 => ?_) (fun c94 => ?_)
                          · exact absurd (by decide) c94
                          · skip
                            refine lv_iconst (v := 0) hx hb dX6_readChances_97 (by decide) ?_
                            rw [← hQ0]
                            refine r_zret hx hb hr hlocks hW (Or.inl rfl) ?_ dX6_readChances_98
                            refine Or.inr ⟨f91, p91, hR.trans ((pChs_s b46 h11).trans (PB_r ?_)), rfl, hfl91.1, hfl91.2.1, (Ch.tr (Ch.tr (Ch.tr (Ch.tr hCT (Ch.mono hok30.2.2.2 (fun _ z => Or.inl z))) (Ch.mono hok62.2.2.2 (fun _ z => Or.inl z))) (Ch.mono hok79.2.2.2 (fun _ z => Or.inl z))) (Ch.mono hfl91.2.2.2 (fun _ z => Or.inl z)))⟩
                            rw [pChance_n hn6 hpn62 hag, PB_l hpn79, PB_r hpn91]
                    · skip
                      refine lv_istore (lv' := [(4, .int (-1)), (3, .int (nI v62)), (2, .int (nI (B 4))), (0, .ref (gA G 12)), (1, .ref (gA G h))]) hx hb dX6_readChances_82 hl (by decide) rfl (fun ls hl => ?_)
                      refine lv_iload hx hb dX6_readChances_84 (lv_at hl 0 rfl) ?_
                      refine lv_iconst (v := (-1)) hx hb dX6_readChances_86 (by decide) ?_
                      refine lv_icmp_eq (tgt := 97) hx hb dX6_readChances_87 (by decide) (fun c87 => ?_) (fun c87 => ?_)
                      · skip
                        refine lv_iconst (v := 0) hx hb dX6_readChances_97 (by decide) ?_
                        rw [← hQ0]
                        refine r_zret hx hb hr hlocks hW (Or.inl rfl) ?_ dX6_readChances_98
                        refine Or.inr ⟨f79, p79, hR.trans ((pChs_s b46 h11).trans (PB_r ?_)), rfl, hfl79.1, hfl79.2.1, (Ch.tr (Ch.tr (Ch.tr hCT (Ch.mono hok30.2.2.2 (fun _ z => Or.inl z))) (Ch.mono hok62.2.2.2 (fun _ z => Or.inl z))) (Ch.mono hfl79.2.2.2 (fun _ z => Or.inl z)))⟩
                        rw [pChance_n hn6 hpn62 hag, PB_r hpn79]
                      · exact absurd (by decide) c87
                  · skip
                    rw [t_eq, show ((-1) : Int32).toInt = -1 from by decide] at c68
                    exfalso; rw [n_toInt (by omega)] at c68; omega --stop
                · skip
                  refine lv_istore_n (lv' := [(3, .int (-1)), (2, .int (nI (B 4))), (0, .ref (gA G 12)), (1, .ref (gA G h))]) hx hb dX6_readChances_65 rfl hl (by decide) rfl (fun ls hl => ?_)
                  refine lv_iload_n hx hb dX6_readChances_66 rfl (lv_at hl 0 rfl) ?_
                  refine lv_iconst (v := (-1)) hx hb dX6_readChances_67 (by decide) ?_
                  refine lv_icmp_ne (tgt := 75) hx hb dX6_readChances_68 (by decide) (fun c68 => ?_) (fun c68 => ?_)
                  · exact absurd (by decide) c68
                  · skip
                    refine lv_iconst (v := (-1)) hx hb dX6_readChances_71 (by decide) ?_
                    refine lv_goto (tgt := 82) hx hb dX6_readChances_72 (by decide) ?_
                    refine lv_istore (lv' := [(4, .int (-1)), (3, .int (-1)), (2, .int (nI (B 4))), (0, .ref (gA G 12)), (1, .ref (gA G h))]) hx hb dX6_readChances_82 hl (by decide) rfl (fun ls hl => ?_)
                    refine lv_iload hx hb dX6_readChances_84 (lv_at hl 0 rfl) ?_
                    refine lv_iconst (v := (-1)) hx hb dX6_readChances_86 (by decide) ?_
                    refine lv_icmp_eq (tgt := 97) hx hb dX6_readChances_87 (by decide) (fun c87 => ?_) (fun c87 => ?_)
                    · skip
                      refine lv_iconst (v := 0) hx hb dX6_readChances_97 (by decide) ?_
                      rw [← hQ0]
                      refine r_zret hx hb hr hlocks hW (Or.inl rfl) ?_ dX6_readChances_98
                      refine Or.inr ⟨f62, p62, hR.trans ((pChs_s b46 h11).trans (PB_r ?_)), rfl, hfl62.1, hfl62.2.1, (Ch.tr (Ch.tr hCT (Ch.mono hok30.2.2.2 (fun _ z => Or.inl z))) (Ch.mono hfl62.2.2.2 (fun _ z => Or.inl z)))⟩
                      exact pChance_f hB hn6 hpn62
                    · exact absurd (by decide) c87
              · skip
                rw [t_eq, show (2 : Int32).toInt = 2 from by decide] at c38
                have hs2 : tS T ts (tE T ts a) = 2 := by have := tS_le (T := T) (ts := ts) (a := tE T ts a); rw [n_toInt (by omega)] at c38; omega
                refine lv_aload_n hx hb dX6_readChances_41 rfl (lv_at hl 2 rfl) ?_
                refine lv_aload_n hx hb dX6_readChances_42 rfl (lv_at hl 1 rfl) ?_
                refine r_geti (ci := 5) (C := RX6) (T := TX6) (N := 8) hx hb hts iX6 hown hW rfl 12 5 rfl (g_lt hG (by decide)) (g_kd hG (by decide) rfl) (by decide) q1 (fun _ h9 => h9) (nI (tV T ts (tE T ts a))) (hok30.1.1.2.2.2 hs2) rfl rfl dX6_readChances_43 ?_
                refine r_calli hW hA (va_runV (As := [.int (nI (tV T ts (tE T ts a)))]) (rest := []) ⟨hx, hb, hml, hown, hts⟩ (t_X5_hasChance_n l D G S30 _ hG hP_S30 h hh (B 4) b46 hsp30.2.1.2.2.2.2.1 (nI (tV T ts (tE T ts a)))) (cwV 1 hts gX6_readChances_X5_hasChance rfl rfl rfl (by decide +kernel) ⟨Nat.le_of_ble_eq_true rfl, Nat.le_of_ble_eq_true rfl⟩) (r_preV (k := h) hA hW (ci := 4) (C := RX5) (T := TX5) (N := 16) rfl rfl (p_lt hG hh (i := 0) (by decide)) (p_kd hG hh) rfl rfl) rfl rfl hl.1 rfl (lv_room (Nat.le_of_ble_eq_true rfl)) dX6_readChances_46 ⟨Nat.zero_le _, Nat.zero_le _⟩) (fun r46 S46 H locs hp46 hW => ?_)
                obtain ⟨hs46, hp46⟩ := hp46
                rw [hs46] at hW
                rcases hp46 with ⟨rfl, h46⟩ | ⟨rfl, h46⟩
                · skip
                  refine lv_if_eq (tgt := 58) hx hb dX6_readChances_49 (by decide) (fun c49 => ?_) (fun c49 => ?_)
                  · exact absurd c49 (by decide)
                  · skip
                    refine lv_aload_n hx hb dX6_readChances_52 rfl (lv_at hl 1 rfl) ?_
                    refine lv_iconst (v := 2) hx hb dX6_readChances_53 (by decide) ?_
                    refine W.eq (g2 := F0 mM 54 ls [.int (nI 2), .ref (gA G 12)]) rfl ?_
                    refine r_calli hW hA (va_runV (As := [.int (nI 2)]) (rest := []) ⟨hx, hb, hml, hown, hts⟩ (t_X6_fail l D G S30 _ hG hP_S30 2 (SK T ts (tE T ts a)) hok30.1.1.1) (cwV 1 hts gX6_readChances_X6_fail rfl rfl rfl (by decide +kernel) ⟨Nat.le_of_ble_eq_true rfl, Nat.le_of_ble_eq_true rfl⟩) (r_preV (k := 12) hA hW (ci := 5) (C := RX6) (T := TX6) (N := 8) rfl rfl (g_lt hG (by decide)) (g_kd hG (by decide) rfl) rfl rfl) rfl rfl hl.1 rfl (lv_room (Nat.le_of_ble_eq_true rfl)) dX6_readChances_54 ⟨Nat.zero_le _, Nat.zero_le _⟩) (fun r54 S54 H locs hp54 hW => ?_)
                    obtain ⟨rfl, hfl54⟩ := hp54
                    rw [← hQ0]
                    refine r_zret hx hb hr hlocks hW (Or.inl rfl) ?_ dX6_readChances_57
                    refine Or.inr ⟨2, (SK T ts (tE T ts a)), hR.trans ((pChs_s b46 h11).trans (PB_r ?_)), rfl, hfl54.1, hfl54.2.1, (Ch.tr (Ch.tr hCT (Ch.mono hok30.2.2.2 (fun _ z => Or.inl z))) (Ch.mono hfl54.2.2.2 (fun _ z => Or.inl z)))⟩
                    obtain ⟨i, hi, e⟩ := h46
                    have hb57 := b7 i hi
                    have htv := tV_le hs2
                    have e5 := (hsp30.2.2.1 i hi).1
                    unfold pChance; rw [if_neg (by omega), if_pos ⟨hs2, (agn_i _).mpr ⟨i, hi, (n_eq (by omega) (by omega)).mp (e5.symm.trans e)⟩⟩]
                · skip
                  refine lv_if_eq (tgt := 58) hx hb dX6_readChances_49 (by decide) (fun c49 => ?_) (fun c49 => ?_)
                  · skip
                    refine lv_aload_n hx hb dX6_readChances_58 rfl (lv_at hl 1 rfl) ?_
                    refine lv_iconst (v := 0) hx hb dX6_readChances_59 (by decide) ?_
                    refine lv_bipush (v := 9) hx hb dX6_readChances_60 (by decide) ?_
                    refine W.eq (g2 := F0 mM 62 ls [.int (nI 9), .int (nI 0), .ref (gA G 12)]) rfl ?_
                    refine r_calli hW hA (va_runV (As := [.int (nI 0), .int (nI 9)]) (rest := []) ⟨hx, hb, hml, hown, hts⟩ (t_X6_readNumber l D G S30 _ hG hP_S30 T ts ht4 hTB (tE T ts a) hok30.1 0 9 (by decide) (by decide)) (cwV 2 hts gX6_readChances_X6_readNumber rfl rfl rfl (by decide +kernel) ⟨Nat.le_of_ble_eq_true rfl, Nat.le_of_ble_eq_true rfl⟩) (r_preV (k := 12) hA hW (ci := 5) (C := RX6) (T := TX6) (N := 8) rfl rfl (g_lt hG (by decide)) (g_kd hG (by decide) rfl) rfl rfl) rfl rfl hl.1 rfl (lv_room (Nat.le_of_ble_eq_true rfl)) dX6_readChances_62 ⟨Nat.zero_le _, Nat.zero_le _⟩) (fun r62 S62 H locs hp62 hW => ?_)
                    rcases hp62 with ⟨v62, e62, hpn62, rfl, hok62⟩ | ⟨f62, p62, hpn62, rfl, hfl62⟩
                    · skip
                      have hP_S62 : GrP G S62 := fun q hq => by rw [hok62.2.2.2.1]; exact hP_S30 q hq
                      have hsp62 := SpX.ch hsp30 hh hok62.2.2.2
                      have hvb62 := pNum_b hpn62
                      refine lv_istore_n (lv' := [(3, .int (nI v62)), (2, .int (nI (B 4))), (0, .ref (gA G 12)), (1, .ref (gA G h))]) hx hb dX6_readChances_65 rfl hl (by decide) rfl (fun ls hl => ?_)
                      have hag : agn B v62 (B 4) = false := Bool.eq_false_iff.mpr (fun z => by obtain ⟨i, hi, e⟩ := (agn_i _).mp z; exact h46 i hi (by rw [← (pNum_i hpn62).2.1, ← e]; exact (hsp30.2.2.1 i hi).1))
                      refine lv_iload_n hx hb dX6_readChances_66 rfl (lv_at hl 0 rfl) ?_
                      refine lv_iconst (v := (-1)) hx hb dX6_readChances_67 (by decide) ?_
                      refine lv_icmp_ne (tgt := 75) hx hb dX6_readChances_68 (by decide) (fun c68 => ?_) (fun c68 => ?_)
                      · skip
                        rw [t_eq, show ((-1) : Int32).toInt = -1 from by decide] at c68
                        refine lv_aload_n hx hb dX6_readChances_75 rfl (lv_at hl 2 rfl) ?_
                        refine lv_iconst (v := 1) hx hb dX6_readChances_76 (by decide) ?_
                        refine lv_bipush (v := 9) hx hb dX6_readChances_77 (by decide) ?_
                        refine W.eq (g2 := F0 mM 79 ls [.int (nI 9), .int (nI 1), .ref (gA G 12)]) rfl ?_
                        refine r_calli hW hA (va_runV (As := [.int (nI 1), .int (nI 9)]) (rest := []) ⟨hx, hb, hml, hown, hts⟩ (t_X6_readNumber l D G S62 _ hG hP_S62 T ts ht4 hTB e62 hok62.1 1 9 (by decide) (by decide)) (cwV 2 hts gX6_readChances_X6_readNumber rfl rfl rfl (by decide +kernel) ⟨Nat.le_of_ble_eq_true rfl, Nat.le_of_ble_eq_true rfl⟩) (r_preV (k := 12) hA hW (ci := 5) (C := RX6) (T := TX6) (N := 8) rfl rfl (g_lt hG (by decide)) (g_kd hG (by decide) rfl) rfl rfl) rfl rfl hl.1 rfl (lv_room (Nat.le_of_ble_eq_true rfl)) dX6_readChances_79 ⟨Nat.zero_le _, Nat.zero_le _⟩) (fun r79 S79 H locs hp79 hW => ?_)
                        rcases hp79 with ⟨v79, e79, hpn79, rfl, hok79⟩ | ⟨f79, p79, hpn79, rfl, hfl79⟩
                        · skip
                          have hP_S79 : GrP G S79 := fun q hq => by rw [hok79.2.2.2.1]; exact hP_S62 q hq
                          have hsp79 := SpX.ch hsp62 hh hok79.2.2.2
                          have hvb79 := pNum_b hpn79
                          refine lv_istore (lv' := [(4, .int (nI v79)), (3, .int (nI v62)), (2, .int (nI (B 4))), (0, .ref (gA G 12)), (1, .ref (gA G h))]) hx hb dX6_readChances_82 hl (by decide) rfl (fun ls hl => ?_)
                          refine lv_iload hx hb dX6_readChances_84 (lv_at hl 0 rfl) ?_
                          refine lv_iconst (v := (-1)) hx hb dX6_readChances_86 (by decide) ?_
                          refine lv_icmp_eq (tgt := 97) hx hb dX6_readChances_87 (by decide) (fun c87 => ?_) (fun c87 => ?_)
                          · skip
                            rw [t_eq, show ((-1) : Int32).toInt = -1 from by decide] at c87
                            exfalso; rw [n_toInt (by omega)] at c87; omega --stop
                          · skip
                            rw [t_eq, show ((-1) : Int32).toInt = -1 from by decide] at c87
                            refine lv_aload_n hx hb dX6_readChances_90 rfl (lv_at hl 3 rfl) ?_
                            refine r_calli hW hA (va_runV (As := []) (rest := []) ⟨hx, hb, hml, hown, hts⟩ (t_X6_readSign l D G S79 _ hG hP_S79 T ts ht4 hTB e79 hok79.1) (cwV 0 hts gX6_readChances_X6_readSign rfl rfl rfl (by decide +kernel) ⟨Nat.le_of_ble_eq_true rfl, Nat.le_of_ble_eq_true rfl⟩) (r_preV (k := 12) hA hW (ci := 5) (C := RX6) (T := TX6) (N := 8) rfl rfl (g_lt hG (by decide)) (g_kd hG (by decide) rfl) rfl rfl) rfl rfl hl.1 rfl (lv_room (Nat.le_of_ble_eq_true rfl)) dX6_readChances_91 ⟨Nat.zero_le _, Nat.zero_le _⟩) (fun r91 S91 H locs hp91 hW => ?_)
                            rcases hp91 with ⟨v91, e91, hpn91, rfl, hok91⟩ | ⟨f91, p91, hpn91, rfl, hfl91⟩
                            · skip
                              have hP_S91 : GrP G S91 := fun q hq => by rw [hok91.2.2.2.1]; exact hP_S79 q hq
                              have hsp91 := SpX.ch hsp79 hh hok91.2.2.2
                              refine lv_if_ne (tgt := 99) hx hb dX6_readChances_94 (by decide) (fun c94 => ?_) (fun c94 => ?_)
                              · skip
                                refine lv_aload_n hx hb dX6_readChances_99 rfl (lv_at hl 4 rfl) ?_
                                refine lv_iload_n hx hb dX6_readChances_100 rfl (lv_at hl 1 rfl) ?_
                                refine lv_iload hx hb dX6_readChances_101 (lv_at hl 0 rfl) ?_
                                refine r_callv hW hA (va_runV (As := [.int (nI v62), .int (nI v79)]) (rest := []) ⟨hx, hb, hml, hown, hts⟩ (t_X5_addChance l D G S91 _ hG hP_S91 h hh (B 4) hn6 hsp91.2.1.2.2.2.2.1 (nI v62) (nI v79)) (cwV 2 hts gX6_readChances_X5_addChance rfl rfl rfl (by decide +kernel) ⟨Nat.le_of_ble_eq_true rfl, Nat.le_of_ble_eq_true rfl⟩) (r_preV (k := h) hA hW (ci := 4) (C := RX5) (T := TX5) (N := 16) rfl rfl (p_lt hG hh (i := 0) (by decide)) (p_kd hG hh) rfl rfl) rfl rfl hl.1 rfl (lv_room (Nat.le_of_ble_eq_true rfl)) dX6_readChances_103 ⟨Nat.zero_le _, Nat.zero_le _⟩) (fun S103 H locs hp103 hW => ?_)
                                have hP_S103 : GrP G S103 := fun q hq => by rw [hp103]; exact hP_S91 q hq
                                have hsp103 := SpX.chance hsp91 hh hn6 h17 hp103
                                have hrd103 : RdX S103 T ts e91 := by rw [hp103]; exact RdX.mv hok91.1 (e_in (by omega) (e_in (by omega) (e_in (by omega) rfl))) (e_in (by omega) (e_in (by omega) (e_in (by omega) rfl)))
                                have hl6n : gi S103 12 6 = gi S 12 6 := by rw [hp103]; exact (congrFun (e_in (by omega) (e_in (by omega) (e_in (by omega) rfl))) 6).trans (hok91.2.1.trans (hok79.2.1.trans (hok62.2.1.trans (hok30.2.1.trans hl6))))
                                have hl7n : gi S103 12 7 = gi S 12 7 := by rw [hp103]; exact (congrFun (e_in (by omega) (e_in (by omega) (e_in (by omega) rfl))) 7).trans (hok91.2.2.1.trans (hok79.2.2.1.trans (hok62.2.2.1.trans (hok30.2.2.1.trans hl7))))
                                have hCn : Ch (fun k => k = 12 ∨ k = h ∨ k = h + 1 ∨ k = h + 2) S S103 := by rw [hp103]; exact Ch.ri (Ch.ri (Ch.ri (Ch.tr (Ch.tr (Ch.tr (Ch.tr hCT (Ch.mono hok30.2.2.2 (fun _ z => Or.inl z))) (Ch.mono hok62.2.2.2 (fun _ z => Or.inl z))) (Ch.mono hok79.2.2.2 (fun _ z => Or.inl z))) (Ch.mono hok91.2.2.2 (fun _ z => Or.inl z))) (Or.inr (Or.inr (Or.inl rfl)))) (Or.inr (Or.inr (Or.inr rfl)))) (Or.inr (Or.inl rfl))
                                have hpc : pChance T ts B a = .inl (chB B v62 v79, e91) := by rw [pChance_n hn6 hpn62 hag, PB_l hpn79, PB_l hpn91]
                                have hpk := pChance_ok hpc hB h17
                                have hRn : pChs T ts 7 B0 a0 = pChs T ts (7 - chB B v62 v79 4) (chB B v62 v79) e91 := by rw [hR, pChs_s b46 h11, PB_l hpc, chB_4, show 7 - (B 4 + 1) = 6 - B 4 by omega]
                                refine lv_iinc (v := (nI (chB B v62 v79 4))) (lv' := [(2, .int (nI (chB B v62 v79 4))), (4, .int (nI v79)), (3, .int (nI v62)), (0, .ref (gA G 12)), (1, .ref (gA G h))]) hx hb dX6_readChances_106 hl (k := 2) rfl (by rw [chB_4]; exact nI_1 _) (by decide) rfl (fun ls hl => ?_)
                                refine lv_goto (tgt := 2) hx hb dX6_readChances_109 (by decide) ?_
                                exact ih2 S103 (chB B v62 v79) e91 _ _ ls (by rw [chB_4]; omega) hrd103 hl6n hl7n hsp103 hpk.1 hpk.2.2 hCn hRn hW (lv_sub hl [0, 3, 4] rfl)
                              · exact absurd c94 (by decide)
                            · skip
                              refine lv_if_ne (tgt := 99) hx hb dX6_readChances_94 (by decide) (fun c94 => ?_) (fun c94 => ?_)
                              · exact absurd (by decide) c94
                              · skip
                                refine lv_iconst (v := 0) hx hb dX6_readChances_97 (by decide) ?_
                                rw [← hQ0]
                                refine r_zret hx hb hr hlocks hW (Or.inl rfl) ?_ dX6_readChances_98
                                refine Or.inr ⟨f91, p91, hR.trans ((pChs_s b46 h11).trans (PB_r ?_)), rfl, hfl91.1, hfl91.2.1, (Ch.tr (Ch.tr (Ch.tr (Ch.tr hCT (Ch.mono hok30.2.2.2 (fun _ z => Or.inl z))) (Ch.mono hok62.2.2.2 (fun _ z => Or.inl z))) (Ch.mono hok79.2.2.2 (fun _ z => Or.inl z))) (Ch.mono hfl91.2.2.2 (fun _ z => Or.inl z)))⟩
                                rw [pChance_n hn6 hpn62 hag, PB_l hpn79, PB_r hpn91]
                        · skip
                          refine lv_istore (lv' := [(4, .int (-1)), (3, .int (nI v62)), (2, .int (nI (B 4))), (0, .ref (gA G 12)), (1, .ref (gA G h))]) hx hb dX6_readChances_82 hl (by decide) rfl (fun ls hl => ?_)
                          refine lv_iload hx hb dX6_readChances_84 (lv_at hl 0 rfl) ?_
                          refine lv_iconst (v := (-1)) hx hb dX6_readChances_86 (by decide) ?_
                          refine lv_icmp_eq (tgt := 97) hx hb dX6_readChances_87 (by decide) (fun c87 => ?_) (fun c87 => ?_)
                          · skip
                            refine lv_iconst (v := 0) hx hb dX6_readChances_97 (by decide) ?_
                            rw [← hQ0]
                            refine r_zret hx hb hr hlocks hW (Or.inl rfl) ?_ dX6_readChances_98
                            refine Or.inr ⟨f79, p79, hR.trans ((pChs_s b46 h11).trans (PB_r ?_)), rfl, hfl79.1, hfl79.2.1, (Ch.tr (Ch.tr (Ch.tr hCT (Ch.mono hok30.2.2.2 (fun _ z => Or.inl z))) (Ch.mono hok62.2.2.2 (fun _ z => Or.inl z))) (Ch.mono hfl79.2.2.2 (fun _ z => Or.inl z)))⟩
                            rw [pChance_n hn6 hpn62 hag, PB_r hpn79]
                          · exact absurd (by decide) c87
                      · skip
                        rw [t_eq, show ((-1) : Int32).toInt = -1 from by decide] at c68
                        exfalso; rw [n_toInt (by omega)] at c68; omega --stop
                    · skip
                      refine lv_istore_n (lv' := [(3, .int (-1)), (2, .int (nI (B 4))), (0, .ref (gA G 12)), (1, .ref (gA G h))]) hx hb dX6_readChances_65 rfl hl (by decide) rfl (fun ls hl => ?_)
                      refine lv_iload_n hx hb dX6_readChances_66 rfl (lv_at hl 0 rfl) ?_
                      refine lv_iconst (v := (-1)) hx hb dX6_readChances_67 (by decide) ?_
                      refine lv_icmp_ne (tgt := 75) hx hb dX6_readChances_68 (by decide) (fun c68 => ?_) (fun c68 => ?_)
                      · exact absurd (by decide) c68
                      · skip
                        refine lv_iconst (v := (-1)) hx hb dX6_readChances_71 (by decide) ?_
                        refine lv_goto (tgt := 82) hx hb dX6_readChances_72 (by decide) ?_
                        refine lv_istore (lv' := [(4, .int (-1)), (3, .int (-1)), (2, .int (nI (B 4))), (0, .ref (gA G 12)), (1, .ref (gA G h))]) hx hb dX6_readChances_82 hl (by decide) rfl (fun ls hl => ?_)
                        refine lv_iload hx hb dX6_readChances_84 (lv_at hl 0 rfl) ?_
                        refine lv_iconst (v := (-1)) hx hb dX6_readChances_86 (by decide) ?_
                        refine lv_icmp_eq (tgt := 97) hx hb dX6_readChances_87 (by decide) (fun c87 => ?_) (fun c87 => ?_)
                        · skip
                          refine lv_iconst (v := 0) hx hb dX6_readChances_97 (by decide) ?_
                          rw [← hQ0]
                          refine r_zret hx hb hr hlocks hW (Or.inl rfl) ?_ dX6_readChances_98
                          refine Or.inr ⟨f62, p62, hR.trans ((pChs_s b46 h11).trans (PB_r ?_)), rfl, hfl62.1, hfl62.2.1, (Ch.tr (Ch.tr hCT (Ch.mono hok30.2.2.2 (fun _ z => Or.inl z))) (Ch.mono hfl62.2.2.2 (fun _ z => Or.inl z)))⟩
                          exact pChance_f hB hn6 hpn62
                        · exact absurd (by decide) c87
                  · exact absurd (by decide) c49
            · skip
              rw [t_eq, show (6 : Int32).toInt = 6 from by decide] at c20
              have hn6 : B 4 = 6 := by rw [n_toInt (by omega)] at c20; omega
              refine lv_aload_n hx hb dX6_readChances_23 rfl (lv_at hl 1 rfl) ?_
              refine lv_iconst (v := 3) hx hb dX6_readChances_24 (by decide) ?_
              refine W.eq (g2 := F0 mM 25 ls [.int (nI 3), .ref (gA G 12)]) rfl ?_
              refine r_calli hW hA (va_runV (As := [.int (nI 3)]) (rest := []) ⟨hx, hb, hml, hown, hts⟩ (t_X6_fail l D G T0 _ hG hP_T0 3 (SK T ts a) hRd.1.1) (cwV 1 hts gX6_readChances_X6_fail rfl rfl rfl (by decide +kernel) ⟨Nat.le_of_ble_eq_true rfl, Nat.le_of_ble_eq_true rfl⟩) (r_preV (k := 12) hA hW (ci := 5) (C := RX6) (T := TX6) (N := 8) rfl rfl (g_lt hG (by decide)) (g_kd hG (by decide) rfl) rfl rfl) rfl rfl hl.1 rfl (lv_room (Nat.le_of_ble_eq_true rfl)) dX6_readChances_25 ⟨Nat.zero_le _, Nat.zero_le _⟩) (fun r25 S25 H locs hp25 hW => ?_)
              obtain ⟨rfl, hfl25⟩ := hp25
              rw [← hQ0]
              refine r_zret hx hb hr hlocks hW (Or.inl rfl) ?_ dX6_readChances_28
              refine Or.inr ⟨3, (SK T ts a), hR.trans ((pChs_s b46 h11).trans (PB_r ?_)), rfl, hfl25.1, hfl25.2.1, (Ch.tr hCT (Ch.mono hfl25.2.2.2 (fun _ z => Or.inl z)))⟩
              unfold pChance; rw [if_pos (by omega)]
        · skip
          refine lv_if_eq (tgt := 112) hx hb dX6_readChances_14 (by decide) (fun c14 => ?_) (fun c14 => ?_)
          · skip
            refine lv_iconst (v := 1) hx hb dX6_readChances_112 (by decide) ?_
            rw [← hQ0]
            refine r_zret hx hb hr hlocks hW (Or.inr rfl) ?_ dX6_readChances_113
            exact Or.inl ⟨B, a, hR.trans (pChs_e b46 h11), rfl, hRd, hl6, hl7, hsp, hCT⟩
          · exact absurd (by decide) c14
  exact L2 _ S B0 a0 _ _ ls (Nat.lt_succ_self _) hRd0 rfl rfl hS0 hB0 h170 Ch.rf (by rw [h40]) hW (lv_sub hl [0, 1, 2] rfl)
