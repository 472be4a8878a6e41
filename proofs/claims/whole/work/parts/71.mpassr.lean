def PBd {α : Type} (ts : Nat) (x : PRt α) : Prop := match x with
  | .inl (_, e) => e ≤ ts
  | .inr (_, p) => p ≤ ts
theorem PB_bd {α β : Type} {ts : Nat} {x : PRt α} {f : α → Nat → PRt β} (h : PBd ts x) (hf : ∀ v e, e ≤ ts → PBd ts (f v e)) : PBd ts (PB x f) := by
  cases x with
  | inl q => exact hf q.1 q.2 h
  | inr q => exact h
theorem pNum_bd {T : Nat → Nat} {ts lo hi a : Nat} (h : a ≤ ts) : PBd ts (pNum T ts lo hi a) := by
  have z := tE_le (T := T) h
  unfold pNum
  split
  · split
    · exact z.1
    · exact z.2
  · exact z.2
theorem pSign_bd {T : Nat → Nat} {ts a : Nat} (h : a ≤ ts) : PBd ts (pSign T ts a) := by
  have z := tE_le (T := T) h
  unfold pSign
  split
  · exact z.1
  · exact z.2
theorem pEnd_bd {T : Nat → Nat} {ts a : Nat} (h : a ≤ ts) : PBd ts (pEnd T ts a) := by
  have z := tE_le (T := T) h
  unfold pEnd
  split
  · exact h
  · exact z.2
theorem pLaw_bd {T : Nat → Nat} {ts a : Nat} (h : a ≤ ts) : PBd ts (pLaw T ts a) := by
  have z := tE_le (T := T) h
  unfold pLaw
  repeat' split
  all_goals first | exact z.1 | exact z.2
theorem pWay_bd {T : Nat → Nat} {ts a : Nat} (h : a ≤ ts) : PBd ts (pWay T ts a) := by
  have z := tE_le (T := T) h
  unfold pWay
  repeat' split
  all_goals first | exact z.1 | exact z.2
theorem pHut_bd {T : Nat → Nat} {ts a : Nat} (h : a ≤ ts) : PBd ts (pHut T ts a) := by
  have z := tE_le (T := T) h
  unfold pHut
  split
  · exact PB_bd (pNum_bd z.1) fun _ _ h1 => PB_bd (pNum_bd h1) fun _ _ h2 => PB_bd (pLaw_bd h2) fun _ _ h3 => PB_bd (pNum_bd h3) fun _ _ h4 => PB_bd (pSign_bd h4) fun _ _ h5 => h5
  · exact z.2
theorem pChance_bd {T : Nat → Nat} {ts a : Nat} {B : Nat → Nat} (h : a ≤ ts) : PBd ts (pChance T ts B a) := by
  have z := tE_le (T := T) h
  have z2 := tE_le (T := T) z.1
  unfold pChance
  split
  · exact z.2
  · split
    · exact z2.2
    · exact PB_bd (pNum_bd z.1) fun _ _ h1 => PB_bd (pNum_bd h1) fun _ _ h2 => PB_bd (pSign_bd h2) fun _ _ h3 => h3
theorem pChs_bd {T : Nat → Nat} {ts : Nat} : ∀ (f a : Nat) (B : Nat → Nat), a ≤ ts → PBd ts (pChs T ts f B a)
  | 0, _, _, h => h
  | f + 1, a, B, h => by
    unfold pChs
    split
    · exact PB_bd (pChance_bd h) fun B' a' h1 => pChs_bd f a' B' h1
    · exact h
theorem pParty_bd {T : Nat → Nat} {ts a : Nat} {B : Nat → Nat} (h : a ≤ ts) : PBd ts (pParty T ts B a) := by
  have z := tE_le (T := T) h
  unfold pParty
  split
  · exact z.2
  · exact PB_bd (pNum_bd z.1) fun _ _ h1 => PB_bd (pWay_bd h1) fun _ _ h2 => PB_bd (pNum_bd h2) fun _ _ h3 => PB_bd (pSign_bd h3) fun _ _ h4 => h4
theorem pPts_bd {T : Nat → Nat} {ts : Nat} : ∀ (f a : Nat) (B : Nat → Nat), a ≤ ts → PBd ts (pPts T ts f B a)
  | 0, _, _, h => h
  | f + 1, a, B, h => by
    unfold pPts
    split
    · exact PB_bd (pParty_bd h) fun B' a' h1 => pPts_bd f a' B' h1
    · exact h
theorem pPass_bd {T : Nat → Nat} {ts : Nat} : PBd ts (pPass T ts) := by
  unfold pPass
  exact PB_bd (pHut_bd (Nat.zero_le _)) fun B a h1 => PB_bd (pChs_bd 7 a B h1) fun B a h2 => PB_bd (pPts_bd 17 a B h2) fun B a h3 => PB_bd (pEnd_bd h3) fun _ _ h4 => h4
theorem pParty_4 {T : Nat → Nat} {ts a e : Nat} {B B' : Nat → Nat} (h : pParty T ts B a = .inl (B', e)) : B' 4 = B 4 := by
  unfold pParty at h
  split at h
  · cases h
  · obtain ⟨m, i1, x1, h⟩ := PB_i h
    obtain ⟨w, i2, x2, h⟩ := PB_i h
    obtain ⟨t, i3, x3, h⟩ := PB_i h
    obtain ⟨u, i4, x4, h⟩ := PB_i h
    cases h
    unfold ptB; rw [if_neg (by omega), if_neg (by omega), if_neg (by omega), if_neg (by omega)]
/-- what is still to be read -/
def pCnt (T : Nat → Nat) (ts : Nat) (B : Nat → Nat) (a : Nat) : PRt (Nat → Nat) := if B 17 = 0 then PB (pChs T ts (7 - B 4) B a) (fun B a => PB (pPts T ts 17 B a) fun B a => PB (pEnd T ts a) fun _ a => .inl (B, a)) else PB (pPts T ts (17 - B 17) B a) fun B a => PB (pEnd T ts a) fun _ a => .inl (B, a)
theorem pPass_c {T : Nat → Nat} {ts : Nat} : pPass T ts = PB (pHut T ts 0) (fun B a => pCnt T ts B a) := by
  unfold pPass
  cases h : pHut T ts 0 with
  | inr q => rfl
  | inl q =>
    obtain ⟨B, a⟩ := q
    have z := pHut_ok h
    show PB (pChs T ts 7 B a) _ = pCnt T ts B a
    unfold pCnt
    rw [if_pos z.2.2, z.2.1]
theorem pCnt_c {T : Nat → Nat} {ts a : Nat} {B : Nat → Nat} (hB : Tld B) (h17 : B 17 = 0) (hw : isW T ts a 1) : pCnt T ts B a = PB (pChance T ts B a) (fun B' a' => pCnt T ts B' a') := by
  have h4 := hB.1.2.2.2.2.2.2.1
  have e : pCnt T ts B a = PB (pChs T ts ((6 - B 4) + 1) B a) (fun B a => PB (pPts T ts 17 B a) fun B a => PB (pEnd T ts a) fun _ a => .inl (B, a)) := by
    unfold pCnt
    rw [if_pos h17, show 7 - B 4 = (6 - B 4) + 1 by omega]
  rw [e]
  show PB (if isW T ts a 1 then PB (pChance T ts B a) (fun B' a' => pChs T ts (6 - B 4) B' a') else .inl (B, a)) _ = _
  rw [if_pos hw]
  cases h : pChance T ts B a with
  | inr q => rfl
  | inl q =>
    obtain ⟨B', a'⟩ := q
    have z := pChance_ok h hB h17
    show PB (pChs T ts (6 - B 4) B' a') _ = pCnt T ts B' a'
    unfold pCnt
    rw [if_pos z.2.2, z.2.1, show 7 - (B 4 + 1) = 6 - B 4 by omega]
theorem pCnt_0 {T : Nat → Nat} {ts a : Nat} {B : Nat → Nat} (hB : Tld B) (hn : ¬ (isW T ts a 1 ∧ B 17 = 0)) : pCnt T ts B a = PB (pPts T ts ((16 - B 17) + 1) B a) (fun B a => PB (pEnd T ts a) fun _ a => .inl (B, a)) := by
  have h4 := hB.1.2.2.2.2.2.2.1
  have h16 := hB.1.2.2.2.2.2.2.2.2.1
  by_cases e : B 17 = 0
  · have hw : ¬ isW T ts a 1 := fun z => hn ⟨z, e⟩
    have e1 : pCnt T ts B a = PB (pChs T ts ((6 - B 4) + 1) B a) (fun B a => PB (pPts T ts 17 B a) fun B a => PB (pEnd T ts a) fun _ a => .inl (B, a)) := by
      unfold pCnt
      rw [if_pos e, show 7 - B 4 = (6 - B 4) + 1 by omega]
    rw [e1]
    show PB (if isW T ts a 1 then PB (pChance T ts B a) (fun B' a' => pChs T ts (6 - B 4) B' a') else .inl (B, a)) _ = _
    rw [if_neg hw, e]
    rfl
  · unfold pCnt
    rw [if_neg e, show 17 - B 17 = (16 - B 17) + 1 by omega]
theorem pCnt_p {T : Nat → Nat} {ts a : Nat} {B : Nat → Nat} (hB : Tld B) (hn : ¬ (isW T ts a 1 ∧ B 17 = 0)) (hw : isW T ts a 2) : pCnt T ts B a = PB (pParty T ts B a) (fun B' a' => pCnt T ts B' a') := by
  have h16 := hB.1.2.2.2.2.2.2.2.2.1
  rw [pCnt_0 hB hn]
  show PB (if isW T ts a 2 then PB (pParty T ts B a) (fun B' a' => pPts T ts (16 - B 17) B' a') else .inl (B, a)) _ = _
  rw [if_pos hw]
  cases h : pParty T ts B a with
  | inr q => rfl
  | inl q =>
    obtain ⟨B', a'⟩ := q
    have z := pParty_ok h hB
    show PB (pPts T ts (16 - B 17) B' a') _ = pCnt T ts B' a'
    unfold pCnt
    rw [if_neg (by omega), z.2, show 17 - (B 17 + 1) = 16 - B 17 by omega]
theorem pCnt_e {T : Nat → Nat} {ts a : Nat} {B : Nat → Nat} (hB : Tld B) (hn : ¬ (isW T ts a 1 ∧ B 17 = 0)) (hw : ¬ isW T ts a 2) : pCnt T ts B a = PB (pEnd T ts a) (fun _ a => .inl (B, a)) := by
  rw [pCnt_0 hB hn]
  show PB (if isW T ts a 2 then PB (pParty T ts B a) (fun B' a' => pPts T ts (16 - B 17) B' a') else .inl (B, a)) _ = _
  rw [if_neg hw]
  rfl
theorem nw0 {r : Nat → Int64} (h : ∀ j, j < 140 → r (420 + j) = 0) : ∀ k, k < 140 → va_up r 552 1 (420 + k) = lN (if k = 132 then 1 else 0) := by
  intro k hk
  by_cases e : k = 132
  · subst e; rw [if_pos rfl]; exact up_s _ _ _
  · rw [if_neg e, up_n _ _ (by omega), h k hk]; rfl
def rmX11_pass : Jvm.Room := { frames := 5, cells := 0, slots := 0, locals := 112 }
set_option maxHeartbeats 4000000 in
set_option maxRecDepth 100000 in
theorem t_X11_pass (l : Launch) (D : Dc) (G : Gg) (S : Sg) (z : Nat) (hG : GrG G) (hP : GrP G S) (T : Nat → Nat) (ts : Nat) (ht4 : ts ≤ 400) (hTB : ∀ i, i < ts → T i ≤ 255) (hX : TpM S T ts) (B0 : Nat → Nat) (lf : Nat) (hM : ∀ k, k < 140 → gj S 66 k = lN (B0 k)) (h14 : gi S 65 14 = nI lf) : ML l yX11_pass wsX11_pass rmX11_pass D G S z [.ref (gA G 65)] (fun r S' => r = (fPass T ts B0 lf).1 ∧ (∀ k, k < 140 → gj S' 66 k = lN ((fPass T ts B0 lf).2.1 k)) ∧ (∀ k, 140 ≤ k → k < 420 → gj S' 66 k = gj S 66 k) ∧ gi S' 65 14 = nI (fPass T ts B0 lf).2.2 ∧ gi S' 65 7 = 0 ∧ (∀ j, j < 7 ∨ 14 < j → gi S' 65 j = gi S 65 j) ∧ Ch (fun k => k = 65 ∨ k = 66) S S') := by
  refine Met.ofW (cc := cX11_pass) (maxL := 3) (ret := (some .long)) (by decide +kernel) rfl ?_
  intro pP eE s mM args bl mT cD s₁ bD hml hv
  obtain ⟨rfl, hv⟩ := hv
  have hz := hv.1
  subst hz
  have hx := bD.exec
  have hb := bD.bytes
  have hr := bD.returns
  have hts := atoms_spec (ws := wsX11_pass) bD.pre
  have hown : s.vm.findClass RX11 = some mM.cls := findClass_of_methodNamed bD.named
  have hlocks := bD.notSynchronized
  have hW := Wd.start hv
  have hA : ∀ q, s.heap.size ≤ q → AW G s.heap.size q := fun q h => Or.inr h
  have hl := lv_entry ([.ref (gA G 65)]) (n := 3) (Nat.le_of_ble_eq_true rfl)
  rw [lg_entry_eq]
  generalize (lg_sl ([.ref (gA G 65)]) ++ List.replicate (3 - (lg_sl ([.ref (gA G 65)])).length) Slot.unset).toArray = ls at hl ⊢
  have hl : lv_has ls 3 [(0, .ref (gA G 65))] := hl
  have q0 := hts (.fieldLink RX11 91 "WoodForTwoModel" "at" "I") (List.mem_of_getElem? (i := 1) rfl)
  have q1 := hts (.fieldLink RX11 109 "WoodForTwoModel" "faultOf" "I") (List.mem_of_getElem? (i := 2) rfl)
  have q2 := hts (.fieldLink RX11 7 "WoodForTwoModel" "w" "[J") (List.mem_of_getElem? (i := 3) rfl)
  have q3 := hts (.fieldLink RX11 100 "WoodForTwoModel" "token" "I") (List.mem_of_getElem? (i := 4) rfl)
  have q4 := hts (.fieldLink RX11 76 "WoodForTwoModel" "tapeSize" "I") (List.mem_of_getElem? (i := 5) rfl)
  have q5 := hts (.fieldLink RX11 145 "WoodForTwoModel" "latest" "I") (List.mem_of_getElem? (i := 6) rfl)
  have q6 := hts (.constantLong RX11 148 (-9000000000000000100)) (List.mem_of_getElem? (i := 7) rfl)
  have q7 := hts (.fieldLink RX11 112 "WoodForTwoModel" "faultAt" "I") (List.mem_of_getElem? (i := 8) rfl)
  have iX11 : ∀ w ∈ wsX110, w ∈ wsX11_pass := fun _ h => List.mem_cons_of_mem _ (List.mem_append_right _ (h))
  generalize hQ0 : MQ bl _ _ s _ _ _ = Q0
  refine lv_aload_n hx hb dX11_pass_0 rfl (lv_at hl 0 rfl) ?_
  refine lv_iconst (v := 0) hx hb dX11_pass_1 (by decide) ?_
  refine r_puti (ci := 10) (C := RX11) (T := TX11) (N := 20) hx hb hts iX11 tyX11 tyX11_ok nmX11 hown hW rfl 65 8 rfl (g_lt hG (by decide)) (g_kd hG (by decide) rfl) (by decide) q0 (fun _ h9 => h9) rfl (tyX11_ok 8 (by decide)) rfl rfl (ri S 65 (va_up (gi S 65) 8 0)) (gi S 65) (va_up (gi S 65) 8 0) rfl (e_is _ _ _) rfl rfl rfl (Nat.le_of_ble_eq_true rfl) rfl c_i0 dX11_pass_2 (fun H locs hW => ?_)
  refine lv_aload_n hx hb dX11_pass_5 rfl (lv_at hl 0 rfl) ?_
  refine lv_iconst (v := 0) hx hb dX11_pass_6 (by decide) ?_
  refine r_puti (ci := 10) (C := RX11) (T := TX11) (N := 20) hx hb hts iX11 tyX11 tyX11_ok nmX11 hown hW rfl 65 12 rfl (g_lt hG (by decide)) (g_kd hG (by decide) rfl) (by decide) q1 (fun _ h9 => h9) rfl (tyX11_ok 12 (by decide)) rfl rfl (ri S 65 (va_up (va_up (gi S 65) 8 0) 12 0)) (va_up (gi S 65) 8 0) (va_up (va_up (gi S 65) 8 0) 12 0) (e_is _ _ _) (e_is _ _ _) rfl rfl rfl (Nat.le_of_ble_eq_true rfl) rfl c_i dX11_pass_7 (fun H locs hW => ?_)
  refine lv_iconst (v := 0) hx hb dX11_pass_10 (by decide) ?_
  refine lv_istore_n (lv' := [(1, .int 0), (0, .ref (gA G 65))]) hx hb dX11_pass_11 rfl hl (by decide) rfl (fun ls hl => ?_)
  rw [show (ri S 65 (va_up (va_up (gi S 65) 8 0) 12 0)) = (rj (ri S 65 (va_up (va_up (gi S 65) 8 0) 12 0)) 66 (gj S 66)) from (rj_id (ri S 65 (va_up (va_up (gi S 65) 8 0) 12 0)) 66).symm] at hW
  have L12 : ∀ (n : Nat) (k : Nat) (rw : Nat → Int64) (H : Heap) (locs : List Loc) (ls : Array Slot), (140 - k) < n → k ≤ 140 → (∀ j, j < k → rw (420 + j) = 0) → (∀ j, j < 420 → rw j = gj S 66 j) → Wd D (AW G s.heap.size) s G (rj (ri S 65 (va_up (va_up (gi S 65) 8 0) 12 0)) 66 rw) H locs → lv_has ls 3 [(1, .int (nI k)), (0, .ref (gA G 65))] → W pP l eE (headSpec wsX11_pass rmX11_pass).room s mM ([.ref (gA G 65)] : List Value).toArray bl mT cD H locs 0 0 Q0 (F0 mM 12 ls []) := by
    intro n
    induction n with
    | zero => intro k rw H locs ls hm; exact absurd hm (Nat.not_lt_zero _)
    | succ n ih12 =>
      intro k rw H locs ls hm12 hk hz hf hW hl
      refine lv_iload_n hx hb dX11_pass_12 rfl (lv_at hl 0 rfl) ?_
      refine lv_sipush (v := 140) hx hb dX11_pass_13 (by decide) ?_
      refine lv_icmp_ge (tgt := 36) hx hb dX11_pass_16 (by decide) (fun c16 => ?_) (fun c16 => ?_)
      · skip
        rw [t_le, show (140 : Int32).toInt = 140 from by decide] at c16
        have hge : 140 ≤ k := by rw [n_toInt (by omega)] at c16; omega
        refine lv_aload_n hx hb dX11_pass_36 rfl (lv_at hl 1 rfl) ?_
        refine r_getr (ci := 10) (C := RX11) (T := TX11) (N := 20) hx hb hts iX11 hown hW rfl 65 0 rfl (g_lt hG (by decide)) (g_kd hG (by decide) rfl) (by decide) q2 (fun _ h9 => h9) (hP _ (List.mem_of_getElem? (i := 60) rfl)) rfl rfl dX11_pass_37 ?_
        refine lv_sipush (v := 552) hx hb dX11_pass_40 (by decide) ?_
        refine lv_lconst (v := 1) hx hb dX11_pass_43 (by decide) ?_
        refine W.eq (g2 := F0 mM 44 ls [.long 1, .int (nI 552), .ref (gA G 66)]) rfl ?_
        refine r_last hx hb hW 66 rfl (g_lt hG (by decide)) (g_kd hG (by decide) rfl) (g_ix hG (c := 560) (by decide) rfl (n_inI (by omega) (by decide))) (rj (ri S 65 (va_up (va_up (gi S 65) 8 0) 12 0)) 66 (va_up rw ((nI 552)).toNatClampNeg 1)) rw (e_js _ _ _) (e_js _ _ _) rfl rfl c_j dX11_pass_44 (fun H locs hW => ?_)
        rw [show ((nI 552)).toNatClampNeg = 552 from n_clamp (by omega)] at hW
        refine lv_aload_n hx hb dX11_pass_45 rfl (lv_at hl 1 rfl) ?_
        have hk140 : k = 140 := by omega
        subst hk140
        have hAt0 : AtM (rj (ri S 65 (va_up (va_up (gi S 65) 8 0) 12 0)) 66 (va_up rw 552 1)) T ts 0 := ⟨⟨(congrFun (e_ij (e_is _ _ _)) 7).trans hX.1, fun i hi => (congrFun (e_ij (e_in (by decide) rfl)) i).trans (hX.2 i hi)⟩, congrFun (e_ij (e_is _ _ _)) 8, Nat.zero_le _, congrFun (e_ij (e_is _ _ _)) 12⟩
        have hN0 : NwM (rj (ri S 65 (va_up (va_up (gi S 65) 8 0) 12 0)) 66 (va_up rw 552 1)) (fun k => if k = 132 then 1 else 0) := fun k hk => (congrFun (e_js _ _ _) _).trans (nw0 hz k hk)
        have hF0 : FrM S (rj (ri S 65 (va_up (va_up (gi S 65) 8 0) 12 0)) 66 (va_up rw 552 1)) := FrM.rj (FrM.ri FrM.rf (fun j hj => (up_n _ _ (by omega)).trans (up_n _ _ (by omega)))) (fun k hk => (up_n _ _ (by omega)).trans (hf k hk))
        refine r_callv hW hA (va_runV (As := []) (rest := []) ⟨hx, hb, hml, hown, hts⟩ (t_X11_takeHut l D G (rj (ri S 65 (va_up (va_up (gi S 65) 8 0) 12 0)) 66 (va_up rw 552 1)) _ hG hP T ts ht4 hTB 0 hAt0 hN0) (cwV 0 hts gX11_pass_X11_takeHut rfl rfl rfl (by decide +kernel) ⟨Nat.le_of_ble_eq_true rfl, Nat.le_of_ble_eq_true rfl⟩) (r_preV (k := 65) hA hW (ci := 10) (C := RX11) (T := TX11) (N := 20) rfl rfl (g_lt hG (by decide)) (g_kd hG (by decide) rfl) rfl rfl) rfl rfl hl.1 rfl (lv_room (Nat.le_of_ble_eq_true rfl)) dX11_pass_46 ⟨Nat.zero_le _, Nat.zero_le _⟩) (fun S46 H locs hp46 hW => ?_)
        rcases hp46 with ⟨B1, e1, hpn, hok⟩ | ⟨f1, p1, hpn, hfl⟩
        · skip
          have hR1 : pPass T ts = pCnt T ts B1 e1 := by rw [pPass_c, PB_l hpn]
          have hB1 := (pHut_ok hpn).1
          refine lv_aload_n hx hb dX11_pass_49 rfl (lv_at hl 1 rfl) ?_
          refine r_geti (ci := 10) (C := RX11) (T := TX11) (N := 20) hx hb hts iX11 hown hW rfl 65 12 rfl (g_lt hG (by decide)) (g_kd hG (by decide) rfl) (by decide) q1 (fun _ h9 => h9) 0 hok.1.2.2.2 rfl rfl dX11_pass_50 ?_
          refine lv_if_ne (tgt := 60) hx hb dX11_pass_53 (by decide) (fun c53 => ?_) (fun c53 => ?_)
          · exact absurd (by decide) c53
          · skip
            refine lv_iconst (v := 1) hx hb dX11_pass_56 (by decide) ?_
            refine lv_goto (tgt := 61) hx hb dX11_pass_57 (by decide) ?_
            refine lv_istore_n (lv' := [(1, .int 1), (0, .ref (gA G 65))]) hx hb dX11_pass_61 rfl hl (by decide) rfl (fun ls hl => ?_)
            have L62 : ∀ (n : Nat) (T0 : Sg) (B : Nat → Nat) (a : Nat) (b0 : Int32) (H : Heap) (locs : List Loc) (ls : Array Slot), (if b0 = 1 then 24 - B 4 - B 17 else 0) < n → FrM S T0 → ((b0 = 1 ∧ AtM T0 T ts a ∧ NwM T0 B ∧ Tld B ∧ pPass T ts = pCnt T ts B a) ∨ (b0 = 0 ∧ (∃ f p, pPass T ts = .inr (f, p) ∧ gi T0 65 12 = nI f ∧ gi T0 65 13 = nI p ∧ (1 ≤ f ∧ f ≤ 3))) ∨ (b0 = 0 ∧ gi T0 65 12 = 0 ∧ NwM T0 B ∧ Tld B ∧ ∃ e, pPass T ts = .inl (B, e))) → Wd D (AW G s.heap.size) s G T0 H locs → lv_has ls 3 [(1, .int b0), (0, .ref (gA G 65))] → W pP l eE (headSpec wsX11_pass rmX11_pass).room s mM ([.ref (gA G 65)] : List Value).toArray bl mT cD H locs 0 0 Q0 (F0 mM 62 ls []) := by
              intro n
              induction n with
              | zero => intro T0 B a b0 H locs ls hm; exact absurd hm (Nat.not_lt_zero _)
              | succ n ih62 =>
                intro T0 B a b0 H locs ls hm62 hFT hbv hW hl
                have hP_T0 : GrP G T0 := fun q hq => by rw [hFT.2.2.1]; exact hP q hq
                refine lv_iload_n hx hb dX11_pass_62 rfl (lv_at hl 0 rfl) ?_
                rcases hbv with ⟨rfl, hAt, hN, hB, hR⟩ | ⟨rfl, f, p, hR, h12, h13, hfb⟩ | ⟨rfl, h12, hN, hB, eE2, hR⟩
                · skip
                  have b46 := hB.1.2.2.2.2.2.2.1
                  have b17 := hB.1.2.2.2.2.2.2.2.2.1
                  rw [if_pos rfl] at hm62
                  refine lv_if_eq (tgt := 178) hx hb dX11_pass_63 (by decide) (fun c63 => ?_) (fun c63 => ?_)
                  · exact absurd c63 (by decide)
                  · skip
                    refine lv_aload_n hx hb dX11_pass_66 rfl (lv_at hl 1 rfl) ?_
                    refine r_callv hW hA (va_runV (As := []) (rest := []) ⟨hx, hb, hml, hown, hts⟩ (t_X11_goOn l D G T0 _ hG hP_T0 T ts ht4 hTB hAt.1 a hAt.2.2.1 hAt.2.1) (cwV 0 hts gX11_pass_X11_goOn rfl rfl rfl (by decide +kernel) ⟨Nat.le_of_ble_eq_true rfl, Nat.le_of_ble_eq_true rfl⟩) (r_preV (k := 65) hA hW (ci := 10) (C := RX11) (T := TX11) (N := 20) rfl rfl (g_lt hG (by decide)) (g_kd hG (by decide) rfl) rfl rfl) rfl rfl hl.1 rfl (lv_room (Nat.le_of_ble_eq_true rfl)) dX11_pass_67 ⟨Nat.zero_le _, Nat.zero_le _⟩) (fun SG H locs hpG hW => ?_)
                    obtain ⟨hTk, hfr, hCg⟩ := hpG
                    have hP_SG : GrP G SG := fun q hq => by rw [hCg.1]; exact hP_T0 q hq
                    have hXG : TpM SG T ts := ⟨(hfr 7 (by decide) (by decide) (by decide) (by decide)).trans hAt.1.1, fun i hi => (congrFun (hCg.2 71 (by decide)).1 i).trans (hAt.1.2 i hi)⟩
                    have h12G : gi SG 65 12 = 0 := (hfr 12 (by decide) (by decide) (by decide) (by decide)).trans hAt.2.2.2
                    have hle := tE_le (T := T) hAt.2.2.1
                    have htl := tS_le (T := T) (ts := ts) (a := a)
                    have hNG : NwM SG B := fun k hk => (congrFun (hCg.2 66 (by decide)).2 _).trans (hN k hk)
                    have hFrG : FrM S SG := FrM.tr hFT ⟨fun j hj => hfr j (by omega) (by omega) (by omega) (by omega), fun k _ => congrFun (hCg.2 66 (by decide)).2 k, Ch.mono hCg (fun _ hk => Or.inl hk)⟩
                    refine lv_aload_n hx hb dX11_pass_70 rfl (lv_at hl 1 rfl) ?_
                    refine lv_bipush (v := 6) hx hb dX11_pass_71 (by decide) ?_
                    refine lv_bipush (v := 99) hx hb dX11_pass_73 (by decide) ?_
                    refine lv_bipush (v := 104) hx hb dX11_pass_75 (by decide) ?_
                    refine lv_bipush (v := 97) hx hb dX11_pass_77 (by decide) ?_
                    refine lv_bipush (v := 110) hx hb dX11_pass_79 (by decide) ?_
                    refine lv_bipush (v := 99) hx hb dX11_pass_81 (by decide) ?_
                    refine lv_bipush (v := 101) hx hb dX11_pass_83 (by decide) ?_
                    refine W.eq (g2 := F0 mM 85 ls [.int (chI 1 5), .int (chI 1 4), .int (chI 1 3), .int (chI 1 2), .int (chI 1 1), .int (chI 1 0), .int (nI (sLen.getD 1 0)), .ref (gA G 65)]) rfl ?_
                    refine r_calli hW hA (va_runV (As := [.int (nI (sLen.getD 1 0)), .int (chI 1 0), .int (chI 1 1), .int (chI 1 2), .int (chI 1 3), .int (chI 1 4), .int (chI 1 5)]) (rest := []) ⟨hx, hb, hml, hown, hts⟩ (t_X11_isName l D G SG _ hG hP_SG T ts ht4 hTB a hAt.2.2.1 hXG hTk 1 (by decide)) (cwV 7 hts gX11_pass_X11_isName rfl rfl rfl (by decide +kernel) ⟨Nat.le_of_ble_eq_true rfl, Nat.le_of_ble_eq_true rfl⟩) (r_preV (k := 65) hA hW (ci := 10) (C := RX11) (T := TX11) (N := 20) rfl rfl (g_lt hG (by decide)) (g_kd hG (by decide) rfl) rfl rfl) rfl rfl hl.1 rfl (lv_room (Nat.le_of_ble_eq_true rfl)) dX11_pass_85 ⟨Nat.zero_le _, Nat.zero_le _⟩) (fun r85 S85 H locs hp85 hW => ?_)
                    obtain ⟨hs85, hp85⟩ := hp85
                    rw [hs85] at hW
                    rcases hp85 with ⟨rfl, h85⟩ | ⟨rfl, h85⟩
                    · skip
                      refine lv_if_eq (tgt := 111) hx hb dX11_pass_88 (by decide) (fun c88 => ?_) (fun c88 => ?_)
                      · exact absurd c88 (by decide)
                      · skip
                        refine lv_aload_n hx hb dX11_pass_91 rfl (lv_at hl 1 rfl) ?_
                        refine r_getr (ci := 10) (C := RX11) (T := TX11) (N := 20) hx hb hts iX11 hown hW rfl 65 0 rfl (g_lt hG (by decide)) (g_kd hG (by decide) rfl) (by decide) q2 (fun _ h9 => h9) (hP_SG _ (List.mem_of_getElem? (i := 60) rfl)) rfl rfl dX11_pass_92 ?_
                        refine lv_sipush (v := 437) hx hb dX11_pass_95 (by decide) ?_
                        refine W.eq (g2 := F0 mM 98 ls [.int (nI 437), .ref (gA G 66)]) rfl ?_
                        refine r_lald hx hb hW 66 rfl (g_lt hG (by decide)) (g_kd hG (by decide) rfl) (g_ix hG (c := 560) (by decide) rfl (n_inI (by omega) (by decide))) (lN (B 17)) (by rw [n_clamp (by omega)]; exact (hNG 17 (by decide))) dX11_pass_98 ?_
                        refine lv_lconst (v := 0) hx hb dX11_pass_99 (by decide) ?_
                        refine W.lcmp hx hb dX11_pass_100 ?_
                        refine lv_if_ne (tgt := 111) hx hb dX11_pass_101 (by decide) (fun c101 => ?_) (fun c101 => ?_)
                        · skip
                          rw [lc_ne] at c101
                          have h17n : ¬ B 17 = 0 := by rw [lN_int (by omega), show (0 : Int64).toInt = 0 from by decide] at c101; omega
                          have hnot : ¬ (isW T ts a 1 ∧ B 17 = 0) := fun z => h17n z.2
                          refine lv_aload_n hx hb dX11_pass_111 rfl (lv_at hl 1 rfl) ?_
                          refine lv_iconst (v := 5) hx hb dX11_pass_112 (by decide) ?_
                          refine lv_bipush (v := 112) hx hb dX11_pass_113 (by decide) ?_
                          refine lv_bipush (v := 97) hx hb dX11_pass_115 (by decide) ?_
                          refine lv_bipush (v := 114) hx hb dX11_pass_117 (by decide) ?_
                          refine lv_bipush (v := 116) hx hb dX11_pass_119 (by decide) ?_
                          refine lv_bipush (v := 121) hx hb dX11_pass_121 (by decide) ?_
                          refine lv_iconst (v := 0) hx hb dX11_pass_123 (by decide) ?_
                          refine W.eq (g2 := F0 mM 124 ls [.int (chI 2 5), .int (chI 2 4), .int (chI 2 3), .int (chI 2 2), .int (chI 2 1), .int (chI 2 0), .int (nI (sLen.getD 2 0)), .ref (gA G 65)]) rfl ?_
                          refine r_calli hW hA (va_runV (As := [.int (nI (sLen.getD 2 0)), .int (chI 2 0), .int (chI 2 1), .int (chI 2 2), .int (chI 2 3), .int (chI 2 4), .int (chI 2 5)]) (rest := []) ⟨hx, hb, hml, hown, hts⟩ (t_X11_isName l D G SG _ hG hP_SG T ts ht4 hTB a hAt.2.2.1 hXG hTk 2 (by decide)) (cwV 7 hts gX11_pass_X11_isName rfl rfl rfl (by decide +kernel) ⟨Nat.le_of_ble_eq_true rfl, Nat.le_of_ble_eq_true rfl⟩) (r_preV (k := 65) hA hW (ci := 10) (C := RX11) (T := TX11) (N := 20) rfl rfl (g_lt hG (by decide)) (g_kd hG (by decide) rfl) rfl rfl) rfl rfl hl.1 rfl (lv_room (Nat.le_of_ble_eq_true rfl)) dX11_pass_124 ⟨Nat.zero_le _, Nat.zero_le _⟩) (fun r124 S124 H locs hp124 hW => ?_)
                          obtain ⟨hs124, hp124⟩ := hp124
                          rw [hs124] at hW
                          rcases hp124 with ⟨rfl, h124⟩ | ⟨rfl, h124⟩
                          · skip
                            refine lv_if_eq (tgt := 137) hx hb dX11_pass_127 (by decide) (fun c127 => ?_) (fun c127 => ?_)
                            · exact absurd c127 (by decide)
                            · skip
                              refine lv_aload_n hx hb dX11_pass_130 rfl (lv_at hl 1 rfl) ?_
                              have hAtG : AtM SG T ts (tE T ts a) := ⟨hXG, hTk.2.2.1 (by have := h124.1; omega), hle.1, h12G⟩
                              refine r_callv hW hA (va_runV (As := []) (rest := []) ⟨hx, hb, hml, hown, hts⟩ (t_X11_takeParty l D G SG _ hG hP_SG T ts ht4 hTB a hAtG hTk.1 B hB hNG) (cwV 0 hts gX11_pass_X11_takeParty rfl rfl rfl (by decide +kernel) ⟨Nat.le_of_ble_eq_true rfl, Nat.le_of_ble_eq_true rfl⟩) (r_preV (k := 65) hA hW (ci := 10) (C := RX11) (T := TX11) (N := 20) rfl rfl (g_lt hG (by decide)) (g_kd hG (by decide) rfl) rfl rfl) rfl rfl hl.1 rfl (lv_room (Nat.le_of_ble_eq_true rfl)) dX11_pass_131 ⟨Nat.zero_le _, Nat.zero_le _⟩) (fun S131 H locs hp131 hW => ?_)
                              rcases hp131 with ⟨B2, e2, hpn, hok, hx10⟩ | ⟨f2, p2, hpn, hfl⟩
                              · skip
                                have hB2 := pParty_ok hpn hB
                                have hB24 := pParty_4 hpn
                                have hR2 : pPass T ts = pCnt T ts B2 e2 := by rw [hR, pCnt_p hB hnot h124, PB_l hpn]
                                have hP_S131 : GrP G S131 := fun q hq => by rw [hok.2.2.2.2.1]; exact hP_SG q hq
                                refine lv_goto (tgt := 155) hx hb dX11_pass_134 (by decide) ?_
                                refine lv_aload_n hx hb dX11_pass_155 rfl (lv_at hl 1 rfl) ?_
                                refine r_geti (ci := 10) (C := RX11) (T := TX11) (N := 20) hx hb hts iX11 hown hW rfl 65 12 rfl (g_lt hG (by decide)) (g_kd hG (by decide) rfl) (by decide) q1 (fun _ h9 => h9) 0 hok.1.2.2.2 rfl rfl dX11_pass_156 ?_
                                refine lv_if_ne (tgt := 173) hx hb dX11_pass_159 (by decide) (fun c159 => ?_) (fun c159 => ?_)
                                · exact absurd (by decide) c159
                                · skip
                                  refine lv_aload_n hx hb dX11_pass_162 rfl (lv_at hl 1 rfl) ?_
                                  refine r_geti (ci := 10) (C := RX11) (T := TX11) (N := 20) hx hb hts iX11 hown hW rfl 65 10 rfl (g_lt hG (by decide)) (g_kd hG (by decide) rfl) (by decide) q3 (fun _ h9 => h9) (nI 3) hx10 rfl rfl dX11_pass_163 ?_
                                  refine lv_if_eq (tgt := 173) hx hb dX11_pass_166 (by decide) (fun c166 => ?_) (fun c166 => ?_)
                                  · skip
                                    rw [t_eq, show (0 : Int32).toInt = 0 from by decide] at c166
                                    exfalso; rw [n_toInt (by omega)] at c166; omega --stop
                                  · skip
                                    rw [t_eq, show (0 : Int32).toInt = 0 from by decide] at c166
                                    refine lv_iconst (v := 1) hx hb dX11_pass_169 (by decide) ?_
                                    refine lv_goto (tgt := 174) hx hb dX11_pass_170 (by decide) ?_
                                    refine lv_istore_n (lv' := [(1, .int 1), (0, .ref (gA G 65))]) hx hb dX11_pass_174 rfl hl (by decide) rfl (fun ls hl => ?_)
                                    refine lv_goto (tgt := 62) hx hb dX11_pass_175 (by decide) ?_
                                    exact ih62 S131 B2 e2 1 _ _ ls (by rw [if_pos rfl]; omega) (FrM.tr hFrG hok.2.2) (Or.inl ⟨rfl, hok.1, hok.2.1, hB2.1, hR2⟩) hW (lv_sub hl [0, 1] rfl)
                              · skip
                                have hR2 : pPass T ts = .inr (f2, p2) := by rw [hR, pCnt_p hB hnot h124, PB_r hpn]
                                have hP_S131 : GrP G S131 := fun q hq => by rw [hfl.2.2.2.2.2.1]; exact hP_SG q hq
                                have hf3 := hfl.2.2.1
                                refine lv_goto (tgt := 155) hx hb dX11_pass_134 (by decide) ?_
                                refine lv_aload_n hx hb dX11_pass_155 rfl (lv_at hl 1 rfl) ?_
                                refine r_geti (ci := 10) (C := RX11) (T := TX11) (N := 20) hx hb hts iX11 hown hW rfl 65 12 rfl (g_lt hG (by decide)) (g_kd hG (by decide) rfl) (by decide) q1 (fun _ h9 => h9) (nI f2) hfl.1 rfl rfl dX11_pass_156 ?_
                                refine lv_if_ne (tgt := 173) hx hb dX11_pass_159 (by decide) (fun c159 => ?_) (fun c159 => ?_)
                                · skip
                                  rw [t_eq, show (0 : Int32).toInt = 0 from by decide] at c159
                                  refine lv_iconst (v := 0) hx hb dX11_pass_173 (by decide) ?_
                                  refine lv_istore_n (lv' := [(1, .int 0), (0, .ref (gA G 65))]) hx hb dX11_pass_174 rfl hl (by decide) rfl (fun ls hl => ?_)
                                  refine lv_goto (tgt := 62) hx hb dX11_pass_175 (by decide) ?_
                                  exact ih62 S131 B a 0 _ _ ls (by rw [if_neg (by decide)]; omega) (FrM.tr hFrG hfl.2.2.2) (Or.inr (Or.inl ⟨rfl, f2, p2, hR2, hfl.1, hfl.2.1, hf3⟩)) hW (lv_sub hl [0, 1] rfl)
                                · skip
                                  rw [t_eq, show (0 : Int32).toInt = 0 from by decide] at c159
                                  exfalso; rw [n_toInt (by omega)] at c159; omega --stop
                          · skip
                            refine lv_if_eq (tgt := 137) hx hb dX11_pass_127 (by decide) (fun c127 => ?_) (fun c127 => ?_)
                            · skip
                              refine lv_aload_n hx hb dX11_pass_137 rfl (lv_at hl 1 rfl) ?_
                              refine lv_aload_n hx hb dX11_pass_138 rfl (lv_at hl 1 rfl) ?_
                              refine r_geti (ci := 10) (C := RX11) (T := TX11) (N := 20) hx hb hts iX11 hown hW rfl 65 10 rfl (g_lt hG (by decide)) (g_kd hG (by decide) rfl) (by decide) q3 (fun _ h9 => h9) (nI (tS T ts a)) hTk.2.1 rfl rfl dX11_pass_139 ?_
                              refine lv_if_ne (tgt := 149) hx hb dX11_pass_142 (by decide) (fun c142 => ?_) (fun c142 => ?_)
                              · skip
                                rw [t_eq, show (0 : Int32).toInt = 0 from by decide] at c142
                                have hs0 : ¬ tS T ts a = 0 := by rw [n_toInt (by omega)] at c142; omega
                                refine lv_iconst (v := 0) hx hb dX11_pass_149 (by decide) ?_
                                refine lv_iconst (v := 1) hx hb dX11_pass_150 (by decide) ?_
                                refine W.eq (g2 := F0 mM 151 ls [.int (nI 1), .int 0, .ref (gA G 65)]) rfl ?_
                                refine r_calli hW hA (va_runV (As := [.int 0, .int (nI 1)]) (rest := []) ⟨hx, hb, hml, hown, hts⟩ (t_X11_want_no l D G SG _ hG hP_SG 1 h12G (by decide)) (cwV 2 hts gX11_pass_X11_want rfl rfl rfl (by decide +kernel) ⟨Nat.le_of_ble_eq_true rfl, Nat.le_of_ble_eq_true rfl⟩) (r_preV (k := 65) hA hW (ci := 10) (C := RX11) (T := TX11) (N := 20) rfl rfl (g_lt hG (by decide)) (g_kd hG (by decide) rfl) rfl rfl) rfl rfl hl.1 rfl (lv_room (Nat.le_of_ble_eq_true rfl)) dX11_pass_151 ⟨Nat.zero_le _, Nat.zero_le _⟩) (fun r151 S151 H locs hp151 hW => ?_)
                                obtain ⟨rfl, hs151⟩ := hp151
                                rw [hs151] at hW
                                have hR2 : pPass T ts = .inr (1, SK T ts a) := by rw [hR, pCnt_e hB hnot h124, PB_r (show pEnd T ts a = .inr (1, SK T ts a) by unfold pEnd; rw [if_neg hs0])]
                                have hz12 : gi (ri SG 65 (va_up (va_up (gi SG 65) 12 (nI 1)) 13 (gi SG 65 9))) 65 12 = nI 1 := (congrFun (e_is _ _ _) 12).trans rfl
                                have hz13 : gi (ri SG 65 (va_up (va_up (gi SG 65) 12 (nI 1)) 13 (gi SG 65 9))) 65 13 = nI (SK T ts a) := (congrFun (e_is _ _ _) 13).trans hTk.1
                                refine lv_istore_n (lv' := [(2, .int 0), (1, .int 1), (0, .ref (gA G 65))]) hx hb dX11_pass_154 rfl hl (by decide) rfl (fun ls hl => ?_)
                                refine lv_aload_n hx hb dX11_pass_155 rfl (lv_at hl 2 rfl) ?_
                                refine r_geti (ci := 10) (C := RX11) (T := TX11) (N := 20) hx hb hts iX11 hown hW rfl 65 12 rfl (g_lt hG (by decide)) (g_kd hG (by decide) rfl) (by decide) q1 (fun _ h9 => h9) (nI 1) (congrFun (e_is _ _ _) 12) rfl rfl dX11_pass_156 ?_
                                refine lv_if_ne (tgt := 173) hx hb dX11_pass_159 (by decide) (fun c159 => ?_) (fun c159 => ?_)
                                · skip
                                  rw [t_eq, show (0 : Int32).toInt = 0 from by decide] at c159
                                  refine lv_iconst (v := 0) hx hb dX11_pass_173 (by decide) ?_
                                  refine lv_istore_n (lv' := [(1, .int 0), (2, .int 0), (0, .ref (gA G 65))]) hx hb dX11_pass_174 rfl hl (by decide) rfl (fun ls hl => ?_)
                                  refine lv_goto (tgt := 62) hx hb dX11_pass_175 (by decide) ?_
                                  exact ih62 (ri SG 65 (va_up (va_up (gi SG 65) 12 (nI 1)) 13 (gi SG 65 9))) B a 0 _ _ ls (by rw [if_neg (by decide)]; omega) (FrM.ri hFrG (fun j hj => (up_n _ _ (by omega)).trans (up_n _ _ (by omega)))) (Or.inr (Or.inl ⟨rfl, 1, SK T ts a, hR2, hz12, hz13, by decide, by decide⟩)) hW (lv_sub hl [0, 2] rfl)
                                · skip
                                  rw [t_eq, show (0 : Int32).toInt = 0 from by decide] at c159
                                  exfalso; rw [n_toInt (by omega)] at c159; omega --stop
                              · skip
                                rw [t_eq, show (0 : Int32).toInt = 0 from by decide] at c142
                                have hs0 : tS T ts a = 0 := by rw [n_toInt (by omega)] at c142; omega
                                refine lv_iconst (v := 1) hx hb dX11_pass_145 (by decide) ?_
                                refine lv_goto (tgt := 150) hx hb dX11_pass_146 (by decide) ?_
                                refine lv_iconst (v := 1) hx hb dX11_pass_150 (by decide) ?_
                                refine W.eq (g2 := F0 mM 151 ls [.int (nI 1), .int 1, .ref (gA G 65)]) rfl ?_
                                refine r_calli hW hA (va_runV (As := [.int 1, .int (nI 1)]) (rest := []) ⟨hx, hb, hml, hown, hts⟩ (t_X11_want_ok l D G SG _ hG hP_SG 1 h12G) (cwV 2 hts gX11_pass_X11_want rfl rfl rfl (by decide +kernel) ⟨Nat.le_of_ble_eq_true rfl, Nat.le_of_ble_eq_true rfl⟩) (r_preV (k := 65) hA hW (ci := 10) (C := RX11) (T := TX11) (N := 20) rfl rfl (g_lt hG (by decide)) (g_kd hG (by decide) rfl) rfl rfl) rfl rfl hl.1 rfl (lv_room (Nat.le_of_ble_eq_true rfl)) dX11_pass_151 ⟨Nat.zero_le _, Nat.zero_le _⟩) (fun r151 S151 H locs hp151 hW => ?_)
                                obtain ⟨rfl, hs151⟩ := hp151
                                rw [hs151] at hW
                                have hR2 : pPass T ts = .inl (B, a) := by rw [hR, pCnt_e hB hnot h124, PB_l (show pEnd T ts a = .inl ((), a) by unfold pEnd; rw [if_pos hs0])]
                                refine lv_istore_n (lv' := [(2, .int 1), (1, .int 1), (0, .ref (gA G 65))]) hx hb dX11_pass_154 rfl hl (by decide) rfl (fun ls hl => ?_)
                                refine lv_aload_n hx hb dX11_pass_155 rfl (lv_at hl 2 rfl) ?_
                                refine r_geti (ci := 10) (C := RX11) (T := TX11) (N := 20) hx hb hts iX11 hown hW rfl 65 12 rfl (g_lt hG (by decide)) (g_kd hG (by decide) rfl) (by decide) q1 (fun _ h9 => h9) 0 h12G rfl rfl dX11_pass_156 ?_
                                refine lv_if_ne (tgt := 173) hx hb dX11_pass_159 (by decide) (fun c159 => ?_) (fun c159 => ?_)
                                · exact absurd (by decide) c159
                                · skip
                                  refine lv_aload_n hx hb dX11_pass_162 rfl (lv_at hl 2 rfl) ?_
                                  refine r_geti (ci := 10) (C := RX11) (T := TX11) (N := 20) hx hb hts iX11 hown hW rfl 65 10 rfl (g_lt hG (by decide)) (g_kd hG (by decide) rfl) (by decide) q3 (fun _ h9 => h9) (nI (tS T ts a)) hTk.2.1 rfl rfl dX11_pass_163 ?_
                                  refine lv_if_eq (tgt := 173) hx hb dX11_pass_166 (by decide) (fun c166 => ?_) (fun c166 => ?_)
                                  · skip
                                    rw [t_eq, show (0 : Int32).toInt = 0 from by decide] at c166
                                    refine lv_iconst (v := 0) hx hb dX11_pass_173 (by decide) ?_
                                    refine lv_istore_n (lv' := [(1, .int 0), (2, .int 1), (0, .ref (gA G 65))]) hx hb dX11_pass_174 rfl hl (by decide) rfl (fun ls hl => ?_)
                                    refine lv_goto (tgt := 62) hx hb dX11_pass_175 (by decide) ?_
                                    exact ih62 SG B a 0 _ _ ls (by rw [if_neg (by decide)]; omega) hFrG (Or.inr (Or.inr ⟨rfl, h12G, hNG, hB, a, hR2⟩)) hW (lv_sub hl [0, 2] rfl)
                                  · skip
                                    rw [t_eq, show (0 : Int32).toInt = 0 from by decide] at c166
                                    exfalso; rw [n_toInt (by omega)] at c166; omega --stop
                            · exact absurd (by decide) c127
                        · skip
                          rw [lc_ne] at c101
                          have h17 : B 17 = 0 := by rw [lN_int (by omega), show (0 : Int64).toInt = 0 from by decide] at c101; omega
                          refine lv_aload_n hx hb dX11_pass_104 rfl (lv_at hl 1 rfl) ?_
                          have hAtG : AtM SG T ts (tE T ts a) := ⟨hXG, hTk.2.2.1 (by have := h85.1; omega), hle.1, h12G⟩
                          refine r_callv hW hA (va_runV (As := []) (rest := []) ⟨hx, hb, hml, hown, hts⟩ (t_X11_takeChance l D G SG _ hG hP_SG T ts ht4 hTB a hAtG hTk.1 B hB hNG) (cwV 0 hts gX11_pass_X11_takeChance rfl rfl rfl (by decide +kernel) ⟨Nat.le_of_ble_eq_true rfl, Nat.le_of_ble_eq_true rfl⟩) (r_preV (k := 65) hA hW (ci := 10) (C := RX11) (T := TX11) (N := 20) rfl rfl (g_lt hG (by decide)) (g_kd hG (by decide) rfl) rfl rfl) rfl rfl hl.1 rfl (lv_room (Nat.le_of_ble_eq_true rfl)) dX11_pass_105 ⟨Nat.zero_le _, Nat.zero_le _⟩) (fun S105 H locs hp105 hW => ?_)
                          rcases hp105 with ⟨B2, e2, hpn, hok, hx10⟩ | ⟨f2, p2, hpn, hfl⟩
                          · skip
                            have hB2 := pChance_ok hpn hB h17
                            have hR2 : pPass T ts = pCnt T ts B2 e2 := by rw [hR, pCnt_c hB h17 h85, PB_l hpn]
                            have hP_S105 : GrP G S105 := fun q hq => by rw [hok.2.2.2.2.1]; exact hP_SG q hq
                            refine lv_goto (tgt := 155) hx hb dX11_pass_108 (by decide) ?_
                            refine lv_aload_n hx hb dX11_pass_155 rfl (lv_at hl 1 rfl) ?_
                            refine r_geti (ci := 10) (C := RX11) (T := TX11) (N := 20) hx hb hts iX11 hown hW rfl 65 12 rfl (g_lt hG (by decide)) (g_kd hG (by decide) rfl) (by decide) q1 (fun _ h9 => h9) 0 hok.1.2.2.2 rfl rfl dX11_pass_156 ?_
                            refine lv_if_ne (tgt := 173) hx hb dX11_pass_159 (by decide) (fun c159 => ?_) (fun c159 => ?_)
                            · exact absurd (by decide) c159
                            · skip
                              refine lv_aload_n hx hb dX11_pass_162 rfl (lv_at hl 1 rfl) ?_
                              refine r_geti (ci := 10) (C := RX11) (T := TX11) (N := 20) hx hb hts iX11 hown hW rfl 65 10 rfl (g_lt hG (by decide)) (g_kd hG (by decide) rfl) (by decide) q3 (fun _ h9 => h9) (nI 3) hx10 rfl rfl dX11_pass_163 ?_
                              refine lv_if_eq (tgt := 173) hx hb dX11_pass_166 (by decide) (fun c166 => ?_) (fun c166 => ?_)
                              · skip
                                rw [t_eq, show (0 : Int32).toInt = 0 from by decide] at c166
                                exfalso; rw [n_toInt (by omega)] at c166; omega --stop
                              · skip
                                rw [t_eq, show (0 : Int32).toInt = 0 from by decide] at c166
                                refine lv_iconst (v := 1) hx hb dX11_pass_169 (by decide) ?_
                                refine lv_goto (tgt := 174) hx hb dX11_pass_170 (by decide) ?_
                                refine lv_istore_n (lv' := [(1, .int 1), (0, .ref (gA G 65))]) hx hb dX11_pass_174 rfl hl (by decide) rfl (fun ls hl => ?_)
                                refine lv_goto (tgt := 62) hx hb dX11_pass_175 (by decide) ?_
                                exact ih62 S105 B2 e2 1 _ _ ls (by rw [if_pos rfl]; omega) (FrM.tr hFrG hok.2.2) (Or.inl ⟨rfl, hok.1, hok.2.1, hB2.1, hR2⟩) hW (lv_sub hl [0, 1] rfl)
                          · skip
                            have hR2 : pPass T ts = .inr (f2, p2) := by rw [hR, pCnt_c hB h17 h85, PB_r hpn]
                            have hP_S105 : GrP G S105 := fun q hq => by rw [hfl.2.2.2.2.2.1]; exact hP_SG q hq
                            have hf3 := hfl.2.2.1
                            refine lv_goto (tgt := 155) hx hb dX11_pass_108 (by decide) ?_
                            refine lv_aload_n hx hb dX11_pass_155 rfl (lv_at hl 1 rfl) ?_
                            refine r_geti (ci := 10) (C := RX11) (T := TX11) (N := 20) hx hb hts iX11 hown hW rfl 65 12 rfl (g_lt hG (by decide)) (g_kd hG (by decide) rfl) (by decide) q1 (fun _ h9 => h9) (nI f2) hfl.1 rfl rfl dX11_pass_156 ?_
                            refine lv_if_ne (tgt := 173) hx hb dX11_pass_159 (by decide) (fun c159 => ?_) (fun c159 => ?_)
                            · skip
                              rw [t_eq, show (0 : Int32).toInt = 0 from by decide] at c159
                              refine lv_iconst (v := 0) hx hb dX11_pass_173 (by decide) ?_
                              refine lv_istore_n (lv' := [(1, .int 0), (0, .ref (gA G 65))]) hx hb dX11_pass_174 rfl hl (by decide) rfl (fun ls hl => ?_)
                              refine lv_goto (tgt := 62) hx hb dX11_pass_175 (by decide) ?_
                              exact ih62 S105 B a 0 _ _ ls (by rw [if_neg (by decide)]; omega) (FrM.tr hFrG hfl.2.2.2) (Or.inr (Or.inl ⟨rfl, f2, p2, hR2, hfl.1, hfl.2.1, hf3⟩)) hW (lv_sub hl [0, 1] rfl)
                            · skip
                              rw [t_eq, show (0 : Int32).toInt = 0 from by decide] at c159
                              exfalso; rw [n_toInt (by omega)] at c159; omega --stop
                    · skip
                      refine lv_if_eq (tgt := 111) hx hb dX11_pass_88 (by decide) (fun c88 => ?_) (fun c88 => ?_)
                      · skip
                        have hnot : ¬ (isW T ts a 1 ∧ B 17 = 0) := fun z => h85 z.1
                        refine lv_aload_n hx hb dX11_pass_111 rfl (lv_at hl 1 rfl) ?_
                        refine lv_iconst (v := 5) hx hb dX11_pass_112 (by decide) ?_
                        refine lv_bipush (v := 112) hx hb dX11_pass_113 (by decide) ?_
                        refine lv_bipush (v := 97) hx hb dX11_pass_115 (by decide) ?_
                        refine lv_bipush (v := 114) hx hb dX11_pass_117 (by decide) ?_
                        refine lv_bipush (v := 116) hx hb dX11_pass_119 (by decide) ?_
                        refine lv_bipush (v := 121) hx hb dX11_pass_121 (by decide) ?_
                        refine lv_iconst (v := 0) hx hb dX11_pass_123 (by decide) ?_
                        refine W.eq (g2 := F0 mM 124 ls [.int (chI 2 5), .int (chI 2 4), .int (chI 2 3), .int (chI 2 2), .int (chI 2 1), .int (chI 2 0), .int (nI (sLen.getD 2 0)), .ref (gA G 65)]) rfl ?_
                        refine r_calli hW hA (va_runV (As := [.int (nI (sLen.getD 2 0)), .int (chI 2 0), .int (chI 2 1), .int (chI 2 2), .int (chI 2 3), .int (chI 2 4), .int (chI 2 5)]) (rest := []) ⟨hx, hb, hml, hown, hts⟩ (t_X11_isName l D G SG _ hG hP_SG T ts ht4 hTB a hAt.2.2.1 hXG hTk 2 (by decide)) (cwV 7 hts gX11_pass_X11_isName rfl rfl rfl (by decide +kernel) ⟨Nat.le_of_ble_eq_true rfl, Nat.le_of_ble_eq_true rfl⟩) (r_preV (k := 65) hA hW (ci := 10) (C := RX11) (T := TX11) (N := 20) rfl rfl (g_lt hG (by decide)) (g_kd hG (by decide) rfl) rfl rfl) rfl rfl hl.1 rfl (lv_room (Nat.le_of_ble_eq_true rfl)) dX11_pass_124 ⟨Nat.zero_le _, Nat.zero_le _⟩) (fun r124 S124 H locs hp124 hW => ?_)
                        obtain ⟨hs124, hp124⟩ := hp124
                        rw [hs124] at hW
                        rcases hp124 with ⟨rfl, h124⟩ | ⟨rfl, h124⟩
                        · skip
                          refine lv_if_eq (tgt := 137) hx hb dX11_pass_127 (by decide) (fun c127 => ?_) (fun c127 => ?_)
                          · exact absurd c127 (by decide)
                          · skip
                            refine lv_aload_n hx hb dX11_pass_130 rfl (lv_at hl 1 rfl) ?_
                            have hAtG : AtM SG T ts (tE T ts a) := ⟨hXG, hTk.2.2.1 (by have := h124.1; omega), hle.1, h12G⟩
                            refine r_callv hW hA (va_runV (As := []) (rest := []) ⟨hx, hb, hml, hown, hts⟩ (t_X11_takeParty l D G SG _ hG hP_SG T ts ht4 hTB a hAtG hTk.1 B hB hNG) (cwV 0 hts gX11_pass_X11_takeParty rfl rfl rfl (by decide +kernel) ⟨Nat.le_of_ble_eq_true rfl, Nat.le_of_ble_eq_true rfl⟩) (r_preV (k := 65) hA hW (ci := 10) (C := RX11) (T := TX11) (N := 20) rfl rfl (g_lt hG (by decide)) (g_kd hG (by decide) rfl) rfl rfl) rfl rfl hl.1 rfl (lv_room (Nat.le_of_ble_eq_true rfl)) dX11_pass_131 ⟨Nat.zero_le _, Nat.zero_le _⟩) (fun S131 H locs hp131 hW => ?_)
                            rcases hp131 with ⟨B2, e2, hpn, hok, hx10⟩ | ⟨f2, p2, hpn, hfl⟩
                            · skip
                              have hB2 := pParty_ok hpn hB
                              have hB24 := pParty_4 hpn
                              have hR2 : pPass T ts = pCnt T ts B2 e2 := by rw [hR, pCnt_p hB hnot h124, PB_l hpn]
                              have hP_S131 : GrP G S131 := fun q hq => by rw [hok.2.2.2.2.1]; exact hP_SG q hq
                              refine lv_goto (tgt := 155) hx hb dX11_pass_134 (by decide) ?_
                              refine lv_aload_n hx hb dX11_pass_155 rfl (lv_at hl 1 rfl) ?_
                              refine r_geti (ci := 10) (C := RX11) (T := TX11) (N := 20) hx hb hts iX11 hown hW rfl 65 12 rfl (g_lt hG (by decide)) (g_kd hG (by decide) rfl) (by decide) q1 (fun _ h9 => h9) 0 hok.1.2.2.2 rfl rfl dX11_pass_156 ?_
                              refine lv_if_ne (tgt := 173) hx hb dX11_pass_159 (by decide) (fun c159 => ?_) (fun c159 => ?_)
                              · exact absurd (by decide) c159
                              · skip
                                refine lv_aload_n hx hb dX11_pass_162 rfl (lv_at hl 1 rfl) ?_
                                refine r_geti (ci := 10) (C := RX11) (T := TX11) (N := 20) hx hb hts iX11 hown hW rfl 65 10 rfl (g_lt hG (by decide)) (g_kd hG (by decide) rfl) (by decide) q3 (fun _ h9 => h9) (nI 3) hx10 rfl rfl dX11_pass_163 ?_
                                refine lv_if_eq (tgt := 173) hx hb dX11_pass_166 (by decide) (fun c166 => ?_) (fun c166 => ?_)
                                · skip
                                  rw [t_eq, show (0 : Int32).toInt = 0 from by decide] at c166
                                  exfalso; rw [n_toInt (by omega)] at c166; omega --stop
                                · skip
                                  rw [t_eq, show (0 : Int32).toInt = 0 from by decide] at c166
                                  refine lv_iconst (v := 1) hx hb dX11_pass_169 (by decide) ?_
                                  refine lv_goto (tgt := 174) hx hb dX11_pass_170 (by decide) ?_
                                  refine lv_istore_n (lv' := [(1, .int 1), (0, .ref (gA G 65))]) hx hb dX11_pass_174 rfl hl (by decide) rfl (fun ls hl => ?_)
                                  refine lv_goto (tgt := 62) hx hb dX11_pass_175 (by decide) ?_
                                  exact ih62 S131 B2 e2 1 _ _ ls (by rw [if_pos rfl]; omega) (FrM.tr hFrG hok.2.2) (Or.inl ⟨rfl, hok.1, hok.2.1, hB2.1, hR2⟩) hW (lv_sub hl [0, 1] rfl)
                            · skip
                              have hR2 : pPass T ts = .inr (f2, p2) := by rw [hR, pCnt_p hB hnot h124, PB_r hpn]
                              have hP_S131 : GrP G S131 := fun q hq => by rw [hfl.2.2.2.2.2.1]; exact hP_SG q hq
                              have hf3 := hfl.2.2.1
                              refine lv_goto (tgt := 155) hx hb dX11_pass_134 (by decide) ?_
                              refine lv_aload_n hx hb dX11_pass_155 rfl (lv_at hl 1 rfl) ?_
                              refine r_geti (ci := 10) (C := RX11) (T := TX11) (N := 20) hx hb hts iX11 hown hW rfl 65 12 rfl (g_lt hG (by decide)) (g_kd hG (by decide) rfl) (by decide) q1 (fun _ h9 => h9) (nI f2) hfl.1 rfl rfl dX11_pass_156 ?_
                              refine lv_if_ne (tgt := 173) hx hb dX11_pass_159 (by decide) (fun c159 => ?_) (fun c159 => ?_)
                              · skip
                                rw [t_eq, show (0 : Int32).toInt = 0 from by decide] at c159
                                refine lv_iconst (v := 0) hx hb dX11_pass_173 (by decide) ?_
                                refine lv_istore_n (lv' := [(1, .int 0), (0, .ref (gA G 65))]) hx hb dX11_pass_174 rfl hl (by decide) rfl (fun ls hl => ?_)
                                refine lv_goto (tgt := 62) hx hb dX11_pass_175 (by decide) ?_
                                exact ih62 S131 B a 0 _ _ ls (by rw [if_neg (by decide)]; omega) (FrM.tr hFrG hfl.2.2.2) (Or.inr (Or.inl ⟨rfl, f2, p2, hR2, hfl.1, hfl.2.1, hf3⟩)) hW (lv_sub hl [0, 1] rfl)
                              · skip
                                rw [t_eq, show (0 : Int32).toInt = 0 from by decide] at c159
                                exfalso; rw [n_toInt (by omega)] at c159; omega --stop
                        · skip
                          refine lv_if_eq (tgt := 137) hx hb dX11_pass_127 (by decide) (fun c127 => ?_) (fun c127 => ?_)
                          · skip
                            refine lv_aload_n hx hb dX11_pass_137 rfl (lv_at hl 1 rfl) ?_
                            refine lv_aload_n hx hb dX11_pass_138 rfl (lv_at hl 1 rfl) ?_
                            refine r_geti (ci := 10) (C := RX11) (T := TX11) (N := 20) hx hb hts iX11 hown hW rfl 65 10 rfl (g_lt hG (by decide)) (g_kd hG (by decide) rfl) (by decide) q3 (fun _ h9 => h9) (nI (tS T ts a)) hTk.2.1 rfl rfl dX11_pass_139 ?_
                            refine lv_if_ne (tgt := 149) hx hb dX11_pass_142 (by decide) (fun c142 => ?_) (fun c142 => ?_)
                            · skip
                              rw [t_eq, show (0 : Int32).toInt = 0 from by decide] at c142
                              have hs0 : ¬ tS T ts a = 0 := by rw [n_toInt (by omega)] at c142; omega
                              refine lv_iconst (v := 0) hx hb dX11_pass_149 (by decide) ?_
                              refine lv_iconst (v := 1) hx hb dX11_pass_150 (by decide) ?_
                              refine W.eq (g2 := F0 mM 151 ls [.int (nI 1), .int 0, .ref (gA G 65)]) rfl ?_
                              refine r_calli hW hA (va_runV (As := [.int 0, .int (nI 1)]) (rest := []) ⟨hx, hb, hml, hown, hts⟩ (t_X11_want_no l D G SG _ hG hP_SG 1 h12G (by decide)) (cwV 2 hts gX11_pass_X11_want rfl rfl rfl (by decide +kernel) ⟨Nat.le_of_ble_eq_true rfl, Nat.le_of_ble_eq_true rfl⟩) (r_preV (k := 65) hA hW (ci := 10) (C := RX11) (T := TX11) (N := 20) rfl rfl (g_lt hG (by decide)) (g_kd hG (by decide) rfl) rfl rfl) rfl rfl hl.1 rfl (lv_room (Nat.le_of_ble_eq_true rfl)) dX11_pass_151 ⟨Nat.zero_le _, Nat.zero_le _⟩) (fun r151 S151 H locs hp151 hW => ?_)
                              obtain ⟨rfl, hs151⟩ := hp151
                              rw [hs151] at hW
                              have hR2 : pPass T ts = .inr (1, SK T ts a) := by rw [hR, pCnt_e hB hnot h124, PB_r (show pEnd T ts a = .inr (1, SK T ts a) by unfold pEnd; rw [if_neg hs0])]
                              have hz12 : gi (ri SG 65 (va_up (va_up (gi SG 65) 12 (nI 1)) 13 (gi SG 65 9))) 65 12 = nI 1 := (congrFun (e_is _ _ _) 12).trans rfl
                              have hz13 : gi (ri SG 65 (va_up (va_up (gi SG 65) 12 (nI 1)) 13 (gi SG 65 9))) 65 13 = nI (SK T ts a) := (congrFun (e_is _ _ _) 13).trans hTk.1
                              refine lv_istore_n (lv' := [(2, .int 0), (1, .int 1), (0, .ref (gA G 65))]) hx hb dX11_pass_154 rfl hl (by decide) rfl (fun ls hl => ?_)
                              refine lv_aload_n hx hb dX11_pass_155 rfl (lv_at hl 2 rfl) ?_
                              refine r_geti (ci := 10) (C := RX11) (T := TX11) (N := 20) hx hb hts iX11 hown hW rfl 65 12 rfl (g_lt hG (by decide)) (g_kd hG (by decide) rfl) (by decide) q1 (fun _ h9 => h9) (nI 1) (congrFun (e_is _ _ _) 12) rfl rfl dX11_pass_156 ?_
                              refine lv_if_ne (tgt := 173) hx hb dX11_pass_159 (by decide) (fun c159 => ?_) (fun c159 => ?_)
                              · skip
                                rw [t_eq, show (0 : Int32).toInt = 0 from by decide] at c159
                                refine lv_iconst (v := 0) hx hb dX11_pass_173 (by decide) ?_
                                refine lv_istore_n (lv' := [(1, .int 0), (2, .int 0), (0, .ref (gA G 65))]) hx hb dX11_pass_174 rfl hl (by decide) rfl (fun ls hl => ?_)
                                refine lv_goto (tgt := 62) hx hb dX11_pass_175 (by decide) ?_
                                exact ih62 (ri SG 65 (va_up (va_up (gi SG 65) 12 (nI 1)) 13 (gi SG 65 9))) B a 0 _ _ ls (by rw [if_neg (by decide)]; omega) (FrM.ri hFrG (fun j hj => (up_n _ _ (by omega)).trans (up_n _ _ (by omega)))) (Or.inr (Or.inl ⟨rfl, 1, SK T ts a, hR2, hz12, hz13, by decide, by decide⟩)) hW (lv_sub hl [0, 2] rfl)
                              · skip
                                rw [t_eq, show (0 : Int32).toInt = 0 from by decide] at c159
                                exfalso; rw [n_toInt (by omega)] at c159; omega --stop
                            · skip
                              rw [t_eq, show (0 : Int32).toInt = 0 from by decide] at c142
                              have hs0 : tS T ts a = 0 := by rw [n_toInt (by omega)] at c142; omega
                              refine lv_iconst (v := 1) hx hb dX11_pass_145 (by decide) ?_
                              refine lv_goto (tgt := 150) hx hb dX11_pass_146 (by decide) ?_
                              refine lv_iconst (v := 1) hx hb dX11_pass_150 (by decide) ?_
                              refine W.eq (g2 := F0 mM 151 ls [.int (nI 1), .int 1, .ref (gA G 65)]) rfl ?_
                              refine r_calli hW hA (va_runV (As := [.int 1, .int (nI 1)]) (rest := []) ⟨hx, hb, hml, hown, hts⟩ (t_X11_want_ok l D G SG _ hG hP_SG 1 h12G) (cwV 2 hts gX11_pass_X11_want rfl rfl rfl (by decide +kernel) ⟨Nat.le_of_ble_eq_true rfl, Nat.le_of_ble_eq_true rfl⟩) (r_preV (k := 65) hA hW (ci := 10) (C := RX11) (T := TX11) (N := 20) rfl rfl (g_lt hG (by decide)) (g_kd hG (by decide) rfl) rfl rfl) rfl rfl hl.1 rfl (lv_room (Nat.le_of_ble_eq_true rfl)) dX11_pass_151 ⟨Nat.zero_le _, Nat.zero_le _⟩) (fun r151 S151 H locs hp151 hW => ?_)
                              obtain ⟨rfl, hs151⟩ := hp151
                              rw [hs151] at hW
                              have hR2 : pPass T ts = .inl (B, a) := by rw [hR, pCnt_e hB hnot h124, PB_l (show pEnd T ts a = .inl ((), a) by unfold pEnd; rw [if_pos hs0])]
                              refine lv_istore_n (lv' := [(2, .int 1), (1, .int 1), (0, .ref (gA G 65))]) hx hb dX11_pass_154 rfl hl (by decide) rfl (fun ls hl => ?_)
                              refine lv_aload_n hx hb dX11_pass_155 rfl (lv_at hl 2 rfl) ?_
                              refine r_geti (ci := 10) (C := RX11) (T := TX11) (N := 20) hx hb hts iX11 hown hW rfl 65 12 rfl (g_lt hG (by decide)) (g_kd hG (by decide) rfl) (by decide) q1 (fun _ h9 => h9) 0 h12G rfl rfl dX11_pass_156 ?_
                              refine lv_if_ne (tgt := 173) hx hb dX11_pass_159 (by decide) (fun c159 => ?_) (fun c159 => ?_)
                              · exact absurd (by decide) c159
                              · skip
                                refine lv_aload_n hx hb dX11_pass_162 rfl (lv_at hl 2 rfl) ?_
                                refine r_geti (ci := 10) (C := RX11) (T := TX11) (N := 20) hx hb hts iX11 hown hW rfl 65 10 rfl (g_lt hG (by decide)) (g_kd hG (by decide) rfl) (by decide) q3 (fun _ h9 => h9) (nI (tS T ts a)) hTk.2.1 rfl rfl dX11_pass_163 ?_
                                refine lv_if_eq (tgt := 173) hx hb dX11_pass_166 (by decide) (fun c166 => ?_) (fun c166 => ?_)
                                · skip
                                  rw [t_eq, show (0 : Int32).toInt = 0 from by decide] at c166
                                  refine lv_iconst (v := 0) hx hb dX11_pass_173 (by decide) ?_
                                  refine lv_istore_n (lv' := [(1, .int 0), (2, .int 1), (0, .ref (gA G 65))]) hx hb dX11_pass_174 rfl hl (by decide) rfl (fun ls hl => ?_)
                                  refine lv_goto (tgt := 62) hx hb dX11_pass_175 (by decide) ?_
                                  exact ih62 SG B a 0 _ _ ls (by rw [if_neg (by decide)]; omega) hFrG (Or.inr (Or.inr ⟨rfl, h12G, hNG, hB, a, hR2⟩)) hW (lv_sub hl [0, 2] rfl)
                                · skip
                                  rw [t_eq, show (0 : Int32).toInt = 0 from by decide] at c166
                                  exfalso; rw [n_toInt (by omega)] at c166; omega --stop
                          · exact absurd (by decide) c127
                      · exact absurd (by decide) c88
                · skip
                  have hpb : p ≤ ts := by have z := pPass_bd (T := T) (ts := ts); rw [hR] at z; exact z
                  refine lv_if_eq (tgt := 178) hx hb dX11_pass_63 (by decide) (fun c63 => ?_) (fun c63 => ?_)
                  · skip
                    refine lv_aload_n hx hb dX11_pass_178 rfl (lv_at hl 1 rfl) ?_
                    refine lv_iconst (v := 0) hx hb dX11_pass_179 (by decide) ?_
                    refine r_puti (ci := 10) (C := RX11) (T := TX11) (N := 20) hx hb hts iX11 tyX11 tyX11_ok nmX11 hown hW rfl 65 7 rfl (g_lt hG (by decide)) (g_kd hG (by decide) rfl) (by decide) q4 (fun _ h9 => h9) rfl (tyX11_ok 7 (by decide)) rfl rfl (ri T0 65 (va_up (gi T0 65) 7 0)) (gi T0 65) (va_up (gi T0 65) 7 0) rfl (e_is _ _ _) rfl rfl rfl (Nat.le_of_ble_eq_true rfl) rfl c_i0 dX11_pass_180 (fun H locs hW => ?_)
                    refine lv_aload_n hx hb dX11_pass_183 rfl (lv_at hl 1 rfl) ?_
                    refine r_geti (ci := 10) (C := RX11) (T := TX11) (N := 20) hx hb hts iX11 hown hW rfl 65 12 rfl (g_lt hG (by decide)) (g_kd hG (by decide) rfl) (by decide) q1 (fun _ h9 => h9) (nI f) ((congrFun (e_is _ _ _) 12).trans h12) rfl rfl dX11_pass_184 ?_
                    refine lv_if_le (tgt := 208) hx hb dX11_pass_187 (by decide) (fun c187 => ?_) (fun c187 => ?_)
                    · skip
                      rw [t_le, show (0 : Int32).toInt = 0 from by decide] at c187
                      exfalso; rw [n_toInt (by omega)] at c187; omega --stop
                    · skip
                      rw [t_le, show (0 : Int32).toInt = 0 from by decide] at c187
                      refine lv_aload_n hx hb dX11_pass_190 rfl (lv_at hl 1 rfl) ?_
                      refine lv_aload_n hx hb dX11_pass_191 rfl (lv_at hl 1 rfl) ?_
                      refine r_geti (ci := 10) (C := RX11) (T := TX11) (N := 20) hx hb hts iX11 hown hW rfl 65 12 rfl (g_lt hG (by decide)) (g_kd hG (by decide) rfl) (by decide) q1 (fun _ h9 => h9) (nI f) ((congrFun (e_is _ _ _) 12).trans h12) rfl rfl dX11_pass_192 ?_
                      refine r_puti (ci := 10) (C := RX11) (T := TX11) (N := 20) hx hb hts iX11 tyX11 tyX11_ok nmX11 hown hW rfl 65 14 rfl (g_lt hG (by decide)) (g_kd hG (by decide) rfl) (by decide) q5 (fun _ h9 => h9) rfl (tyX11_ok 14 (by decide)) rfl rfl (ri T0 65 (va_up (va_up (gi T0 65) 7 0) 14 (nI f))) (va_up (gi T0 65) 7 0) (va_up (va_up (gi T0 65) 7 0) 14 (nI f)) (e_is _ _ _) (e_is _ _ _) rfl rfl rfl (Nat.le_of_ble_eq_true rfl) rfl c_i dX11_pass_195 (fun H locs hW => ?_)
                      refine lv_ldc2 (v := (-9000000000000000100)) hx hb hown q6 dX11_pass_198 ?_
                      refine lv_aload_n hx hb dX11_pass_201 rfl (lv_at hl 1 rfl) ?_
                      refine r_geti (ci := 10) (C := RX11) (T := TX11) (N := 20) hx hb hts iX11 hown hW rfl 65 13 rfl (g_lt hG (by decide)) (g_kd hG (by decide) rfl) (by decide) q7 (fun _ h9 => h9) (nI p) ((congrFun (e_is _ _ _) 13).trans h13) rfl rfl dX11_pass_202 ?_
                      refine lv_i2l hx hb dX11_pass_205 rfl ?_
                      rw [show (Int32.toInt64 (nI p) : Int64) = lN p from lN_of (by omega)]
                      refine lv_lsub hx hb dX11_pass_206 ?_
                      rw [← hQ0]
                      refine r_lret hx hb hr hlocks hW ?_ dX11_pass_207
                      have e : fPass T ts B0 lf = (-9000000000000000100 - lN p, B0, f) := by unfold fPass; rw [hR]
                      rw [e]
                      exact ⟨rfl, fun k hk => (hFT.2.1 k (by omega)).trans (hM k hk), fun k h1 h2 => hFT.2.1 k h2, (congrFun (e_is _ _ _) 14).trans rfl, (congrFun (e_is _ _ _) 7).trans rfl, fun j hj => (congrFun (e_is _ _ _) j).trans ((up_n _ _ (by omega)).trans ((up_n _ _ (by omega)).trans (hFT.1 j (by omega)))), Ch.ri hFT.2.2 (Or.inl rfl)⟩
                  · exact absurd (by decide) c63
                · skip
                  refine lv_if_eq (tgt := 178) hx hb dX11_pass_63 (by decide) (fun c63 => ?_) (fun c63 => ?_)
                  · skip
                    refine lv_aload_n hx hb dX11_pass_178 rfl (lv_at hl 1 rfl) ?_
                    refine lv_iconst (v := 0) hx hb dX11_pass_179 (by decide) ?_
                    refine r_puti (ci := 10) (C := RX11) (T := TX11) (N := 20) hx hb hts iX11 tyX11 tyX11_ok nmX11 hown hW rfl 65 7 rfl (g_lt hG (by decide)) (g_kd hG (by decide) rfl) (by decide) q4 (fun _ h9 => h9) rfl (tyX11_ok 7 (by decide)) rfl rfl (ri T0 65 (va_up (gi T0 65) 7 0)) (gi T0 65) (va_up (gi T0 65) 7 0) rfl (e_is _ _ _) rfl rfl rfl (Nat.le_of_ble_eq_true rfl) rfl c_i0 dX11_pass_180 (fun H locs hW => ?_)
                    refine lv_aload_n hx hb dX11_pass_183 rfl (lv_at hl 1 rfl) ?_
                    refine r_geti (ci := 10) (C := RX11) (T := TX11) (N := 20) hx hb hts iX11 hown hW rfl 65 12 rfl (g_lt hG (by decide)) (g_kd hG (by decide) rfl) (by decide) q1 (fun _ h9 => h9) 0 ((congrFun (e_is _ _ _) 12).trans h12) rfl rfl dX11_pass_184 ?_
                    refine lv_if_le (tgt := 208) hx hb dX11_pass_187 (by decide) (fun c187 => ?_) (fun c187 => ?_)
                    · skip
                      refine lv_aload_n hx hb dX11_pass_208 rfl (lv_at hl 1 rfl) ?_
                      refine lv_sipush (v := 420) hx hb dX11_pass_209 (by decide) ?_
                      refine lv_iconst (v := 0) hx hb dX11_pass_212 (by decide) ?_
                      refine W.eq (g2 := F0 mM 213 ls [.int (nI 0), .int (nI 420), .ref (gA G 65)]) rfl ?_
                      refine r_callv hW hA (va_runV (As := [.int (nI 420), .int (nI 0)]) (rest := []) ⟨hx, hb, hml, hown, hts⟩ (t_X11_copyPass l D G (ri T0 65 (va_up (gi T0 65) 7 0)) _ hG hP_T0 420 0 (by decide) (by decide) (Or.inr (by decide))) (cwV 2 hts gX11_pass_X11_copyPass rfl rfl rfl (by decide +kernel) ⟨Nat.le_of_ble_eq_true rfl, Nat.le_of_ble_eq_true rfl⟩) (r_preV (k := 65) hA hW (ci := 10) (C := RX11) (T := TX11) (N := 20) rfl rfl (g_lt hG (by decide)) (g_kd hG (by decide) rfl) rfl rfl) rfl rfl hl.1 rfl (lv_room (Nat.le_of_ble_eq_true rfl)) dX11_pass_213 ⟨Nat.zero_le _, Nat.zero_le _⟩) (fun S213 H locs hp213 hW => ?_)
                      obtain ⟨hc1, hc2, hc3⟩ := hp213
                      have hP_S213 : GrP G S213 := fun q hq => by rw [hc3.1]; exact hP_T0 q hq
                      have hw0 : ∀ k, k < 140 → gj S213 66 k = lN (B k) := fun k hk => by have z := hc1 k hk; rw [Nat.zero_add] at z; exact z.trans (hN k hk)
                      have h65 : gi S213 65 = va_up (gi T0 65) 7 0 := (hc3.2 65 (by decide)).1.trans (e_is _ _ _)
                      refine lv_aload_n hx hb dX11_pass_216 rfl (lv_at hl 1 rfl) ?_
                      refine r_getr (ci := 10) (C := RX11) (T := TX11) (N := 20) hx hb hts iX11 hown hW rfl 65 0 rfl (g_lt hG (by decide)) (g_kd hG (by decide) rfl) (by decide) q2 (fun _ h9 => h9) (hP_S213 _ (List.mem_of_getElem? (i := 60) rfl)) rfl rfl dX11_pass_217 ?_
                      refine lv_bipush (v := 17) hx hb dX11_pass_220 (by decide) ?_
                      refine W.eq (g2 := F0 mM 222 ls [.int (nI 17), .ref (gA G 66)]) rfl ?_
                      refine r_lald hx hb hW 66 rfl (g_lt hG (by decide)) (g_kd hG (by decide) rfl) (g_ix hG (c := 560) (by decide) rfl (n_inI (by omega) (by decide))) (lN (B 17)) (by rw [n_clamp (by omega)]; exact (hw0 17 (by decide))) dX11_pass_222 ?_
                      rw [← hQ0]
                      refine r_lret hx hb hr hlocks hW ?_ dX11_pass_223
                      have e : fPass T ts B0 lf = (lN (B 17), B, lf) := by unfold fPass; rw [hR]
                      rw [e]
                      exact ⟨rfl, hw0, fun k h1 h2 => (hc2 k (Or.inr h1)).trans (hFT.2.1 k h2), (congrFun h65 14).trans ((hFT.1 14 (by decide)).trans h14), congrFun h65 7, fun j hj => (congrFun h65 j).trans ((up_n _ _ (by omega)).trans (hFT.1 j (by omega))), Ch.tr (Ch.ri hFT.2.2 (Or.inl rfl)) (Ch.mono hc3 (fun _ h => Or.inr h))⟩
                    · exact absurd (by decide) c187
                  · exact absurd (by decide) c63
            exact L62 _ S46 B1 e1 1 _ _ ls (Nat.lt_succ_self _) (FrM.tr hF0 hok.2.2) (Or.inl ⟨rfl, hok.1, hok.2.1, hB1, hR1⟩) hW (lv_sub hl [0, 1] rfl)
        · skip
          have hR1 : pPass T ts = .inr (f1, p1) := by rw [pPass_c, PB_r hpn]
          have hf3 := hfl.2.2.1
          refine lv_aload_n hx hb dX11_pass_49 rfl (lv_at hl 1 rfl) ?_
          refine r_geti (ci := 10) (C := RX11) (T := TX11) (N := 20) hx hb hts iX11 hown hW rfl 65 12 rfl (g_lt hG (by decide)) (g_kd hG (by decide) rfl) (by decide) q1 (fun _ h9 => h9) (nI f1) hfl.1 rfl rfl dX11_pass_50 ?_
          refine lv_if_ne (tgt := 60) hx hb dX11_pass_53 (by decide) (fun c53 => ?_) (fun c53 => ?_)
          · skip
            rw [t_eq, show (0 : Int32).toInt = 0 from by decide] at c53
            refine lv_iconst (v := 0) hx hb dX11_pass_60 (by decide) ?_
            refine lv_istore_n (lv' := [(1, .int 0), (0, .ref (gA G 65))]) hx hb dX11_pass_61 rfl hl (by decide) rfl (fun ls hl => ?_)
            have L62 : ∀ (n : Nat) (T0 : Sg) (B : Nat → Nat) (a : Nat) (b0 : Int32) (H : Heap) (locs : List Loc) (ls : Array Slot), (if b0 = 1 then 24 - B 4 - B 17 else 0) < n → FrM S T0 → ((b0 = 1 ∧ AtM T0 T ts a ∧ NwM T0 B ∧ Tld B ∧ pPass T ts = pCnt T ts B a) ∨ (b0 = 0 ∧ (∃ f p, pPass T ts = .inr (f, p) ∧ gi T0 65 12 = nI f ∧ gi T0 65 13 = nI p ∧ (1 ≤ f ∧ f ≤ 3))) ∨ (b0 = 0 ∧ gi T0 65 12 = 0 ∧ NwM T0 B ∧ Tld B ∧ ∃ e, pPass T ts = .inl (B, e))) → Wd D (AW G s.heap.size) s G T0 H locs → lv_has ls 3 [(1, .int b0), (0, .ref (gA G 65))] → W pP l eE (headSpec wsX11_pass rmX11_pass).room s mM ([.ref (gA G 65)] : List Value).toArray bl mT cD H locs 0 0 Q0 (F0 mM 62 ls []) := by
              intro n
              induction n with
              | zero => intro T0 B a b0 H locs ls hm; exact absurd hm (Nat.not_lt_zero _)
              | succ n ih62 =>
                intro T0 B a b0 H locs ls hm62 hFT hbv hW hl
                have hP_T0 : GrP G T0 := fun q hq => by rw [hFT.2.2.1]; exact hP q hq
                refine lv_iload_n hx hb dX11_pass_62 rfl (lv_at hl 0 rfl) ?_
                rcases hbv with ⟨rfl, hAt, hN, hB, hR⟩ | ⟨rfl, f, p, hR, h12, h13, hfb⟩ | ⟨rfl, h12, hN, hB, eE2, hR⟩
                · skip
                  have b46 := hB.1.2.2.2.2.2.2.1
                  have b17 := hB.1.2.2.2.2.2.2.2.2.1
                  rw [if_pos rfl] at hm62
                  refine lv_if_eq (tgt := 178) hx hb dX11_pass_63 (by decide) (fun c63 => ?_) (fun c63 => ?_)
                  · exact absurd c63 (by decide)
                  · skip
                    refine lv_aload_n hx hb dX11_pass_66 rfl (lv_at hl 1 rfl) ?_
                    refine r_callv hW hA (va_runV (As := []) (rest := []) ⟨hx, hb, hml, hown, hts⟩ (t_X11_goOn l D G T0 _ hG hP_T0 T ts ht4 hTB hAt.1 a hAt.2.2.1 hAt.2.1) (cwV 0 hts gX11_pass_X11_goOn rfl rfl rfl (by decide +kernel) ⟨Nat.le_of_ble_eq_true rfl, Nat.le_of_ble_eq_true rfl⟩) (r_preV (k := 65) hA hW (ci := 10) (C := RX11) (T := TX11) (N := 20) rfl rfl (g_lt hG (by decide)) (g_kd hG (by decide) rfl) rfl rfl) rfl rfl hl.1 rfl (lv_room (Nat.le_of_ble_eq_true rfl)) dX11_pass_67 ⟨Nat.zero_le _, Nat.zero_le _⟩) (fun SG H locs hpG hW => ?_)
                    obtain ⟨hTk, hfr, hCg⟩ := hpG
                    have hP_SG : GrP G SG := fun q hq => by rw [hCg.1]; exact hP_T0 q hq
                    have hXG : TpM SG T ts := ⟨(hfr 7 (by decide) (by decide) (by decide) (by decide)).trans hAt.1.1, fun i hi => (congrFun (hCg.2 71 (by decide)).1 i).trans (hAt.1.2 i hi)⟩
                    have h12G : gi SG 65 12 = 0 := (hfr 12 (by decide) (by decide) (by decide) (by decide)).trans hAt.2.2.2
                    have hle := tE_le (T := T) hAt.2.2.1
                    have htl := tS_le (T := T) (ts := ts) (a := a)
                    have hNG : NwM SG B := fun k hk => (congrFun (hCg.2 66 (by decide)).2 _).trans (hN k hk)
                    have hFrG : FrM S SG := FrM.tr hFT ⟨fun j hj => hfr j (by omega) (by omega) (by omega) (by omega), fun k _ => congrFun (hCg.2 66 (by decide)).2 k, Ch.mono hCg (fun _ hk => Or.inl hk)⟩
                    refine lv_aload_n hx hb dX11_pass_70 rfl (lv_at hl 1 rfl) ?_
                    refine lv_bipush (v := 6) hx hb dX11_pass_71 (by decide) ?_
                    refine lv_bipush (v := 99) hx hb dX11_pass_73 (by decide) ?_
                    refine lv_bipush (v := 104) hx hb dX11_pass_75 (by decide) ?_
                    refine lv_bipush (v := 97) hx hb dX11_pass_77 (by decide) ?_
                    refine lv_bipush (v := 110) hx hb dX11_pass_79 (by decide) ?_
                    refine lv_bipush (v := 99) hx hb dX11_pass_81 (by decide) ?_
                    refine lv_bipush (v := 101) hx hb dX11_pass_83 (by decide) ?_
                    refine W.eq (g2 := F0 mM 85 ls [.int (chI 1 5), .int (chI 1 4), .int (chI 1 3), .int (chI 1 2), .int (chI 1 1), .int (chI 1 0), .int (nI (sLen.getD 1 0)), .ref (gA G 65)]) rfl ?_
                    refine r_calli hW hA (va_runV (As := [.int (nI (sLen.getD 1 0)), .int (chI 1 0), .int (chI 1 1), .int (chI 1 2), .int (chI 1 3), .int (chI 1 4), .int (chI 1 5)]) (rest := []) ⟨hx, hb, hml, hown, hts⟩ (t_X11_isName l D G SG _ hG hP_SG T ts ht4 hTB a hAt.2.2.1 hXG hTk 1 (by decide)) (cwV 7 hts gX11_pass_X11_isName rfl rfl rfl (by decide +kernel) ⟨Nat.le_of_ble_eq_true rfl, Nat.le_of_ble_eq_true rfl⟩) (r_preV (k := 65) hA hW (ci := 10) (C := RX11) (T := TX11) (N := 20) rfl rfl (g_lt hG (by decide)) (g_kd hG (by decide) rfl) rfl rfl) rfl rfl hl.1 rfl (lv_room (Nat.le_of_ble_eq_true rfl)) dX11_pass_85 ⟨Nat.zero_le _, Nat.zero_le _⟩) (fun r85 S85 H locs hp85 hW => ?_)
                    obtain ⟨hs85, hp85⟩ := hp85
                    rw [hs85] at hW
                    rcases hp85 with ⟨rfl, h85⟩ | ⟨rfl, h85⟩
                    · skip
                      refine lv_if_eq (tgt := 111) hx hb dX11_pass_88 (by decide) (fun c88 => ?_) (fun c88 => ?_)
                      · exact absurd c88 (by decide)
                      · skip
                        refine lv_aload_n hx hb dX11_pass_91 rfl (lv_at hl 1 rfl) ?_
                        refine r_getr (ci := 10) (C := RX11) (T := TX11) (N := 20) hx hb hts iX11 hown hW rfl 65 0 rfl (g_lt hG (by decide)) (g_kd hG (by decide) rfl) (by decide) q2 (fun _ h9 => h9) (hP_SG _ (List.mem_of_getElem? (i := 60) rfl)) rfl rfl dX11_pass_92 ?_
                        refine lv_sipush (v := 437) hx hb dX11_pass_95 (by decide) ?_
                        refine W.eq (g2 := F0 mM 98 ls [.int (nI 437), .ref (gA G 66)]) rfl ?_
                        refine r_lald hx hb hW 66 rfl (g_lt hG (by decide)) (g_kd hG (by decide) rfl) (g_ix hG (c := 560) (by decide) rfl (n_inI (by omega) (by decide))) (lN (B 17)) (by rw [n_clamp (by omega)]; exact (hNG 17 (by decide))) dX11_pass_98 ?_
                        refine lv_lconst (v := 0) hx hb dX11_pass_99 (by decide) ?_
                        refine W.lcmp hx hb dX11_pass_100 ?_
                        refine lv_if_ne (tgt := 111) hx hb dX11_pass_101 (by decide) (fun c101 => ?_) (fun c101 => ?_)
                        · skip
                          rw [lc_ne] at c101
                          have h17n : ¬ B 17 = 0 := by rw [lN_int (by omega), show (0 : Int64).toInt = 0 from by decide] at c101; omega
                          have hnot : ¬ (isW T ts a 1 ∧ B 17 = 0) := fun z => h17n z.2
                          refine lv_aload_n hx hb dX11_pass_111 rfl (lv_at hl 1 rfl) ?_
                          refine lv_iconst (v := 5) hx hb dX11_pass_112 (by decide) ?_
                          refine lv_bipush (v := 112) hx hb dX11_pass_113 (by decide) ?_
                          refine lv_bipush (v := 97) hx hb dX11_pass_115 (by decide) ?_
                          refine lv_bipush (v := 114) hx hb dX11_pass_117 (by decide) ?_
                          refine lv_bipush (v := 116) hx hb dX11_pass_119 (by decide) ?_
                          refine lv_bipush (v := 121) hx hb dX11_pass_121 (by decide) ?_
                          refine lv_iconst (v := 0) hx hb dX11_pass_123 (by decide) ?_
                          refine W.eq (g2 := F0 mM 124 ls [.int (chI 2 5), .int (chI 2 4), .int (chI 2 3), .int (chI 2 2), .int (chI 2 1), .int (chI 2 0), .int (nI (sLen.getD 2 0)), .ref (gA G 65)]) rfl ?_
                          refine r_calli hW hA (va_runV (As := [.int (nI (sLen.getD 2 0)), .int (chI 2 0), .int (chI 2 1), .int (chI 2 2), .int (chI 2 3), .int (chI 2 4), .int (chI 2 5)]) (rest := []) ⟨hx, hb, hml, hown, hts⟩ (t_X11_isName l D G SG _ hG hP_SG T ts ht4 hTB a hAt.2.2.1 hXG hTk 2 (by decide)) (cwV 7 hts gX11_pass_X11_isName rfl rfl rfl (by decide +kernel) ⟨Nat.le_of_ble_eq_true rfl, Nat.le_of_ble_eq_true rfl⟩) (r_preV (k := 65) hA hW (ci := 10) (C := RX11) (T := TX11) (N := 20) rfl rfl (g_lt hG (by decide)) (g_kd hG (by decide) rfl) rfl rfl) rfl rfl hl.1 rfl (lv_room (Nat.le_of_ble_eq_true rfl)) dX11_pass_124 ⟨Nat.zero_le _, Nat.zero_le _⟩) (fun r124 S124 H locs hp124 hW => ?_)
                          obtain ⟨hs124, hp124⟩ := hp124
                          rw [hs124] at hW
                          rcases hp124 with ⟨rfl, h124⟩ | ⟨rfl, h124⟩
                          · skip
                            refine lv_if_eq (tgt := 137) hx hb dX11_pass_127 (by decide) (fun c127 => ?_) (fun c127 => ?_)
                            · exact absurd c127 (by decide)
                            · skip
                              refine lv_aload_n hx hb dX11_pass_130 rfl (lv_at hl 1 rfl) ?_
                              have hAtG : AtM SG T ts (tE T ts a) := ⟨hXG, hTk.2.2.1 (by have := h124.1; omega), hle.1, h12G⟩
                              refine r_callv hW hA (va_runV (As := []) (rest := []) ⟨hx, hb, hml, hown, hts⟩ (t_X11_takeParty l D G SG _ hG hP_SG T ts ht4 hTB a hAtG hTk.1 B hB hNG) (cwV 0 hts gX11_pass_X11_takeParty rfl rfl rfl (by decide +kernel) ⟨Nat.le_of_ble_eq_true rfl, Nat.le_of_ble_eq_true rfl⟩) (r_preV (k := 65) hA hW (ci := 10) (C := RX11) (T := TX11) (N := 20) rfl rfl (g_lt hG (by decide)) (g_kd hG (by decide) rfl) rfl rfl) rfl rfl hl.1 rfl (lv_room (Nat.le_of_ble_eq_true rfl)) dX11_pass_131 ⟨Nat.zero_le _, Nat.zero_le _⟩) (fun S131 H locs hp131 hW => ?_)
                              rcases hp131 with ⟨B2, e2, hpn, hok, hx10⟩ | ⟨f2, p2, hpn, hfl⟩
                              · skip
                                have hB2 := pParty_ok hpn hB
                                have hB24 := pParty_4 hpn
                                have hR2 : pPass T ts = pCnt T ts B2 e2 := by rw [hR, pCnt_p hB hnot h124, PB_l hpn]
                                have hP_S131 : GrP G S131 := fun q hq => by rw [hok.2.2.2.2.1]; exact hP_SG q hq
                                refine lv_goto (tgt := 155) hx hb dX11_pass_134 (by decide) ?_
                                refine lv_aload_n hx hb dX11_pass_155 rfl (lv_at hl 1 rfl) ?_
                                refine r_geti (ci := 10) (C := RX11) (T := TX11) (N := 20) hx hb hts iX11 hown hW rfl 65 12 rfl (g_lt hG (by decide)) (g_kd hG (by decide) rfl) (by decide) q1 (fun _ h9 => h9) 0 hok.1.2.2.2 rfl rfl dX11_pass_156 ?_
                                refine lv_if_ne (tgt := 173) hx hb dX11_pass_159 (by decide) (fun c159 => ?_) (fun c159 => ?_)
                                · exact absurd (by decide) c159
                                · skip
                                  refine lv_aload_n hx hb dX11_pass_162 rfl (lv_at hl 1 rfl) ?_
                                  refine r_geti (ci := 10) (C := RX11) (T := TX11) (N := 20) hx hb hts iX11 hown hW rfl 65 10 rfl (g_lt hG (by decide)) (g_kd hG (by decide) rfl) (by decide) q3 (fun _ h9 => h9) (nI 3) hx10 rfl rfl dX11_pass_163 ?_
                                  refine lv_if_eq (tgt := 173) hx hb dX11_pass_166 (by decide) (fun c166 => ?_) (fun c166 => ?_)
                                  · skip
                                    rw [t_eq, show (0 : Int32).toInt = 0 from by decide] at c166
                                    exfalso; rw [n_toInt (by omega)] at c166; omega --stop
                                  · skip
                                    rw [t_eq, show (0 : Int32).toInt = 0 from by decide] at c166
                                    refine lv_iconst (v := 1) hx hb dX11_pass_169 (by decide) ?_
                                    refine lv_goto (tgt := 174) hx hb dX11_pass_170 (by decide) ?_
                                    refine lv_istore_n (lv' := [(1, .int 1), (0, .ref (gA G 65))]) hx hb dX11_pass_174 rfl hl (by decide) rfl (fun ls hl => ?_)
                                    refine lv_goto (tgt := 62) hx hb dX11_pass_175 (by decide) ?_
                                    exact ih62 S131 B2 e2 1 _ _ ls (by rw [if_pos rfl]; omega) (FrM.tr hFrG hok.2.2) (Or.inl ⟨rfl, hok.1, hok.2.1, hB2.1, hR2⟩) hW (lv_sub hl [0, 1] rfl)
                              · skip
                                have hR2 : pPass T ts = .inr (f2, p2) := by rw [hR, pCnt_p hB hnot h124, PB_r hpn]
                                have hP_S131 : GrP G S131 := fun q hq => by rw [hfl.2.2.2.2.2.1]; exact hP_SG q hq
                                have hf3 := hfl.2.2.1
                                refine lv_goto (tgt := 155) hx hb dX11_pass_134 (by decide) ?_
                                refine lv_aload_n hx hb dX11_pass_155 rfl (lv_at hl 1 rfl) ?_
                                refine r_geti (ci := 10) (C := RX11) (T := TX11) (N := 20) hx hb hts iX11 hown hW rfl 65 12 rfl (g_lt hG (by decide)) (g_kd hG (by decide) rfl) (by decide) q1 (fun _ h9 => h9) (nI f2) hfl.1 rfl rfl dX11_pass_156 ?_
                                refine lv_if_ne (tgt := 173) hx hb dX11_pass_159 (by decide) (fun c159 => ?_) (fun c159 => ?_)
                                · skip
                                  rw [t_eq, show (0 : Int32).toInt = 0 from by decide] at c159
                                  refine lv_iconst (v := 0) hx hb dX11_pass_173 (by decide) ?_
                                  refine lv_istore_n (lv' := [(1, .int 0), (0, .ref (gA G 65))]) hx hb dX11_pass_174 rfl hl (by decide) rfl (fun ls hl => ?_)
                                  refine lv_goto (tgt := 62) hx hb dX11_pass_175 (by decide) ?_
                                  exact ih62 S131 B a 0 _ _ ls (by rw [if_neg (by decide)]; omega) (FrM.tr hFrG hfl.2.2.2) (Or.inr (Or.inl ⟨rfl, f2, p2, hR2, hfl.1, hfl.2.1, hf3⟩)) hW (lv_sub hl [0, 1] rfl)
                                · skip
                                  rw [t_eq, show (0 : Int32).toInt = 0 from by decide] at c159
                                  exfalso; rw [n_toInt (by omega)] at c159; omega --stop
                          · skip
                            refine lv_if_eq (tgt := 137) hx hb dX11_pass_127 (by decide) (fun c127 => ?_) (fun c127 => ?_)
                            · skip
                              refine lv_aload_n hx hb dX11_pass_137 rfl (lv_at hl 1 rfl) ?_
                              refine lv_aload_n hx hb dX11_pass_138 rfl (lv_at hl 1 rfl) ?_
                              refine r_geti (ci := 10) (C := RX11) (T := TX11) (N := 20) hx hb hts iX11 hown hW rfl 65 10 rfl (g_lt hG (by decide)) (g_kd hG (by decide) rfl) (by decide) q3 (fun _ h9 => h9) (nI (tS T ts a)) hTk.2.1 rfl rfl dX11_pass_139 ?_
                              refine lv_if_ne (tgt := 149) hx hb dX11_pass_142 (by decide) (fun c142 => ?_) (fun c142 => ?_)
                              · skip
                                rw [t_eq, show (0 : Int32).toInt = 0 from by decide] at c142
                                have hs0 : ¬ tS T ts a = 0 := by rw [n_toInt (by omega)] at c142; omega
                                refine lv_iconst (v := 0) hx hb dX11_pass_149 (by decide) ?_
                                refine lv_iconst (v := 1) hx hb dX11_pass_150 (by decide) ?_
                                refine W.eq (g2 := F0 mM 151 ls [.int (nI 1), .int 0, .ref (gA G 65)]) rfl ?_
                                refine r_calli hW hA (va_runV (As := [.int 0, .int (nI 1)]) (rest := []) ⟨hx, hb, hml, hown, hts⟩ (t_X11_want_no l D G SG _ hG hP_SG 1 h12G (by decide)) (cwV 2 hts gX11_pass_X11_want rfl rfl rfl (by decide +kernel) ⟨Nat.le_of_ble_eq_true rfl, Nat.le_of_ble_eq_true rfl⟩) (r_preV (k := 65) hA hW (ci := 10) (C := RX11) (T := TX11) (N := 20) rfl rfl (g_lt hG (by decide)) (g_kd hG (by decide) rfl) rfl rfl) rfl rfl hl.1 rfl (lv_room (Nat.le_of_ble_eq_true rfl)) dX11_pass_151 ⟨Nat.zero_le _, Nat.zero_le _⟩) (fun r151 S151 H locs hp151 hW => ?_)
                                obtain ⟨rfl, hs151⟩ := hp151
                                rw [hs151] at hW
                                have hR2 : pPass T ts = .inr (1, SK T ts a) := by rw [hR, pCnt_e hB hnot h124, PB_r (show pEnd T ts a = .inr (1, SK T ts a) by unfold pEnd; rw [if_neg hs0])]
                                have hz12 : gi (ri SG 65 (va_up (va_up (gi SG 65) 12 (nI 1)) 13 (gi SG 65 9))) 65 12 = nI 1 := (congrFun (e_is _ _ _) 12).trans rfl
                                have hz13 : gi (ri SG 65 (va_up (va_up (gi SG 65) 12 (nI 1)) 13 (gi SG 65 9))) 65 13 = nI (SK T ts a) := (congrFun (e_is _ _ _) 13).trans hTk.1
                                refine lv_istore_n (lv' := [(2, .int 0), (1, .int 1), (0, .ref (gA G 65))]) hx hb dX11_pass_154 rfl hl (by decide) rfl (fun ls hl => ?_)
                                refine lv_aload_n hx hb dX11_pass_155 rfl (lv_at hl 2 rfl) ?_
                                refine r_geti (ci := 10) (C := RX11) (T := TX11) (N := 20) hx hb hts iX11 hown hW rfl 65 12 rfl (g_lt hG (by decide)) (g_kd hG (by decide) rfl) (by decide) q1 (fun _ h9 => h9) (nI 1) (congrFun (e_is _ _ _) 12) rfl rfl dX11_pass_156 ?_
                                refine lv_if_ne (tgt := 173) hx hb dX11_pass_159 (by decide) (fun c159 => ?_) (fun c159 => ?_)
                                · skip
                                  rw [t_eq, show (0 : Int32).toInt = 0 from by decide] at c159
                                  refine lv_iconst (v := 0) hx hb dX11_pass_173 (by decide) ?_
                                  refine lv_istore_n (lv' := [(1, .int 0), (2, .int 0), (0, .ref (gA G 65))]) hx hb dX11_pass_174 rfl hl (by decide) rfl (fun ls hl => ?_)
                                  refine lv_goto (tgt := 62) hx hb dX11_pass_175 (by decide) ?_
                                  exact ih62 (ri SG 65 (va_up (va_up (gi SG 65) 12 (nI 1)) 13 (gi SG 65 9))) B a 0 _ _ ls (by rw [if_neg (by decide)]; omega) (FrM.ri hFrG (fun j hj => (up_n _ _ (by omega)).trans (up_n _ _ (by omega)))) (Or.inr (Or.inl ⟨rfl, 1, SK T ts a, hR2, hz12, hz13, by decide, by decide⟩)) hW (lv_sub hl [0, 2] rfl)
                                · skip
                                  rw [t_eq, show (0 : Int32).toInt = 0 from by decide] at c159
                                  exfalso; rw [n_toInt (by omega)] at c159; omega --stop
                              · skip
                                rw [t_eq, show (0 : Int32).toInt = 0 from by decide] at c142
                                have hs0 : tS T ts a = 0 := by rw [n_toInt (by omega)] at c142; omega
                                refine lv_iconst (v := 1) hx hb dX11_pass_145 (by decide) ?_
                                refine lv_goto (tgt := 150) hx hb dX11_pass_146 (by decide) ?_
                                refine lv_iconst (v := 1) hx hb dX11_pass_150 (by decide) ?_
                                refine W.eq (g2 := F0 mM 151 ls [.int (nI 1), .int 1, .ref (gA G 65)]) rfl ?_
                                refine r_calli hW hA (va_runV (As := [.int 1, .int (nI 1)]) (rest := []) ⟨hx, hb, hml, hown, hts⟩ (t_X11_want_ok l D G SG _ hG hP_SG 1 h12G) (cwV 2 hts gX11_pass_X11_want rfl rfl rfl (by decide +kernel) ⟨Nat.le_of_ble_eq_true rfl, Nat.le_of_ble_eq_true rfl⟩) (r_preV (k := 65) hA hW (ci := 10) (C := RX11) (T := TX11) (N := 20) rfl rfl (g_lt hG (by decide)) (g_kd hG (by decide) rfl) rfl rfl) rfl rfl hl.1 rfl (lv_room (Nat.le_of_ble_eq_true rfl)) dX11_pass_151 ⟨Nat.zero_le _, Nat.zero_le _⟩) (fun r151 S151 H locs hp151 hW => ?_)
                                obtain ⟨rfl, hs151⟩ := hp151
                                rw [hs151] at hW
                                have hR2 : pPass T ts = .inl (B, a) := by rw [hR, pCnt_e hB hnot h124, PB_l (show pEnd T ts a = .inl ((), a) by unfold pEnd; rw [if_pos hs0])]
                                refine lv_istore_n (lv' := [(2, .int 1), (1, .int 1), (0, .ref (gA G 65))]) hx hb dX11_pass_154 rfl hl (by decide) rfl (fun ls hl => ?_)
                                refine lv_aload_n hx hb dX11_pass_155 rfl (lv_at hl 2 rfl) ?_
                                refine r_geti (ci := 10) (C := RX11) (T := TX11) (N := 20) hx hb hts iX11 hown hW rfl 65 12 rfl (g_lt hG (by decide)) (g_kd hG (by decide) rfl) (by decide) q1 (fun _ h9 => h9) 0 h12G rfl rfl dX11_pass_156 ?_
                                refine lv_if_ne (tgt := 173) hx hb dX11_pass_159 (by decide) (fun c159 => ?_) (fun c159 => ?_)
                                · exact absurd (by decide) c159
                                · skip
                                  refine lv_aload_n hx hb dX11_pass_162 rfl (lv_at hl 2 rfl) ?_
                                  refine r_geti (ci := 10) (C := RX11) (T := TX11) (N := 20) hx hb hts iX11 hown hW rfl 65 10 rfl (g_lt hG (by decide)) (g_kd hG (by decide) rfl) (by decide) q3 (fun _ h9 => h9) (nI (tS T ts a)) hTk.2.1 rfl rfl dX11_pass_163 ?_
                                  refine lv_if_eq (tgt := 173) hx hb dX11_pass_166 (by decide) (fun c166 => ?_) (fun c166 => ?_)
                                  · skip
                                    rw [t_eq, show (0 : Int32).toInt = 0 from by decide] at c166
                                    refine lv_iconst (v := 0) hx hb dX11_pass_173 (by decide) ?_
                                    refine lv_istore_n (lv' := [(1, .int 0), (2, .int 1), (0, .ref (gA G 65))]) hx hb dX11_pass_174 rfl hl (by decide) rfl (fun ls hl => ?_)
                                    refine lv_goto (tgt := 62) hx hb dX11_pass_175 (by decide) ?_
                                    exact ih62 SG B a 0 _ _ ls (by rw [if_neg (by decide)]; omega) hFrG (Or.inr (Or.inr ⟨rfl, h12G, hNG, hB, a, hR2⟩)) hW (lv_sub hl [0, 2] rfl)
                                  · skip
                                    rw [t_eq, show (0 : Int32).toInt = 0 from by decide] at c166
                                    exfalso; rw [n_toInt (by omega)] at c166; omega --stop
                            · exact absurd (by decide) c127
                        · skip
                          rw [lc_ne] at c101
                          have h17 : B 17 = 0 := by rw [lN_int (by omega), show (0 : Int64).toInt = 0 from by decide] at c101; omega
                          refine lv_aload_n hx hb dX11_pass_104 rfl (lv_at hl 1 rfl) ?_
                          have hAtG : AtM SG T ts (tE T ts a) := ⟨hXG, hTk.2.2.1 (by have := h85.1; omega), hle.1, h12G⟩
                          refine r_callv hW hA (va_runV (As := []) (rest := []) ⟨hx, hb, hml, hown, hts⟩ (t_X11_takeChance l D G SG _ hG hP_SG T ts ht4 hTB a hAtG hTk.1 B hB hNG) (cwV 0 hts gX11_pass_X11_takeChance rfl rfl rfl (by decide +kernel) ⟨Nat.le_of_ble_eq_true rfl, Nat.le_of_ble_eq_true rfl⟩) (r_preV (k := 65) hA hW (ci := 10) (C := RX11) (T := TX11) (N := 20) rfl rfl (g_lt hG (by decide)) (g_kd hG (by decide) rfl) rfl rfl) rfl rfl hl.1 rfl (lv_room (Nat.le_of_ble_eq_true rfl)) dX11_pass_105 ⟨Nat.zero_le _, Nat.zero_le _⟩) (fun S105 H locs hp105 hW => ?_)
                          rcases hp105 with ⟨B2, e2, hpn, hok, hx10⟩ | ⟨f2, p2, hpn, hfl⟩
                          · skip
                            have hB2 := pChance_ok hpn hB h17
                            have hR2 : pPass T ts = pCnt T ts B2 e2 := by rw [hR, pCnt_c hB h17 h85, PB_l hpn]
                            have hP_S105 : GrP G S105 := fun q hq => by rw [hok.2.2.2.2.1]; exact hP_SG q hq
                            refine lv_goto (tgt := 155) hx hb dX11_pass_108 (by decide) ?_
                            refine lv_aload_n hx hb dX11_pass_155 rfl (lv_at hl 1 rfl) ?_
                            refine r_geti (ci := 10) (C := RX11) (T := TX11) (N := 20) hx hb hts iX11 hown hW rfl 65 12 rfl (g_lt hG (by decide)) (g_kd hG (by decide) rfl) (by decide) q1 (fun _ h9 => h9) 0 hok.1.2.2.2 rfl rfl dX11_pass_156 ?_
                            refine lv_if_ne (tgt := 173) hx hb dX11_pass_159 (by decide) (fun c159 => ?_) (fun c159 => ?_)
                            · exact absurd (by decide) c159
                            · skip
                              refine lv_aload_n hx hb dX11_pass_162 rfl (lv_at hl 1 rfl) ?_
                              refine r_geti (ci := 10) (C := RX11) (T := TX11) (N := 20) hx hb hts iX11 hown hW rfl 65 10 rfl (g_lt hG (by decide)) (g_kd hG (by decide) rfl) (by decide) q3 (fun _ h9 => h9) (nI 3) hx10 rfl rfl dX11_pass_163 ?_
                              refine lv_if_eq (tgt := 173) hx hb dX11_pass_166 (by decide) (fun c166 => ?_) (fun c166 => ?_)
                              · skip
                                rw [t_eq, show (0 : Int32).toInt = 0 from by decide] at c166
                                exfalso; rw [n_toInt (by omega)] at c166; omega --stop
                              · skip
                                rw [t_eq, show (0 : Int32).toInt = 0 from by decide] at c166
                                refine lv_iconst (v := 1) hx hb dX11_pass_169 (by decide) ?_
                                refine lv_goto (tgt := 174) hx hb dX11_pass_170 (by decide) ?_
                                refine lv_istore_n (lv' := [(1, .int 1), (0, .ref (gA G 65))]) hx hb dX11_pass_174 rfl hl (by decide) rfl (fun ls hl => ?_)
                                refine lv_goto (tgt := 62) hx hb dX11_pass_175 (by decide) ?_
                                exact ih62 S105 B2 e2 1 _ _ ls (by rw [if_pos rfl]; omega) (FrM.tr hFrG hok.2.2) (Or.inl ⟨rfl, hok.1, hok.2.1, hB2.1, hR2⟩) hW (lv_sub hl [0, 1] rfl)
                          · skip
                            have hR2 : pPass T ts = .inr (f2, p2) := by rw [hR, pCnt_c hB h17 h85, PB_r hpn]
                            have hP_S105 : GrP G S105 := fun q hq => by rw [hfl.2.2.2.2.2.1]; exact hP_SG q hq
                            have hf3 := hfl.2.2.1
                            refine lv_goto (tgt := 155) hx hb dX11_pass_108 (by decide) ?_
                            refine lv_aload_n hx hb dX11_pass_155 rfl (lv_at hl 1 rfl) ?_
                            refine r_geti (ci := 10) (C := RX11) (T := TX11) (N := 20) hx hb hts iX11 hown hW rfl 65 12 rfl (g_lt hG (by decide)) (g_kd hG (by decide) rfl) (by decide) q1 (fun _ h9 => h9) (nI f2) hfl.1 rfl rfl dX11_pass_156 ?_
                            refine lv_if_ne (tgt := 173) hx hb dX11_pass_159 (by decide) (fun c159 => ?_) (fun c159 => ?_)
                            · skip
                              rw [t_eq, show (0 : Int32).toInt = 0 from by decide] at c159
                              refine lv_iconst (v := 0) hx hb dX11_pass_173 (by decide) ?_
                              refine lv_istore_n (lv' := [(1, .int 0), (0, .ref (gA G 65))]) hx hb dX11_pass_174 rfl hl (by decide) rfl (fun ls hl => ?_)
                              refine lv_goto (tgt := 62) hx hb dX11_pass_175 (by decide) ?_
                              exact ih62 S105 B a 0 _ _ ls (by rw [if_neg (by decide)]; omega) (FrM.tr hFrG hfl.2.2.2) (Or.inr (Or.inl ⟨rfl, f2, p2, hR2, hfl.1, hfl.2.1, hf3⟩)) hW (lv_sub hl [0, 1] rfl)
                            · skip
                              rw [t_eq, show (0 : Int32).toInt = 0 from by decide] at c159
                              exfalso; rw [n_toInt (by omega)] at c159; omega --stop
                    · skip
                      refine lv_if_eq (tgt := 111) hx hb dX11_pass_88 (by decide) (fun c88 => ?_) (fun c88 => ?_)
                      · skip
                        have hnot : ¬ (isW T ts a 1 ∧ B 17 = 0) := fun z => h85 z.1
                        refine lv_aload_n hx hb dX11_pass_111 rfl (lv_at hl 1 rfl) ?_
                        refine lv_iconst (v := 5) hx hb dX11_pass_112 (by decide) ?_
                        refine lv_bipush (v := 112) hx hb dX11_pass_113 (by decide) ?_
                        refine lv_bipush (v := 97) hx hb dX11_pass_115 (by decide) ?_
                        refine lv_bipush (v := 114) hx hb dX11_pass_117 (by decide) ?_
                        refine lv_bipush (v := 116) hx hb dX11_pass_119 (by decide) ?_
                        refine lv_bipush (v := 121) hx hb dX11_pass_121 (by decide) ?_
                        refine lv_iconst (v := 0) hx hb dX11_pass_123 (by decide) ?_
                        refine W.eq (g2 := F0 mM 124 ls [.int (chI 2 5), .int (chI 2 4), .int (chI 2 3), .int (chI 2 2), .int (chI 2 1), .int (chI 2 0), .int (nI (sLen.getD 2 0)), .ref (gA G 65)]) rfl ?_
                        refine r_calli hW hA (va_runV (As := [.int (nI (sLen.getD 2 0)), .int (chI 2 0), .int (chI 2 1), .int (chI 2 2), .int (chI 2 3), .int (chI 2 4), .int (chI 2 5)]) (rest := []) ⟨hx, hb, hml, hown, hts⟩ (t_X11_isName l D G SG _ hG hP_SG T ts ht4 hTB a hAt.2.2.1 hXG hTk 2 (by decide)) (cwV 7 hts gX11_pass_X11_isName rfl rfl rfl (by decide +kernel) ⟨Nat.le_of_ble_eq_true rfl, Nat.le_of_ble_eq_true rfl⟩) (r_preV (k := 65) hA hW (ci := 10) (C := RX11) (T := TX11) (N := 20) rfl rfl (g_lt hG (by decide)) (g_kd hG (by decide) rfl) rfl rfl) rfl rfl hl.1 rfl (lv_room (Nat.le_of_ble_eq_true rfl)) dX11_pass_124 ⟨Nat.zero_le _, Nat.zero_le _⟩) (fun r124 S124 H locs hp124 hW => ?_)
                        obtain ⟨hs124, hp124⟩ := hp124
                        rw [hs124] at hW
                        rcases hp124 with ⟨rfl, h124⟩ | ⟨rfl, h124⟩
                        · skip
                          refine lv_if_eq (tgt := 137) hx hb dX11_pass_127 (by decide) (fun c127 => ?_) (fun c127 => ?_)
                          · exact absurd c127 (by decide)
                          · skip
                            refine lv_aload_n hx hb dX11_pass_130 rfl (lv_at hl 1 rfl) ?_
                            have hAtG : AtM SG T ts (tE T ts a) := ⟨hXG, hTk.2.2.1 (by have := h124.1; omega), hle.1, h12G⟩
                            refine r_callv hW hA (va_runV (As := []) (rest := []) ⟨hx, hb, hml, hown, hts⟩ (t_X11_takeParty l D G SG _ hG hP_SG T ts ht4 hTB a hAtG hTk.1 B hB hNG) (cwV 0 hts gX11_pass_X11_takeParty rfl rfl rfl (by decide +kernel) ⟨Nat.le_of_ble_eq_true rfl, Nat.le_of_ble_eq_true rfl⟩) (r_preV (k := 65) hA hW (ci := 10) (C := RX11) (T := TX11) (N := 20) rfl rfl (g_lt hG (by decide)) (g_kd hG (by decide) rfl) rfl rfl) rfl rfl hl.1 rfl (lv_room (Nat.le_of_ble_eq_true rfl)) dX11_pass_131 ⟨Nat.zero_le _, Nat.zero_le _⟩) (fun S131 H locs hp131 hW => ?_)
                            rcases hp131 with ⟨B2, e2, hpn, hok, hx10⟩ | ⟨f2, p2, hpn, hfl⟩
                            · skip
                              have hB2 := pParty_ok hpn hB
                              have hB24 := pParty_4 hpn
                              have hR2 : pPass T ts = pCnt T ts B2 e2 := by rw [hR, pCnt_p hB hnot h124, PB_l hpn]
                              have hP_S131 : GrP G S131 := fun q hq => by rw [hok.2.2.2.2.1]; exact hP_SG q hq
                              refine lv_goto (tgt := 155) hx hb dX11_pass_134 (by decide) ?_
                              refine lv_aload_n hx hb dX11_pass_155 rfl (lv_at hl 1 rfl) ?_
                              refine r_geti (ci := 10) (C := RX11) (T := TX11) (N := 20) hx hb hts iX11 hown hW rfl 65 12 rfl (g_lt hG (by decide)) (g_kd hG (by decide) rfl) (by decide) q1 (fun _ h9 => h9) 0 hok.1.2.2.2 rfl rfl dX11_pass_156 ?_
                              refine lv_if_ne (tgt := 173) hx hb dX11_pass_159 (by decide) (fun c159 => ?_) (fun c159 => ?_)
                              · exact absurd (by decide) c159
                              · skip
                                refine lv_aload_n hx hb dX11_pass_162 rfl (lv_at hl 1 rfl) ?_
                                refine r_geti (ci := 10) (C := RX11) (T := TX11) (N := 20) hx hb hts iX11 hown hW rfl 65 10 rfl (g_lt hG (by decide)) (g_kd hG (by decide) rfl) (by decide) q3 (fun _ h9 => h9) (nI 3) hx10 rfl rfl dX11_pass_163 ?_
                                refine lv_if_eq (tgt := 173) hx hb dX11_pass_166 (by decide) (fun c166 => ?_) (fun c166 => ?_)
                                · skip
                                  rw [t_eq, show (0 : Int32).toInt = 0 from by decide] at c166
                                  exfalso; rw [n_toInt (by omega)] at c166; omega --stop
                                · skip
                                  rw [t_eq, show (0 : Int32).toInt = 0 from by decide] at c166
                                  refine lv_iconst (v := 1) hx hb dX11_pass_169 (by decide) ?_
                                  refine lv_goto (tgt := 174) hx hb dX11_pass_170 (by decide) ?_
                                  refine lv_istore_n (lv' := [(1, .int 1), (0, .ref (gA G 65))]) hx hb dX11_pass_174 rfl hl (by decide) rfl (fun ls hl => ?_)
                                  refine lv_goto (tgt := 62) hx hb dX11_pass_175 (by decide) ?_
                                  exact ih62 S131 B2 e2 1 _ _ ls (by rw [if_pos rfl]; omega) (FrM.tr hFrG hok.2.2) (Or.inl ⟨rfl, hok.1, hok.2.1, hB2.1, hR2⟩) hW (lv_sub hl [0, 1] rfl)
                            · skip
                              have hR2 : pPass T ts = .inr (f2, p2) := by rw [hR, pCnt_p hB hnot h124, PB_r hpn]
                              have hP_S131 : GrP G S131 := fun q hq => by rw [hfl.2.2.2.2.2.1]; exact hP_SG q hq
                              have hf3 := hfl.2.2.1
                              refine lv_goto (tgt := 155) hx hb dX11_pass_134 (by decide) ?_
                              refine lv_aload_n hx hb dX11_pass_155 rfl (lv_at hl 1 rfl) ?_
                              refine r_geti (ci := 10) (C := RX11) (T := TX11) (N := 20) hx hb hts iX11 hown hW rfl 65 12 rfl (g_lt hG (by decide)) (g_kd hG (by decide) rfl) (by decide) q1 (fun _ h9 => h9) (nI f2) hfl.1 rfl rfl dX11_pass_156 ?_
                              refine lv_if_ne (tgt := 173) hx hb dX11_pass_159 (by decide) (fun c159 => ?_) (fun c159 => ?_)
                              · skip
                                rw [t_eq, show (0 : Int32).toInt = 0 from by decide] at c159
                                refine lv_iconst (v := 0) hx hb dX11_pass_173 (by decide) ?_
                                refine lv_istore_n (lv' := [(1, .int 0), (0, .ref (gA G 65))]) hx hb dX11_pass_174 rfl hl (by decide) rfl (fun ls hl => ?_)
                                refine lv_goto (tgt := 62) hx hb dX11_pass_175 (by decide) ?_
                                exact ih62 S131 B a 0 _ _ ls (by rw [if_neg (by decide)]; omega) (FrM.tr hFrG hfl.2.2.2) (Or.inr (Or.inl ⟨rfl, f2, p2, hR2, hfl.1, hfl.2.1, hf3⟩)) hW (lv_sub hl [0, 1] rfl)
                              · skip
                                rw [t_eq, show (0 : Int32).toInt = 0 from by decide] at c159
                                exfalso; rw [n_toInt (by omega)] at c159; omega --stop
                        · skip
                          refine lv_if_eq (tgt := 137) hx hb dX11_pass_127 (by decide) (fun c127 => ?_) (fun c127 => ?_)
                          · skip
                            refine lv_aload_n hx hb dX11_pass_137 rfl (lv_at hl 1 rfl) ?_
                            refine lv_aload_n hx hb dX11_pass_138 rfl (lv_at hl 1 rfl) ?_
                            refine r_geti (ci := 10) (C := RX11) (T := TX11) (N := 20) hx hb hts iX11 hown hW rfl 65 10 rfl (g_lt hG (by decide)) (g_kd hG (by decide) rfl) (by decide) q3 (fun _ h9 => h9) (nI (tS T ts a)) hTk.2.1 rfl rfl dX11_pass_139 ?_
                            refine lv_if_ne (tgt := 149) hx hb dX11_pass_142 (by decide) (fun c142 => ?_) (fun c142 => ?_)
                            · skip
                              rw [t_eq, show (0 : Int32).toInt = 0 from by decide] at c142
                              have hs0 : ¬ tS T ts a = 0 := by rw [n_toInt (by omega)] at c142; omega
                              refine lv_iconst (v := 0) hx hb dX11_pass_149 (by decide) ?_
                              refine lv_iconst (v := 1) hx hb dX11_pass_150 (by decide) ?_
                              refine W.eq (g2 := F0 mM 151 ls [.int (nI 1), .int 0, .ref (gA G 65)]) rfl ?_
                              refine r_calli hW hA (va_runV (As := [.int 0, .int (nI 1)]) (rest := []) ⟨hx, hb, hml, hown, hts⟩ (t_X11_want_no l D G SG _ hG hP_SG 1 h12G (by decide)) (cwV 2 hts gX11_pass_X11_want rfl rfl rfl (by decide +kernel) ⟨Nat.le_of_ble_eq_true rfl, Nat.le_of_ble_eq_true rfl⟩) (r_preV (k := 65) hA hW (ci := 10) (C := RX11) (T := TX11) (N := 20) rfl rfl (g_lt hG (by decide)) (g_kd hG (by decide) rfl) rfl rfl) rfl rfl hl.1 rfl (lv_room (Nat.le_of_ble_eq_true rfl)) dX11_pass_151 ⟨Nat.zero_le _, Nat.zero_le _⟩) (fun r151 S151 H locs hp151 hW => ?_)
                              obtain ⟨rfl, hs151⟩ := hp151
                              rw [hs151] at hW
                              have hR2 : pPass T ts = .inr (1, SK T ts a) := by rw [hR, pCnt_e hB hnot h124, PB_r (show pEnd T ts a = .inr (1, SK T ts a) by unfold pEnd; rw [if_neg hs0])]
                              have hz12 : gi (ri SG 65 (va_up (va_up (gi SG 65) 12 (nI 1)) 13 (gi SG 65 9))) 65 12 = nI 1 := (congrFun (e_is _ _ _) 12).trans rfl
                              have hz13 : gi (ri SG 65 (va_up (va_up (gi SG 65) 12 (nI 1)) 13 (gi SG 65 9))) 65 13 = nI (SK T ts a) := (congrFun (e_is _ _ _) 13).trans hTk.1
                              refine lv_istore_n (lv' := [(2, .int 0), (1, .int 1), (0, .ref (gA G 65))]) hx hb dX11_pass_154 rfl hl (by decide) rfl (fun ls hl => ?_)
                              refine lv_aload_n hx hb dX11_pass_155 rfl (lv_at hl 2 rfl) ?_
                              refine r_geti (ci := 10) (C := RX11) (T := TX11) (N := 20) hx hb hts iX11 hown hW rfl 65 12 rfl (g_lt hG (by decide)) (g_kd hG (by decide) rfl) (by decide) q1 (fun _ h9 => h9) (nI 1) (congrFun (e_is _ _ _) 12) rfl rfl dX11_pass_156 ?_
                              refine lv_if_ne (tgt := 173) hx hb dX11_pass_159 (by decide) (fun c159 => ?_) (fun c159 => ?_)
                              · skip
                                rw [t_eq, show (0 : Int32).toInt = 0 from by decide] at c159
                                refine lv_iconst (v := 0) hx hb dX11_pass_173 (by decide) ?_
                                refine lv_istore_n (lv' := [(1, .int 0), (2, .int 0), (0, .ref (gA G 65))]) hx hb dX11_pass_174 rfl hl (by decide) rfl (fun ls hl => ?_)
                                refine lv_goto (tgt := 62) hx hb dX11_pass_175 (by decide) ?_
                                exact ih62 (ri SG 65 (va_up (va_up (gi SG 65) 12 (nI 1)) 13 (gi SG 65 9))) B a 0 _ _ ls (by rw [if_neg (by decide)]; omega) (FrM.ri hFrG (fun j hj => (up_n _ _ (by omega)).trans (up_n _ _ (by omega)))) (Or.inr (Or.inl ⟨rfl, 1, SK T ts a, hR2, hz12, hz13, by decide, by decide⟩)) hW (lv_sub hl [0, 2] rfl)
                              · skip
                                rw [t_eq, show (0 : Int32).toInt = 0 from by decide] at c159
                                exfalso; rw [n_toInt (by omega)] at c159; omega --stop
                            · skip
                              rw [t_eq, show (0 : Int32).toInt = 0 from by decide] at c142
                              have hs0 : tS T ts a = 0 := by rw [n_toInt (by omega)] at c142; omega
                              refine lv_iconst (v := 1) hx hb dX11_pass_145 (by decide) ?_
                              refine lv_goto (tgt := 150) hx hb dX11_pass_146 (by decide) ?_
                              refine lv_iconst (v := 1) hx hb dX11_pass_150 (by decide) ?_
                              refine W.eq (g2 := F0 mM 151 ls [.int (nI 1), .int 1, .ref (gA G 65)]) rfl ?_
                              refine r_calli hW hA (va_runV (As := [.int 1, .int (nI 1)]) (rest := []) ⟨hx, hb, hml, hown, hts⟩ (t_X11_want_ok l D G SG _ hG hP_SG 1 h12G) (cwV 2 hts gX11_pass_X11_want rfl rfl rfl (by decide +kernel) ⟨Nat.le_of_ble_eq_true rfl, Nat.le_of_ble_eq_true rfl⟩) (r_preV (k := 65) hA hW (ci := 10) (C := RX11) (T := TX11) (N := 20) rfl rfl (g_lt hG (by decide)) (g_kd hG (by decide) rfl) rfl rfl) rfl rfl hl.1 rfl (lv_room (Nat.le_of_ble_eq_true rfl)) dX11_pass_151 ⟨Nat.zero_le _, Nat.zero_le _⟩) (fun r151 S151 H locs hp151 hW => ?_)
                              obtain ⟨rfl, hs151⟩ := hp151
                              rw [hs151] at hW
                              have hR2 : pPass T ts = .inl (B, a) := by rw [hR, pCnt_e hB hnot h124, PB_l (show pEnd T ts a = .inl ((), a) by unfold pEnd; rw [if_pos hs0])]
                              refine lv_istore_n (lv' := [(2, .int 1), (1, .int 1), (0, .ref (gA G 65))]) hx hb dX11_pass_154 rfl hl (by decide) rfl (fun ls hl => ?_)
                              refine lv_aload_n hx hb dX11_pass_155 rfl (lv_at hl 2 rfl) ?_
                              refine r_geti (ci := 10) (C := RX11) (T := TX11) (N := 20) hx hb hts iX11 hown hW rfl 65 12 rfl (g_lt hG (by decide)) (g_kd hG (by decide) rfl) (by decide) q1 (fun _ h9 => h9) 0 h12G rfl rfl dX11_pass_156 ?_
                              refine lv_if_ne (tgt := 173) hx hb dX11_pass_159 (by decide) (fun c159 => ?_) (fun c159 => ?_)
                              · exact absurd (by decide) c159
                              · skip
                                refine lv_aload_n hx hb dX11_pass_162 rfl (lv_at hl 2 rfl) ?_
                                refine r_geti (ci := 10) (C := RX11) (T := TX11) (N := 20) hx hb hts iX11 hown hW rfl 65 10 rfl (g_lt hG (by decide)) (g_kd hG (by decide) rfl) (by decide) q3 (fun _ h9 => h9) (nI (tS T ts a)) hTk.2.1 rfl rfl dX11_pass_163 ?_
                                refine lv_if_eq (tgt := 173) hx hb dX11_pass_166 (by decide) (fun c166 => ?_) (fun c166 => ?_)
                                · skip
                                  rw [t_eq, show (0 : Int32).toInt = 0 from by decide] at c166
                                  refine lv_iconst (v := 0) hx hb dX11_pass_173 (by decide) ?_
                                  refine lv_istore_n (lv' := [(1, .int 0), (2, .int 1), (0, .ref (gA G 65))]) hx hb dX11_pass_174 rfl hl (by decide) rfl (fun ls hl => ?_)
                                  refine lv_goto (tgt := 62) hx hb dX11_pass_175 (by decide) ?_
                                  exact ih62 SG B a 0 _ _ ls (by rw [if_neg (by decide)]; omega) hFrG (Or.inr (Or.inr ⟨rfl, h12G, hNG, hB, a, hR2⟩)) hW (lv_sub hl [0, 2] rfl)
                                · skip
                                  rw [t_eq, show (0 : Int32).toInt = 0 from by decide] at c166
                                  exfalso; rw [n_toInt (by omega)] at c166; omega --stop
                          · exact absurd (by decide) c127
                      · exact absurd (by decide) c88
                · skip
                  have hpb : p ≤ ts := by have z := pPass_bd (T := T) (ts := ts); rw [hR] at z; exact z
                  refine lv_if_eq (tgt := 178) hx hb dX11_pass_63 (by decide) (fun c63 => ?_) (fun c63 => ?_)
                  · skip
                    refine lv_aload_n hx hb dX11_pass_178 rfl (lv_at hl 1 rfl) ?_
                    refine lv_iconst (v := 0) hx hb dX11_pass_179 (by decide) ?_
                    refine r_puti (ci := 10) (C := RX11) (T := TX11) (N := 20) hx hb hts iX11 tyX11 tyX11_ok nmX11 hown hW rfl 65 7 rfl (g_lt hG (by decide)) (g_kd hG (by decide) rfl) (by decide) q4 (fun _ h9 => h9) rfl (tyX11_ok 7 (by decide)) rfl rfl (ri T0 65 (va_up (gi T0 65) 7 0)) (gi T0 65) (va_up (gi T0 65) 7 0) rfl (e_is _ _ _) rfl rfl rfl (Nat.le_of_ble_eq_true rfl) rfl c_i0 dX11_pass_180 (fun H locs hW => ?_)
                    refine lv_aload_n hx hb dX11_pass_183 rfl (lv_at hl 1 rfl) ?_
                    refine r_geti (ci := 10) (C := RX11) (T := TX11) (N := 20) hx hb hts iX11 hown hW rfl 65 12 rfl (g_lt hG (by decide)) (g_kd hG (by decide) rfl) (by decide) q1 (fun _ h9 => h9) (nI f) ((congrFun (e_is _ _ _) 12).trans h12) rfl rfl dX11_pass_184 ?_
                    refine lv_if_le (tgt := 208) hx hb dX11_pass_187 (by decide) (fun c187 => ?_) (fun c187 => ?_)
                    · skip
                      rw [t_le, show (0 : Int32).toInt = 0 from by decide] at c187
                      exfalso; rw [n_toInt (by omega)] at c187; omega --stop
                    · skip
                      rw [t_le, show (0 : Int32).toInt = 0 from by decide] at c187
                      refine lv_aload_n hx hb dX11_pass_190 rfl (lv_at hl 1 rfl) ?_
                      refine lv_aload_n hx hb dX11_pass_191 rfl (lv_at hl 1 rfl) ?_
                      refine r_geti (ci := 10) (C := RX11) (T := TX11) (N := 20) hx hb hts iX11 hown hW rfl 65 12 rfl (g_lt hG (by decide)) (g_kd hG (by decide) rfl) (by decide) q1 (fun _ h9 => h9) (nI f) ((congrFun (e_is _ _ _) 12).trans h12) rfl rfl dX11_pass_192 ?_
                      refine r_puti (ci := 10) (C := RX11) (T := TX11) (N := 20) hx hb hts iX11 tyX11 tyX11_ok nmX11 hown hW rfl 65 14 rfl (g_lt hG (by decide)) (g_kd hG (by decide) rfl) (by decide) q5 (fun _ h9 => h9) rfl (tyX11_ok 14 (by decide)) rfl rfl (ri T0 65 (va_up (va_up (gi T0 65) 7 0) 14 (nI f))) (va_up (gi T0 65) 7 0) (va_up (va_up (gi T0 65) 7 0) 14 (nI f)) (e_is _ _ _) (e_is _ _ _) rfl rfl rfl (Nat.le_of_ble_eq_true rfl) rfl c_i dX11_pass_195 (fun H locs hW => ?_)
                      refine lv_ldc2 (v := (-9000000000000000100)) hx hb hown q6 dX11_pass_198 ?_
                      refine lv_aload_n hx hb dX11_pass_201 rfl (lv_at hl 1 rfl) ?_
                      refine r_geti (ci := 10) (C := RX11) (T := TX11) (N := 20) hx hb hts iX11 hown hW rfl 65 13 rfl (g_lt hG (by decide)) (g_kd hG (by decide) rfl) (by decide) q7 (fun _ h9 => h9) (nI p) ((congrFun (e_is _ _ _) 13).trans h13) rfl rfl dX11_pass_202 ?_
                      refine lv_i2l hx hb dX11_pass_205 rfl ?_
                      rw [show (Int32.toInt64 (nI p) : Int64) = lN p from lN_of (by omega)]
                      refine lv_lsub hx hb dX11_pass_206 ?_
                      rw [← hQ0]
                      refine r_lret hx hb hr hlocks hW ?_ dX11_pass_207
                      have e : fPass T ts B0 lf = (-9000000000000000100 - lN p, B0, f) := by unfold fPass; rw [hR]
                      rw [e]
                      exact ⟨rfl, fun k hk => (hFT.2.1 k (by omega)).trans (hM k hk), fun k h1 h2 => hFT.2.1 k h2, (congrFun (e_is _ _ _) 14).trans rfl, (congrFun (e_is _ _ _) 7).trans rfl, fun j hj => (congrFun (e_is _ _ _) j).trans ((up_n _ _ (by omega)).trans ((up_n _ _ (by omega)).trans (hFT.1 j (by omega)))), Ch.ri hFT.2.2 (Or.inl rfl)⟩
                  · exact absurd (by decide) c63
                · skip
                  refine lv_if_eq (tgt := 178) hx hb dX11_pass_63 (by decide) (fun c63 => ?_) (fun c63 => ?_)
                  · skip
                    refine lv_aload_n hx hb dX11_pass_178 rfl (lv_at hl 1 rfl) ?_
                    refine lv_iconst (v := 0) hx hb dX11_pass_179 (by decide) ?_
                    refine r_puti (ci := 10) (C := RX11) (T := TX11) (N := 20) hx hb hts iX11 tyX11 tyX11_ok nmX11 hown hW rfl 65 7 rfl (g_lt hG (by decide)) (g_kd hG (by decide) rfl) (by decide) q4 (fun _ h9 => h9) rfl (tyX11_ok 7 (by decide)) rfl rfl (ri T0 65 (va_up (gi T0 65) 7 0)) (gi T0 65) (va_up (gi T0 65) 7 0) rfl (e_is _ _ _) rfl rfl rfl (Nat.le_of_ble_eq_true rfl) rfl c_i0 dX11_pass_180 (fun H locs hW => ?_)
                    refine lv_aload_n hx hb dX11_pass_183 rfl (lv_at hl 1 rfl) ?_
                    refine r_geti (ci := 10) (C := RX11) (T := TX11) (N := 20) hx hb hts iX11 hown hW rfl 65 12 rfl (g_lt hG (by decide)) (g_kd hG (by decide) rfl) (by decide) q1 (fun _ h9 => h9) 0 ((congrFun (e_is _ _ _) 12).trans h12) rfl rfl dX11_pass_184 ?_
                    refine lv_if_le (tgt := 208) hx hb dX11_pass_187 (by decide) (fun c187 => ?_) (fun c187 => ?_)
                    · skip
                      refine lv_aload_n hx hb dX11_pass_208 rfl (lv_at hl 1 rfl) ?_
                      refine lv_sipush (v := 420) hx hb dX11_pass_209 (by decide) ?_
                      refine lv_iconst (v := 0) hx hb dX11_pass_212 (by decide) ?_
                      refine W.eq (g2 := F0 mM 213 ls [.int (nI 0), .int (nI 420), .ref (gA G 65)]) rfl ?_
                      refine r_callv hW hA (va_runV (As := [.int (nI 420), .int (nI 0)]) (rest := []) ⟨hx, hb, hml, hown, hts⟩ (t_X11_copyPass l D G (ri T0 65 (va_up (gi T0 65) 7 0)) _ hG hP_T0 420 0 (by decide) (by decide) (Or.inr (by decide))) (cwV 2 hts gX11_pass_X11_copyPass rfl rfl rfl (by decide +kernel) ⟨Nat.le_of_ble_eq_true rfl, Nat.le_of_ble_eq_true rfl⟩) (r_preV (k := 65) hA hW (ci := 10) (C := RX11) (T := TX11) (N := 20) rfl rfl (g_lt hG (by decide)) (g_kd hG (by decide) rfl) rfl rfl) rfl rfl hl.1 rfl (lv_room (Nat.le_of_ble_eq_true rfl)) dX11_pass_213 ⟨Nat.zero_le _, Nat.zero_le _⟩) (fun S213 H locs hp213 hW => ?_)
                      obtain ⟨hc1, hc2, hc3⟩ := hp213
                      have hP_S213 : GrP G S213 := fun q hq => by rw [hc3.1]; exact hP_T0 q hq
                      have hw0 : ∀ k, k < 140 → gj S213 66 k = lN (B k) := fun k hk => by have z := hc1 k hk; rw [Nat.zero_add] at z; exact z.trans (hN k hk)
                      have h65 : gi S213 65 = va_up (gi T0 65) 7 0 := (hc3.2 65 (by decide)).1.trans (e_is _ _ _)
                      refine lv_aload_n hx hb dX11_pass_216 rfl (lv_at hl 1 rfl) ?_
                      refine r_getr (ci := 10) (C := RX11) (T := TX11) (N := 20) hx hb hts iX11 hown hW rfl 65 0 rfl (g_lt hG (by decide)) (g_kd hG (by decide) rfl) (by decide) q2 (fun _ h9 => h9) (hP_S213 _ (List.mem_of_getElem? (i := 60) rfl)) rfl rfl dX11_pass_217 ?_
                      refine lv_bipush (v := 17) hx hb dX11_pass_220 (by decide) ?_
                      refine W.eq (g2 := F0 mM 222 ls [.int (nI 17), .ref (gA G 66)]) rfl ?_
                      refine r_lald hx hb hW 66 rfl (g_lt hG (by decide)) (g_kd hG (by decide) rfl) (g_ix hG (c := 560) (by decide) rfl (n_inI (by omega) (by decide))) (lN (B 17)) (by rw [n_clamp (by omega)]; exact (hw0 17 (by decide))) dX11_pass_222 ?_
                      rw [← hQ0]
                      refine r_lret hx hb hr hlocks hW ?_ dX11_pass_223
                      have e : fPass T ts B0 lf = (lN (B 17), B, lf) := by unfold fPass; rw [hR]
                      rw [e]
                      exact ⟨rfl, hw0, fun k h1 h2 => (hc2 k (Or.inr h1)).trans (hFT.2.1 k h2), (congrFun h65 14).trans ((hFT.1 14 (by decide)).trans h14), congrFun h65 7, fun j hj => (congrFun h65 j).trans ((up_n _ _ (by omega)).trans (hFT.1 j (by omega))), Ch.tr (Ch.ri hFT.2.2 (Or.inl rfl)) (Ch.mono hc3 (fun _ h => Or.inr h))⟩
                    · exact absurd (by decide) c187
                  · exact absurd (by decide) c63
            exact L62 _ S46 (fun _ => 0) 0 0 _ _ ls (Nat.lt_succ_self _) (FrM.tr hF0 hfl.2.2.2) (Or.inr (Or.inl ⟨rfl, f1, p1, hR1, hfl.1, hfl.2.1, hf3⟩)) hW (lv_sub hl [0, 1] rfl)
          · skip
            rw [t_eq, show (0 : Int32).toInt = 0 from by decide] at c53
            exfalso; rw [n_toInt (by omega)] at c53; omega --stop
      · skip
        rw [t_le, show (140 : Int32).toInt = 140 from by decide] at c16
        have hkl : k < 140 := by rw [n_toInt (by omega)] at c16; omega
        refine lv_aload_n hx hb dX11_pass_19 rfl (lv_at hl 1 rfl) ?_
        refine r_getr (ci := 10) (C := RX11) (T := TX11) (N := 20) hx hb hts iX11 hown hW rfl 65 0 rfl (g_lt hG (by decide)) (g_kd hG (by decide) rfl) (by decide) q2 (fun _ h9 => h9) (hP _ (List.mem_of_getElem? (i := 60) rfl)) rfl rfl dX11_pass_20 ?_
        refine lv_sipush (v := 420) hx hb dX11_pass_23 (by decide) ?_
        refine lv_iload_n hx hb dX11_pass_26 rfl (lv_at hl 0 rfl) ?_
        refine lv_iadd hx hb dX11_pass_27 ?_
        rw [show ((420 + (nI k)) : Int32) = (nI (420 + k)) from n_add 420 k]
        refine lv_lconst (v := 0) hx hb dX11_pass_28 (by decide) ?_
        refine r_last hx hb hW 66 rfl (g_lt hG (by decide)) (g_kd hG (by decide) rfl) (g_ix hG (c := 560) (by decide) rfl (n_inI (by omega) (by decide))) (rj (ri S 65 (va_up (va_up (gi S 65) 8 0) 12 0)) 66 (va_up rw ((nI (420 + k))).toNatClampNeg 0)) rw (e_js _ _ _) (e_js _ _ _) rfl rfl c_j dX11_pass_29 (fun H locs hW => ?_)
        rw [show ((nI (420 + k))).toNatClampNeg = (420 + k) from n_clamp (by omega)] at hW
        refine lv_iinc (v := (nI (k + 1))) (lv' := [(1, .int (nI (k + 1))), (0, .ref (gA G 65))]) hx hb dX11_pass_30 hl (k := 0) rfl (nI_1 k) (by decide) rfl (fun ls hl => ?_)
        refine lv_goto (tgt := 12) hx hb dX11_pass_33 (by decide) ?_
        exact ih12 (k + 1) (va_up rw (420 + k) 0) _ _ ls (by omega) hkl (fun j hj => by rcases Nat.lt_or_eq_of_le (Nat.lt_succ_iff.mp hj) with z | z; (rw [up_n _ _ (by omega)]; exact hz j z); rw [z, up_s]) (fun j hj => (up_n _ _ (by omega)).trans (hf j hj)) hW (lv_sub hl [0, 1] rfl)
  exact L12 _ 0 (gj S 66) _ _ ls (Nat.lt_succ_self _) (Nat.zero_le _) (fun j hj => absurd hj (Nat.not_lt_zero _)) (fun _ _ => rfl) hW (lv_sub hl [0, 1] rfl)
