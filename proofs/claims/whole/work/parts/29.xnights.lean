theorem fos_0 {z i n : Int32} (h : fos z i n = 0) : z.toInt ≠ -1 ∧ 0 ≤ i.toInt ∧ 0 ≤ n.toInt ∧ i.toInt + n.toInt ≤ z.toInt := by
  unfold fos at h
  by_cases z1 : z.toInt = -1
  · rw [if_pos z1] at h; exact absurd h (by decide)
  · rw [if_neg z1] at h
    by_cases z2 : 0 ≤ i.toInt ∧ 0 ≤ n.toInt ∧ i.toInt + n.toInt ≤ z.toInt
    · exact ⟨z1, z2⟩
    · rw [if_neg z2] at h; exact absurd h (by decide)
theorem RP_fr {G : Gg} {S S' : Sg} {h : Nat} {B : Nat → Nat} (hR : RP G S h B) (e : ∀ k, (h ≤ k ∧ k ≤ h + 7) ∨ 75 ≤ k → gi S' k = gi S k ∧ gp S' k = gp S k) : RP G S' h B := by
  obtain ⟨r1, r2, r3, r4, r5⟩ := hR
  refine ⟨by unfold RPs; rw [(e h (by omega)).1]; exact r1, by unfold RPc; rw [(e (h + 1) (by omega)).1, (e (h + 2) (by omega)).1]; exact r2, by unfold RPp; rw [(e (h + 3) (by omega)).1, (e (h + 4) (by omega)).1, (e (h + 5) (by omega)).1, (e (h + 6) (by omega)).1]; exact r3, fun i hi => ?_, by unfold TdOK; rw [(e (h + 7) (by omega)).2]; exact r5⟩
  obtain ⟨q, a1, a2, a3, a4⟩ := r4 i hi
  exact ⟨q, a1, a2, by rw [(e (h + 7) (by omega)).2]; exact a3, by unfold PtyOK; rw [(e q (Or.inr a1)).1]; exact a4⟩
theorem Ch.mono {P Q : Nat → Prop} {S S' : Sg} (h : Ch P S S') (hPQ : ∀ k, P k → Q k) : Ch Q S S' := ⟨h.1, fun k hk => h.2 k (fun z => hk (hPQ k z))⟩
/-- who, by a row of questions -/
def whoF (g : Nat → Prop) [DecidablePred g] : Nat → Int64
  | 0 => 0
  | k + 1 => if g k then whoF g k ||| ((1 : Int64) <<< (Int32.toInt64 (nI k) &&& 63)) else whoF g k
abbrev ntOK (x : Nat → Int32) (k : Nat) : Prop := (1 ≤ (x (3 * k)).toInt ∧ (x (3 * k)).toInt ≤ 9) ∧ (0 ≤ (x (3 * k + 1)).toInt ∧ (x (3 * k + 1)).toInt ≤ 999) ∧ 0 ≤ (x (3 * k + 2)).toInt ∧ (x (3 * k + 2)).toInt ≤ 999
def lkN (B : Nat → Nat) (x : Nat → Int32) (k : Nat) : Nat := dueN (B 3) (B 1) (B 2) (x (3 * k)).toNatClampNeg + ((x (3 * k + 1)).toNatClampNeg - (x (3 * k)).toNatClampNeg * B 1) - (x (3 * k + 2)).toNatClampNeg
def lkS (B : Nat → Nat) (x : Nat → Int32) : Nat → Nat
  | 0 => 0
  | k + 1 => lkS B x k + lkN B x k
def fBroke (B : Nat → Nat) (it : Nat → Nat → Int32) (le : Nat → Int32) (st r m w : Int32) : Int64 × Int32 :=
  if B 132 = 0 then (STATEL, st)
  else if (0 ≤ r.toInt ∧ r.toInt < 8) ∧ (1 ≤ m.toInt ∧ m.toInt ≤ 13) ∧ (w.toInt = 0 ∨ w.toInt = 1) then
    if fos (le r.toNatClampNeg) 0 (nI (3 * m.toNatClampNeg)) = 0 then
      if ∀ k, k < m.toNatClampNeg → ntOK (it r.toNatClampNeg) k then
        ((if w.toInt = 0 then whoF (fun k => 0 < lkN B (it r.toNatClampNeg) k) m.toNatClampNeg else lN (lkS B (it r.toNatClampNeg) m.toNatClampNeg)), 0)
      else (BADL, st)
    else (FND (fos (le r.toNatClampNeg) 0 (nI (3 * m.toNatClampNeg))), fos (le r.toNatClampNeg) 0 (nI (3 * m.toNatClampNeg)))
  else (BADL, st)
def tmN (x : Nat → Int32) (k : Nat) : Nat := (x (2 * k)).toNatClampNeg - (x (2 * k + 1)).toNatClampNeg
/-- the most too much so far, and who -/
def tmM (x : Nat → Int32) : Nat → Nat × Option Nat
  | 0 => (0, none)
  | k + 1 => if (tmM x k).1 < tmN x k then (tmN x k, some k) else tmM x k
def wrI : Option Nat → Int32
  | none => -1000000
  | some k => nI k
def fLies (it : Nat → Nat → Int32) (le : Nat → Int32) (st r m w : Int32) : Int64 × Int32 :=
  if (0 ≤ r.toInt ∧ r.toInt < 8) ∧ (1 ≤ m.toInt ∧ m.toInt ≤ 20) ∧ (w.toInt = 0 ∨ w.toInt = 1) then
    if fos (le r.toNatClampNeg) 0 (nI (2 * m.toNatClampNeg)) = 0 then
      if ∀ k, k < 2 * m.toNatClampNeg → 0 ≤ (it r.toNatClampNeg k).toInt ∧ (it r.toNatClampNeg k).toInt ≤ 999 then
        ((if w.toInt = 0 then whoF (fun k => 0 < tmN (it r.toNatClampNeg) k) m.toNatClampNeg else (wrI (tmM (it r.toNatClampNeg) m.toNatClampNeg).2).toInt64), 0)
      else (BADL, st)
    else (FND (fos (le r.toNatClampNeg) 0 (nI (2 * m.toNatClampNeg))), fos (le r.toNatClampNeg) 0 (nI (2 * m.toNatClampNeg)))
  else (BADL, st)
theorem lkN_le {B : Nat → Nat} {x : Nat → Int32} {k : Nat} (h3 : B 3 ≤ 9) (h1 : B 1 ≤ 9) (h : ntOK x k) : lkN B x k ≤ 2000 := by
  obtain ⟨⟨a1, a2⟩, ⟨a3, a4⟩, a5, a6⟩ := h
  have e1 := n_nat (show 0 ≤ (x (3 * k)).toInt by omega)
  have e2 := n_nat a3
  have hd : dueN (B 3) (B 1) (B 2) (x (3 * k)).toNatClampNeg ≤ 729 := due_le h3 h1 (by omega)
  unfold lkN; omega
theorem lkS_le {B : Nat → Nat} {x : Nat → Int32} (h3 : B 3 ≤ 9) (h1 : B 1 ≤ 9) : ∀ k, (∀ j, j < k → ntOK x j) → lkS B x k ≤ 2000 * k
  | 0, _ => Nat.zero_le _
  | k + 1, h => by
    have := lkS_le h3 h1 k (fun j hj => h j (by omega))
    have := lkN_le h3 h1 (h k (by omega))
    unfold lkS; omega
theorem tmM_1 (x : Nat → Int32) : ∀ k, (∀ j, j < 2 * k → 0 ≤ (x j).toInt ∧ (x j).toInt ≤ 999) → (tmM x k).1 ≤ 999 ∧ ∀ j, (tmM x k).2 = some j → j < k
  | 0, _ => ⟨Nat.zero_le _, fun j h => by cases h⟩
  | k + 1, h => by
    obtain ⟨g1, g2⟩ := tmM_1 x k (fun j hj => h j (by omega))
    have z := h (2 * k) (by omega)
    have e := n_nat z.1
    have ht : tmN x k ≤ 999 := by unfold tmN; omega
    unfold tmM
    split
    · exact ⟨ht, fun j hj => by cases hj; omega⟩
    · exact ⟨g1, fun j hj => by have := g2 j hj; omega⟩
def rmX10_nights : Jvm.Room := { frames := 2, cells := 0, slots := 0, locals := 51 }
set_option maxHeartbeats 4000000 in
set_option maxRecDepth 100000 in
theorem t_X10_nights (l : Launch) (D : Dc) (G : Gg) (S : Sg) (z : Nat) (hG : GrG G) (hP : GrP G S) (h : Nat) (hh : PassR h) (hH : gp S 0 7 = some (gA G h)) (B : Nat → Nat) (c : Nat) (hB : BP B c) (hc : c < 100000) (hR : RP G S h B) (it : Nat → Nat → Int32) (la le : Nat → Int32) (hRX : RowsX S it la le) (hL : LeOK le) (st : Int32) (hst : gi S 0 9 = st) (a1 a2 a3 : Int32) : ML l yX10_nights wsX10_nights rmX10_nights D G S z [.ref (gA G 0), .int a1, .int a2, .int a3] (fun r S' => r = (fNights B it le st a1 a2 a3).1 ∧ RP G S' h (fNights B it le st a1 a2 a3).2.1 ∧ gi S' 0 9 = (fNights B it le st a1 a2 a3).2.2 ∧ Ch (fun j => j = 0 ∨ (h ≤ j ∧ j ≤ h + 6)) S S') := by
  refine Met.ofW (cc := cX10_nights) (maxL := 8) (ret := (some .long)) (by decide +kernel) rfl ?_
  intro pP eE s mM args bl mT cD s₁ bD hml hv
  obtain ⟨rfl, hv⟩ := hv
  have hz := hv.1
  subst hz
  have hx := bD.exec
  have hb := bD.bytes
  have hr := bD.returns
  have hts := atoms_spec (ws := wsX10_nights) bD.pre
  have hown : s.vm.findClass RX10 = some mM.cls := findClass_of_methodNamed bD.named
  have hlocks := bD.notSynchronized
  have hW := Wd.start hv
  have hA : ∀ q, s.heap.size ≤ q → AW G s.heap.size q := fun q h => Or.inr h
  have hl := lv_entry ([.ref (gA G 0), .int a1, .int a2, .int a3]) (n := 8) (Nat.le_of_ble_eq_true rfl)
  rw [lg_entry_eq]
  generalize (lg_sl ([.ref (gA G 0), .int a1, .int a2, .int a3]) ++ List.replicate (8 - (lg_sl ([.ref (gA G 0), .int a1, .int a2, .int a3])).length) Slot.unset).toArray = ls at hl ⊢
  have hl : lv_has ls 8 [(0, .ref (gA G 0)), (1, .int a1), (2, .int a2), (3, .int a3)] := hl
  have q0 := hts (.fieldLink RX10 49 "WoodForTwo" "here" "LWoodForTwo$Pass;") (List.mem_of_getElem? (i := 1) rfl)
  have q1 := hts (.fieldLink RX10 116 "WoodForTwo$Pass" "stands" "Z") (List.mem_of_getElem? (i := 2) rfl)
  have q2 := hts (.constantLong RX10 66 (-9000000000000000001)) (List.mem_of_getElem? (i := 4) rfl)
  have q3 := hts (.fieldLink RX10 11 "WoodForTwo" "items" "[[I") (List.mem_of_getElem? (i := 5) rfl)
  have q4 := hts (.constantLong RX10 134 (-9000000000000000002)) (List.mem_of_getElem? (i := 3) rfl)
  have iX10 : ∀ w ∈ wsX100, w ∈ wsX10_nights := fun _ h => List.mem_cons_of_mem _ (List.mem_append_left _ (List.mem_append_left _ (List.mem_append_left _ (List.mem_append_left _ (List.mem_append_left _ (List.mem_append_left _ (List.mem_append_right _ (h))))))))
  have iX5 : ∀ w ∈ wsX50, w ∈ wsX10_nights := fun _ h => List.mem_cons_of_mem _ (List.mem_append_left _ (List.mem_append_left _ (List.mem_append_left _ (List.mem_append_left _ (List.mem_append_left _ (List.mem_append_right _ (h)))))))
  generalize hQ0 : MQ bl _ _ s _ _ _ = Q0
  have h17 : B 17 ≤ 16 := by rcases hB with z | z; (rw [z.2 17]; omega); exact z.2.2.2.2.2.2.2.2.1
  obtain ⟨f, hf⟩ : ∃ f : Nat → Nat, f = (fun k => (it a1.toNatClampNeg (a2.toNatClampNeg + k)).toNatClampNeg) := ⟨_, rfl⟩
  refine lv_aload_n hx hb dX10_nights_0 rfl (lv_at hl 0 rfl) ?_
  refine r_getr (ci := 9) (C := RX10) (T := TX10) (N := 10) hx hb hts iX10 hown hW rfl 0 7 rfl (g_lt hG (by decide)) (g_kd hG (by decide) rfl) (by decide) q0 (fun _ h9 => h9) hH rfl rfl dX10_nights_1 ?_
  refine r_geti (ci := 4) (C := RX5) (T := TX5) (N := 16) hx hb hts iX5 hown hW rfl h 0 rfl (p_lt hG hh (i := 0) (by decide)) (p_kd hG hh) (by decide) q1 (fun _ h9 => h9) (nI (B 132)) hR.1.1 rfl rfl dX10_nights_4 ?_
  refine lv_if_ne (tgt := 14) hx hb dX10_nights_7 (by decide) (fun c7 => ?_) (fun c7 => ?_)
  · skip
    have hB1 : BP1 B c := hB.resolve_left (fun z => c7 (by rw [z.1]; rfl))
    obtain ⟨b0, b1, b2, b3, b4, b5, b6, b7, b8, b9, b10, b11, b12⟩ := id hB1
    refine lv_iload_n hx hb dX10_nights_14 rfl (lv_at hl 1 rfl) ?_
    refine r_calli hW hA (va_runS (As := [.int a1]) (rest := []) ⟨hx, hb, hml, hown, hts⟩ (t_X10_isRow l D G S _ a1) (va_cwS 1 hts gX10_nights_X10_isRow rfl rfl rfl (by decide +kernel) ⟨Nat.le_of_ble_eq_true rfl, Nat.le_of_ble_eq_true rfl⟩) (r_preS hA hW) rfl rfl hl.1 rfl (lv_room (Nat.le_of_ble_eq_true rfl)) dX10_nights_15 ⟨Nat.zero_le _, Nat.zero_le _⟩) (fun r15 S15 H locs hp15 hW => ?_)
    obtain ⟨hs15, hp15⟩ := hp15
    rw [hs15] at hW
    rcases hp15 with ⟨rfl, h15⟩ | ⟨rfl, h15⟩
    · skip
      refine lv_if_eq (tgt := 32) hx hb dX10_nights_18 (by decide) (fun c18 => ?_) (fun c18 => ?_)
      · exact absurd c18 (by decide)
      · skip
        refine lv_iload_n hx hb dX10_nights_21 rfl (lv_at hl 3 rfl) ?_
        refine lv_iconst (v := 1) hx hb dX10_nights_22 (by decide) ?_
        refine lv_icmp_lt (tgt := 32) hx hb dX10_nights_23 (by decide) (fun c23 => ?_) (fun c23 => ?_)
        · skip
          rw [t_lt, show (1 : Int32).toInt = 1 from by decide] at c23
          refine lv_ldc2 (v := (-9000000000000000001)) hx hb hown q2 dX10_nights_32 ?_
          rw [← hQ0]
          refine r_lret hx hb hr hlocks hW ?_ dX10_nights_35
          have e : fNights B it le st a1 a2 a3 = (BADL, B, st) := by unfold fNights; rw [if_neg (by omega), if_neg (by omega)]
          rw [e]
          exact ⟨rfl, hR, hst, Ch.rf⟩
        · skip
          rw [t_lt, show (1 : Int32).toInt = 1 from by decide] at c23
          refine lv_iload_n hx hb dX10_nights_26 rfl (lv_at hl 3 rfl) ?_
          refine lv_bipush (v := 40) hx hb dX10_nights_27 (by decide) ?_
          refine lv_icmp_le (tgt := 36) hx hb dX10_nights_29 (by decide) (fun c29 => ?_) (fun c29 => ?_)
          · skip
            rw [t_le, show (40 : Int32).toInt = 40 from by decide] at c29
            have hn_a1 := n_nat (x := a1) (by omega)
            have hr_a1 := hRX a1.toNatClampNeg (by omega)
            have hle_a1 := hL a1.toNatClampNeg (by omega)
            have hn_a3 := n_nat (x := a3) (by omega)
            refine lv_aload_n hx hb dX10_nights_36 rfl (lv_at hl 0 rfl) ?_
            refine lv_iload_n hx hb dX10_nights_37 rfl (lv_at hl 1 rfl) ?_
            refine lv_iload_n hx hb dX10_nights_38 rfl (lv_at hl 2 rfl) ?_
            refine lv_iload_n hx hb dX10_nights_39 rfl (lv_at hl 3 rfl) ?_
            refine r_calli hW hA (va_runV (As := [.int a1, .int a2, .int a3]) (rest := []) ⟨hx, hb, hml, hown, hts⟩ (t_X10_findingOfSpan l D G S _ hG hP a1 a2 a3 (by omega) (by omega) (by rw [hr_a1.2.1]; exact hle_a1)) (cwV 3 hts gX10_nights_X10_findingOfSpan rfl rfl rfl (by decide +kernel) ⟨Nat.le_of_ble_eq_true rfl, Nat.le_of_ble_eq_true rfl⟩) (r_preV (k := 0) hA hW (ci := 9) (C := RX10) (T := TX10) (N := 10) rfl rfl (g_lt hG (by decide)) (g_kd hG (by decide) rfl) rfl rfl) rfl rfl hl.1 rfl (lv_room (Nat.le_of_ble_eq_true rfl)) dX10_nights_40 ⟨Nat.zero_le _, Nat.zero_le _⟩) (fun r40 S40 H locs hp40 hW => ?_)
            obtain ⟨hs40, rfl⟩ := hp40
            rw [hs40] at hW
            refine lv_istore (lv' := [(4, .int (fos (gi S 11 a1.toNatClampNeg) a2 a3)), (0, .ref (gA G 0)), (1, .int a1), (2, .int a2), (3, .int a3)]) hx hb dX10_nights_43 hl (by decide) rfl (fun ls hl => ?_)
            refine lv_iload hx hb dX10_nights_45 (lv_at hl 0 rfl) ?_
            refine lv_if_eq (tgt := 57) hx hb dX10_nights_47 (by decide) (fun c47 => ?_) (fun c47 => ?_)
            · skip
              rw [t_eq, show (0 : Int32).toInt = 0 from by decide] at c47
              have hf0 : fos (le a1.toNatClampNeg) a2 a3 = 0 := by rw [← hr_a1.2.1, t_eq]; exact c47
              obtain ⟨z0, z1, z2, z3⟩ := fos_0 hf0
              have hn_a2 := n_nat (x := a2) z1
              have e_a2 := n_nI (x := a2) z1
              refine lv_iconst (v := 0) hx hb dX10_nights_57 (by decide) ?_
              refine lv_istore (lv' := [(5, .int 0), (4, .int (fos (gi S 11 a1.toNatClampNeg) a2 a3)), (0, .ref (gA G 0)), (1, .int a1), (2, .int a2), (3, .int a3)]) hx hb dX10_nights_58 hl (by decide) rfl (fun ls hl => ?_)
              have L60 : ∀ (n : Nat) (k : Nat) (H : Heap) (locs : List Loc) (ls : Array Slot), (a3.toNatClampNeg - k) < n → k ≤ a3.toNatClampNeg → (∀ j, j < k → 0 ≤ (it a1.toNatClampNeg (a2.toNatClampNeg + j)).toInt ∧ (it a1.toNatClampNeg (a2.toNatClampNeg + j)).toInt < B 17) → Wd D (AW G s.heap.size) s G S H locs → lv_has ls 8 [(5, .int (nI k)), (0, .ref (gA G 0)), (1, .int a1), (2, .int a2), (3, .int a3)] → W pP l eE (headSpec wsX10_nights rmX10_nights).room s mM ([.ref (gA G 0), .int a1, .int a2, .int a3] : List Value).toArray bl mT cD H locs 0 0 Q0 (F0 mM 60 ls []) := by
                intro n
                induction n with
                | zero => intro k H locs ls hm; exact absurd hm (Nat.not_lt_zero _)
                | succ n ih60 =>
                  intro k H locs ls hm60 hk hall hW hl
                  refine lv_iload hx hb dX10_nights_60 (lv_at hl 0 rfl) ?_
                  refine lv_iload_n hx hb dX10_nights_62 rfl (lv_at hl 4 rfl) ?_
                  refine lv_icmp_ge (tgt := 97) hx hb dX10_nights_63 (by decide) (fun c63 => ?_) (fun c63 => ?_)
                  · skip
                    rw [t_le] at c63
                    have hka : k = a3.toNatClampNeg := by rw [n_toInt (by omega)] at c63; omega
                    subst hka
                    have hfj : ∀ j, j < a3.toNatClampNeg → f j < B 17 := by
                      intro j hj
                      have z := hall j hj
                      rw [hf]
                      have z4 := n_nat z.1
                      show (it a1.toNatClampNeg (a2.toNatClampNeg + j)).toNatClampNeg < B 17
                      omega
                    refine lv_lconst (v := 0) hx hb dX10_nights_97 (by decide) ?_
                    refine lv_lstore (lv' := [(5, .long 0), (0, .ref (gA G 0)), (1, .int a1), (2, .int a2), (3, .int a3)]) hx hb dX10_nights_98 hl (by decide) rfl (fun ls hl => ?_)
                    refine lv_iconst (v := 0) hx hb dX10_nights_100 (by decide) ?_
                    refine lv_istore (lv' := [(7, .int 0), (5, .long 0), (0, .ref (gA G 0)), (1, .int a1), (2, .int a2), (3, .int a3)]) hx hb dX10_nights_101 hl (by decide) rfl (fun ls hl => ?_)
                    have L103 : ∀ (n : Nat) (k : Nat) (T : Sg) (H : Heap) (locs : List Loc) (ls : Array Slot), (a3.toNatClampNeg - k) < n → k ≤ a3.toNatClampNeg → RP G T h (ntB B f k) → Ch (fun k => h ≤ k ∧ k ≤ h + 6) S T → Wd D (AW G s.heap.size) s G T H locs → lv_has ls 8 [(7, .int (nI k)), (5, .long (lN (ntS B f k))), (0, .ref (gA G 0)), (1, .int a1), (2, .int a2), (3, .int a3)] → W pP l eE (headSpec wsX10_nights rmX10_nights).room s mM ([.ref (gA G 0), .int a1, .int a2, .int a3] : List Value).toArray bl mT cD H locs 0 0 Q0 (F0 mM 103 ls []) := by
                      intro n
                      induction n with
                      | zero => intro k T H locs ls hm; exact absurd hm (Nat.not_lt_zero _)
                      | succ n ih103 =>
                        intro k T H locs ls hm103 hk hRT hCT hW hl
                        have hP_T : GrP G T := fun q hq => by rw [hCT.1]; exact hP q hq
                        have hH_T : gp T 0 7 = some (gA G h) := by rw [hCT.1]; exact hH
                        refine lv_iload hx hb dX10_nights_103 (lv_at hl 0 rfl) ?_
                        refine lv_iload_n hx hb dX10_nights_105 rfl (lv_at hl 5 rfl) ?_
                        refine lv_icmp_ge (tgt := 139) hx hb dX10_nights_106 (by decide) (fun c106 => ?_) (fun c106 => ?_)
                        · skip
                          rw [t_le] at c106
                          have hka : k = a3.toNatClampNeg := by rw [n_toInt (by omega)] at c106; omega
                          refine lv_aload_n hx hb dX10_nights_139 rfl (lv_at hl 2 rfl) ?_
                          refine lv_lload hx hb dX10_nights_140 (lv_at hl 1 rfl) ?_
                          refine r_calll hW hA (va_runV (As := [.long (lN (ntS B f k))]) (rest := []) ⟨hx, hb, hml, hown, hts⟩ (t_X10_fine l D G T _ hG hP_T (lN (ntS B f k))) (cwV 1 hts gX10_nights_X10_fine rfl rfl rfl (by decide +kernel) ⟨Nat.le_of_ble_eq_true rfl, Nat.le_of_ble_eq_true rfl⟩) (r_preV (k := 0) hA hW (ci := 9) (C := RX10) (T := TX10) (N := 10) rfl rfl (g_lt hG (by decide)) (g_kd hG (by decide) rfl) rfl rfl) rfl rfl hl.1 rfl (lv_room (Nat.le_of_ble_eq_true rfl)) dX10_nights_142 ⟨Nat.zero_le _, Nat.zero_le _⟩) (fun r142 S142 H locs hp142 hW => ?_)
                          obtain ⟨hs142, rfl⟩ := hp142
                          rw [hs142] at hW
                          rw [← hQ0]
                          refine r_lret hx hb hr hlocks hW ?_ dX10_nights_145
                          subst hka
                          have e : fNights B it le st a1 a2 a3 = (lN (ntS B f a3.toNatClampNeg), ntB B f a3.toNatClampNeg, 0) := by unfold fNights; rw [if_neg (by omega), if_pos (by omega), if_pos hf0, if_pos hall, hf]
                          rw [e]
                          exact ⟨rfl, RP_fr hRT (fun j hj => ⟨(e_in (by omega) rfl), rfl⟩), congrFun (e_is _ _ _) 9, (Ch.tr (Ch.mono hCT (fun j hj => Or.inr hj)) (Ch.ri Ch.rf (by omega)))⟩
                        · skip
                          rw [t_le] at c106
                          have hkl : k < a3.toNatClampNeg := by rw [n_toInt (by omega)] at c106; omega
                          obtain ⟨hBT, h17T, hST⟩ := ntB_ok hB1 k (fun j hj => hfj j (by omega))
                          refine lv_lload hx hb dX10_nights_109 (lv_at hl 1 rfl) ?_
                          refine lv_aload_n hx hb dX10_nights_111 rfl (lv_at hl 2 rfl) ?_
                          refine r_getr (ci := 9) (C := RX10) (T := TX10) (N := 10) hx hb hts iX10 hown hW rfl 0 7 rfl (g_lt hG (by decide)) (g_kd hG (by decide) rfl) (by decide) q0 (fun _ h9 => h9) hH_T rfl rfl dX10_nights_112 ?_
                          refine lv_aload_n hx hb dX10_nights_115 rfl (lv_at hl 2 rfl) ?_
                          refine r_getr (ci := 9) (C := RX10) (T := TX10) (N := 10) hx hb hts iX10 hown hW rfl 0 0 rfl (g_lt hG (by decide)) (g_kd hG (by decide) rfl) (by decide) q3 (fun _ h9 => h9) (hP_T _ (List.mem_of_getElem? (i := 0) rfl)) rfl rfl dX10_nights_116 ?_
                          refine lv_iload_n hx hb dX10_nights_119 rfl (lv_at hl 3 rfl) ?_
                          refine r_aald hx hb hW 1 rfl (g_lt hG (by decide)) 16 5 (g_kd hG (by decide) rfl) rfl rfl (fun _ _ _ _ => rfl) (g_ix hG (c := 8) (by decide) rfl (t_in (by omega) (by omega))) (some (gA G (2 + a1.toNatClampNeg))) (rw_lk hP_T (by omega)) dX10_nights_120 ?_
                          refine W.eq (g2 := F0 mM 121 ls [.ref (gA G (2 + a1.toNatClampNeg)), .ref (gA G h), .long (lN (ntS B f k))]) rfl ?_
                          refine lv_iload_n hx hb dX10_nights_121 rfl (lv_at hl 4 rfl) ?_
                          refine lv_iload hx hb dX10_nights_122 (lv_at hl 0 rfl) ?_
                          refine lv_iadd hx hb dX10_nights_124 ?_
                          rw [show ((a2 + (nI k)) : Int32) = (nI (a2.toNatClampNeg + k)) from by rw [← n_add, ← e_a2]]
                          refine r_iald hx hb hW (2 + a1.toNatClampNeg) rfl (rw_lt hG (r := a1.toNatClampNeg) (by omega)) (rw_kd hG (r := a1.toNatClampNeg) (by omega)) (by rw [rw_z hG (by omega)]; exact n_inI (by omega) (by decide)) (it a1.toNatClampNeg (a2.toNatClampNeg + k)) (by rw [n_clamp (by omega)]; exact ((congrFun (hCT.2 (2 + a1.toNatClampNeg) (by omega)).1 _).trans (hr_a1.2.2 (a2.toNatClampNeg + k) (by omega)))) dX10_nights_125 ?_
                          have e_f : (it a1.toNatClampNeg (a2.toNatClampNeg + k)) = nI (f k) := by rw [hf]; exact n_nI (hall k hkl).1
                          rw [e_f]
                          refine r_calli hW hA (va_runV (As := [.int (nI (f k))]) (rest := [.long (lN (ntS B f k))]) ⟨hx, hb, hml, hown, hts⟩ (t_X5_sleepNight l D G T _ hG hP_T h hh (ntB B f k) (c + k) hBT hRT (f k) (by rw [h17T]; exact hfj k hkl)) (cwV 1 hts gX10_nights_X5_sleepNight rfl rfl rfl (by decide +kernel) ⟨Nat.le_of_ble_eq_true rfl, Nat.le_of_ble_eq_true rfl⟩) (r_preV (k := h) hA hW (ci := 4) (C := RX5) (T := TX5) (N := 16) rfl rfl (p_lt hG hh (i := 0) (by decide)) (p_kd hG hh) rfl rfl) rfl rfl hl.1 rfl (lv_room (Nat.le_of_ble_eq_true rfl)) dX10_nights_126 ⟨Nat.zero_le _, Nat.zero_le _⟩) (fun r126 S126 H locs hp126 hW => ?_)
                          obtain ⟨rfl, r0, r3, r4, r5, r6, hs126, hq126⟩ := hp126
                          rw [hs126] at hW hq126
                          refine lv_i2l hx hb dX10_nights_129 rfl ?_
                          refine lv_ladd hx hb dX10_nights_130 ?_
                          rw [show (((lN (ntS B f k)) + (Int32.toInt64 (nI (slF (ntB B f k) (f k))))) : Int64) = (lN (ntS B f (k + 1))) from by rw [lN_of (by have := slF_le (B := ntB B f k) (p := f k) hBT.2.2.1 (hBT.2.2.2.2.2.2.2.2.2.1 (f k) (by rw [h17T]; exact hfj k hkl)).2.1; omega), lN_add]; rfl]
                          refine lv_lstore (lv' := [(5, .long (lN (ntS B f (k + 1)))), (7, .int (nI k)), (0, .ref (gA G 0)), (1, .int a1), (2, .int a2), (3, .int a3)]) hx hb dX10_nights_131 hl (by decide) rfl (fun ls hl => ?_)
                          refine lv_iinc (v := (nI (k + 1))) (lv' := [(7, .int (nI (k + 1))), (5, .long (lN (ntS B f (k + 1)))), (0, .ref (gA G 0)), (1, .int a1), (2, .int a2), (3, .int a3)]) hx hb dX10_nights_133 hl (k := 1) rfl (nI_1 k) (by decide) rfl (fun ls hl => ?_)
                          refine lv_goto (tgt := 103) hx hb dX10_nights_136 (by decide) ?_
                          exact ih103 (k + 1) (ri (ri (ri (ri (ri T h r0) (h + 3) r3) (h + 4) r4) (h + 5) r5) (h + 6) r6) _ _ ls (by omega) hkl hq126 (Ch.tr hCT (Ch.ri (Ch.ri (Ch.ri (Ch.ri (Ch.ri Ch.rf (by omega)) (by omega)) (by omega)) (by omega)) (by omega))) hW (lv_sub hl [0, 1, 2, 3, 4, 5] rfl)
                    exact L103 _ 0 S _ _ ls (Nat.lt_succ_self _) (Nat.zero_le _) hR Ch.rf hW (lv_sub hl [0, 1, 2, 3, 4, 5] rfl)
                  · skip
                    rw [t_le] at c63
                    have hkl : k < a3.toNatClampNeg := by rw [n_toInt (by omega)] at c63; omega
                    refine lv_aload_n hx hb dX10_nights_66 rfl (lv_at hl 1 rfl) ?_
                    refine r_getr (ci := 9) (C := RX10) (T := TX10) (N := 10) hx hb hts iX10 hown hW rfl 0 7 rfl (g_lt hG (by decide)) (g_kd hG (by decide) rfl) (by decide) q0 (fun _ h9 => h9) hH rfl rfl dX10_nights_67 ?_
                    refine lv_aload_n hx hb dX10_nights_70 rfl (lv_at hl 1 rfl) ?_
                    refine r_getr (ci := 9) (C := RX10) (T := TX10) (N := 10) hx hb hts iX10 hown hW rfl 0 0 rfl (g_lt hG (by decide)) (g_kd hG (by decide) rfl) (by decide) q3 (fun _ h9 => h9) (hP _ (List.mem_of_getElem? (i := 0) rfl)) rfl rfl dX10_nights_71 ?_
                    refine lv_iload_n hx hb dX10_nights_74 rfl (lv_at hl 2 rfl) ?_
                    refine r_aald hx hb hW 1 rfl (g_lt hG (by decide)) 16 5 (g_kd hG (by decide) rfl) rfl rfl (fun _ _ _ _ => rfl) (g_ix hG (c := 8) (by decide) rfl (t_in (by omega) (by omega))) (some (gA G (2 + a1.toNatClampNeg))) (rw_lk hP (by omega)) dX10_nights_75 ?_
                    refine W.eq (g2 := F0 mM 76 ls [.ref (gA G (2 + a1.toNatClampNeg)), .ref (gA G h)]) rfl ?_
                    refine lv_iload_n hx hb dX10_nights_76 rfl (lv_at hl 3 rfl) ?_
                    refine lv_iload hx hb dX10_nights_77 (lv_at hl 0 rfl) ?_
                    refine lv_iadd hx hb dX10_nights_79 ?_
                    rw [show ((a2 + (nI k)) : Int32) = (nI (a2.toNatClampNeg + k)) from by rw [← n_add, ← e_a2]]
                    refine r_iald hx hb hW (2 + a1.toNatClampNeg) rfl (rw_lt hG (r := a1.toNatClampNeg) (by omega)) (rw_kd hG (r := a1.toNatClampNeg) (by omega)) (by rw [rw_z hG (by omega)]; exact n_inI (by omega) (by decide)) (it a1.toNatClampNeg (a2.toNatClampNeg + k)) (by rw [n_clamp (by omega)]; exact (hr_a1.2.2 (a2.toNatClampNeg + k) (by omega))) dX10_nights_80 ?_
                    refine r_callq hW hA (va_runV (As := [.int (it a1.toNatClampNeg (a2.toNatClampNeg + k))]) (rest := []) ⟨hx, hb, hml, hown, hts⟩ (t_X5_partyAt l D G S _ hG hP h hh B h17 hR.1.2.2.2.2.2.2.1 hR.2.2.2.1 (it a1.toNatClampNeg (a2.toNatClampNeg + k))) (cwV 1 hts gX10_nights_X5_partyAt rfl rfl rfl (by decide +kernel) ⟨Nat.le_of_ble_eq_true rfl, Nat.le_of_ble_eq_true rfl⟩) (r_preV (k := h) hA hW (ci := 4) (C := RX5) (T := TX5) (N := 16) rfl rfl (p_lt hG hh (i := 0) (by decide)) (p_kd hG hh) rfl rfl) rfl rfl hl.1 rfl (lv_room (Nat.le_of_ble_eq_true rfl)) dX10_nights_81 ⟨Nat.zero_le _, Nat.zero_le _⟩) (fun r81 S81 H locs hp81 hW => ?_)
                    obtain ⟨hs81, hp81⟩ := hp81
                    rw [hs81] at hW
                    rcases hp81 with ⟨p, q, hp1, ep, rfl, hq1, hq2, hq3, hq4⟩ | ⟨rfl, hno⟩
                    · have hyes : 0 ≤ ((it a1.toNatClampNeg (a2.toNatClampNeg + k))).toInt ∧ ((it a1.toNatClampNeg (a2.toNatClampNeg + k))).toInt < B 17 := by rw [ep, n_toInt (by omega)]; omega
                      refine W.eq (g2 := F0 mM 84 ls [.ref (gA G q)]) rfl ?_
                      refine lv_ifnonnull (tgt := 91) hx hb dX10_nights_84 (by decide) ?_
                      refine lv_iinc (v := (nI (k + 1))) (lv' := [(5, .int (nI (k + 1))), (0, .ref (gA G 0)), (1, .int a1), (2, .int a2), (3, .int a3)]) hx hb dX10_nights_91 hl (k := 0) rfl (nI_1 k) (by decide) rfl (fun ls hl => ?_)
                      refine lv_goto (tgt := 60) hx hb dX10_nights_94 (by decide) ?_
                      exact ih60 (k + 1) _ _ ls (by omega) hkl (fun j hj => by rcases Nat.lt_or_eq_of_le (Nat.lt_succ_iff.mp hj) with z | z; exact hall j z; rw [z]; exact hyes) hW (lv_sub hl [0, 1, 2, 3, 4] rfl)
                    · skip
                      refine W.eq (g2 := F0 mM 84 ls [.null]) rfl ?_
                      refine lv_ifnonnullN hx hb dX10_nights_84 ?_
                      refine lv_ldc2 (v := (-9000000000000000001)) hx hb hown q2 dX10_nights_87 ?_
                      rw [← hQ0]
                      refine r_lret hx hb hr hlocks hW ?_ dX10_nights_90
                      have e : fNights B it le st a1 a2 a3 = (BADL, B, st) := by unfold fNights; rw [if_neg (by omega), if_pos (by omega), if_pos hf0, if_neg (fun z => by have := z k (by omega); omega)]
                      rw [e]
                      exact ⟨rfl, hR, hst, Ch.rf⟩
              exact L60 _ 0 _ _ ls (Nat.lt_succ_self _) (Nat.zero_le _) (fun j hj => absurd hj (Nat.not_lt_zero _)) hW (lv_sub hl [0, 2, 3, 4, 5] rfl)
            · skip
              rw [t_eq, show (0 : Int32).toInt = 0 from by decide] at c47
              refine lv_aload_n hx hb dX10_nights_50 rfl (lv_at hl 1 rfl) ?_
              refine lv_iload hx hb dX10_nights_51 (lv_at hl 0 rfl) ?_
              refine r_calll hW hA (va_runV (As := [.int (fos (gi S 11 a1.toNatClampNeg) a2 a3)]) (rest := []) ⟨hx, hb, hml, hown, hts⟩ (t_X10_found l D G S _ hG hP (fos (gi S 11 a1.toNatClampNeg) a2 a3)) (cwV 1 hts gX10_nights_X10_found rfl rfl rfl (by decide +kernel) ⟨Nat.le_of_ble_eq_true rfl, Nat.le_of_ble_eq_true rfl⟩) (r_preV (k := 0) hA hW (ci := 9) (C := RX10) (T := TX10) (N := 10) rfl rfl (g_lt hG (by decide)) (g_kd hG (by decide) rfl) rfl rfl) rfl rfl hl.1 rfl (lv_room (Nat.le_of_ble_eq_true rfl)) dX10_nights_53 ⟨Nat.zero_le _, Nat.zero_le _⟩) (fun r53 S53 H locs hp53 hW => ?_)
              obtain ⟨hs53, rfl⟩ := hp53
              rw [hs53] at hW
              rw [← hQ0]
              refine r_lret hx hb hr hlocks hW ?_ dX10_nights_56
              have e : fNights B it le st a1 a2 a3 = (FND (fos (le a1.toNatClampNeg) a2 a3), B, fos (le a1.toNatClampNeg) a2 a3) := by unfold fNights; rw [if_neg (by omega), if_pos (by omega), if_neg (fun z => by rw [hr_a1.2.1, z] at c47; exact c47 (by decide))]
              rw [e, ← hr_a1.2.1]
              exact ⟨rfl, RP_fr hR (fun j hj => ⟨(e_in (by omega) rfl), rfl⟩), congrFun (e_is _ _ _) 9, (Ch.ri Ch.rf (by omega))⟩
          · skip
            rw [t_le, show (40 : Int32).toInt = 40 from by decide] at c29
            refine lv_ldc2 (v := (-9000000000000000001)) hx hb hown q2 dX10_nights_32 ?_
            rw [← hQ0]
            refine r_lret hx hb hr hlocks hW ?_ dX10_nights_35
            have e : fNights B it le st a1 a2 a3 = (BADL, B, st) := by unfold fNights; rw [if_neg (by omega), if_neg (by omega)]
            rw [e]
            exact ⟨rfl, hR, hst, Ch.rf⟩
    · skip
      refine lv_if_eq (tgt := 32) hx hb dX10_nights_18 (by decide) (fun c18 => ?_) (fun c18 => ?_)
      · skip
        refine lv_ldc2 (v := (-9000000000000000001)) hx hb hown q2 dX10_nights_32 ?_
        rw [← hQ0]
        refine r_lret hx hb hr hlocks hW ?_ dX10_nights_35
        have e : fNights B it le st a1 a2 a3 = (BADL, B, st) := by unfold fNights; rw [if_neg (by omega), if_neg (by omega)]
        rw [e]
        exact ⟨rfl, hR, hst, Ch.rf⟩
      · exact absurd (by decide) c18
  · skip
    have hs0 : B 132 = 0 := by
      rcases hB with z | z
      · exact z.1
      · rw [z.1] at c7; exact absurd c7 (by decide)
    refine lv_ldc2 (v := (-9000000000000000002)) hx hb hown q4 dX10_nights_10 ?_
    rw [← hQ0]
    refine r_lret hx hb hr hlocks hW ?_ dX10_nights_13
    have e : fNights B it le st a1 a2 a3 = (STATEL, B, st) := by unfold fNights; rw [if_pos hs0]
    rw [e]
    exact ⟨rfl, hR, hst, Ch.rf⟩
