def NONEL : Int64 := -1000000
def fSafe (B : Nat → Nat) (a1 a2 a3 a4 : Int32) : Int64 := if B 132 = 0 then STATEL else if (0 ≤ a1.toInt ∧ a1.toInt ≤ 999) ∧ (1 ≤ a2.toInt ∧ a2.toInt ≤ 8) ∧ (0 ≤ a3.toInt ∧ a3.toInt ≤ 2) ∧ (a4.toInt = 0 ∨ a4.toInt = 1) then
    (if B 4 = 0 then NONEL else lN ((if a4.toInt = 0 then fW B a3.toNatClampNeg a2.toNatClampNeg a1.toNatClampNeg else tot (Qc B a3.toNatClampNeg) ^ a2.toNatClampNeg) / Nat.gcd (fW B a3.toNatClampNeg a2.toNatClampNeg a1.toNatClampNeg) (tot (Qc B a3.toNatClampNeg) ^ a2.toNatClampNeg))) else BADL
def stP (B : Nat → Nat) (law n q : Nat) (w : Nat) : Bool := decide (q * tot (Qc B law) ^ n ≤ fW B law n w * 1000)
def oI : Option Nat → Int64
  | some w => lN w
  | none => NONEL
def fStock (B : Nat → Nat) (a1 a2 a3 : Int32) : Int64 := if B 132 = 0 then STATEL else if (1 ≤ a1.toInt ∧ a1.toInt ≤ 8) ∧ (0 ≤ a2.toInt ∧ a2.toInt ≤ 2) ∧ (0 ≤ a3.toInt ∧ a3.toInt ≤ 1000) then
    (if B 4 = 0 then NONEL else oI (fst (stP B a2.toNatClampNeg a1.toNatClampNeg a3.toNatClampNeg) 501)) else BADL
def fSend (B : Nat → Nat) (a1 a2 : Int32) : Int64 := if B 132 = 0 then STATEL else if (1 ≤ a1.toInt ∧ a1.toInt ≤ 8) ∧ (1 ≤ a2.toInt ∧ a2.toInt ≤ 99) then
    (if B 4 = 0 then NONEL else lN ((amx (fun j => fCut B (B 2) a1.toNatClampNeg a2.toNatClampNeg j (B 0)) a1.toNatClampNeg).1 + 1)) else BADL
def crF (B : Nat → Nat) (a b n : Nat) (c : Nat) : Nat := fW B (B 2) n (a - 2 * c) * fW B (B 2) n (b + c)
def fCarry (B : Nat → Nat) (a1 a2 a3 : Int32) : Int64 := if B 132 = 0 then STATEL else if (0 ≤ a1.toInt ∧ a1.toInt ≤ 300) ∧ (0 ≤ a2.toInt ∧ a2.toInt ≤ 300) ∧ (1 ≤ a3.toInt ∧ a3.toInt ≤ 4) then
    (if B 4 = 0 then NONEL else lN (amx (crF B a1.toNatClampNeg a2.toNatClampNeg a3.toNatClampNeg) (a1.toNatClampNeg / 2 + 1)).1) else BADL
theorem fst_some {P : Nat → Bool} {w : Nat} (h : fst P w = none) (hP : P w = true) : ∀ n, w < n → fst P n = some w
  | 0, hn => absurd hn (Nat.not_lt_zero _)
  | n + 1, hn => by
    by_cases e : n = w
    · subst e; unfold fst; rw [h]; dsimp only; rw [if_pos hP]
    · unfold fst; rw [fst_some h hP n (by omega)]
theorem fst_none {P : Nat → Bool} {w : Nat} (h : fst P w = none) (hP : P w = false) : fst P (w + 1) = none := by
  unfold fst; rw [h]; dsimp only; rw [hP]; rfl
theorem fW_le4 {B : Nat → Nat} {c law n w : Nat} (h : BP1 B c) (hl : law ≤ 2) (hn : n ≤ 4) : fW B law n w ≤ 8503056 := by
  refine Nat.le_trans (fW_le h hl (by omega)).1 (Nat.le_trans (Nat.pow_le_pow_left (tot_le h hl) n) ?_)
  exact Nat.le_trans (Nat.pow_le_pow_right (by omega) hn) (by decide)
theorem crF_le {B : Nat → Nat} {c a b n : Nat} (h : BP1 B c) (hl : B 2 ≤ 2) (hn : n ≤ 4) (k : Nat) : crF B a b n k ≤ 72301961339136 :=
  Nat.le_trans (Nat.mul_le_mul (fW_le4 h hl hn) (fW_le4 h hl hn)) (by decide)
/-- changes by what is foretold -/
def ChF (G : Gg) (S S' : Sg) : Prop := (∀ k, ¬ (k = 14 ∨ (16 ≤ k ∧ k ≤ 29)) → gi S' k = gi S k ∧ gj S' k = gj S k) ∧ (∀ k, k ≠ 14 → gp S' k = gp S k) ∧ (∀ j, j ≠ 4 → j ≠ 5 → gp S' 14 j = gp S 14 j) ∧ ∃ nk, NwR nk ∧ gp S' 14 4 = some (gA G nk) ∧ gp S' 14 5 = some (gA G (57 - nk))
theorem ChF.of {G : Gg} {S T U : Sg} (h : Ch (fun k => k = 14 ∨ (16 ≤ k ∧ k ≤ 29)) S T) (g : ChN T U) (x : ∃ nk, NwR nk ∧ gp U 14 4 = some (gA G nk) ∧ gp U 14 5 = some (gA G (57 - nk))) : ChF G S U :=
  ⟨fun k hk => ⟨(g.1 k).trans (h.2 k hk).1, (g.2.1 k (by omega)).trans (h.2 k hk).2⟩, fun k hk => by rw [g.2.2.1 k hk, h.1], fun j a b => by rw [g.2.2.2 j a b, h.1], x⟩
theorem ChF.rf {G : Gg} {S : Sg} {nk : Nat} (h : NwR nk) (h4 : gp S 14 4 = some (gA G nk)) (h5 : gp S 14 5 = some (gA G (57 - nk))) : ChF G S S := ⟨fun _ _ => ⟨rfl, rfl⟩, fun _ _ => rfl, fun _ _ _ => rfl, nk, h, h4, h5⟩
def rmX10_safe : Jvm.Room := { frames := 4, cells := 0, slots := 0, locals := 93 }
set_option maxHeartbeats 4000000 in
set_option maxRecDepth 100000 in
theorem t_X10_safe (l : Launch) (D : Dc) (G : Gg) (S : Sg) (z : Nat) (hG : GrG G) (hP : GrP G S) (h : Nat) (hh : PassR h) (hH : gp S 0 7 = some (gA G h)) (B : Nat → Nat) (c : Nat) (hB : BP B c) (hc : c < 100000) (hR : RP G S h B) (a1 a2 a3 a4 : Int32) : ML l yX10_safe wsX10_safe rmX10_safe D G S z [.ref (gA G 0), .int a1, .int a2, .int a3, .int a4] (fun r S' => r = fSafe B a1 a2 a3 a4 ∧ Ch (fun k => k = 14 ∨ (16 ≤ k ∧ k ≤ 29)) S S') := by
  refine Met.ofW (cc := cX10_safe) (maxL := 11) (ret := (some .long)) (by decide +kernel) rfl ?_
  intro pP eE s mM args bl mT cD s₁ bD hml hv
  obtain ⟨rfl, hv⟩ := hv
  have hz := hv.1
  subst hz
  have hx := bD.exec
  have hb := bD.bytes
  have hr := bD.returns
  have hts := atoms_spec (ws := wsX10_safe) bD.pre
  have hown : s.vm.findClass RX10 = some mM.cls := findClass_of_methodNamed bD.named
  have hlocks := bD.notSynchronized
  have hW := Wd.start hv
  have hA : ∀ q, s.heap.size ≤ q → AW G s.heap.size q := fun q h => Or.inr h
  have hl := lv_entry ([.ref (gA G 0), .int a1, .int a2, .int a3, .int a4]) (n := 11) (Nat.le_of_ble_eq_true rfl)
  rw [lg_entry_eq]
  generalize (lg_sl ([.ref (gA G 0), .int a1, .int a2, .int a3, .int a4]) ++ List.replicate (11 - (lg_sl ([.ref (gA G 0), .int a1, .int a2, .int a3, .int a4])).length) Slot.unset).toArray = ls at hl ⊢
  have hl : lv_has ls 11 [(0, .ref (gA G 0)), (1, .int a1), (2, .int a2), (3, .int a3), (4, .int a4)] := hl
  have q0 := hts (.fieldLink RX10 49 "WoodForTwo" "here" "LWoodForTwo$Pass;") (List.mem_of_getElem? (i := 1) rfl)
  have q1 := hts (.fieldLink RX10 116 "WoodForTwo$Pass" "stands" "Z") (List.mem_of_getElem? (i := 2) rfl)
  have q2 := hts (.constantLong RX10 66 (-9000000000000000001)) (List.mem_of_getElem? (i := 4) rfl)
  have q3 := hts (.fieldLink RX10 175 "WoodForTwo$Pass" "chances" "I") (List.mem_of_getElem? (i := 5) rfl)
  have q4 := hts (.fieldLink RX10 31 "WoodForTwo" "foretelling" "LWoodForTwo$Foretelling;") (List.mem_of_getElem? (i := 7) rfl)
  have q5 := hts (.constantLong RX10 178 (-1000000)) (List.mem_of_getElem? (i := 6) rfl)
  have q6 := hts (.constantLong RX10 134 (-9000000000000000002)) (List.mem_of_getElem? (i := 3) rfl)
  have iX10 : ∀ w ∈ wsX100, w ∈ wsX10_safe := fun _ h => List.mem_cons_of_mem _ (List.mem_append_left _ (List.mem_append_left _ (List.mem_append_right _ (h))))
  have iX5 : ∀ w ∈ wsX50, w ∈ wsX10_safe := fun _ h => List.mem_cons_of_mem _ (List.mem_append_left _ (List.mem_append_right _ (h)))
  have iX0 : ∀ w ∈ wsX00, w ∈ wsX10_safe := fun _ h => List.mem_cons_of_mem _ (List.mem_append_right _ (h))
  have h17 : B 17 ≤ 16 := by rcases hB with z | z; (rw [z.2 17]; omega); exact z.2.2.2.2.2.2.2.2.1
  have hb46 : B 4 ≤ 6 := by rcases hB with z | z; (rw [z.2 4]; omega); exact z.2.2.2.2.2.2.1
  refine lv_aload_n hx hb dX10_safe_0 rfl (lv_at hl 0 rfl) ?_
  refine r_getr (ci := 9) (C := RX10) (T := TX10) (N := 10) hx hb hts iX10 hown hW rfl 0 7 rfl (g_lt hG (by decide)) (g_kd hG (by decide) rfl) (by decide) q0 (fun _ h9 => h9) hH rfl rfl dX10_safe_1 ?_
  refine r_geti (ci := 4) (C := RX5) (T := TX5) (N := 16) hx hb hts iX5 hown hW rfl h 0 rfl (p_lt hG hh (i := 0) (by decide)) (p_kd hG hh) (by decide) q1 (fun _ h9 => h9) (nI (B 132)) hR.1.1 rfl rfl dX10_safe_4 ?_
  refine lv_if_ne (tgt := 14) hx hb dX10_safe_7 (by decide) (fun c7 => ?_) (fun c7 => ?_)
  · skip
    have hB1 : BP1 B c := hB.resolve_left (fun z => c7 (by rw [z.1]; rfl))
    obtain ⟨b0, b1, b2, b3, b4, b5, b6, b7, b8, b9, b10, b11, b12⟩ := id hB1
    refine lv_iload_n hx hb dX10_safe_14 rfl (lv_at hl 1 rfl) ?_
    refine lv_if_lt (tgt := 47) hx hb dX10_safe_15 (by decide) (fun c15 => ?_) (fun c15 => ?_)
    · skip
      rw [t_lt, show (0 : Int32).toInt = 0 from by decide] at c15
      refine lv_ldc2 (v := (-9000000000000000001)) hx hb hown q2 dX10_safe_47 ?_
      refine r_lret hx hb hr hlocks hW ?_ dX10_safe_50
      have e : fSafe B a1 a2 a3 a4 = BADL := by unfold fSafe; rw [if_neg (by omega), if_neg (by omega)]
      rw [e]
      exact ⟨rfl, Ch.rf⟩
    · skip
      rw [t_lt, show (0 : Int32).toInt = 0 from by decide] at c15
      refine lv_iload_n hx hb dX10_safe_18 rfl (lv_at hl 1 rfl) ?_
      refine lv_sipush (v := 999) hx hb dX10_safe_19 (by decide) ?_
      refine lv_icmp_gt (tgt := 47) hx hb dX10_safe_22 (by decide) (fun c22 => ?_) (fun c22 => ?_)
      · skip
        rw [t_lt, show (999 : Int32).toInt = 999 from by decide] at c22
        refine lv_ldc2 (v := (-9000000000000000001)) hx hb hown q2 dX10_safe_47 ?_
        refine r_lret hx hb hr hlocks hW ?_ dX10_safe_50
        have e : fSafe B a1 a2 a3 a4 = BADL := by unfold fSafe; rw [if_neg (by omega), if_neg (by omega)]
        rw [e]
        exact ⟨rfl, Ch.rf⟩
      · skip
        rw [t_lt, show (999 : Int32).toInt = 999 from by decide] at c22
        refine lv_iload_n hx hb dX10_safe_25 rfl (lv_at hl 2 rfl) ?_
        refine r_calli hW hA (va_runS (As := [.int a2]) (rest := []) ⟨hx, hb, hml, hown, hts⟩ (t_X10_isNights l D G S _ a2) (va_cwS 1 hts gX10_safe_X10_isNights rfl rfl rfl (by decide +kernel) ⟨Nat.le_of_ble_eq_true rfl, Nat.le_of_ble_eq_true rfl⟩) (r_preS hA hW) rfl rfl hl.1 rfl (lv_room (Nat.le_of_ble_eq_true rfl)) dX10_safe_26 ⟨Nat.zero_le _, Nat.zero_le _⟩) (fun r26 S26 H locs hp26 hW => ?_)
        obtain ⟨hs26, hp26⟩ := hp26
        rw [hs26] at hW
        rcases hp26 with ⟨rfl, h26⟩ | ⟨rfl, h26⟩
        · skip
          refine lv_if_eq (tgt := 47) hx hb dX10_safe_29 (by decide) (fun c29 => ?_) (fun c29 => ?_)
          · exact absurd c29 (by decide)
          · skip
            refine lv_iload_n hx hb dX10_safe_32 rfl (lv_at hl 3 rfl) ?_
            refine r_calli hW hA (va_runS (As := [.int a3]) (rest := []) ⟨hx, hb, hml, hown, hts⟩ (t_X10_isLaw l D G S _ a3) (va_cwS 1 hts gX10_safe_X10_isLaw rfl rfl rfl (by decide +kernel) ⟨Nat.le_of_ble_eq_true rfl, Nat.le_of_ble_eq_true rfl⟩) (r_preS hA hW) rfl rfl hl.1 rfl (lv_room (Nat.le_of_ble_eq_true rfl)) dX10_safe_33 ⟨Nat.zero_le _, Nat.zero_le _⟩) (fun r33 S33 H locs hp33 hW => ?_)
            obtain ⟨hs33, hp33⟩ := hp33
            rw [hs33] at hW
            rcases hp33 with ⟨rfl, h33⟩ | ⟨rfl, h33⟩
            · skip
              refine lv_if_eq (tgt := 47) hx hb dX10_safe_36 (by decide) (fun c36 => ?_) (fun c36 => ?_)
              · exact absurd c36 (by decide)
              · skip
                refine lv_iload hx hb dX10_safe_39 (lv_at hl 4 rfl) ?_
                refine r_calli hW hA (va_runS (As := [.int a4]) (rest := []) ⟨hx, hb, hml, hown, hts⟩ (t_X10_isZeroOrOne l D G S _ a4) (va_cwS 1 hts gX10_safe_X10_isZeroOrOne rfl rfl rfl (by decide +kernel) ⟨Nat.le_of_ble_eq_true rfl, Nat.le_of_ble_eq_true rfl⟩) (r_preS hA hW) rfl rfl hl.1 rfl (lv_room (Nat.le_of_ble_eq_true rfl)) dX10_safe_41 ⟨Nat.zero_le _, Nat.zero_le _⟩) (fun r41 S41 H locs hp41 hW => ?_)
                obtain ⟨hs41, hp41⟩ := hp41
                rw [hs41] at hW
                rcases hp41 with ⟨rfl, h41⟩ | ⟨rfl, h41⟩
                · skip
                  refine lv_if_ne (tgt := 51) hx hb dX10_safe_44 (by decide) (fun c44 => ?_) (fun c44 => ?_)
                  · skip
                    refine lv_aload_n hx hb dX10_safe_51 rfl (lv_at hl 0 rfl) ?_
                    refine r_getr (ci := 9) (C := RX10) (T := TX10) (N := 10) hx hb hts iX10 hown hW rfl 0 7 rfl (g_lt hG (by decide)) (g_kd hG (by decide) rfl) (by decide) q0 (fun _ h9 => h9) hH rfl rfl dX10_safe_52 ?_
                    refine r_geti (ci := 4) (C := RX5) (T := TX5) (N := 16) hx hb hts iX5 hown hW rfl h 5 rfl (p_lt hG hh (i := 0) (by decide)) (p_kd hG hh) (by decide) q3 (fun _ h9 => h9) (nI (B 4)) hR.1.2.2.2.2.2.1 rfl rfl dX10_safe_55 ?_
                    refine lv_if_ne (tgt := 65) hx hb dX10_safe_58 (by decide) (fun c58 => ?_) (fun c58 => ?_)
                    · skip
                      have hb4 : ¬ B 4 = 0 := fun z => c58 (by rw [z]; rfl)
                      have hn_a1 := n_nat (x := a1) (by omega)
                      have e_a1 := n_nI (x := a1) (by omega)
                      have hn_a2 := n_nat (x := a2) (by omega)
                      have e_a2 := n_nI (x := a2) (by omega)
                      have hn_a3 := n_nat (x := a3) (by omega)
                      have e_a3 := n_nI (x := a3) (by omega)
                      have hlw : a3.toNatClampNeg ≤ 2 := by omega
                      have hn1 : 1 ≤ a2.toNatClampNeg := by omega
                      have hn8 : a2.toNatClampNeg ≤ 8 := by omega
                      have hfw0 := fW_le (n := a2.toNatClampNeg) (w := a1.toNatClampNeg) hB1 hlw hn8
                      have hfw : fW B a3.toNatClampNeg a2.toNatClampNeg a1.toNatClampNeg ≤ 72301961339136 ∧ tot (Qc B a3.toNatClampNeg) ^ a2.toNatClampNeg ≤ 72301961339136 := ⟨Nat.le_trans hfw0.1 hfw0.2, hfw0.2⟩
                      have hal : 0 < tot (Qc B a3.toNatClampNeg) ^ a2.toNatClampNeg := Nat.pow_pos (tot_ge hB1 hlw (by omega))
                      have hgp : 0 < (Nat.gcd (fW B a3.toNatClampNeg a2.toNatClampNeg a1.toNatClampNeg) (tot (Qc B a3.toNatClampNeg) ^ a2.toNatClampNeg)) := Nat.gcd_pos_of_pos_right _ hal
                      have hgl : (Nat.gcd (fW B a3.toNatClampNeg a2.toNatClampNeg a1.toNatClampNeg) (tot (Qc B a3.toNatClampNeg) ^ a2.toNatClampNeg)) ≤ 72301961339136 := Nat.le_trans (Nat.gcd_le_right _ hal) hfw.2
                      refine lv_aload_n hx hb dX10_safe_65 rfl (lv_at hl 0 rfl) ?_
                      refine r_getr (ci := 9) (C := RX10) (T := TX10) (N := 10) hx hb hts iX10 hown hW rfl 0 4 rfl (g_lt hG (by decide)) (g_kd hG (by decide) rfl) (by decide) q4 (fun _ h9 => h9) (hP _ (List.mem_of_getElem? (i := 4) rfl)) rfl rfl dX10_safe_66 ?_
                      refine lv_aload_n hx hb dX10_safe_69 rfl (lv_at hl 0 rfl) ?_
                      refine r_getr (ci := 9) (C := RX10) (T := TX10) (N := 10) hx hb hts iX10 hown hW rfl 0 7 rfl (g_lt hG (by decide)) (g_kd hG (by decide) rfl) (by decide) q0 (fun _ h9 => h9) hH rfl rfl dX10_safe_70 ?_
                      refine lv_iload_n hx hb dX10_safe_73 rfl (lv_at hl 3 rfl) ?_
                      refine lv_iload_n hx hb dX10_safe_74 rfl (lv_at hl 2 rfl) ?_
                      refine W.eq (g2 := F0 mM 75 ls [.int (nI a2.toNatClampNeg), .int (nI a3.toNatClampNeg), .ref (gA G h), .ref (gA G 14)]) (by rw [← e_a3, ← e_a2]) ?_
                      refine r_callv hW hA (va_runV (As := [.ref (gA G h), .int (nI a3.toNatClampNeg), .int (nI a2.toNatClampNeg)]) (rest := []) ⟨hx, hb, hml, hown, hts⟩ (t_X0_foretell l D G S _ hG hP h hh B c hB1 hR a3.toNatClampNeg a2.toNatClampNeg hlw hn1 hn8) (cwV 3 hts gX10_safe_X0_foretell rfl rfl rfl (by decide +kernel) ⟨Nat.le_of_ble_eq_true rfl, Nat.le_of_ble_eq_true rfl⟩) (r_preV (k := 14) hA hW (ci := 0) (C := RX0) (T := TX0) (N := 10) rfl rfl (g_lt hG (by decide)) (g_kd hG (by decide) rfl) rfl rfl) rfl rfl hl.1 rfl (lv_room (Nat.le_of_ble_eq_true rfl)) dX10_safe_75 ⟨Nat.zero_le _, Nat.zero_le _⟩) (fun S75 H locs hp75 hW => ?_)
                      obtain ⟨hF, hFr, hC⟩ := hp75
                      have hP_S75 : GrP G S75 := fun q hq => by rw [hC.1]; exact hP q hq
                      have hH_S75 : gp S75 0 7 = some (gA G h) := by rw [hC.1]; exact hH
                      refine lv_aload_n hx hb dX10_safe_78 rfl (lv_at hl 0 rfl) ?_
                      refine r_getr (ci := 9) (C := RX10) (T := TX10) (N := 10) hx hb hts iX10 hown hW rfl 0 4 rfl (g_lt hG (by decide)) (g_kd hG (by decide) rfl) (by decide) q4 (fun _ h9 => h9) (hP_S75 _ (List.mem_of_getElem? (i := 4) rfl)) rfl rfl dX10_safe_79 ?_
                      refine lv_iload_n hx hb dX10_safe_82 rfl (lv_at hl 1 rfl) ?_
                      refine W.eq (g2 := F0 mM 83 ls [.int (nI a1.toNatClampNeg), .ref (gA G 14)]) (by rw [← e_a1]) ?_
                      refine r_calll hW hA (va_runV (As := [.int (nI a1.toNatClampNeg)]) (rest := []) ⟨hx, hb, hml, hown, hts⟩ (t_X0_safeWays l D G S75 _ hG hP_S75 B c hB1 a3.toNatClampNeg a2.toNatClampNeg hlw hn1 hn8 hF hFr a1.toNatClampNeg (by omega)) (cwV 1 hts gX10_safe_X0_safeWays rfl rfl rfl (by decide +kernel) ⟨Nat.le_of_ble_eq_true rfl, Nat.le_of_ble_eq_true rfl⟩) (r_preV (k := 14) hA hW (ci := 0) (C := RX0) (T := TX0) (N := 10) rfl rfl (g_lt hG (by decide)) (g_kd hG (by decide) rfl) rfl rfl) rfl rfl hl.1 rfl (lv_room (Nat.le_of_ble_eq_true rfl)) dX10_safe_83 ⟨Nat.zero_le _, Nat.zero_le _⟩) (fun r83 S83 H locs hp83 hW => ?_)
                      obtain ⟨rfl, hs83⟩ := hp83
                      rw [hs83] at hW
                      refine lv_lstore (lv' := [(5, .long (lN (fW B a3.toNatClampNeg a2.toNatClampNeg a1.toNatClampNeg))), (0, .ref (gA G 0)), (1, .int a1), (2, .int a2), (3, .int a3), (4, .int a4)]) hx hb dX10_safe_86 hl (by decide) rfl (fun ls hl => ?_)
                      refine lv_aload_n hx hb dX10_safe_88 rfl (lv_at hl 1 rfl) ?_
                      refine r_getr (ci := 9) (C := RX10) (T := TX10) (N := 10) hx hb hts iX10 hown hW rfl 0 4 rfl (g_lt hG (by decide)) (g_kd hG (by decide) rfl) (by decide) q4 (fun _ h9 => h9) (hP_S75 _ (List.mem_of_getElem? (i := 4) rfl)) rfl rfl dX10_safe_89 ?_
                      refine r_getlN (ci := 0) (C := RX0) (T := TX0) (N := 10) hx hb hts iX0 hown hW rfl 14 9 rfl (g_lt hG (by decide)) (g_kd hG (by decide) rfl) (by decide) (va_Nw.use rfl (hW.2.2.2.2.2.2.2.2.1 (187, "WoodForTwo$Foretelling", "allWays", "J") (by decide))) (fun _ h9 => h9) (lN (tot (Qc B a3.toNatClampNeg) ^ a2.toNatClampNeg)) hF.2.2.2.1 rfl rfl dX10_safe_92 ?_
                      refine lv_lstore (lv' := [(7, .long (lN (tot (Qc B a3.toNatClampNeg) ^ a2.toNatClampNeg))), (5, .long (lN (fW B a3.toNatClampNeg a2.toNatClampNeg a1.toNatClampNeg))), (0, .ref (gA G 0)), (1, .int a1), (2, .int a2), (3, .int a3), (4, .int a4)]) hx hb dX10_safe_95 hl (by decide) rfl (fun ls hl => ?_)
                      refine lv_lload hx hb dX10_safe_97 (lv_at hl 1 rfl) ?_
                      refine lv_lload hx hb dX10_safe_99 (lv_at hl 0 rfl) ?_
                      refine r_calll hW hA (va_runS (As := [.long (lN (fW B a3.toNatClampNeg a2.toNatClampNeg a1.toNatClampNeg)), .long (lN (tot (Qc B a3.toNatClampNeg) ^ a2.toNatClampNeg))]) (rest := []) ⟨hx, hb, hml, hown, hts⟩ (t_X10_greatestDivisor l D G S75 _ (fW B a3.toNatClampNeg a2.toNatClampNeg a1.toNatClampNeg) (tot (Qc B a3.toNatClampNeg) ^ a2.toNatClampNeg) hfw.1 hfw.2) (va_cwS 2 hts gX10_safe_X10_greatestDivisor rfl rfl rfl (by decide +kernel) ⟨Nat.le_of_ble_eq_true rfl, Nat.le_of_ble_eq_true rfl⟩) (r_preS hA hW) rfl rfl hl.1 rfl (lv_room (Nat.le_of_ble_eq_true rfl)) dX10_safe_101 ⟨Nat.zero_le _, Nat.zero_le _⟩) (fun r101 S101 H locs hp101 hW => ?_)
                      obtain ⟨rfl, hs101⟩ := hp101
                      rw [hs101] at hW
                      refine lv_lstore (lv' := [(9, .long (lN (Nat.gcd (fW B a3.toNatClampNeg a2.toNatClampNeg a1.toNatClampNeg) (tot (Qc B a3.toNatClampNeg) ^ a2.toNatClampNeg)))), (7, .long (lN (tot (Qc B a3.toNatClampNeg) ^ a2.toNatClampNeg))), (5, .long (lN (fW B a3.toNatClampNeg a2.toNatClampNeg a1.toNatClampNeg))), (0, .ref (gA G 0)), (1, .int a1), (2, .int a2), (3, .int a3), (4, .int a4)]) hx hb dX10_safe_104 hl (by decide) rfl (fun ls hl => ?_)
                      refine lv_lload hx hb dX10_safe_106 (lv_at hl 0 rfl) ?_
                      refine lv_lconst (v := 0) hx hb dX10_safe_108 (by decide) ?_
                      refine W.lcmp hx hb dX10_safe_109 ?_
                      refine lv_if_ne (tgt := 117) hx hb dX10_safe_110 (by decide) (fun c110 => ?_) (fun c110 => ?_)
                      · skip
                        rw [lc_ne] at c110
                        refine lv_iload hx hb dX10_safe_117 (lv_at hl 7 rfl) ?_
                        refine lv_if_ne (tgt := 130) hx hb dX10_safe_119 (by decide) (fun c119 => ?_) (fun c119 => ?_)
                        · skip
                          rw [t_eq, show (0 : Int32).toInt = 0 from by decide] at c119
                          refine lv_lload hx hb dX10_safe_130 (lv_at hl 1 rfl) ?_
                          refine lv_lload hx hb dX10_safe_132 (lv_at hl 0 rfl) ?_
                          refine lv_ldiv hx hb dX10_safe_134 (fun z => by have z9 := congrArg Int64.toInt z; rw [lN_int (by omega), show (0 : Int64).toInt = 0 from by decide] at z9; omega) ?_
                          rw [show (((lN (tot (Qc B a3.toNatClampNeg) ^ a2.toNatClampNeg)) / (lN (Nat.gcd (fW B a3.toNatClampNeg a2.toNatClampNeg a1.toNatClampNeg) (tot (Qc B a3.toNatClampNeg) ^ a2.toNatClampNeg)))) : Int64) = (lN (tot (Qc B a3.toNatClampNeg) ^ a2.toNatClampNeg / (Nat.gcd (fW B a3.toNatClampNeg a2.toNatClampNeg a1.toNatClampNeg) (tot (Qc B a3.toNatClampNeg) ^ a2.toNatClampNeg)))) from lN_div (by omega) (by omega)]
                          refine r_lret hx hb hr hlocks hW ?_ dX10_safe_135
                          have e : fSafe B a1 a2 a3 a4 = lN ((tot (Qc B a3.toNatClampNeg) ^ a2.toNatClampNeg) / (Nat.gcd (fW B a3.toNatClampNeg a2.toNatClampNeg a1.toNatClampNeg) (tot (Qc B a3.toNatClampNeg) ^ a2.toNatClampNeg))) := by unfold fSafe; rw [if_neg (by omega), if_pos (by omega), if_neg hb4, if_neg c119]
                          rw [e]
                          exact ⟨rfl, hC⟩
                        · skip
                          rw [t_eq, show (0 : Int32).toInt = 0 from by decide] at c119
                          refine lv_lload hx hb dX10_safe_122 (lv_at hl 2 rfl) ?_
                          refine lv_lload hx hb dX10_safe_124 (lv_at hl 0 rfl) ?_
                          refine lv_ldiv hx hb dX10_safe_126 (fun z => by have z9 := congrArg Int64.toInt z; rw [lN_int (by omega), show (0 : Int64).toInt = 0 from by decide] at z9; omega) ?_
                          rw [show (((lN (fW B a3.toNatClampNeg a2.toNatClampNeg a1.toNatClampNeg)) / (lN (Nat.gcd (fW B a3.toNatClampNeg a2.toNatClampNeg a1.toNatClampNeg) (tot (Qc B a3.toNatClampNeg) ^ a2.toNatClampNeg)))) : Int64) = (lN (fW B a3.toNatClampNeg a2.toNatClampNeg a1.toNatClampNeg / (Nat.gcd (fW B a3.toNatClampNeg a2.toNatClampNeg a1.toNatClampNeg) (tot (Qc B a3.toNatClampNeg) ^ a2.toNatClampNeg)))) from lN_div (by omega) (by omega)]
                          refine lv_goto (tgt := 135) hx hb dX10_safe_127 (by decide) ?_
                          refine r_lret hx hb hr hlocks hW ?_ dX10_safe_135
                          have e : fSafe B a1 a2 a3 a4 = lN ((fW B a3.toNatClampNeg a2.toNatClampNeg a1.toNatClampNeg) / (Nat.gcd (fW B a3.toNatClampNeg a2.toNatClampNeg a1.toNatClampNeg) (tot (Qc B a3.toNatClampNeg) ^ a2.toNatClampNeg))) := by unfold fSafe; rw [if_neg (by omega), if_pos (by omega), if_neg hb4, if_pos c119]
                          rw [e]
                          exact ⟨rfl, hC⟩
                      · skip
                        rw [lc_ne] at c110
                        exfalso; rw [lN_int (by omega), show (0 : Int64).toInt = 0 from by decide] at c110; omega --stop
                    · skip
                      have hb4 : B 4 = 0 := (n_eq (a := B 4) (b := 0) (by omega) (by omega)).mp c58
                      refine lv_ldc2 (v := (-1000000)) hx hb hown q5 dX10_safe_61 ?_
                      refine r_lret hx hb hr hlocks hW ?_ dX10_safe_64
                      have e : fSafe B a1 a2 a3 a4 = NONEL := by unfold fSafe; rw [if_neg (by omega), if_pos (by omega), if_pos hb4]
                      rw [e]
                      exact ⟨rfl, Ch.rf⟩
                  · exact absurd c44 (by decide)
                · skip
                  refine lv_if_ne (tgt := 51) hx hb dX10_safe_44 (by decide) (fun c44 => ?_) (fun c44 => ?_)
                  · exact absurd (by decide) c44
                  · skip
                    refine lv_ldc2 (v := (-9000000000000000001)) hx hb hown q2 dX10_safe_47 ?_
                    refine r_lret hx hb hr hlocks hW ?_ dX10_safe_50
                    have e : fSafe B a1 a2 a3 a4 = BADL := by unfold fSafe; rw [if_neg (by omega), if_neg (by omega)]
                    rw [e]
                    exact ⟨rfl, Ch.rf⟩
            · skip
              refine lv_if_eq (tgt := 47) hx hb dX10_safe_36 (by decide) (fun c36 => ?_) (fun c36 => ?_)
              · skip
                refine lv_ldc2 (v := (-9000000000000000001)) hx hb hown q2 dX10_safe_47 ?_
                refine r_lret hx hb hr hlocks hW ?_ dX10_safe_50
                have e : fSafe B a1 a2 a3 a4 = BADL := by unfold fSafe; rw [if_neg (by omega), if_neg (by omega)]
                rw [e]
                exact ⟨rfl, Ch.rf⟩
              · exact absurd (by decide) c36
        · skip
          refine lv_if_eq (tgt := 47) hx hb dX10_safe_29 (by decide) (fun c29 => ?_) (fun c29 => ?_)
          · skip
            refine lv_ldc2 (v := (-9000000000000000001)) hx hb hown q2 dX10_safe_47 ?_
            refine r_lret hx hb hr hlocks hW ?_ dX10_safe_50
            have e : fSafe B a1 a2 a3 a4 = BADL := by unfold fSafe; rw [if_neg (by omega), if_neg (by omega)]
            rw [e]
            exact ⟨rfl, Ch.rf⟩
          · exact absurd (by decide) c29
  · skip
    have hs0 : B 132 = 0 := by
      rcases hB with z | z
      · exact z.1
      · rw [z.1] at c7; exact absurd c7 (by decide)
    refine lv_ldc2 (v := (-9000000000000000002)) hx hb hown q6 dX10_safe_10 ?_
    refine r_lret hx hb hr hlocks hW ?_ dX10_safe_13
    have e : fSafe B a1 a2 a3 a4 = STATEL := by unfold fSafe; rw [if_pos hs0]
    rw [e]
    exact ⟨rfl, Ch.rf⟩

def rmX10_stock : Jvm.Room := { frames := 4, cells := 0, slots := 0, locals := 93 }
set_option maxHeartbeats 4000000 in
set_option maxRecDepth 100000 in
theorem t_X10_stock (l : Launch) (D : Dc) (G : Gg) (S : Sg) (z : Nat) (hG : GrG G) (hP : GrP G S) (h : Nat) (hh : PassR h) (hH : gp S 0 7 = some (gA G h)) (B : Nat → Nat) (c : Nat) (hB : BP B c) (hc : c < 100000) (hR : RP G S h B) (a1 a2 a3 : Int32) : ML l yX10_stock wsX10_stock rmX10_stock D G S z [.ref (gA G 0), .int a1, .int a2, .int a3] (fun r S' => r = fStock B a1 a2 a3 ∧ Ch (fun k => k = 14 ∨ (16 ≤ k ∧ k ≤ 29)) S S') := by
  refine Met.ofW (cc := cX10_stock) (maxL := 5) (ret := (some .long)) (by decide +kernel) rfl ?_
  intro pP eE s mM args bl mT cD s₁ bD hml hv
  obtain ⟨rfl, hv⟩ := hv
  have hz := hv.1
  subst hz
  have hx := bD.exec
  have hb := bD.bytes
  have hr := bD.returns
  have hts := atoms_spec (ws := wsX10_stock) bD.pre
  have hown : s.vm.findClass RX10 = some mM.cls := findClass_of_methodNamed bD.named
  have hlocks := bD.notSynchronized
  have hW := Wd.start hv
  have hA : ∀ q, s.heap.size ≤ q → AW G s.heap.size q := fun q h => Or.inr h
  have hl := lv_entry ([.ref (gA G 0), .int a1, .int a2, .int a3]) (n := 5) (Nat.le_of_ble_eq_true rfl)
  rw [lg_entry_eq]
  generalize (lg_sl ([.ref (gA G 0), .int a1, .int a2, .int a3]) ++ List.replicate (5 - (lg_sl ([.ref (gA G 0), .int a1, .int a2, .int a3])).length) Slot.unset).toArray = ls at hl ⊢
  have hl : lv_has ls 5 [(0, .ref (gA G 0)), (1, .int a1), (2, .int a2), (3, .int a3)] := hl
  have q0 := hts (.fieldLink RX10 49 "WoodForTwo" "here" "LWoodForTwo$Pass;") (List.mem_of_getElem? (i := 1) rfl)
  have q1 := hts (.fieldLink RX10 116 "WoodForTwo$Pass" "stands" "Z") (List.mem_of_getElem? (i := 2) rfl)
  have q2 := hts (.constantLong RX10 66 (-9000000000000000001)) (List.mem_of_getElem? (i := 4) rfl)
  have q3 := hts (.fieldLink RX10 175 "WoodForTwo$Pass" "chances" "I") (List.mem_of_getElem? (i := 5) rfl)
  have q4 := hts (.fieldLink RX10 31 "WoodForTwo" "foretelling" "LWoodForTwo$Foretelling;") (List.mem_of_getElem? (i := 7) rfl)
  have q5 := hts (.constantLong RX10 178 (-1000000)) (List.mem_of_getElem? (i := 6) rfl)
  have q6 := hts (.constantLong RX10 195 (1000)) (List.mem_of_getElem? (i := 8) rfl)
  have q7 := hts (.constantLong RX10 134 (-9000000000000000002)) (List.mem_of_getElem? (i := 3) rfl)
  have iX10 : ∀ w ∈ wsX100, w ∈ wsX10_stock := fun _ h => List.mem_cons_of_mem _ (List.mem_append_left _ (List.mem_append_left _ (List.mem_append_right _ (h))))
  have iX5 : ∀ w ∈ wsX50, w ∈ wsX10_stock := fun _ h => List.mem_cons_of_mem _ (List.mem_append_left _ (List.mem_append_right _ (h)))
  have iX0 : ∀ w ∈ wsX00, w ∈ wsX10_stock := fun _ h => List.mem_cons_of_mem _ (List.mem_append_right _ (h))
  generalize hQ0 : MQ bl _ _ s _ _ _ = Q0
  have h17 : B 17 ≤ 16 := by rcases hB with z | z; (rw [z.2 17]; omega); exact z.2.2.2.2.2.2.2.2.1
  have hb46 : B 4 ≤ 6 := by rcases hB with z | z; (rw [z.2 4]; omega); exact z.2.2.2.2.2.2.1
  refine lv_aload_n hx hb dX10_stock_0 rfl (lv_at hl 0 rfl) ?_
  refine r_getr (ci := 9) (C := RX10) (T := TX10) (N := 10) hx hb hts iX10 hown hW rfl 0 7 rfl (g_lt hG (by decide)) (g_kd hG (by decide) rfl) (by decide) q0 (fun _ h9 => h9) hH rfl rfl dX10_stock_1 ?_
  refine r_geti (ci := 4) (C := RX5) (T := TX5) (N := 16) hx hb hts iX5 hown hW rfl h 0 rfl (p_lt hG hh (i := 0) (by decide)) (p_kd hG hh) (by decide) q1 (fun _ h9 => h9) (nI (B 132)) hR.1.1 rfl rfl dX10_stock_4 ?_
  refine lv_if_ne (tgt := 14) hx hb dX10_stock_7 (by decide) (fun c7 => ?_) (fun c7 => ?_)
  · skip
    have hB1 : BP1 B c := hB.resolve_left (fun z => c7 (by rw [z.1]; rfl))
    obtain ⟨b0, b1, b2, b3, b4, b5, b6, b7, b8, b9, b10, b11, b12⟩ := id hB1
    refine lv_iload_n hx hb dX10_stock_14 rfl (lv_at hl 1 rfl) ?_
    refine r_calli hW hA (va_runS (As := [.int a1]) (rest := []) ⟨hx, hb, hml, hown, hts⟩ (t_X10_isNights l D G S _ a1) (va_cwS 1 hts gX10_stock_X10_isNights rfl rfl rfl (by decide +kernel) ⟨Nat.le_of_ble_eq_true rfl, Nat.le_of_ble_eq_true rfl⟩) (r_preS hA hW) rfl rfl hl.1 rfl (lv_room (Nat.le_of_ble_eq_true rfl)) dX10_stock_15 ⟨Nat.zero_le _, Nat.zero_le _⟩) (fun r15 S15 H locs hp15 hW => ?_)
    obtain ⟨hs15, hp15⟩ := hp15
    rw [hs15] at hW
    rcases hp15 with ⟨rfl, h15⟩ | ⟨rfl, h15⟩
    · skip
      refine lv_if_eq (tgt := 39) hx hb dX10_stock_18 (by decide) (fun c18 => ?_) (fun c18 => ?_)
      · exact absurd c18 (by decide)
      · skip
        refine lv_iload_n hx hb dX10_stock_21 rfl (lv_at hl 2 rfl) ?_
        refine r_calli hW hA (va_runS (As := [.int a2]) (rest := []) ⟨hx, hb, hml, hown, hts⟩ (t_X10_isLaw l D G S _ a2) (va_cwS 1 hts gX10_stock_X10_isLaw rfl rfl rfl (by decide +kernel) ⟨Nat.le_of_ble_eq_true rfl, Nat.le_of_ble_eq_true rfl⟩) (r_preS hA hW) rfl rfl hl.1 rfl (lv_room (Nat.le_of_ble_eq_true rfl)) dX10_stock_22 ⟨Nat.zero_le _, Nat.zero_le _⟩) (fun r22 S22 H locs hp22 hW => ?_)
        obtain ⟨hs22, hp22⟩ := hp22
        rw [hs22] at hW
        rcases hp22 with ⟨rfl, h22⟩ | ⟨rfl, h22⟩
        · skip
          refine lv_if_eq (tgt := 39) hx hb dX10_stock_25 (by decide) (fun c25 => ?_) (fun c25 => ?_)
          · exact absurd c25 (by decide)
          · skip
            refine lv_iload_n hx hb dX10_stock_28 rfl (lv_at hl 3 rfl) ?_
            refine lv_if_lt (tgt := 39) hx hb dX10_stock_29 (by decide) (fun c29 => ?_) (fun c29 => ?_)
            · skip
              rw [t_lt, show (0 : Int32).toInt = 0 from by decide] at c29
              refine lv_ldc2 (v := (-9000000000000000001)) hx hb hown q2 dX10_stock_39 ?_
              rw [← hQ0]
              refine r_lret hx hb hr hlocks hW ?_ dX10_stock_42
              have e : fStock B a1 a2 a3 = BADL := by unfold fStock; rw [if_neg (by omega), if_neg (by omega)]
              rw [e]
              exact ⟨rfl, Ch.rf⟩
            · skip
              rw [t_lt, show (0 : Int32).toInt = 0 from by decide] at c29
              refine lv_iload_n hx hb dX10_stock_32 rfl (lv_at hl 3 rfl) ?_
              refine lv_sipush (v := 1000) hx hb dX10_stock_33 (by decide) ?_
              refine lv_icmp_le (tgt := 43) hx hb dX10_stock_36 (by decide) (fun c36 => ?_) (fun c36 => ?_)
              · skip
                rw [t_le, show (1000 : Int32).toInt = 1000 from by decide] at c36
                refine lv_aload_n hx hb dX10_stock_43 rfl (lv_at hl 0 rfl) ?_
                refine r_getr (ci := 9) (C := RX10) (T := TX10) (N := 10) hx hb hts iX10 hown hW rfl 0 7 rfl (g_lt hG (by decide)) (g_kd hG (by decide) rfl) (by decide) q0 (fun _ h9 => h9) hH rfl rfl dX10_stock_44 ?_
                refine r_geti (ci := 4) (C := RX5) (T := TX5) (N := 16) hx hb hts iX5 hown hW rfl h 5 rfl (p_lt hG hh (i := 0) (by decide)) (p_kd hG hh) (by decide) q3 (fun _ h9 => h9) (nI (B 4)) hR.1.2.2.2.2.2.1 rfl rfl dX10_stock_47 ?_
                refine lv_if_ne (tgt := 57) hx hb dX10_stock_50 (by decide) (fun c50 => ?_) (fun c50 => ?_)
                · skip
                  have hb4 : ¬ B 4 = 0 := fun z => c50 (by rw [z]; rfl)
                  have hn_a1 := n_nat (x := a1) (by omega)
                  have e_a1 := n_nI (x := a1) (by omega)
                  have hn_a2 := n_nat (x := a2) (by omega)
                  have e_a2 := n_nI (x := a2) (by omega)
                  have hn_a3 := n_nat (x := a3) (by omega)
                  have e_a3 := n_nI (x := a3) (by omega)
                  have hlw : a2.toNatClampNeg ≤ 2 := by omega
                  have hn1 : 1 ≤ a1.toNatClampNeg := by omega
                  have hn8 : a1.toNatClampNeg ≤ 8 := by omega
                  have hall := (fW_le (n := a1.toNatClampNeg) (w := 0) hB1 hlw hn8).2
                  refine lv_aload_n hx hb dX10_stock_57 rfl (lv_at hl 0 rfl) ?_
                  refine r_getr (ci := 9) (C := RX10) (T := TX10) (N := 10) hx hb hts iX10 hown hW rfl 0 4 rfl (g_lt hG (by decide)) (g_kd hG (by decide) rfl) (by decide) q4 (fun _ h9 => h9) (hP _ (List.mem_of_getElem? (i := 4) rfl)) rfl rfl dX10_stock_58 ?_
                  refine lv_aload_n hx hb dX10_stock_61 rfl (lv_at hl 0 rfl) ?_
                  refine r_getr (ci := 9) (C := RX10) (T := TX10) (N := 10) hx hb hts iX10 hown hW rfl 0 7 rfl (g_lt hG (by decide)) (g_kd hG (by decide) rfl) (by decide) q0 (fun _ h9 => h9) hH rfl rfl dX10_stock_62 ?_
                  refine lv_iload_n hx hb dX10_stock_65 rfl (lv_at hl 2 rfl) ?_
                  refine lv_iload_n hx hb dX10_stock_66 rfl (lv_at hl 1 rfl) ?_
                  refine W.eq (g2 := F0 mM 67 ls [.int (nI a1.toNatClampNeg), .int (nI a2.toNatClampNeg), .ref (gA G h), .ref (gA G 14)]) (by rw [← e_a2, ← e_a1]) ?_
                  refine r_callv hW hA (va_runV (As := [.ref (gA G h), .int (nI a2.toNatClampNeg), .int (nI a1.toNatClampNeg)]) (rest := []) ⟨hx, hb, hml, hown, hts⟩ (t_X0_foretell l D G S _ hG hP h hh B c hB1 hR a2.toNatClampNeg a1.toNatClampNeg hlw hn1 hn8) (cwV 3 hts gX10_stock_X0_foretell rfl rfl rfl (by decide +kernel) ⟨Nat.le_of_ble_eq_true rfl, Nat.le_of_ble_eq_true rfl⟩) (r_preV (k := 14) hA hW (ci := 0) (C := RX0) (T := TX0) (N := 10) rfl rfl (g_lt hG (by decide)) (g_kd hG (by decide) rfl) rfl rfl) rfl rfl hl.1 rfl (lv_room (Nat.le_of_ble_eq_true rfl)) dX10_stock_67 ⟨Nat.zero_le _, Nat.zero_le _⟩) (fun S67 H locs hp67 hW => ?_)
                  obtain ⟨hF, hFr, hC⟩ := hp67
                  have hP_S67 : GrP G S67 := fun q hq => by rw [hC.1]; exact hP q hq
                  have hH_S67 : gp S67 0 7 = some (gA G h) := by rw [hC.1]; exact hH
                  refine lv_iconst (v := 0) hx hb dX10_stock_70 (by decide) ?_
                  refine lv_istore (lv' := [(4, .int 0), (0, .ref (gA G 0)), (1, .int a1), (2, .int a2), (3, .int a3)]) hx hb dX10_stock_71 hl (by decide) rfl (fun ls hl => ?_)
                  have L73 : ∀ (n : Nat) (w : Nat) (H : Heap) (locs : List Loc) (ls : Array Slot), (501 - w) < n → w ≤ 501 → fst (stP B a2.toNatClampNeg a1.toNatClampNeg a3.toNatClampNeg) w = none → Wd D (AW G s.heap.size) s G S67 H locs → lv_has ls 5 [(4, .int (nI w)), (0, .ref (gA G 0)), (3, .int a3)] → W pP l eE (headSpec wsX10_stock rmX10_stock).room s mM ([.ref (gA G 0), .int a1, .int a2, .int a3] : List Value).toArray bl mT cD H locs 0 0 Q0 (F0 mM 73 ls []) := by
                    intro n
                    induction n with
                    | zero => intro w H locs ls hm; exact absurd hm (Nat.not_lt_zero _)
                    | succ n ih73 =>
                      intro w H locs ls hm73 hw hfn hW hl
                      refine lv_iload hx hb dX10_stock_73 (lv_at hl 0 rfl) ?_
                      refine lv_sipush (v := 500) hx hb dX10_stock_75 (by decide) ?_
                      refine lv_icmp_gt (tgt := 118) hx hb dX10_stock_78 (by decide) (fun c78 => ?_) (fun c78 => ?_)
                      · skip
                        have hwe : w = 501 := by
                          have h9 := (n_lt (a := 500) (b := w) (by omega) (by omega)).mp c78
                          omega
                        refine lv_ldc2 (v := (-1000000)) hx hb hown q5 dX10_stock_118 ?_
                        rw [← hQ0]
                        refine r_lret hx hb hr hlocks hW ?_ dX10_stock_121
                        have e : fStock B a1 a2 a3 = NONEL := by unfold fStock; rw [if_neg (by omega), if_pos (by omega), if_neg hb4, ← hwe, hfn]; rfl
                        rw [e]
                        exact ⟨rfl, hC⟩
                      · skip
                        have hwe : w ≤ 500 := by
                          have h9 : ¬ 500 < w := fun z => c78 ((n_lt (a := 500) (b := w) (by omega) (by omega)).mpr z)
                          omega
                        have hfw := fW_le (n := a1.toNatClampNeg) (w := w) hB1 hlw hn8
                        have hq9 : a3.toNatClampNeg * (tot (Qc B a2.toNatClampNeg) ^ a1.toNatClampNeg) ≤ 1000 * 72301961339136 := Nat.mul_le_mul (by omega) hall
                        refine lv_aload_n hx hb dX10_stock_81 rfl (lv_at hl 1 rfl) ?_
                        refine r_getr (ci := 9) (C := RX10) (T := TX10) (N := 10) hx hb hts iX10 hown hW rfl 0 4 rfl (g_lt hG (by decide)) (g_kd hG (by decide) rfl) (by decide) q4 (fun _ h9 => h9) (hP_S67 _ (List.mem_of_getElem? (i := 4) rfl)) rfl rfl dX10_stock_82 ?_
                        refine lv_iload hx hb dX10_stock_85 (lv_at hl 0 rfl) ?_
                        refine r_calll hW hA (va_runV (As := [.int (nI w)]) (rest := []) ⟨hx, hb, hml, hown, hts⟩ (t_X0_safeWays l D G S67 _ hG hP_S67 B c hB1 a2.toNatClampNeg a1.toNatClampNeg hlw hn1 hn8 hF hFr w (by omega)) (cwV 1 hts gX10_stock_X0_safeWays rfl rfl rfl (by decide +kernel) ⟨Nat.le_of_ble_eq_true rfl, Nat.le_of_ble_eq_true rfl⟩) (r_preV (k := 14) hA hW (ci := 0) (C := RX0) (T := TX0) (N := 10) rfl rfl (g_lt hG (by decide)) (g_kd hG (by decide) rfl) rfl rfl) rfl rfl hl.1 rfl (lv_room (Nat.le_of_ble_eq_true rfl)) dX10_stock_87 ⟨Nat.zero_le _, Nat.zero_le _⟩) (fun r87 S87 H locs hp87 hW => ?_)
                        obtain ⟨rfl, hs87⟩ := hp87
                        rw [hs87] at hW
                        refine lv_ldc2 (v := (1000)) hx hb hown q6 dX10_stock_90 ?_
                        refine lv_lmul hx hb dX10_stock_93 ?_
                        rw [show (((lN (fW B a2.toNatClampNeg a1.toNatClampNeg w)) * (1000)) : Int64) = (lN (fW B a2.toNatClampNeg a1.toNatClampNeg w * 1000)) from (congrArg (fun z => lN (fW B a2.toNatClampNeg a1.toNatClampNeg w) * z) (show (1000 : Int64) = lN 1000 from rfl)).trans (lN_mul _ 1000)]
                        refine lv_iload_n hx hb dX10_stock_94 rfl (lv_at hl 2 rfl) ?_
                        refine lv_i2l hx hb dX10_stock_95 rfl ?_
                        rw [show ((Int32.toInt64 a3) : Int64) = (lN a3.toNatClampNeg) from (congrArg Int32.toInt64 e_a3).trans (lN_of (by omega))]
                        refine lv_aload_n hx hb dX10_stock_96 rfl (lv_at hl 1 rfl) ?_
                        refine r_getr (ci := 9) (C := RX10) (T := TX10) (N := 10) hx hb hts iX10 hown hW rfl 0 4 rfl (g_lt hG (by decide)) (g_kd hG (by decide) rfl) (by decide) q4 (fun _ h9 => h9) (hP_S67 _ (List.mem_of_getElem? (i := 4) rfl)) rfl rfl dX10_stock_97 ?_
                        refine r_getlN (ci := 0) (C := RX0) (T := TX0) (N := 10) hx hb hts iX0 hown hW rfl 14 9 rfl (g_lt hG (by decide)) (g_kd hG (by decide) rfl) (by decide) (va_Nw.use rfl (hW.2.2.2.2.2.2.2.2.1 (187, "WoodForTwo$Foretelling", "allWays", "J") (by decide))) (fun _ h9 => h9) (lN (tot (Qc B a2.toNatClampNeg) ^ a1.toNatClampNeg)) hF.2.2.2.1 rfl rfl dX10_stock_100 ?_
                        refine lv_lmul hx hb dX10_stock_103 ?_
                        rw [show (((lN a3.toNatClampNeg) * (lN (tot (Qc B a2.toNatClampNeg) ^ a1.toNatClampNeg))) : Int64) = (lN (a3.toNatClampNeg * (tot (Qc B a2.toNatClampNeg) ^ a1.toNatClampNeg))) from lN_mul _ _]
                        refine W.lcmp hx hb dX10_stock_104 ?_
                        refine lv_if_lt (tgt := 112) hx hb dX10_stock_105 (by decide) (fun c105 => ?_) (fun c105 => ?_)
                        · skip
                          rw [lc_lt] at c105
                          rw [lN_int (by omega), lN_int (by omega)] at c105
                          refine lv_iinc (v := (nI (w + 1))) (lv' := [(4, .int (nI (w + 1))), (0, .ref (gA G 0)), (3, .int a3)]) hx hb dX10_stock_112 hl (k := 0) rfl (nI_1 w) (by decide) rfl (fun ls hl => ?_)
                          refine lv_goto (tgt := 73) hx hb dX10_stock_115 (by decide) ?_
                          exact ih73 (w + 1) _ _ ls (by omega) (by omega) (fst_none hfn (by unfold stP; exact decide_eq_false (by omega))) hW (lv_sub hl [0, 1, 2] rfl)
                        · skip
                          rw [lc_lt] at c105
                          rw [lN_int (by omega), lN_int (by omega)] at c105
                          refine lv_iload hx hb dX10_stock_108 (lv_at hl 0 rfl) ?_
                          refine lv_i2l hx hb dX10_stock_110 rfl ?_
                          rw [← hQ0]
                          refine r_lret hx hb hr hlocks hW ?_ dX10_stock_111
                          have e : fStock B a1 a2 a3 = lN w := by unfold fStock; rw [if_neg (by omega), if_pos (by omega), if_neg hb4, fst_some hfn (by unfold stP; exact decide_eq_true (by omega)) 501 (by omega)]; rfl
                          rw [e]
                          exact ⟨lN_of (by omega), hC⟩
                  exact L73 _ 0 _ _ ls (Nat.lt_succ_self _) (Nat.zero_le _) rfl hW (lv_sub hl [0, 1, 4] rfl)
                · skip
                  have hb4 : B 4 = 0 := (n_eq (a := B 4) (b := 0) (by omega) (by omega)).mp c50
                  refine lv_ldc2 (v := (-1000000)) hx hb hown q5 dX10_stock_53 ?_
                  rw [← hQ0]
                  refine r_lret hx hb hr hlocks hW ?_ dX10_stock_56
                  have e : fStock B a1 a2 a3 = NONEL := by unfold fStock; rw [if_neg (by omega), if_pos (by omega), if_pos hb4]
                  rw [e]
                  exact ⟨rfl, Ch.rf⟩
              · skip
                rw [t_le, show (1000 : Int32).toInt = 1000 from by decide] at c36
                refine lv_ldc2 (v := (-9000000000000000001)) hx hb hown q2 dX10_stock_39 ?_
                rw [← hQ0]
                refine r_lret hx hb hr hlocks hW ?_ dX10_stock_42
                have e : fStock B a1 a2 a3 = BADL := by unfold fStock; rw [if_neg (by omega), if_neg (by omega)]
                rw [e]
                exact ⟨rfl, Ch.rf⟩
        · skip
          refine lv_if_eq (tgt := 39) hx hb dX10_stock_25 (by decide) (fun c25 => ?_) (fun c25 => ?_)
          · skip
            refine lv_ldc2 (v := (-9000000000000000001)) hx hb hown q2 dX10_stock_39 ?_
            rw [← hQ0]
            refine r_lret hx hb hr hlocks hW ?_ dX10_stock_42
            have e : fStock B a1 a2 a3 = BADL := by unfold fStock; rw [if_neg (by omega), if_neg (by omega)]
            rw [e]
            exact ⟨rfl, Ch.rf⟩
          · exact absurd (by decide) c25
    · skip
      refine lv_if_eq (tgt := 39) hx hb dX10_stock_18 (by decide) (fun c18 => ?_) (fun c18 => ?_)
      · skip
        refine lv_ldc2 (v := (-9000000000000000001)) hx hb hown q2 dX10_stock_39 ?_
        rw [← hQ0]
        refine r_lret hx hb hr hlocks hW ?_ dX10_stock_42
        have e : fStock B a1 a2 a3 = BADL := by unfold fStock; rw [if_neg (by omega), if_neg (by omega)]
        rw [e]
        exact ⟨rfl, Ch.rf⟩
      · exact absurd (by decide) c18
  · skip
    have hs0 : B 132 = 0 := by
      rcases hB with z | z
      · exact z.1
      · rw [z.1] at c7; exact absurd c7 (by decide)
    refine lv_ldc2 (v := (-9000000000000000002)) hx hb hown q7 dX10_stock_10 ?_
    rw [← hQ0]
    refine r_lret hx hb hr hlocks hW ?_ dX10_stock_13
    have e : fStock B a1 a2 a3 = STATEL := by unfold fStock; rw [if_pos hs0]
    rw [e]
    exact ⟨rfl, Ch.rf⟩
