def FTs (S : Sg) (B : Nat → Nat) (law n : Nat) : Prop := gi S 14 6 = nI (B 4) ∧ gi S 14 7 = nI n ∧ gi S 14 8 = nI (enF B law n) ∧ gj S 14 9 = lN (tot (Qc B law) ^ n) ∧ ∀ i, i < B 4 → gi S 25 i = nI (qb (Qc B law) i) ∧ gi S 26 i = nI (ql (Qc B law) i) ∧ gi S 27 i = nI (qo (Qc B law) i)
def FTr (S : Sg) (B : Nat → Nat) (law n m : Nat) : Prop := ∀ k, k < m → ∀ w, w ≤ enF B law n → gj S (16 + k) w = lN (NN (Qc B law) (enF B law n) (fun _ => 1) k w)
theorem FTs_fr {S S' : Sg} {B : Nat → Nat} {law n : Nat} (hF : FTs S B law n) (e : ∀ k, k = 14 ∨ (25 ≤ k ∧ k ≤ 27) → gi S' k = gi S k) (ej : gj S' 14 = gj S 14) : FTs S' B law n := by
  obtain ⟨a1, a2, a3, a4, a5⟩ := hF
  exact ⟨by rw [e 14 (by omega)]; exact a1, by rw [e 14 (by omega)]; exact a2, by rw [e 14 (by omega)]; exact a3, by rw [ej]; exact a4, fun i hi => by rw [e 25 (by omega), e 26 (by omega), e 27 (by omega)]; exact a5 i hi⟩
theorem gcd_step {x y i P : Nat} (hy : 0 < y) (hxy : y < x ∨ i = 0) (h : x * y * 2 ^ i ≤ P) (h0 : i = 0 → y * y * 2 ≤ P) : y * (x % y) * 2 ^ (i + 1) ≤ P := by
  have hr : x % y < y := Nat.mod_lt _ hy
  rcases hxy with hxy | hxy
  · have hd := Nat.div_add_mod x y
    have hq : 1 ≤ x / y := (Nat.one_le_div_iff hy).mpr (by omega)
    have h1 : y * 1 ≤ y * (x / y) := Nat.mul_le_mul_left _ hq
    have h2 : 2 * (x % y) ≤ x := by omega
    have h3 : y * (x % y) * 2 ≤ x * y := by
      have := Nat.mul_le_mul_right y h2
      rw [Nat.mul_comm 2, Nat.mul_assoc] at this
      rw [Nat.mul_comm y, Nat.mul_assoc, Nat.mul_comm y 2]; exact this
    rw [Nat.pow_succ, Nat.mul_comm (2 ^ i) 2, ← Nat.mul_assoc]
    exact Nat.le_trans (Nat.mul_le_mul_right _ h3) h
  · subst hxy
    have h1 := h0 rfl
    rw [Nat.pow_succ, Nat.pow_zero, Nat.one_mul]
    exact Nat.le_trans (Nat.mul_le_mul_right 2 (Nat.mul_le_mul_left y (by omega))) h1
def rmX10_greatestDivisor : Jvm.Room := { frames := 0, cells := 0, slots := 0, locals := 0 }
set_option maxHeartbeats 4000000 in
set_option maxRecDepth 100000 in
theorem t_X10_greatestDivisor (l : Launch) (D : Dc) (G : Gg) (S : Sg) (z : Nat) (x0 y0 : Nat) (hx0 : x0 ≤ 72301961339136) (hy0 : y0 ≤ 72301961339136) : ML l yX10_greatestDivisor wsX10_greatestDivisor rmX10_greatestDivisor D G S z [.long (lN x0), .long (lN y0)] (fun r S' => r = lN (Nat.gcd x0 y0) ∧ S' = S) := by
  refine Met.ofW (cc := cX10_greatestDivisor) (maxL := 7) (ret := (some .long)) (by decide +kernel) rfl ?_
  intro pP eE s mM args bl mT cD s₁ bD hml hv
  obtain ⟨rfl, hv⟩ := hv
  have hz := hv.1
  subst hz
  have hx := bD.exec
  have hb := bD.bytes
  have hr := bD.returns
  have hts := atoms_spec (ws := wsX10_greatestDivisor) bD.pre
  have hown : s.vm.findClass RX10 = some mM.cls := findClass_of_methodNamed bD.named
  have hlocks := bD.notSynchronized
  have hW := Wd.start hv
  have hA : ∀ q, s.heap.size ≤ q → AW G s.heap.size q := fun q h => Or.inr h
  have hl := lv_entry ([.long (lN x0), .long (lN y0)]) (n := 7) (Nat.le_of_ble_eq_true rfl)
  rw [lg_entry_eq]
  generalize (lg_sl ([.long (lN x0), .long (lN y0)]) ++ List.replicate (7 - (lg_sl ([.long (lN x0), .long (lN y0)])).length) Slot.unset).toArray = ls at hl ⊢
  have hl : lv_has ls 7 [(0, .long (lN x0)), (2, .long (lN y0))] := hl
  generalize hQ0 : MQ bl _ _ s _ _ _ = Q0
  refine lv_iconst (v := 0) hx hb dX10_greatestDivisor_0 (by decide) ?_
  refine lv_istore (lv' := [(4, .int 0), (0, .long (lN x0)), (2, .long (lN y0))]) hx hb dX10_greatestDivisor_1 hl (by decide) rfl (fun ls hl => ?_)
  have L3 : ∀ (n : Nat) (i : Nat) (x : Nat) (y : Nat) (H : Heap) (locs : List Loc) (ls : Array Slot), (1000 - i) < n → i ≤ 1000 → x ≤ 72301961339136 → y ≤ 72301961339136 → Nat.gcd x y = Nat.gcd x0 y0 → (y < x ∨ i = 0) → x * y * 2 ^ i ≤ 2 ^ 97 → Wd D (AW G s.heap.size) s G S H locs → lv_has ls 7 [(4, .int (nI i)), (0, .long (lN x)), (2, .long (lN y))] → W pP l eE (headSpec wsX10_greatestDivisor rmX10_greatestDivisor).room s mM ([.long (lN x0), .long (lN y0)] : List Value).toArray bl mT cD H locs 0 0 Q0 (F0 mM 3 ls []) := by
    intro n
    induction n with
    | zero => intro i x y H locs ls hm; exact absurd hm (Nat.not_lt_zero _)
    | succ n ih3 =>
      intro i x y H locs ls hm3 hi hxM hyM hgc hlt hPw hW hl
      refine lv_iload hx hb dX10_greatestDivisor_3 (lv_at hl 0 rfl) ?_
      refine lv_sipush (v := 1000) hx hb dX10_greatestDivisor_5 (by decide) ?_
      refine lv_icmp_ge (tgt := 33) hx hb dX10_greatestDivisor_8 (by decide) (fun c8 => ?_) (fun c8 => ?_)
      · skip
        have hi2 : i = 1000 := by
          have h9 := (n_le (a := 1000) (b := i) (by omega) (by omega)).mp c8
          omega
        have hy1 : y = 0 := by
          rcases Nat.eq_zero_or_pos y with z | z
          · exact z
          · exfalso
            have h2 : (2 : Nat) ^ 97 < 2 ^ i := Nat.pow_lt_pow_right (by decide) (by omega)
            have h3 : 2 ^ i ≤ x * y * 2 ^ i := Nat.le_mul_of_pos_left _ (Nat.mul_pos (by omega) z)
            exact absurd (Nat.lt_of_lt_of_le h2 (Nat.le_trans h3 hPw)) (Nat.lt_irrefl _)
        refine lv_lload_n hx hb dX10_greatestDivisor_33 rfl (lv_at hl 1 rfl) ?_
        rw [← hQ0]
        refine r_lret hx hb hr hlocks hW ?_ dX10_greatestDivisor_34
        refine ⟨?_, rfl⟩
        rw [← hgc, hy1, Nat.gcd_zero_right]
      · skip
        have hi1 : i < 1000 := by
          have h9 : ¬ 1000 ≤ i := fun z => c8 ((n_le (a := 1000) (b := i) (by omega) (by omega)).mpr z)
          omega
        refine lv_lload_n hx hb dX10_greatestDivisor_11 rfl (lv_at hl 2 rfl) ?_
        refine lv_lconst (v := 0) hx hb dX10_greatestDivisor_12 (by decide) ?_
        refine W.lcmp hx hb dX10_greatestDivisor_13 ?_
        refine lv_if_eq (tgt := 33) hx hb dX10_greatestDivisor_14 (by decide) (fun c14 => ?_) (fun c14 => ?_)
        · skip
          rw [lc_eq] at c14
          have hy1 : y = 0 := by
            rw [lN_int (by omega), show (0 : Int64).toInt = 0 from by decide] at c14
            omega
          refine lv_lload_n hx hb dX10_greatestDivisor_33 rfl (lv_at hl 1 rfl) ?_
          rw [← hQ0]
          refine r_lret hx hb hr hlocks hW ?_ dX10_greatestDivisor_34
          refine ⟨?_, rfl⟩
          rw [← hgc, hy1, Nat.gcd_zero_right]
        · skip
          rw [lc_eq] at c14
          have hy1 : 0 < y := by
            rw [lN_int (by omega), show (0 : Int64).toInt = 0 from by decide] at c14
            omega
          have hmo : x % y < y := Nat.mod_lt _ hy1
          have hyne : ¬ lN y = 0 := fun z => c14 (by rw [z])
          refine lv_lload_n hx hb dX10_greatestDivisor_17 rfl (lv_at hl 1 rfl) ?_
          refine lv_lload_n hx hb dX10_greatestDivisor_18 rfl (lv_at hl 2 rfl) ?_
          refine lv_lrem hx hb dX10_greatestDivisor_19 hyne ?_
          rw [show (((lN x) - (lN x) / (lN y) * (lN y)) : Int64) = (lN (x % y)) from lN_rem (by omega) (by omega)]
          refine lv_lstore (lv' := [(5, .long (lN (x % y))), (4, .int (nI i)), (0, .long (lN x)), (2, .long (lN y))]) hx hb dX10_greatestDivisor_20 hl (by decide) rfl (fun ls hl => ?_)
          refine lv_lload_n hx hb dX10_greatestDivisor_22 rfl (lv_at hl 3 rfl) ?_
          refine lv_lstore_n (lv' := [(0, .long (lN y)), (5, .long (lN (x % y))), (4, .int (nI i)), (2, .long (lN y))]) hx hb dX10_greatestDivisor_23 rfl hl (by decide) rfl (fun ls hl => ?_)
          refine lv_lload hx hb dX10_greatestDivisor_24 (lv_at hl 1 rfl) ?_
          refine lv_lstore_n (lv' := [(2, .long (lN (x % y))), (0, .long (lN y)), (5, .long (lN (x % y))), (4, .int (nI i))]) hx hb dX10_greatestDivisor_26 rfl hl (by decide) rfl (fun ls hl => ?_)
          refine lv_iinc (v := (nI (i + 1))) (lv' := [(4, .int (nI (i + 1))), (2, .long (lN (x % y))), (0, .long (lN y)), (5, .long (lN (x % y)))]) hx hb dX10_greatestDivisor_27 hl (k := 3) rfl (nI_1 i) (by decide) rfl (fun ls hl => ?_)
          refine lv_goto (tgt := 3) hx hb dX10_greatestDivisor_30 (by decide) ?_
          exact ih3 (i + 1) y (x % y) _ _ ls (by omega) (by omega) hyM (by omega) (by rw [← hgc, Nat.gcd_comm x y, Nat.gcd_rec y x, Nat.gcd_comm]) (Or.inl hmo) (gcd_step hy1 hlt hPw (fun _ => Nat.le_trans (Nat.mul_le_mul_right 2 (Nat.mul_le_mul hyM hyM)) (by decide))) hW (lv_sub hl [0, 2, 1] rfl)
  exact L3 _ 0 x0 y0 _ _ ls (Nat.lt_succ_self _) (Nat.zero_le _) hx0 hy0 rfl (Or.inr rfl) (by have h9 := Nat.mul_le_mul hx0 hy0; rw [Nat.pow_zero, Nat.mul_one]; exact Nat.le_trans h9 (by decide)) hW (lv_sub hl [0, 1, 2] rfl)

def rmX0_woodAfter : Jvm.Room := { frames := 1, cells := 0, slots := 0, locals := 21 }
set_option maxHeartbeats 4000000 in
set_option maxRecDepth 100000 in
theorem t_X0_woodAfter (l : Launch) (D : Dc) (G : Gg) (S : Sg) (z : Nat) (hG : GrG G) (hP : GrP G S) (w i E b0 l0 : Nat) (hi : i < 6) (hE : gi S 14 8 = nI E) (h25 : gi S 25 i = nI b0) (h26 : gi S 26 i = nI l0) (hbw : b0 ≤ w) (hw9 : w ≤ 100000) (hl9 : l0 ≤ 729) (hE9 : E ≤ 648) : MI l yX0_woodAfter wsX0_woodAfter rmX0_woodAfter D G S z [.ref (gA G 14), .int (nI w), .int (nI i)] (fun r S' => r = nI (min E (w - b0 + l0)) ∧ S' = S) := by
  refine Met.ofW (cc := cX0_woodAfter) (maxL := 3) (ret := (some .int)) (by decide +kernel) rfl ?_
  intro pP eE s mM args bl mT cD s₁ bD hml hv
  obtain ⟨rfl, hv⟩ := hv
  have hz := hv.1
  subst hz
  have hx := bD.exec
  have hb := bD.bytes
  have hr := bD.returns
  have hts := atoms_spec (ws := wsX0_woodAfter) bD.pre
  have hown : s.vm.findClass RX0 = some mM.cls := findClass_of_methodNamed bD.named
  have hlocks := bD.notSynchronized
  have hW := Wd.start hv
  have hA : ∀ q, s.heap.size ≤ q → AW G s.heap.size q := fun q h => Or.inr h
  have hl := lv_entry ([.ref (gA G 14), .int (nI w), .int (nI i)]) (n := 3) (Nat.le_of_ble_eq_true rfl)
  rw [lg_entry_eq]
  generalize (lg_sl ([.ref (gA G 14), .int (nI w), .int (nI i)]) ++ List.replicate (3 - (lg_sl ([.ref (gA G 14), .int (nI w), .int (nI i)])).length) Slot.unset).toArray = ls at hl ⊢
  have hl : lv_has ls 3 [(0, .ref (gA G 14)), (1, .int (nI w)), (2, .int (nI i))] := hl
  have q0 := hts (.fieldLink RX0 43 "WoodForTwo$Foretelling" "enough" "I") (List.mem_of_getElem? (i := 1) rfl)
  have q1 := hts (.fieldLink RX0 16 "WoodForTwo$Foretelling" "burns" "[I") (List.mem_of_getElem? (i := 2) rfl)
  have q2 := hts (.fieldLink RX0 20 "WoodForTwo$Foretelling" "leaves" "[I") (List.mem_of_getElem? (i := 3) rfl)
  have q3 := hts (.methodLink RX0 85 Lib.Math.min.name) (List.mem_of_getElem? (i := 4) rfl)
  have q4 := hts (.static Lib.Math.min.name) (List.mem_of_getElem? (i := 5) rfl)
  have q5 := hts (.initialized "java/lang/Math") (List.mem_of_getElem? (i := 6) rfl)
  have q6 := hts (.code Lib.Math.min.name Lib.Math.min.code 2 (some .int)) (List.mem_of_getElem? (i := 7) rfl)
  have iX0 : ∀ w ∈ wsX00, w ∈ wsX0_woodAfter := fun _ h => List.mem_cons_of_mem _ (List.mem_append_right _ (h))
  refine lv_aload_n hx hb dX0_woodAfter_0 rfl (lv_at hl 0 rfl) ?_
  refine r_geti (ci := 0) (C := RX0) (T := TX0) (N := 10) hx hb hts iX0 hown hW rfl 14 8 rfl (g_lt hG (by decide)) (g_kd hG (by decide) rfl) (by decide) q0 (fun _ h9 => h9) (nI E) hE rfl rfl dX0_woodAfter_1 ?_
  refine lv_iload_n hx hb dX0_woodAfter_4 rfl (lv_at hl 1 rfl) ?_
  refine lv_aload_n hx hb dX0_woodAfter_5 rfl (lv_at hl 0 rfl) ?_
  refine r_getr (ci := 0) (C := RX0) (T := TX0) (N := 10) hx hb hts iX0 hown hW rfl 14 1 rfl (g_lt hG (by decide)) (g_kd hG (by decide) rfl) (by decide) q1 (fun _ h9 => h9) (hP _ (List.mem_of_getElem? (i := 26) rfl)) rfl rfl dX0_woodAfter_6 ?_
  refine lv_iload_n hx hb dX0_woodAfter_9 rfl (lv_at hl 2 rfl) ?_
  refine r_iald hx hb hW 25 rfl (g_lt hG (by decide)) (g_kd hG (by decide) rfl) (g_ix hG (c := 6) (by decide) rfl (n_inI hi (by decide))) (nI b0) (by rw [n_clamp (by omega)]; exact h25) dX0_woodAfter_10 ?_
  refine lv_isub hx hb dX0_woodAfter_11 ?_
  rw [show (((nI w) - (nI b0)) : Int32) = (nI (w - b0)) from n_sub hbw]
  refine lv_aload_n hx hb dX0_woodAfter_12 rfl (lv_at hl 0 rfl) ?_
  refine r_getr (ci := 0) (C := RX0) (T := TX0) (N := 10) hx hb hts iX0 hown hW rfl 14 2 rfl (g_lt hG (by decide)) (g_kd hG (by decide) rfl) (by decide) q2 (fun _ h9 => h9) (hP _ (List.mem_of_getElem? (i := 27) rfl)) rfl rfl dX0_woodAfter_13 ?_
  refine lv_iload_n hx hb dX0_woodAfter_16 rfl (lv_at hl 2 rfl) ?_
  refine r_iald hx hb hW 26 rfl (g_lt hG (by decide)) (g_kd hG (by decide) rfl) (g_ix hG (c := 6) (by decide) rfl (n_inI hi (by decide))) (nI l0) (by rw [n_clamp (by omega)]; exact h26) dX0_woodAfter_17 ?_
  refine lv_iadd hx hb dX0_woodAfter_18 ?_
  rw [show (((nI (w - b0)) + (nI l0)) : Int32) = (nI (w - b0 + l0)) from n_add _ _]
  refine va_mmin hx hb (hml.trans hl.1.symm) hown q3 q4 q5 q6 (Nat.le_of_ble_eq_true rfl) (Nat.le_of_ble_eq_true rfl) (Nat.zero_le _) (Nat.zero_le _) dX0_woodAfter_19 ?_
  rw [show ((if (nI (w - b0 + l0)) < (nI E) then (nI (w - b0 + l0)) else (nI E)) : Int32) = (nI (min E (w - b0 + l0))) from n_min (a := E) (b := (w - b0 + l0)) (by omega) (by omega)]
  refine r_iret hx hb hr hlocks hW ?_ dX0_woodAfter_22
  exact ⟨rfl, rfl⟩

def rmX0_waysFrom : Jvm.Room := { frames := 2, cells := 0, slots := 0, locals := 43 }
set_option maxHeartbeats 4000000 in
set_option maxRecDepth 100000 in
theorem t_X0_waysFrom (l : Launch) (D : Dc) (G : Gg) (S : Sg) (z : Nat) (hG : GrG G) (hP : GrP G S) (QC : Qt) (E : Nat) (hE9 : E ≤ 648) (hc6 : qn QC ≤ 6) (h6 : gi S 14 6 = nI (qn QC)) (hE : gi S 14 8 = nI E) (hq : ∀ i, i < qn QC → gi S 25 i = nI (qb QC i) ∧ gi S 26 i = nI (ql QC i) ∧ gi S 27 i = nI (qo QC i)) (hqb : ∀ i, i < qn QC → qb QC i ≤ 81 ∧ ql QC i ≤ 729 ∧ qo QC i ≤ 9) (w a : Nat) (hw9 : w ≤ E) (ha9 : a < 9) (g : Nat → Nat) (hgr : ∀ v, v ≤ E → gj S (16 + a) v = lN (g v)) : ML l yX0_waysFrom wsX0_waysFrom rmX0_waysFrom D G S z [.ref (gA G 14), .int (nI w), .ref (gA G (16 + a))] (fun r S' => r = lN (stp QC E g w) ∧ S' = S) := by
  refine Met.ofW (cc := cX0_waysFrom) (maxL := 6) (ret := (some .long)) (by decide +kernel) rfl ?_
  intro pP eE s mM args bl mT cD s₁ bD hml hv
  obtain ⟨rfl, hv⟩ := hv
  have hz := hv.1
  subst hz
  have hx := bD.exec
  have hb := bD.bytes
  have hr := bD.returns
  have hts := atoms_spec (ws := wsX0_waysFrom) bD.pre
  have hown : s.vm.findClass RX0 = some mM.cls := findClass_of_methodNamed bD.named
  have hlocks := bD.notSynchronized
  have hW := Wd.start hv
  have hA : ∀ q, s.heap.size ≤ q → AW G s.heap.size q := fun q h => Or.inr h
  have hl := lv_entry ([.ref (gA G 14), .int (nI w), .ref (gA G (16 + a))]) (n := 6) (Nat.le_of_ble_eq_true rfl)
  rw [lg_entry_eq]
  generalize (lg_sl ([.ref (gA G 14), .int (nI w), .ref (gA G (16 + a))]) ++ List.replicate (6 - (lg_sl ([.ref (gA G 14), .int (nI w), .ref (gA G (16 + a))])).length) Slot.unset).toArray = ls at hl ⊢
  have hl : lv_has ls 6 [(0, .ref (gA G 14)), (1, .int (nI w)), (2, .ref (gA G (16 + a)))] := hl
  have q0 := hts (.fieldLink RX0 56 "WoodForTwo$Foretelling" "chances" "I") (List.mem_of_getElem? (i := 1) rfl)
  have q1 := hts (.fieldLink RX0 16 "WoodForTwo$Foretelling" "burns" "[I") (List.mem_of_getElem? (i := 2) rfl)
  have q2 := hts (.fieldLink RX0 23 "WoodForTwo$Foretelling" "odds" "[I") (List.mem_of_getElem? (i := 3) rfl)
  have iX0 : ∀ w ∈ wsX00, w ∈ wsX0_waysFrom := fun _ h => List.mem_cons_of_mem _ (List.mem_append_right _ (h))
  generalize hQ0 : MQ bl _ _ s _ _ _ = Q0
  refine lv_lconst (v := 0) hx hb dX0_waysFrom_0 (by decide) ?_
  refine lv_lstore_n (lv' := [(3, .long 0), (0, .ref (gA G 14)), (1, .int (nI w)), (2, .ref (gA G (16 + a)))]) hx hb dX0_waysFrom_1 rfl hl (by decide) rfl (fun ls hl => ?_)
  refine lv_iconst (v := 0) hx hb dX0_waysFrom_2 (by decide) ?_
  refine lv_istore (lv' := [(5, .int 0), (3, .long 0), (0, .ref (gA G 14)), (1, .int (nI w)), (2, .ref (gA G (16 + a)))]) hx hb dX0_waysFrom_3 hl (by decide) rfl (fun ls hl => ?_)
  have L5 : ∀ (n : Nat) (i : Nat) (H : Heap) (locs : List Loc) (ls : Array Slot), (qn QC - i) < n → i ≤ qn QC → Wd D (AW G s.heap.size) s G S H locs → lv_has ls 6 [(5, .int (nI i)), (3, .long (lN (prt QC E g i w))), (0, .ref (gA G 14)), (1, .int (nI w)), (2, .ref (gA G (16 + a)))] → W pP l eE (headSpec wsX0_waysFrom rmX0_waysFrom).room s mM ([.ref (gA G 14), .int (nI w), .ref (gA G (16 + a))] : List Value).toArray bl mT cD H locs 0 0 Q0 (F0 mM 5 ls []) := by
    intro n
    induction n with
    | zero => intro i H locs ls hm; exact absurd hm (Nat.not_lt_zero _)
    | succ n ih5 =>
      intro i H locs ls hm5 hi hW hl
      refine lv_iload hx hb dX0_waysFrom_5 (lv_at hl 0 rfl) ?_
      refine lv_aload_n hx hb dX0_waysFrom_7 rfl (lv_at hl 2 rfl) ?_
      refine r_geti (ci := 0) (C := RX0) (T := TX0) (N := 10) hx hb hts iX0 hown hW rfl 14 6 rfl (g_lt hG (by decide)) (g_kd hG (by decide) rfl) (by decide) q0 (fun _ h9 => h9) (nI (qn QC)) h6 rfl rfl dX0_waysFrom_8 ?_
      refine lv_icmp_ge (tgt := 52) hx hb dX0_waysFrom_11 (by decide) (fun c11 => ?_) (fun c11 => ?_)
      · skip
        have hie : i = qn QC := by
          have h9 := (n_le (a := qn QC) (b := i) (by omega) (by omega)).mp c11
          omega
        refine lv_lload_n hx hb dX0_waysFrom_52 rfl (lv_at hl 1 rfl) ?_
        rw [← hQ0]
        refine r_lret hx hb hr hlocks hW ?_ dX0_waysFrom_53
        subst hie
        exact ⟨rfl, rfl⟩
      · skip
        have hlt : i < qn QC := by
          have h9 : ¬ qn QC ≤ i := fun z => c11 ((n_le (by omega) (by omega)).mpr z)
          omega
        have hqi := hqb i hlt
        refine lv_iload_n hx hb dX0_waysFrom_14 rfl (lv_at hl 3 rfl) ?_
        refine lv_aload_n hx hb dX0_waysFrom_15 rfl (lv_at hl 2 rfl) ?_
        refine r_getr (ci := 0) (C := RX0) (T := TX0) (N := 10) hx hb hts iX0 hown hW rfl 14 1 rfl (g_lt hG (by decide)) (g_kd hG (by decide) rfl) (by decide) q1 (fun _ h9 => h9) (hP _ (List.mem_of_getElem? (i := 26) rfl)) rfl rfl dX0_waysFrom_16 ?_
        refine lv_iload hx hb dX0_waysFrom_19 (lv_at hl 0 rfl) ?_
        refine r_iald hx hb hW 25 rfl (g_lt hG (by decide)) (g_kd hG (by decide) rfl) (g_ix hG (c := 6) (by decide) rfl (n_inI (by omega) (by decide))) (nI (qb QC i)) (by rw [n_clamp (by omega)]; exact (hq i hlt).1) dX0_waysFrom_21 ?_
        refine lv_icmp_lt (tgt := 46) hx hb dX0_waysFrom_22 (by decide) (fun c22 => ?_) (fun c22 => ?_)
        · skip
          have hbw : ¬ qb QC i ≤ w := fun z => absurd ((n_lt (a := w) (b := qb QC i) (by omega) (by omega)).mp c22) (by omega)
          have ep : (lN (prt QC E g i w)) = (lN (prt QC E g (i + 1) w)) := by unfold prt; show _ = lN (sT i _ + (if qb QC i ≤ w then _ else 0)); rw [if_neg (by omega)]; rfl
          have hl : lv_has ls 6 [(5, .int (nI i)), (3, .long (lN (prt QC E g (i + 1) w))), (0, .ref (gA G 14)), (1, .int (nI w)), (2, .ref (gA G (16 + a)))] := by rw [← ep]; exact hl
          refine lv_iinc (v := (nI (i + 1))) (lv' := [(5, .int (nI (i + 1))), (3, .long (lN (prt QC E g (i + 1) w))), (0, .ref (gA G 14)), (1, .int (nI w)), (2, .ref (gA G (16 + a)))]) hx hb dX0_waysFrom_46 hl (k := 0) rfl (nI_1 i) (by decide) rfl (fun ls hl => ?_)
          refine lv_goto (tgt := 5) hx hb dX0_waysFrom_49 (by decide) ?_
          exact ih5 (i + 1) _ _ ls (by omega) hlt hW (lv_sub hl [0, 1, 2, 3, 4] rfl)
        · skip
          have hbw : qb QC i ≤ w := by
            have h9 : ¬ w < qb QC i := fun z => c22 ((n_lt (a := w) (b := qb QC i) (by omega) (by omega)).mpr z)
            omega
          refine lv_lload_n hx hb dX0_waysFrom_25 rfl (lv_at hl 1 rfl) ?_
          refine lv_aload_n hx hb dX0_waysFrom_26 rfl (lv_at hl 2 rfl) ?_
          refine r_getr (ci := 0) (C := RX0) (T := TX0) (N := 10) hx hb hts iX0 hown hW rfl 14 3 rfl (g_lt hG (by decide)) (g_kd hG (by decide) rfl) (by decide) q2 (fun _ h9 => h9) (hP _ (List.mem_of_getElem? (i := 28) rfl)) rfl rfl dX0_waysFrom_27 ?_
          refine lv_iload hx hb dX0_waysFrom_30 (lv_at hl 0 rfl) ?_
          refine r_iald hx hb hW 27 rfl (g_lt hG (by decide)) (g_kd hG (by decide) rfl) (g_ix hG (c := 6) (by decide) rfl (n_inI (by omega) (by decide))) (nI (qo QC i)) (by rw [n_clamp (by omega)]; exact (hq i hlt).2.2) dX0_waysFrom_32 ?_
          refine lv_i2l hx hb dX0_waysFrom_33 rfl ?_
          refine lv_aload_n hx hb dX0_waysFrom_34 rfl (lv_at hl 4 rfl) ?_
          refine lv_aload_n hx hb dX0_waysFrom_35 rfl (lv_at hl 2 rfl) ?_
          refine lv_iload_n hx hb dX0_waysFrom_36 rfl (lv_at hl 3 rfl) ?_
          refine lv_iload hx hb dX0_waysFrom_37 (lv_at hl 0 rfl) ?_
          refine r_calli hW hA (va_runV (As := [.int (nI w), .int (nI i)]) (rest := [.ref (gA G (16 + a)), .long (Int32.toInt64 (nI (qo QC i))), .long (lN (prt QC E g i w))]) ⟨hx, hb, hml, hown, hts⟩ (t_X0_woodAfter l D G S _ hG hP w i E (qb QC i) (ql QC i) (by omega) hE (hq i hlt).1 (hq i hlt).2.1 hbw (by omega) hqi.2.1 hE9) (cwV 2 hts gX0_waysFrom_X0_woodAfter rfl rfl rfl (by decide +kernel) ⟨Nat.le_of_ble_eq_true rfl, Nat.le_of_ble_eq_true rfl⟩) (r_preV (k := 14) hA hW (ci := 0) (C := RX0) (T := TX0) (N := 10) rfl rfl (g_lt hG (by decide)) (g_kd hG (by decide) rfl) rfl rfl) rfl rfl hl.1 rfl (lv_room (Nat.le_of_ble_eq_true rfl)) dX0_waysFrom_39 ⟨Nat.zero_le _, Nat.zero_le _⟩) (fun r39 S39 H locs hp39 hW => ?_)
          obtain ⟨rfl, hs39⟩ := hp39
          rw [hs39] at hW
          refine r_lald hx hb hW (16 + a) rfl (wf_lt hG ha9) (wf_kd hG ha9) (by rw [wf_z hG ha9]; exact n_inI (by omega) (by decide)) (lN (g (min E (w - qb QC i + ql QC i)))) (by rw [n_clamp (by omega)]; exact hgr _ (by omega)) dX0_waysFrom_42 ?_
          refine lv_lmul hx hb dX0_waysFrom_43 ?_
          refine lv_ladd hx hb dX0_waysFrom_44 ?_
          refine lv_lstore_n (lv' := [(3, .long ((lN (prt QC E g i w)) + ((Int32.toInt64 (nI (qo QC i))) * (lN (g (min E (w - qb QC i + ql QC i))))))), (5, .int (nI i)), (0, .ref (gA G 14)), (1, .int (nI w)), (2, .ref (gA G (16 + a)))]) hx hb dX0_waysFrom_45 rfl hl (by decide) rfl (fun ls hl => ?_)
          have ep : ((lN (prt QC E g i w)) + ((Int32.toInt64 (nI (qo QC i))) * (lN (g (min E (w - qb QC i + ql QC i)))))) = (lN (prt QC E g (i + 1) w)) := by rw [lN_of (by have := (hqb i hlt).2.2; omega), lN_mul, lN_add]; unfold prt; show _ = lN (sT i _ + (if qb QC i ≤ w then _ else 0)); rw [if_pos (by omega)]
          have hl : lv_has ls 6 [(3, .long (lN (prt QC E g (i + 1) w))), (5, .int (nI i)), (0, .ref (gA G 14)), (1, .int (nI w)), (2, .ref (gA G (16 + a)))] := by rw [← ep]; exact hl
          refine lv_iinc (v := (nI (i + 1))) (lv' := [(5, .int (nI (i + 1))), (3, .long (lN (prt QC E g (i + 1) w))), (0, .ref (gA G 14)), (1, .int (nI w)), (2, .ref (gA G (16 + a)))]) hx hb dX0_waysFrom_46 hl (k := 1) rfl (nI_1 i) (by decide) rfl (fun ls hl => ?_)
          refine lv_goto (tgt := 5) hx hb dX0_waysFrom_49 (by decide) ?_
          exact ih5 (i + 1) _ _ ls (by omega) hlt hW (lv_sub hl [0, 1, 2, 3, 4] rfl)
  exact L5 _ 0 _ _ ls (Nat.lt_succ_self _) (Nat.zero_le _) hW (lv_sub hl [0, 1, 2, 3, 4] rfl)
