/-! the reference, but its reading -/
theorem lN_m1 {n : Nat} (h : n < 2147483648) : (lN n - 1).toInt = (n : Int) - 1 := by
  by_cases e : n = 0
  · subst e; decide
  · rw [show lN n - 1 = lN (n - 1) from lN_sub (b := 1) (by omega), lN_int (by omega)]; omega
theorem BP_b {B : Nat → Nat} {c : Nat} (hB : BP B c) : B 17 ≤ 16 ∧ B 4 ≤ 6 ∧ B 132 ≤ 1 ∧ B 0 ≤ 999 := by
  rcases hB with z | z
  · rw [z.2 17, z.2 4, z.1, z.2 0]; omega
  · have a := z.2.2.2.2.2.2.2.2.1
    have b := z.2.2.2.2.2.2.1
    have d := z.1
    have e := z.2.1
    omega
def rmX11_isNone : Jvm.Room := { frames := 0, cells := 0, slots := 0, locals := 0 }
set_option maxHeartbeats 4000000 in
set_option maxRecDepth 100000 in
theorem t_X11_isNone (l : Launch) (D : Dc) (G : Gg) (S : Sg) (z : Nat) (hG : GrG G) (hP : GrP G S) (B : Nat → Nat) (c : Nat) (hB : BP B c) (hc : c < 100000) (hM : ∀ k, k < 140 → gj S 66 k = lN (B k)) : MI l yX11_isNone wsX11_isNone rmX11_isNone D G S z [.ref (gA G 65)] (fun r S' => S' = S ∧ ((r = 1 ∧ B 132 = 0) ∨ (r = 0 ∧ ¬ B 132 = 0))) := by
  refine Met.ofW (cc := cX11_isNone) (maxL := 1) (ret := (some .boolean)) (by decide +kernel) rfl ?_
  intro pP eE s mM args bl mT cD s₁ bD hml hv
  obtain ⟨rfl, hv⟩ := hv
  have hz := hv.1
  subst hz
  have hx := bD.exec
  have hb := bD.bytes
  have hr := bD.returns
  have hts := atoms_spec (ws := wsX11_isNone) bD.pre
  have hown : s.vm.findClass RX11 = some mM.cls := findClass_of_methodNamed bD.named
  have hlocks := bD.notSynchronized
  have hW := Wd.start hv
  have hA : ∀ q, s.heap.size ≤ q → AW G s.heap.size q := fun q h => Or.inr h
  have hl := lv_entry ([.ref (gA G 65)]) (n := 1) (Nat.le_of_ble_eq_true rfl)
  rw [lg_entry_eq]
  generalize (lg_sl ([.ref (gA G 65)]) ++ List.replicate (1 - (lg_sl ([.ref (gA G 65)])).length) Slot.unset).toArray = ls at hl ⊢
  have hl : lv_has ls 1 [(0, .ref (gA G 65))] := hl
  have q0 := hts (.fieldLink RX11 7 "WoodForTwoModel" "w" "[J") (List.mem_of_getElem? (i := 1) rfl)
  have iX11 : ∀ w ∈ wsX110, w ∈ wsX11_isNone := fun _ h => List.mem_cons_of_mem _ (List.mem_append_right _ (h))
  have hbp := BP_b hB
  refine lv_aload_n hx hb dX11_isNone_0 rfl (lv_at hl 0 rfl) ?_
  refine r_getr (ci := 10) (C := RX11) (T := TX11) (N := 20) hx hb hts iX11 hown hW rfl 65 0 rfl (g_lt hG (by decide)) (g_kd hG (by decide) rfl) (by decide) q0 (fun _ h9 => h9) (hP _ (List.mem_of_getElem? (i := 60) rfl)) rfl rfl dX11_isNone_1 ?_
  refine lv_sipush (v := 132) hx hb dX11_isNone_4 (by decide) ?_
  refine W.eq (g2 := F0 mM 7 ls [.int (nI 132), .ref (gA G 66)]) rfl ?_
  refine r_lald hx hb hW 66 rfl (g_lt hG (by decide)) (g_kd hG (by decide) rfl) (g_ix hG (c := 560) (by decide) rfl (n_inI (by omega) (by decide))) (lN (B 132)) (by rw [n_clamp (by omega)]; exact (hM 132 (by omega))) dX11_isNone_7 ?_
  refine lv_lconst (v := 0) hx hb dX11_isNone_8 (by decide) ?_
  refine W.lcmp hx hb dX11_isNone_9 ?_
  refine lv_if_ne (tgt := 17) hx hb dX11_isNone_10 (by decide) (fun c10 => ?_) (fun c10 => ?_)
  · skip
    rw [lc_ne] at c10
    rw [lN_int (by omega), show (0 : Int64).toInt = 0 from by decide] at c10
    refine lv_iconst (v := 0) hx hb dX11_isNone_17 (by decide) ?_
    refine r_zret hx hb hr hlocks hW (Or.inl rfl) ?_ dX11_isNone_18
    exact ⟨rfl, Or.inr ⟨rfl, by omega⟩⟩
  · skip
    rw [lc_ne] at c10
    rw [lN_int (by omega), show (0 : Int64).toInt = 0 from by decide] at c10
    refine lv_iconst (v := 1) hx hb dX11_isNone_13 (by decide) ?_
    refine lv_goto (tgt := 18) hx hb dX11_isNone_14 (by decide) ?_
    refine r_zret hx hb hr hlocks hW (Or.inr rfl) ?_ dX11_isNone_18
    exact ⟨rfl, Or.inl ⟨rfl, by omega⟩⟩

def rmX11_isParty : Jvm.Room := { frames := 1, cells := 0, slots := 0, locals := 25 }
set_option maxHeartbeats 4000000 in
set_option maxRecDepth 100000 in
theorem t_X11_isParty (l : Launch) (D : Dc) (G : Gg) (S : Sg) (z : Nat) (hG : GrG G) (hP : GrP G S) (B : Nat → Nat) (c : Nat) (hB : BP B c) (hc : c < 100000) (hM : ∀ k, k < 140 → gj S 66 k = lN (B k)) (a1 : Int64) (v1 : Int) (e1 : a1.toInt = v1) : MI l yX11_isParty wsX11_isParty rmX11_isParty D G S z [.ref (gA G 65), .long a1] (fun r S' => S' = S ∧ ((r = 1 ∧ (0 ≤ v1 ∧ v1 < B 17)) ∨ (r = 0 ∧ ¬ (0 ≤ v1 ∧ v1 < B 17)))) := by
  refine Met.ofW (cc := cX11_isParty) (maxL := 3) (ret := (some .boolean)) (by decide +kernel) rfl ?_
  intro pP eE s mM args bl mT cD s₁ bD hml hv
  obtain ⟨rfl, hv⟩ := hv
  have hz := hv.1
  subst hz
  have hx := bD.exec
  have hb := bD.bytes
  have hr := bD.returns
  have hts := atoms_spec (ws := wsX11_isParty) bD.pre
  have hown : s.vm.findClass RX11 = some mM.cls := findClass_of_methodNamed bD.named
  have hlocks := bD.notSynchronized
  have hW := Wd.start hv
  have hA : ∀ q, s.heap.size ≤ q → AW G s.heap.size q := fun q h => Or.inr h
  have hl := lv_entry ([.ref (gA G 65), .long a1]) (n := 3) (Nat.le_of_ble_eq_true rfl)
  rw [lg_entry_eq]
  generalize (lg_sl ([.ref (gA G 65), .long a1]) ++ List.replicate (3 - (lg_sl ([.ref (gA G 65), .long a1])).length) Slot.unset).toArray = ls at hl ⊢
  have hl : lv_has ls 3 [(0, .ref (gA G 65)), (1, .long a1)] := hl
  have q0 := hts (.fieldLink RX11 7 "WoodForTwoModel" "w" "[J") (List.mem_of_getElem? (i := 1) rfl)
  have iX11 : ∀ w ∈ wsX110, w ∈ wsX11_isParty := fun _ h => List.mem_cons_of_mem _ (List.mem_append_right _ (h))
  have hbp := BP_b hB
  refine lv_lload_n hx hb dX11_isParty_0 rfl (lv_at hl 1 rfl) ?_
  refine lv_lconst (v := 0) hx hb dX11_isParty_1 (by decide) ?_
  refine lv_aload_n hx hb dX11_isParty_2 rfl (lv_at hl 0 rfl) ?_
  refine r_getr (ci := 10) (C := RX11) (T := TX11) (N := 20) hx hb hts iX11 hown hW rfl 65 0 rfl (g_lt hG (by decide)) (g_kd hG (by decide) rfl) (by decide) q0 (fun _ h9 => h9) (hP _ (List.mem_of_getElem? (i := 60) rfl)) rfl rfl dX11_isParty_3 ?_
  refine lv_bipush (v := 17) hx hb dX11_isParty_6 (by decide) ?_
  refine W.eq (g2 := F0 mM 8 ls [.int (nI 17), .ref (gA G 66), .long 0, .long a1]) rfl ?_
  refine r_lald hx hb hW 66 rfl (g_lt hG (by decide)) (g_kd hG (by decide) rfl) (g_ix hG (c := 560) (by decide) rfl (n_inI (by omega) (by decide))) (lN (B 17)) (by rw [n_clamp (by omega)]; exact (hM 17 (by omega))) dX11_isParty_8 ?_
  refine lv_lconst (v := 1) hx hb dX11_isParty_9 (by decide) ?_
  refine lv_lsub hx hb dX11_isParty_10 ?_
  have hm1 := lN_m1 (n := B 17) (by omega)
  refine r_calli hW hA (va_runS (As := [.long a1, .long 0, .long ((lN (B 17)) - 1)]) (rest := []) ⟨hx, hb, hml, hown, hts⟩ (t_X11_in l D G S _ a1 0 ((lN (B 17)) - 1) v1 0 ((B 17 : Int) - 1) e1 (by decide) hm1) (va_cwS 3 hts gX11_isParty_X11_in rfl rfl rfl (by decide +kernel) ⟨Nat.le_of_ble_eq_true rfl, Nat.le_of_ble_eq_true rfl⟩) (r_preS hA hW) rfl rfl hl.1 rfl (lv_room (Nat.le_of_ble_eq_true rfl)) dX11_isParty_11 ⟨Nat.zero_le _, Nat.zero_le _⟩) (fun r11 S11 H locs hp11 hW => ?_)
  obtain ⟨hs11, hp11⟩ := hp11
  rw [hs11] at hW
  rcases hp11 with ⟨rfl, h11⟩ | ⟨rfl, h11⟩
  · skip
    refine r_zret hx hb hr hlocks hW (Or.inr rfl) ?_ dX11_isParty_14
    exact ⟨rfl, Or.inl ⟨rfl, by omega⟩⟩
  · skip
    refine r_zret hx hb hr hlocks hW (Or.inl rfl) ?_ dX11_isParty_14
    exact ⟨rfl, Or.inr ⟨rfl, by omega⟩⟩

def rmX11_one : Jvm.Room := { frames := 0, cells := 0, slots := 0, locals := 0 }
set_option maxHeartbeats 4000000 in
set_option maxRecDepth 100000 in
theorem t_X11_one (l : Launch) (D : Dc) (G : Gg) (S : Sg) (z : Nat) (a0 : Int32) (h01 : a0 = 0 ∨ a0 = 1) : MI l yX11_one wsX11_one rmX11_one D G S z [.int a0] (fun r S' => S' = S ∧ r = a0) := by
  refine Met.ofW (cc := cX11_one) (maxL := 1) (ret := (some .int)) (by decide +kernel) rfl ?_
  intro pP eE s mM args bl mT cD s₁ bD hml hv
  obtain ⟨rfl, hv⟩ := hv
  have hz := hv.1
  subst hz
  have hx := bD.exec
  have hb := bD.bytes
  have hr := bD.returns
  have hts := atoms_spec (ws := wsX11_one) bD.pre
  have hown : s.vm.findClass RX11 = some mM.cls := findClass_of_methodNamed bD.named
  have hlocks := bD.notSynchronized
  have hW := Wd.start hv
  have hA : ∀ q, s.heap.size ≤ q → AW G s.heap.size q := fun q h => Or.inr h
  have hl := lv_entry ([.int a0]) (n := 1) (Nat.le_of_ble_eq_true rfl)
  rw [lg_entry_eq]
  generalize (lg_sl ([.int a0]) ++ List.replicate (1 - (lg_sl ([.int a0])).length) Slot.unset).toArray = ls at hl ⊢
  have hl : lv_has ls 1 [(0, .int a0)] := hl
  refine lv_iload_n hx hb dX11_one_0 rfl (lv_at hl 0 rfl) ?_
  refine lv_if_eq (tgt := 8) hx hb dX11_one_1 (by decide) (fun c1 => ?_) (fun c1 => ?_)
  · skip
    refine lv_iconst (v := 0) hx hb dX11_one_8 (by decide) ?_
    refine r_iret hx hb hr hlocks hW ?_ dX11_one_9
    refine ⟨rfl, ?_⟩
    exact c1.symm
  · skip
    refine lv_iconst (v := 1) hx hb dX11_one_4 (by decide) ?_
    refine lv_goto (tgt := 9) hx hb dX11_one_5 (by decide) ?_
    refine r_iret hx hb hr hlocks hW ?_ dX11_one_9
    exact ⟨rfl, (h01.resolve_left c1).symm⟩

def rmX11_divisor : Jvm.Room := { frames := 0, cells := 0, slots := 0, locals := 0 }
set_option maxHeartbeats 4000000 in
set_option maxRecDepth 100000 in
theorem t_X11_divisor (l : Launch) (D : Dc) (G : Gg) (S : Sg) (z : Nat) (x0 y0 : Nat) (hx0 : x0 ≤ 72301961339136) (hy0 : y0 ≤ 72301961339136) : ML l yX11_divisor wsX11_divisor rmX11_divisor D G S z [.long (lN x0), .long (lN y0)] (fun r S' => r = lN (Nat.gcd x0 y0) ∧ S' = S) := by
  refine Met.ofW (cc := cX11_divisor) (maxL := 10) (ret := (some .long)) (by decide +kernel) rfl ?_
  intro pP eE s mM args bl mT cD s₁ bD hml hv
  obtain ⟨rfl, hv⟩ := hv
  have hz := hv.1
  subst hz
  have hx := bD.exec
  have hb := bD.bytes
  have hr := bD.returns
  have hts := atoms_spec (ws := wsX11_divisor) bD.pre
  have hown : s.vm.findClass RX11 = some mM.cls := findClass_of_methodNamed bD.named
  have hlocks := bD.notSynchronized
  have hW := Wd.start hv
  have hA : ∀ q, s.heap.size ≤ q → AW G s.heap.size q := fun q h => Or.inr h
  have hl := lv_entry ([.long (lN x0), .long (lN y0)]) (n := 10) (Nat.le_of_ble_eq_true rfl)
  rw [lg_entry_eq]
  generalize (lg_sl ([.long (lN x0), .long (lN y0)]) ++ List.replicate (10 - (lg_sl ([.long (lN x0), .long (lN y0)])).length) Slot.unset).toArray = ls at hl ⊢
  have hl : lv_has ls 10 [(0, .long (lN x0)), (2, .long (lN y0))] := hl
  generalize hQ0 : MQ bl _ _ s _ _ _ = Q0
  refine lv_lload_n hx hb dX11_divisor_0 rfl (lv_at hl 0 rfl) ?_
  refine lv_lstore (lv' := [(4, .long (lN x0)), (0, .long (lN x0)), (2, .long (lN y0))]) hx hb dX11_divisor_1 hl (by decide) rfl (fun ls hl => ?_)
  refine lv_lload_n hx hb dX11_divisor_3 rfl (lv_at hl 2 rfl) ?_
  refine lv_lstore (lv' := [(6, .long (lN y0)), (4, .long (lN x0)), (0, .long (lN x0)), (2, .long (lN y0))]) hx hb dX11_divisor_4 hl (by decide) rfl (fun ls hl => ?_)
  have L6 : ∀ (n : Nat) (x : Nat) (y : Nat) (H : Heap) (locs : List Loc) (ls : Array Slot), y < n → x ≤ 72301961339136 → y ≤ 72301961339136 → Nat.gcd x y = Nat.gcd x0 y0 → Wd D (AW G s.heap.size) s G S H locs → lv_has ls 10 [(4, .long (lN x)), (6, .long (lN y))] → W pP l eE (headSpec wsX11_divisor rmX11_divisor).room s mM ([.long (lN x0), .long (lN y0)] : List Value).toArray bl mT cD H locs 0 0 Q0 (F0 mM 6 ls []) := by
    intro n
    induction n with
    | zero => intro x y H locs ls hm; exact absurd hm (Nat.not_lt_zero _)
    | succ n ih6 =>
      intro x y H locs ls hm6 hxM hyM hgc hW hl
      refine lv_lload hx hb dX11_divisor_6 (lv_at hl 1 rfl) ?_
      refine lv_lconst (v := 0) hx hb dX11_divisor_8 (by decide) ?_
      refine W.lcmp hx hb dX11_divisor_9 ?_
      refine lv_if_eq (tgt := 31) hx hb dX11_divisor_10 (by decide) (fun c10 => ?_) (fun c10 => ?_)
      · skip
        rw [lc_eq] at c10
        have hy1 : y = 0 := by
          rw [lN_int (by omega), show (0 : Int64).toInt = 0 from by decide] at c10
          omega
        refine lv_lload hx hb dX11_divisor_31 (lv_at hl 0 rfl) ?_
        rw [← hQ0]
        refine r_lret hx hb hr hlocks hW ?_ dX11_divisor_33
        refine ⟨?_, rfl⟩
        rw [← hgc, hy1, Nat.gcd_zero_right]
      · skip
        rw [lc_eq] at c10
        have hy1 : 0 < y := by
          rw [lN_int (by omega), show (0 : Int64).toInt = 0 from by decide] at c10
          omega
        have hmo : x % y < y := Nat.mod_lt _ hy1
        have hyne : ¬ lN y = 0 := fun z => c10 (by rw [z])
        refine lv_lload hx hb dX11_divisor_13 (lv_at hl 0 rfl) ?_
        refine lv_lload hx hb dX11_divisor_15 (lv_at hl 1 rfl) ?_
        refine lv_lrem hx hb dX11_divisor_17 hyne ?_
        rw [show (((lN x) - (lN x) / (lN y) * (lN y)) : Int64) = (lN (x % y)) from lN_rem (by omega) (by omega)]
        refine lv_lstore (lv' := [(8, .long (lN (x % y))), (4, .long (lN x)), (6, .long (lN y))]) hx hb dX11_divisor_18 hl (by decide) rfl (fun ls hl => ?_)
        refine lv_lload hx hb dX11_divisor_20 (lv_at hl 2 rfl) ?_
        refine lv_lstore (lv' := [(4, .long (lN y)), (8, .long (lN (x % y))), (6, .long (lN y))]) hx hb dX11_divisor_22 hl (by decide) rfl (fun ls hl => ?_)
        refine lv_lload hx hb dX11_divisor_24 (lv_at hl 1 rfl) ?_
        refine lv_lstore (lv' := [(6, .long (lN (x % y))), (4, .long (lN y)), (8, .long (lN (x % y)))]) hx hb dX11_divisor_26 hl (by decide) rfl (fun ls hl => ?_)
        refine lv_goto (tgt := 6) hx hb dX11_divisor_28 (by decide) ?_
        exact ih6 y (x % y) _ _ ls (by omega) hyM (by omega) (by rw [← hgc, Nat.gcd_comm x y, Nat.gcd_rec y x, Nat.gcd_comm]) hW (lv_sub hl [1, 0] rfl)
  exact L6 _ x0 y0 _ _ ls (Nat.lt_succ_self _) hx0 hy0 rfl hW (lv_sub hl [1, 0] rfl)

def rmX11_dueOf : Jvm.Room := { frames := 0, cells := 0, slots := 0, locals := 0 }
set_option maxHeartbeats 4000000 in
set_option maxRecDepth 100000 in
theorem t_X11_dueOf (l : Launch) (D : Dc) (G : Gg) (S : Sg) (z : Nat) (hG : GrG G) (hP : GrP G S) (t b law m : Nat) (h3 : gj S 66 3 = lN t) (h1 : gj S 66 1 = lN b) (hlaw : law ≤ 2) (hm1 : 1 ≤ m) (hm : m ≤ 9) (ht : t ≤ 9) (hb9 : b ≤ 9) : MI l yX11_dueOf wsX11_dueOf rmX11_dueOf D G S z [.ref (gA G 65), .int (nI law), .int (nI m)] (fun r S' => S' = S ∧ r = nI (dueN t b law m)) := by
  refine Met.ofW (cc := cX11_dueOf) (maxL := 5) (ret := (some .int)) (by decide +kernel) rfl ?_
  intro pP eE s mM args bl mT cD s₁ bD hml hv
  obtain ⟨rfl, hv⟩ := hv
  have hz := hv.1
  subst hz
  have hx := bD.exec
  have hb := bD.bytes
  have hr := bD.returns
  have hts := atoms_spec (ws := wsX11_dueOf) bD.pre
  have hown : s.vm.findClass RX11 = some mM.cls := findClass_of_methodNamed bD.named
  have hlocks := bD.notSynchronized
  have hW := Wd.start hv
  have hA : ∀ q, s.heap.size ≤ q → AW G s.heap.size q := fun q h => Or.inr h
  have hl := lv_entry ([.ref (gA G 65), .int (nI law), .int (nI m)]) (n := 5) (Nat.le_of_ble_eq_true rfl)
  rw [lg_entry_eq]
  generalize (lg_sl ([.ref (gA G 65), .int (nI law), .int (nI m)]) ++ List.replicate (5 - (lg_sl ([.ref (gA G 65), .int (nI law), .int (nI m)])).length) Slot.unset).toArray = ls at hl ⊢
  have hl : lv_has ls 5 [(0, .ref (gA G 65)), (1, .int (nI law)), (2, .int (nI m))] := hl
  have q0 := hts (.fieldLink RX11 7 "WoodForTwoModel" "w" "[J") (List.mem_of_getElem? (i := 1) rfl)
  have iX11 : ∀ w ∈ wsX110, w ∈ wsX11_dueOf := fun _ h => List.mem_cons_of_mem _ (List.mem_append_right _ (h))
  have el : (nI law).toInt = law := n_toInt (by omega)
  refine lv_aload_n hx hb dX11_dueOf_0 rfl (lv_at hl 0 rfl) ?_
  refine r_getr (ci := 10) (C := RX11) (T := TX11) (N := 20) hx hb hts iX11 hown hW rfl 65 0 rfl (g_lt hG (by decide)) (g_kd hG (by decide) rfl) (by decide) q0 (fun _ h9 => h9) (hP _ (List.mem_of_getElem? (i := 60) rfl)) rfl rfl dX11_dueOf_1 ?_
  refine lv_iconst (v := 3) hx hb dX11_dueOf_4 (by decide) ?_
  refine W.eq (g2 := F0 mM 5 ls [.int (nI 3), .ref (gA G 66)]) rfl ?_
  refine r_lald hx hb hW 66 rfl (g_lt hG (by decide)) (g_kd hG (by decide) rfl) (g_ix hG (c := 560) (by decide) rfl (n_inI (by omega) (by decide))) (lN t) (by rw [n_clamp (by omega)]; exact h3) dX11_dueOf_5 ?_
  refine lv_l2i hx hb dX11_dueOf_6 rfl ?_
  rw [show (Int64.toInt32 (lN t) : Int32) = nI t from lN_i _]
  refine lv_istore_n (lv' := [(3, .int (nI t)), (0, .ref (gA G 65)), (1, .int (nI law)), (2, .int (nI m))]) hx hb dX11_dueOf_7 rfl hl (by decide) rfl (fun ls hl => ?_)
  refine lv_aload_n hx hb dX11_dueOf_8 rfl (lv_at hl 1 rfl) ?_
  refine r_getr (ci := 10) (C := RX11) (T := TX11) (N := 20) hx hb hts iX11 hown hW rfl 65 0 rfl (g_lt hG (by decide)) (g_kd hG (by decide) rfl) (by decide) q0 (fun _ h9 => h9) (hP _ (List.mem_of_getElem? (i := 60) rfl)) rfl rfl dX11_dueOf_9 ?_
  refine lv_iconst (v := 1) hx hb dX11_dueOf_12 (by decide) ?_
  refine W.eq (g2 := F0 mM 13 ls [.int (nI 1), .ref (gA G 66)]) rfl ?_
  refine r_lald hx hb hW 66 rfl (g_lt hG (by decide)) (g_kd hG (by decide) rfl) (g_ix hG (c := 560) (by decide) rfl (n_inI (by omega) (by decide))) (lN b) (by rw [n_clamp (by omega)]; exact h1) dX11_dueOf_13 ?_
  refine lv_l2i hx hb dX11_dueOf_14 rfl ?_
  rw [show (Int64.toInt32 (lN b) : Int32) = nI b from lN_i _]
  refine lv_istore (lv' := [(4, .int (nI b)), (3, .int (nI t)), (0, .ref (gA G 65)), (1, .int (nI law)), (2, .int (nI m))]) hx hb dX11_dueOf_15 hl (by decide) rfl (fun ls hl => ?_)
  refine lv_iload_n hx hb dX11_dueOf_17 rfl (lv_at hl 3 rfl) ?_
  refine lv_if_ne (tgt := 30) hx hb dX11_dueOf_18 (by decide) (fun c18 => ?_) (fun c18 => ?_)
  · skip
    rw [t_eq, show (0 : Int32).toInt = 0 from by decide] at c18
    refine lv_iload_n hx hb dX11_dueOf_30 rfl (lv_at hl 3 rfl) ?_
    refine lv_iconst (v := 1) hx hb dX11_dueOf_31 (by decide) ?_
    refine lv_icmp_ne (tgt := 42) hx hb dX11_dueOf_32 (by decide) (fun c32 => ?_) (fun c32 => ?_)
    · skip
      rw [t_eq, show (1 : Int32).toInt = 1 from by decide] at c32
      refine lv_iload_n hx hb dX11_dueOf_42 rfl (lv_at hl 1 rfl) ?_
      refine lv_iload hx hb dX11_dueOf_43 (lv_at hl 0 rfl) ?_
      refine lv_imul hx hb dX11_dueOf_45 ?_
      rw [show (((nI t) * (nI b)) : Int32) = (nI (t * b)) from n_mul t b]
      refine lv_iload_n hx hb dX11_dueOf_46 rfl (lv_at hl 4 rfl) ?_
      refine lv_iconst (v := 1) hx hb dX11_dueOf_47 (by decide) ?_
      refine lv_isub hx hb dX11_dueOf_48 ?_
      rw [show (((nI m) - 1) : Int32) = (nI (m - 1)) from n_sub (b := 1) hm1]
      refine lv_iload hx hb dX11_dueOf_49 (lv_at hl 0 rfl) ?_
      refine lv_imul hx hb dX11_dueOf_51 ?_
      rw [show (((nI (m - 1)) * (nI b)) : Int32) = (nI ((m - 1) * b)) from n_mul (m - 1) b]
      refine lv_iconst (v := 2) hx hb dX11_dueOf_52 (by decide) ?_
      refine lv_idiv hx hb dX11_dueOf_53 (by decide) ?_
      rw [show (((nI ((m - 1) * b)) / 2) : Int32) = (nI ((m - 1) * b / 2)) from n_div (d := 2) (by have := Nat.mul_le_mul (show m - 1 ≤ 9 by omega) hb9; omega) (by decide) (by decide)]
      refine lv_iadd hx hb dX11_dueOf_54 ?_
      rw [show (((nI (t * b)) + (nI ((m - 1) * b / 2))) : Int32) = (nI ((t * b) + ((m - 1) * b / 2))) from n_add (t * b) ((m - 1) * b / 2)]
      refine r_iret hx hb hr hlocks hW ?_ dX11_dueOf_55
      refine ⟨rfl, ?_⟩
      have e : law = 2 := by omega
      subst e; rfl
    · skip
      rw [t_eq, show (1 : Int32).toInt = 1 from by decide] at c32
      refine lv_iload_n hx hb dX11_dueOf_35 rfl (lv_at hl 1 rfl) ?_
      refine lv_iload hx hb dX11_dueOf_36 (lv_at hl 0 rfl) ?_
      refine lv_imul hx hb dX11_dueOf_38 ?_
      rw [show (((nI t) * (nI b)) : Int32) = (nI (t * b)) from n_mul t b]
      refine lv_goto (tgt := 55) hx hb dX11_dueOf_39 (by decide) ?_
      refine r_iret hx hb hr hlocks hW ?_ dX11_dueOf_55
      refine ⟨rfl, ?_⟩
      have e : law = 1 := by omega
      subst e; rfl
  · skip
    rw [t_eq, show (0 : Int32).toInt = 0 from by decide] at c18
    refine lv_iload_n hx hb dX11_dueOf_21 rfl (lv_at hl 1 rfl) ?_
    refine lv_iload_n hx hb dX11_dueOf_22 rfl (lv_at hl 4 rfl) ?_
    refine lv_imul hx hb dX11_dueOf_23 ?_
    rw [show (((nI t) * (nI m)) : Int32) = (nI (t * m)) from n_mul t m]
    refine lv_iload hx hb dX11_dueOf_24 (lv_at hl 0 rfl) ?_
    refine lv_imul hx hb dX11_dueOf_26 ?_
    rw [show (((nI (t * m)) * (nI b)) : Int32) = (nI ((t * m) * b)) from n_mul (t * m) b]
    refine lv_goto (tgt := 55) hx hb dX11_dueOf_27 (by decide) ?_
    refine r_iret hx hb hr hlocks hW ?_ dX11_dueOf_55
    refine ⟨rfl, ?_⟩
    have e : law = 0 := by omega
    subst e; rfl

def rmX11_leaves : Jvm.Room := { frames := 0, cells := 0, slots := 0, locals := 0 }
set_option maxHeartbeats 4000000 in
set_option maxRecDepth 100000 in
theorem t_X11_leaves (l : Launch) (D : Dc) (G : Gg) (S : Sg) (z : Nat) (hG : GrG G) (hP : GrP G S) (p d way toil wood burn : Nat) (hp : p < 16) (h34 : gj S 66 (34 + p) = lN way) (h50 : gj S 66 (50 + p) = lN toil) (h0 : gj S 66 0 = lN wood) (h1 : gj S 66 1 = lN burn) (hw3 : way ≤ 3) (ht9 : toil ≤ 99) (hd9 : d ≤ 729) (hwd : wood ≤ 999) (hb9 : burn ≤ 9) : MI l yX11_leaves wsX11_leaves rmX11_leaves D G S z [.ref (gA G 65), .int (nI p), .int (nI d)] (fun r S' => S' = S ∧ r = nI (lvN way toil d wood burn)) := by
  refine Met.ofW (cc := cX11_leaves) (maxL := 7) (ret := (some .int)) (by decide +kernel) rfl ?_
  intro pP eE s mM args bl mT cD s₁ bD hml hv
  obtain ⟨rfl, hv⟩ := hv
  have hz := hv.1
  subst hz
  have hx := bD.exec
  have hb := bD.bytes
  have hr := bD.returns
  have hts := atoms_spec (ws := wsX11_leaves) bD.pre
  have hown : s.vm.findClass RX11 = some mM.cls := findClass_of_methodNamed bD.named
  have hlocks := bD.notSynchronized
  have hW := Wd.start hv
  have hA : ∀ q, s.heap.size ≤ q → AW G s.heap.size q := fun q h => Or.inr h
  have hl := lv_entry ([.ref (gA G 65), .int (nI p), .int (nI d)]) (n := 7) (Nat.le_of_ble_eq_true rfl)
  rw [lg_entry_eq]
  generalize (lg_sl ([.ref (gA G 65), .int (nI p), .int (nI d)]) ++ List.replicate (7 - (lg_sl ([.ref (gA G 65), .int (nI p), .int (nI d)])).length) Slot.unset).toArray = ls at hl ⊢
  have hl : lv_has ls 7 [(0, .ref (gA G 65)), (1, .int (nI p)), (2, .int (nI d))] := hl
  have q0 := hts (.fieldLink RX11 7 "WoodForTwoModel" "w" "[J") (List.mem_of_getElem? (i := 1) rfl)
  have q1 := hts (.constantLong RX11 154 (100)) (List.mem_of_getElem? (i := 2) rfl)
  have q2 := hts (.constantLong RX11 156 (1000)) (List.mem_of_getElem? (i := 3) rfl)
  have q3 := hts (.constantLong RX11 54 (2)) (List.mem_of_getElem? (i := 4) rfl)
  have iX11 : ∀ w ∈ wsX110, w ∈ wsX11_leaves := fun _ h => List.mem_cons_of_mem _ (List.mem_append_right _ (h))
  refine lv_aload_n hx hb dX11_leaves_0 rfl (lv_at hl 0 rfl) ?_
  refine r_getr (ci := 10) (C := RX11) (T := TX11) (N := 20) hx hb hts iX11 hown hW rfl 65 0 rfl (g_lt hG (by decide)) (g_kd hG (by decide) rfl) (by decide) q0 (fun _ h9 => h9) (hP _ (List.mem_of_getElem? (i := 60) rfl)) rfl rfl dX11_leaves_1 ?_
  refine lv_bipush (v := 34) hx hb dX11_leaves_4 (by decide) ?_
  refine lv_iload_n hx hb dX11_leaves_6 rfl (lv_at hl 1 rfl) ?_
  refine lv_iadd hx hb dX11_leaves_7 ?_
  rw [show ((34 + (nI p)) : Int32) = (nI (34 + p)) from n_add 34 p]
  refine r_lald hx hb hW 66 rfl (g_lt hG (by decide)) (g_kd hG (by decide) rfl) (g_ix hG (c := 560) (by decide) rfl (n_inI (by omega) (by decide))) (lN way) (by rw [n_clamp (by omega)]; exact h34) dX11_leaves_8 ?_
  refine lv_l2i hx hb dX11_leaves_9 rfl ?_
  rw [show (Int64.toInt32 (lN way) : Int32) = nI way from lN_i _]
  refine lv_istore_n (lv' := [(3, .int (nI way)), (0, .ref (gA G 65)), (1, .int (nI p)), (2, .int (nI d))]) hx hb dX11_leaves_10 rfl hl (by decide) rfl (fun ls hl => ?_)
  refine lv_aload_n hx hb dX11_leaves_11 rfl (lv_at hl 1 rfl) ?_
  refine r_getr (ci := 10) (C := RX11) (T := TX11) (N := 20) hx hb hts iX11 hown hW rfl 65 0 rfl (g_lt hG (by decide)) (g_kd hG (by decide) rfl) (by decide) q0 (fun _ h9 => h9) (hP _ (List.mem_of_getElem? (i := 60) rfl)) rfl rfl dX11_leaves_12 ?_
  refine lv_bipush (v := 50) hx hb dX11_leaves_15 (by decide) ?_
  refine lv_iload_n hx hb dX11_leaves_17 rfl (lv_at hl 2 rfl) ?_
  refine lv_iadd hx hb dX11_leaves_18 ?_
  rw [show ((50 + (nI p)) : Int32) = (nI (50 + p)) from n_add 50 p]
  refine r_lald hx hb hW 66 rfl (g_lt hG (by decide)) (g_kd hG (by decide) rfl) (g_ix hG (c := 560) (by decide) rfl (n_inI (by omega) (by decide))) (lN toil) (by rw [n_clamp (by omega)]; exact h50) dX11_leaves_19 ?_
  refine lv_iload_n hx hb dX11_leaves_20 rfl (lv_at hl 3 rfl) ?_
  refine lv_i2l hx hb dX11_leaves_21 rfl ?_
  rw [show (Int32.toInt64 (nI d) : Int64) = lN d from lN_of (by omega)]
  refine lv_lmul hx hb dX11_leaves_22 ?_
  rw [show (((lN toil) * (lN d)) : Int64) = (lN (toil * d)) from lN_mul toil d]
  have htd : toil * d ≤ 99 * 729 := Nat.mul_le_mul ht9 hd9
  have ew : (nI way).toInt = way := n_toInt (by omega)
  refine lv_lstore (lv' := [(4, .long (lN (toil * d))), (3, .int (nI way)), (0, .ref (gA G 65)), (1, .int (nI p)), (2, .int (nI d))]) hx hb dX11_leaves_23 hl (by decide) rfl (fun ls hl => ?_)
  refine lv_lload hx hb dX11_leaves_25 (lv_at hl 0 rfl) ?_
  refine lv_ldc2 (v := (100)) hx hb hown q1 dX11_leaves_27 ?_
  refine W.lcmp hx hb dX11_leaves_30 ?_
  refine lv_if_le (tgt := 63) hx hb dX11_leaves_31 (by decide) (fun c31 => ?_) (fun c31 => ?_)
  · skip
    rw [lc_le] at c31
    rw [lN_int (by omega), show (100 : Int64).toInt = 100 from by decide] at c31
    refine lv_iconst (v := 1) hx hb dX11_leaves_63 (by decide) ?_
    refine lv_goto (tgt := 68) hx hb dX11_leaves_64 (by decide) ?_
    refine lv_istore (lv' := [(6, .int 1), (4, .long (lN (toil * d))), (3, .int (nI way)), (0, .ref (gA G 65)), (1, .int (nI p)), (2, .int (nI d))]) hx hb dX11_leaves_68 hl (by decide) rfl (fun ls hl => ?_)
    refine lv_iload_n hx hb dX11_leaves_70 rfl (lv_at hl 2 rfl) ?_
    refine lv_if_ne (tgt := 78) hx hb dX11_leaves_71 (by decide) (fun c71 => ?_) (fun c71 => ?_)
    · skip
      rw [t_eq, show (0 : Int32).toInt = 0 from by decide] at c71
      refine lv_iload_n hx hb dX11_leaves_78 rfl (lv_at hl 2 rfl) ?_
      refine lv_iconst (v := 1) hx hb dX11_leaves_79 (by decide) ?_
      refine lv_icmp_ne (tgt := 89) hx hb dX11_leaves_80 (by decide) (fun c80 => ?_) (fun c80 => ?_)
      · skip
        rw [t_eq, show (1 : Int32).toInt = 1 from by decide] at c80
        refine lv_iload_n hx hb dX11_leaves_89 rfl (lv_at hl 2 rfl) ?_
        refine lv_iconst (v := 3) hx hb dX11_leaves_90 (by decide) ?_
        refine lv_icmp_ne (tgt := 103) hx hb dX11_leaves_91 (by decide) (fun c91 => ?_) (fun c91 => ?_)
        · skip
          rw [t_eq, show (3 : Int32).toInt = 3 from by decide] at c91
          refine lv_iconst (v := 0) hx hb dX11_leaves_103 (by decide) ?_
          refine r_iret hx hb hr hlocks hW ?_ dX11_leaves_104
          refine ⟨rfl, ?_⟩
          unfold lvN
          first
            | rw [if_pos (by omega)]
            | rw [if_neg (by omega), if_pos (by omega)]
            | rw [if_neg (by omega), if_neg (by omega), if_pos (by omega)]
            | (rw [if_neg (by omega), if_neg (by omega), if_neg (by omega)]; rfl)
        · skip
          rw [t_eq, show (3 : Int32).toInt = 3 from by decide] at c91
          refine lv_iload hx hb dX11_leaves_94 (lv_at hl 0 rfl) ?_
          refine lv_if_eq (tgt := 103) hx hb dX11_leaves_96 (by decide) (fun c96 => ?_) (fun c96 => ?_)
          · exact absurd c96 (by decide)
          · skip
            refine lv_iload_n hx hb dX11_leaves_99 rfl (lv_at hl 5 rfl) ?_
            refine lv_goto (tgt := 104) hx hb dX11_leaves_100 (by decide) ?_
            refine r_iret hx hb hr hlocks hW ?_ dX11_leaves_104
            refine ⟨rfl, ?_⟩
            unfold lvN
            first
              | rw [if_pos (by omega)]
              | rw [if_neg (by omega), if_pos (by omega)]
              | rw [if_neg (by omega), if_neg (by omega), if_pos (by omega)]
              | (rw [if_neg (by omega), if_neg (by omega), if_neg (by omega)]; rfl)
      · skip
        rw [t_eq, show (1 : Int32).toInt = 1 from by decide] at c80
        refine lv_iload_n hx hb dX11_leaves_83 rfl (lv_at hl 5 rfl) ?_
        refine lv_iconst (v := 2) hx hb dX11_leaves_84 (by decide) ?_
        refine lv_idiv hx hb dX11_leaves_85 (by decide) ?_
        rw [show (((nI d) / 2) : Int32) = (nI (d / 2)) from n_div (d := 2) (by omega) (by decide) (by decide)]
        refine lv_goto (tgt := 104) hx hb dX11_leaves_86 (by decide) ?_
        refine r_iret hx hb hr hlocks hW ?_ dX11_leaves_104
        refine ⟨rfl, ?_⟩
        unfold lvN
        first
          | rw [if_pos (by omega)]
          | rw [if_neg (by omega), if_pos (by omega)]
          | rw [if_neg (by omega), if_neg (by omega), if_pos (by omega)]
          | (rw [if_neg (by omega), if_neg (by omega), if_neg (by omega)]; rfl)
    · skip
      rw [t_eq, show (0 : Int32).toInt = 0 from by decide] at c71
      refine lv_iload_n hx hb dX11_leaves_74 rfl (lv_at hl 5 rfl) ?_
      refine lv_goto (tgt := 104) hx hb dX11_leaves_75 (by decide) ?_
      refine r_iret hx hb hr hlocks hW ?_ dX11_leaves_104
      refine ⟨rfl, ?_⟩
      unfold lvN
      first
        | rw [if_pos (by omega)]
        | rw [if_neg (by omega), if_pos (by omega)]
        | rw [if_neg (by omega), if_neg (by omega), if_pos (by omega)]
        | (rw [if_neg (by omega), if_neg (by omega), if_neg (by omega)]; rfl)
  · skip
    rw [lc_le] at c31
    rw [lN_int (by omega), show (100 : Int64).toInt = 100 from by decide] at c31
    refine lv_lload hx hb dX11_leaves_34 (lv_at hl 0 rfl) ?_
    refine lv_ldc2 (v := (1000)) hx hb hown q2 dX11_leaves_36 ?_
    refine W.lcmp hx hb dX11_leaves_39 ?_
    refine lv_if_gt (tgt := 67) hx hb dX11_leaves_40 (by decide) (fun c40 => ?_) (fun c40 => ?_)
    · skip
      rw [lc_gt] at c40
      rw [lN_int (by omega), show (1000 : Int64).toInt = 1000 from by decide] at c40
      refine lv_iconst (v := 0) hx hb dX11_leaves_67 (by decide) ?_
      refine lv_istore (lv' := [(6, .int 0), (4, .long (lN (toil * d))), (3, .int (nI way)), (0, .ref (gA G 65)), (1, .int (nI p)), (2, .int (nI d))]) hx hb dX11_leaves_68 hl (by decide) rfl (fun ls hl => ?_)
      refine lv_iload_n hx hb dX11_leaves_70 rfl (lv_at hl 2 rfl) ?_
      refine lv_if_ne (tgt := 78) hx hb dX11_leaves_71 (by decide) (fun c71 => ?_) (fun c71 => ?_)
      · skip
        rw [t_eq, show (0 : Int32).toInt = 0 from by decide] at c71
        refine lv_iload_n hx hb dX11_leaves_78 rfl (lv_at hl 2 rfl) ?_
        refine lv_iconst (v := 1) hx hb dX11_leaves_79 (by decide) ?_
        refine lv_icmp_ne (tgt := 89) hx hb dX11_leaves_80 (by decide) (fun c80 => ?_) (fun c80 => ?_)
        · skip
          rw [t_eq, show (1 : Int32).toInt = 1 from by decide] at c80
          refine lv_iload_n hx hb dX11_leaves_89 rfl (lv_at hl 2 rfl) ?_
          refine lv_iconst (v := 3) hx hb dX11_leaves_90 (by decide) ?_
          refine lv_icmp_ne (tgt := 103) hx hb dX11_leaves_91 (by decide) (fun c91 => ?_) (fun c91 => ?_)
          · skip
            rw [t_eq, show (3 : Int32).toInt = 3 from by decide] at c91
            refine lv_iconst (v := 0) hx hb dX11_leaves_103 (by decide) ?_
            refine r_iret hx hb hr hlocks hW ?_ dX11_leaves_104
            refine ⟨rfl, ?_⟩
            unfold lvN
            first
              | rw [if_pos (by omega)]
              | rw [if_neg (by omega), if_pos (by omega)]
              | rw [if_neg (by omega), if_neg (by omega), if_pos (by omega)]
              | (rw [if_neg (by omega), if_neg (by omega), if_neg (by omega)]; rfl)
          · skip
            rw [t_eq, show (3 : Int32).toInt = 3 from by decide] at c91
            refine lv_iload hx hb dX11_leaves_94 (lv_at hl 0 rfl) ?_
            refine lv_if_eq (tgt := 103) hx hb dX11_leaves_96 (by decide) (fun c96 => ?_) (fun c96 => ?_)
            · skip
              refine lv_iconst (v := 0) hx hb dX11_leaves_103 (by decide) ?_
              refine r_iret hx hb hr hlocks hW ?_ dX11_leaves_104
              refine ⟨rfl, ?_⟩
              unfold lvN
              first
                | rw [if_pos (by omega)]
                | rw [if_neg (by omega), if_pos (by omega)]
                | rw [if_neg (by omega), if_neg (by omega), if_pos (by omega)]
                | (rw [if_neg (by omega), if_neg (by omega), if_neg (by omega)]; rfl)
            · exact absurd (by decide) c96
        · skip
          rw [t_eq, show (1 : Int32).toInt = 1 from by decide] at c80
          refine lv_iload_n hx hb dX11_leaves_83 rfl (lv_at hl 5 rfl) ?_
          refine lv_iconst (v := 2) hx hb dX11_leaves_84 (by decide) ?_
          refine lv_idiv hx hb dX11_leaves_85 (by decide) ?_
          rw [show (((nI d) / 2) : Int32) = (nI (d / 2)) from n_div (d := 2) (by omega) (by decide) (by decide)]
          refine lv_goto (tgt := 104) hx hb dX11_leaves_86 (by decide) ?_
          refine r_iret hx hb hr hlocks hW ?_ dX11_leaves_104
          refine ⟨rfl, ?_⟩
          unfold lvN
          first
            | rw [if_pos (by omega)]
            | rw [if_neg (by omega), if_pos (by omega)]
            | rw [if_neg (by omega), if_neg (by omega), if_pos (by omega)]
            | (rw [if_neg (by omega), if_neg (by omega), if_neg (by omega)]; rfl)
      · skip
        rw [t_eq, show (0 : Int32).toInt = 0 from by decide] at c71
        refine lv_iload_n hx hb dX11_leaves_74 rfl (lv_at hl 5 rfl) ?_
        refine lv_goto (tgt := 104) hx hb dX11_leaves_75 (by decide) ?_
        refine r_iret hx hb hr hlocks hW ?_ dX11_leaves_104
        refine ⟨rfl, ?_⟩
        unfold lvN
        first
          | rw [if_pos (by omega)]
          | rw [if_neg (by omega), if_pos (by omega)]
          | rw [if_neg (by omega), if_neg (by omega), if_pos (by omega)]
          | (rw [if_neg (by omega), if_neg (by omega), if_neg (by omega)]; rfl)
    · skip
      rw [lc_gt] at c40
      rw [lN_int (by omega), show (1000 : Int64).toInt = 1000 from by decide] at c40
      refine lv_aload_n hx hb dX11_leaves_43 rfl (lv_at hl 2 rfl) ?_
      refine r_getr (ci := 10) (C := RX11) (T := TX11) (N := 20) hx hb hts iX11 hown hW rfl 65 0 rfl (g_lt hG (by decide)) (g_kd hG (by decide) rfl) (by decide) q0 (fun _ h9 => h9) (hP _ (List.mem_of_getElem? (i := 60) rfl)) rfl rfl dX11_leaves_44 ?_
      refine lv_iconst (v := 0) hx hb dX11_leaves_47 (by decide) ?_
      refine W.eq (g2 := F0 mM 48 ls [.int (nI 0), .ref (gA G 66)]) rfl ?_
      refine r_lald hx hb hW 66 rfl (g_lt hG (by decide)) (g_kd hG (by decide) rfl) (g_ix hG (c := 560) (by decide) rfl (n_inI (by omega) (by decide))) (lN wood) (by rw [n_clamp (by omega)]; exact h0) dX11_leaves_48 ?_
      refine lv_ldc2 (v := (2)) hx hb hown q3 dX11_leaves_49 ?_
      refine lv_aload_n hx hb dX11_leaves_52 rfl (lv_at hl 2 rfl) ?_
      refine r_getr (ci := 10) (C := RX11) (T := TX11) (N := 20) hx hb hts iX11 hown hW rfl 65 0 rfl (g_lt hG (by decide)) (g_kd hG (by decide) rfl) (by decide) q0 (fun _ h9 => h9) (hP _ (List.mem_of_getElem? (i := 60) rfl)) rfl rfl dX11_leaves_53 ?_
      refine lv_iconst (v := 1) hx hb dX11_leaves_56 (by decide) ?_
      refine W.eq (g2 := F0 mM 57 ls [.int (nI 1), .ref (gA G 66), .long (2), .long (lN wood)]) rfl ?_
      refine r_lald hx hb hW 66 rfl (g_lt hG (by decide)) (g_kd hG (by decide) rfl) (g_ix hG (c := 560) (by decide) rfl (n_inI (by omega) (by decide))) (lN burn) (by rw [n_clamp (by omega)]; exact h1) dX11_leaves_57 ?_
      refine lv_lmul hx hb dX11_leaves_58 ?_
      rw [show (((2) * (lN burn)) : Int64) = (lN (2 * burn)) from lN_mul 2 burn]
      refine W.lcmp hx hb dX11_leaves_59 ?_
      refine lv_if_ge (tgt := 67) hx hb dX11_leaves_60 (by decide) (fun c60 => ?_) (fun c60 => ?_)
      · skip
        rw [lc_ge] at c60
        rw [lN_int (by omega), lN_int (by omega)] at c60
        refine lv_iconst (v := 0) hx hb dX11_leaves_67 (by decide) ?_
        refine lv_istore (lv' := [(6, .int 0), (4, .long (lN (toil * d))), (3, .int (nI way)), (0, .ref (gA G 65)), (1, .int (nI p)), (2, .int (nI d))]) hx hb dX11_leaves_68 hl (by decide) rfl (fun ls hl => ?_)
        refine lv_iload_n hx hb dX11_leaves_70 rfl (lv_at hl 2 rfl) ?_
        refine lv_if_ne (tgt := 78) hx hb dX11_leaves_71 (by decide) (fun c71 => ?_) (fun c71 => ?_)
        · skip
          rw [t_eq, show (0 : Int32).toInt = 0 from by decide] at c71
          refine lv_iload_n hx hb dX11_leaves_78 rfl (lv_at hl 2 rfl) ?_
          refine lv_iconst (v := 1) hx hb dX11_leaves_79 (by decide) ?_
          refine lv_icmp_ne (tgt := 89) hx hb dX11_leaves_80 (by decide) (fun c80 => ?_) (fun c80 => ?_)
          · skip
            rw [t_eq, show (1 : Int32).toInt = 1 from by decide] at c80
            refine lv_iload_n hx hb dX11_leaves_89 rfl (lv_at hl 2 rfl) ?_
            refine lv_iconst (v := 3) hx hb dX11_leaves_90 (by decide) ?_
            refine lv_icmp_ne (tgt := 103) hx hb dX11_leaves_91 (by decide) (fun c91 => ?_) (fun c91 => ?_)
            · skip
              rw [t_eq, show (3 : Int32).toInt = 3 from by decide] at c91
              refine lv_iconst (v := 0) hx hb dX11_leaves_103 (by decide) ?_
              refine r_iret hx hb hr hlocks hW ?_ dX11_leaves_104
              refine ⟨rfl, ?_⟩
              unfold lvN
              first
                | rw [if_pos (by omega)]
                | rw [if_neg (by omega), if_pos (by omega)]
                | rw [if_neg (by omega), if_neg (by omega), if_pos (by omega)]
                | (rw [if_neg (by omega), if_neg (by omega), if_neg (by omega)]; rfl)
            · skip
              rw [t_eq, show (3 : Int32).toInt = 3 from by decide] at c91
              refine lv_iload hx hb dX11_leaves_94 (lv_at hl 0 rfl) ?_
              refine lv_if_eq (tgt := 103) hx hb dX11_leaves_96 (by decide) (fun c96 => ?_) (fun c96 => ?_)
              · skip
                refine lv_iconst (v := 0) hx hb dX11_leaves_103 (by decide) ?_
                refine r_iret hx hb hr hlocks hW ?_ dX11_leaves_104
                refine ⟨rfl, ?_⟩
                unfold lvN
                first
                  | rw [if_pos (by omega)]
                  | rw [if_neg (by omega), if_pos (by omega)]
                  | rw [if_neg (by omega), if_neg (by omega), if_pos (by omega)]
                  | (rw [if_neg (by omega), if_neg (by omega), if_neg (by omega)]; rfl)
              · exact absurd (by decide) c96
          · skip
            rw [t_eq, show (1 : Int32).toInt = 1 from by decide] at c80
            refine lv_iload_n hx hb dX11_leaves_83 rfl (lv_at hl 5 rfl) ?_
            refine lv_iconst (v := 2) hx hb dX11_leaves_84 (by decide) ?_
            refine lv_idiv hx hb dX11_leaves_85 (by decide) ?_
            rw [show (((nI d) / 2) : Int32) = (nI (d / 2)) from n_div (d := 2) (by omega) (by decide) (by decide)]
            refine lv_goto (tgt := 104) hx hb dX11_leaves_86 (by decide) ?_
            refine r_iret hx hb hr hlocks hW ?_ dX11_leaves_104
            refine ⟨rfl, ?_⟩
            unfold lvN
            first
              | rw [if_pos (by omega)]
              | rw [if_neg (by omega), if_pos (by omega)]
              | rw [if_neg (by omega), if_neg (by omega), if_pos (by omega)]
              | (rw [if_neg (by omega), if_neg (by omega), if_neg (by omega)]; rfl)
        · skip
          rw [t_eq, show (0 : Int32).toInt = 0 from by decide] at c71
          refine lv_iload_n hx hb dX11_leaves_74 rfl (lv_at hl 5 rfl) ?_
          refine lv_goto (tgt := 104) hx hb dX11_leaves_75 (by decide) ?_
          refine r_iret hx hb hr hlocks hW ?_ dX11_leaves_104
          refine ⟨rfl, ?_⟩
          unfold lvN
          first
            | rw [if_pos (by omega)]
            | rw [if_neg (by omega), if_pos (by omega)]
            | rw [if_neg (by omega), if_neg (by omega), if_pos (by omega)]
            | (rw [if_neg (by omega), if_neg (by omega), if_neg (by omega)]; rfl)
      · skip
        rw [lc_ge] at c60
        rw [lN_int (by omega), lN_int (by omega)] at c60
        refine lv_iconst (v := 1) hx hb dX11_leaves_63 (by decide) ?_
        refine lv_goto (tgt := 68) hx hb dX11_leaves_64 (by decide) ?_
        refine lv_istore (lv' := [(6, .int 1), (4, .long (lN (toil * d))), (3, .int (nI way)), (0, .ref (gA G 65)), (1, .int (nI p)), (2, .int (nI d))]) hx hb dX11_leaves_68 hl (by decide) rfl (fun ls hl => ?_)
        refine lv_iload_n hx hb dX11_leaves_70 rfl (lv_at hl 2 rfl) ?_
        refine lv_if_ne (tgt := 78) hx hb dX11_leaves_71 (by decide) (fun c71 => ?_) (fun c71 => ?_)
        · skip
          rw [t_eq, show (0 : Int32).toInt = 0 from by decide] at c71
          refine lv_iload_n hx hb dX11_leaves_78 rfl (lv_at hl 2 rfl) ?_
          refine lv_iconst (v := 1) hx hb dX11_leaves_79 (by decide) ?_
          refine lv_icmp_ne (tgt := 89) hx hb dX11_leaves_80 (by decide) (fun c80 => ?_) (fun c80 => ?_)
          · skip
            rw [t_eq, show (1 : Int32).toInt = 1 from by decide] at c80
            refine lv_iload_n hx hb dX11_leaves_89 rfl (lv_at hl 2 rfl) ?_
            refine lv_iconst (v := 3) hx hb dX11_leaves_90 (by decide) ?_
            refine lv_icmp_ne (tgt := 103) hx hb dX11_leaves_91 (by decide) (fun c91 => ?_) (fun c91 => ?_)
            · skip
              rw [t_eq, show (3 : Int32).toInt = 3 from by decide] at c91
              refine lv_iconst (v := 0) hx hb dX11_leaves_103 (by decide) ?_
              refine r_iret hx hb hr hlocks hW ?_ dX11_leaves_104
              refine ⟨rfl, ?_⟩
              unfold lvN
              first
                | rw [if_pos (by omega)]
                | rw [if_neg (by omega), if_pos (by omega)]
                | rw [if_neg (by omega), if_neg (by omega), if_pos (by omega)]
                | (rw [if_neg (by omega), if_neg (by omega), if_neg (by omega)]; rfl)
            · skip
              rw [t_eq, show (3 : Int32).toInt = 3 from by decide] at c91
              refine lv_iload hx hb dX11_leaves_94 (lv_at hl 0 rfl) ?_
              refine lv_if_eq (tgt := 103) hx hb dX11_leaves_96 (by decide) (fun c96 => ?_) (fun c96 => ?_)
              · exact absurd c96 (by decide)
              · skip
                refine lv_iload_n hx hb dX11_leaves_99 rfl (lv_at hl 5 rfl) ?_
                refine lv_goto (tgt := 104) hx hb dX11_leaves_100 (by decide) ?_
                refine r_iret hx hb hr hlocks hW ?_ dX11_leaves_104
                refine ⟨rfl, ?_⟩
                unfold lvN
                first
                  | rw [if_pos (by omega)]
                  | rw [if_neg (by omega), if_pos (by omega)]
                  | rw [if_neg (by omega), if_neg (by omega), if_pos (by omega)]
                  | (rw [if_neg (by omega), if_neg (by omega), if_neg (by omega)]; rfl)
          · skip
            rw [t_eq, show (1 : Int32).toInt = 1 from by decide] at c80
            refine lv_iload_n hx hb dX11_leaves_83 rfl (lv_at hl 5 rfl) ?_
            refine lv_iconst (v := 2) hx hb dX11_leaves_84 (by decide) ?_
            refine lv_idiv hx hb dX11_leaves_85 (by decide) ?_
            rw [show (((nI d) / 2) : Int32) = (nI (d / 2)) from n_div (d := 2) (by omega) (by decide) (by decide)]
            refine lv_goto (tgt := 104) hx hb dX11_leaves_86 (by decide) ?_
            refine r_iret hx hb hr hlocks hW ?_ dX11_leaves_104
            refine ⟨rfl, ?_⟩
            unfold lvN
            first
              | rw [if_pos (by omega)]
              | rw [if_neg (by omega), if_pos (by omega)]
              | rw [if_neg (by omega), if_neg (by omega), if_pos (by omega)]
              | (rw [if_neg (by omega), if_neg (by omega), if_neg (by omega)]; rfl)
        · skip
          rw [t_eq, show (0 : Int32).toInt = 0 from by decide] at c71
          refine lv_iload_n hx hb dX11_leaves_74 rfl (lv_at hl 5 rfl) ?_
          refine lv_goto (tgt := 104) hx hb dX11_leaves_75 (by decide) ?_
          refine r_iret hx hb hr hlocks hW ?_ dX11_leaves_104
          refine ⟨rfl, ?_⟩
          unfold lvN
          first
            | rw [if_pos (by omega)]
            | rw [if_neg (by omega), if_pos (by omega)]
            | rw [if_neg (by omega), if_neg (by omega), if_pos (by omega)]
            | (rw [if_neg (by omega), if_neg (by omega), if_neg (by omega)]; rfl)

def rmX11_kindOf : Jvm.Room := { frames := 0, cells := 0, slots := 0, locals := 0 }
set_option maxHeartbeats 4000000 in
set_option maxRecDepth 100000 in
theorem t_X11_kindOf (l : Launch) (D : Dc) (G : Gg) (S : Sg) (z : Nat) (hG : GrG G) (hP : GrP G S) (B : Nat → Nat) (c : Nat) (hB1 : BP1 B c) (hc : c < 100000) (hM : ∀ k, k < 140 → gj S 66 k = lN (B k)) (p : Nat) (hp : p < B 17) : MI l yX11_kindOf wsX11_kindOf rmX11_kindOf D G S z [.ref (gA G 65), .int (nI p)] (fun r S' => S' = S ∧ r = nI (kdN (B (34 + p)) (B (18 + p)))) := by
  refine Met.ofW (cc := cX11_kindOf) (maxL := 3) (ret := (some .int)) (by decide +kernel) rfl ?_
  intro pP eE s mM args bl mT cD s₁ bD hml hv
  obtain ⟨rfl, hv⟩ := hv
  have hz := hv.1
  subst hz
  have hx := bD.exec
  have hb := bD.bytes
  have hr := bD.returns
  have hts := atoms_spec (ws := wsX11_kindOf) bD.pre
  have hown : s.vm.findClass RX11 = some mM.cls := findClass_of_methodNamed bD.named
  have hlocks := bD.notSynchronized
  have hW := Wd.start hv
  have hA : ∀ q, s.heap.size ≤ q → AW G s.heap.size q := fun q h => Or.inr h
  have hl := lv_entry ([.ref (gA G 65), .int (nI p)]) (n := 3) (Nat.le_of_ble_eq_true rfl)
  rw [lg_entry_eq]
  generalize (lg_sl ([.ref (gA G 65), .int (nI p)]) ++ List.replicate (3 - (lg_sl ([.ref (gA G 65), .int (nI p)])).length) Slot.unset).toArray = ls at hl ⊢
  have hl : lv_has ls 3 [(0, .ref (gA G 65)), (1, .int (nI p))] := hl
  have q0 := hts (.fieldLink RX11 7 "WoodForTwoModel" "w" "[J") (List.mem_of_getElem? (i := 1) rfl)
  have iX11 : ∀ w ∈ wsX110, w ∈ wsX11_kindOf := fun _ h => List.mem_cons_of_mem _ (List.mem_append_right _ (h))
  obtain ⟨b0, b1, b2, b3, b4, b5, b6, b7, b8, b9, b10, b11, b12⟩ := id hB1
  have b9p := b9 p hp
  refine lv_aload_n hx hb dX11_kindOf_0 rfl (lv_at hl 0 rfl) ?_
  refine r_getr (ci := 10) (C := RX11) (T := TX11) (N := 20) hx hb hts iX11 hown hW rfl 65 0 rfl (g_lt hG (by decide)) (g_kd hG (by decide) rfl) (by decide) q0 (fun _ h9 => h9) (hP _ (List.mem_of_getElem? (i := 60) rfl)) rfl rfl dX11_kindOf_1 ?_
  refine lv_bipush (v := 34) hx hb dX11_kindOf_4 (by decide) ?_
  refine lv_iload_n hx hb dX11_kindOf_6 rfl (lv_at hl 1 rfl) ?_
  refine lv_iadd hx hb dX11_kindOf_7 ?_
  rw [show ((34 + (nI p)) : Int32) = (nI (34 + p)) from n_add 34 p]
  refine r_lald hx hb hW 66 rfl (g_lt hG (by decide)) (g_kd hG (by decide) rfl) (g_ix hG (c := 560) (by decide) rfl (n_inI (by omega) (by decide))) (lN (B (34 + p))) (by rw [n_clamp (by omega)]; exact (hM (34 + p) (by omega))) dX11_kindOf_8 ?_
  refine lv_l2i hx hb dX11_kindOf_9 rfl ?_
  rw [show (Int64.toInt32 (lN (B (34 + p))) : Int32) = nI (B (34 + p)) from lN_i _]
  refine lv_istore_n (lv' := [(2, .int (nI (B (34 + p)))), (0, .ref (gA G 65)), (1, .int (nI p))]) hx hb dX11_kindOf_10 rfl hl (by decide) rfl (fun ls hl => ?_)
  have ew : (nI (B (34 + p))).toInt = B (34 + p) := n_toInt (by omega)
  refine lv_iload_n hx hb dX11_kindOf_11 rfl (lv_at hl 0 rfl) ?_
  refine lv_if_ne (tgt := 37) hx hb dX11_kindOf_12 (by decide) (fun c12 => ?_) (fun c12 => ?_)
  · skip
    rw [t_eq, show (0 : Int32).toInt = 0 from by decide] at c12
    refine lv_iload_n hx hb dX11_kindOf_37 rfl (lv_at hl 0 rfl) ?_
    refine lv_iconst (v := 1) hx hb dX11_kindOf_38 (by decide) ?_
    refine lv_icmp_ne (tgt := 46) hx hb dX11_kindOf_39 (by decide) (fun c39 => ?_) (fun c39 => ?_)
    · skip
      rw [t_eq, show (1 : Int32).toInt = 1 from by decide] at c39
      refine lv_iload_n hx hb dX11_kindOf_46 rfl (lv_at hl 0 rfl) ?_
      refine lv_iconst (v := 2) hx hb dX11_kindOf_47 (by decide) ?_
      refine lv_icmp_ne (tgt := 55) hx hb dX11_kindOf_48 (by decide) (fun c48 => ?_) (fun c48 => ?_)
      · skip
        rw [t_eq, show (2 : Int32).toInt = 2 from by decide] at c48
        refine lv_iconst (v := 4) hx hb dX11_kindOf_55 (by decide) ?_
        refine r_iret hx hb hr hlocks hW ?_ dX11_kindOf_56
        refine ⟨rfl, ?_⟩
        unfold kdN
        first
          | (rw [if_pos (by omega), if_pos (by omega)]; rfl)
          | (rw [if_pos (by omega), if_neg (by omega)]; rfl)
          | (rw [if_neg (by omega), if_pos (by omega)]; rfl)
          | (rw [if_neg (by omega), if_neg (by omega), if_pos (by omega)]; rfl)
          | (rw [if_neg (by omega), if_neg (by omega), if_neg (by omega)]; rfl)
      · skip
        rw [t_eq, show (2 : Int32).toInt = 2 from by decide] at c48
        refine lv_iconst (v := 3) hx hb dX11_kindOf_51 (by decide) ?_
        refine lv_goto (tgt := 56) hx hb dX11_kindOf_52 (by decide) ?_
        refine r_iret hx hb hr hlocks hW ?_ dX11_kindOf_56
        refine ⟨rfl, ?_⟩
        unfold kdN
        first
          | (rw [if_pos (by omega), if_pos (by omega)]; rfl)
          | (rw [if_pos (by omega), if_neg (by omega)]; rfl)
          | (rw [if_neg (by omega), if_pos (by omega)]; rfl)
          | (rw [if_neg (by omega), if_neg (by omega), if_pos (by omega)]; rfl)
          | (rw [if_neg (by omega), if_neg (by omega), if_neg (by omega)]; rfl)
    · skip
      rw [t_eq, show (1 : Int32).toInt = 1 from by decide] at c39
      refine lv_iconst (v := 2) hx hb dX11_kindOf_42 (by decide) ?_
      refine lv_goto (tgt := 56) hx hb dX11_kindOf_43 (by decide) ?_
      refine r_iret hx hb hr hlocks hW ?_ dX11_kindOf_56
      refine ⟨rfl, ?_⟩
      unfold kdN
      first
        | (rw [if_pos (by omega), if_pos (by omega)]; rfl)
        | (rw [if_pos (by omega), if_neg (by omega)]; rfl)
        | (rw [if_neg (by omega), if_pos (by omega)]; rfl)
        | (rw [if_neg (by omega), if_neg (by omega), if_pos (by omega)]; rfl)
        | (rw [if_neg (by omega), if_neg (by omega), if_neg (by omega)]; rfl)
  · skip
    rw [t_eq, show (0 : Int32).toInt = 0 from by decide] at c12
    refine lv_aload_n hx hb dX11_kindOf_15 rfl (lv_at hl 1 rfl) ?_
    refine r_getr (ci := 10) (C := RX11) (T := TX11) (N := 20) hx hb hts iX11 hown hW rfl 65 0 rfl (g_lt hG (by decide)) (g_kd hG (by decide) rfl) (by decide) q0 (fun _ h9 => h9) (hP _ (List.mem_of_getElem? (i := 60) rfl)) rfl rfl dX11_kindOf_16 ?_
    refine lv_bipush (v := 18) hx hb dX11_kindOf_19 (by decide) ?_
    refine lv_iload_n hx hb dX11_kindOf_21 rfl (lv_at hl 2 rfl) ?_
    refine lv_iadd hx hb dX11_kindOf_22 ?_
    rw [show ((18 + (nI p)) : Int32) = (nI (18 + p)) from n_add 18 p]
    refine r_lald hx hb hW 66 rfl (g_lt hG (by decide)) (g_kd hG (by decide) rfl) (g_ix hG (c := 560) (by decide) rfl (n_inI (by omega) (by decide))) (lN (B (18 + p))) (by rw [n_clamp (by omega)]; exact (hM (18 + p) (by omega))) dX11_kindOf_23 ?_
    refine lv_lconst (v := 1) hx hb dX11_kindOf_24 (by decide) ?_
    refine W.lcmp hx hb dX11_kindOf_25 ?_
    refine lv_if_ne (tgt := 33) hx hb dX11_kindOf_26 (by decide) (fun c26 => ?_) (fun c26 => ?_)
    · skip
      rw [lc_ne] at c26
      rw [lN_int (by omega), show (1 : Int64).toInt = 1 from by decide] at c26
      refine lv_iconst (v := 1) hx hb dX11_kindOf_33 (by decide) ?_
      refine lv_goto (tgt := 56) hx hb dX11_kindOf_34 (by decide) ?_
      refine r_iret hx hb hr hlocks hW ?_ dX11_kindOf_56
      refine ⟨rfl, ?_⟩
      unfold kdN
      first
        | (rw [if_pos (by omega), if_pos (by omega)]; rfl)
        | (rw [if_pos (by omega), if_neg (by omega)]; rfl)
        | (rw [if_neg (by omega), if_pos (by omega)]; rfl)
        | (rw [if_neg (by omega), if_neg (by omega), if_pos (by omega)]; rfl)
        | (rw [if_neg (by omega), if_neg (by omega), if_neg (by omega)]; rfl)
    · skip
      rw [lc_ne] at c26
      rw [lN_int (by omega), show (1 : Int64).toInt = 1 from by decide] at c26
      refine lv_iconst (v := 5) hx hb dX11_kindOf_29 (by decide) ?_
      refine lv_goto (tgt := 56) hx hb dX11_kindOf_30 (by decide) ?_
      refine r_iret hx hb hr hlocks hW ?_ dX11_kindOf_56
      refine ⟨rfl, ?_⟩
      unfold kdN
      first
        | (rw [if_pos (by omega), if_pos (by omega)]; rfl)
        | (rw [if_pos (by omega), if_neg (by omega)]; rfl)
        | (rw [if_neg (by omega), if_pos (by omega)]; rfl)
        | (rw [if_neg (by omega), if_neg (by omega), if_pos (by omega)]; rfl)
        | (rw [if_neg (by omega), if_neg (by omega), if_neg (by omega)]; rfl)
