def rmX10_isRow : Jvm.Room := { frames := 0, cells := 0, slots := 0, locals := 0 }
set_option maxHeartbeats 4000000 in
set_option maxRecDepth 100000 in
theorem t_X10_isRow (l : Launch) (D : Dc) (G : Gg) (S : Sg) (z : Nat) (a0 : Int32) : MI l yX10_isRow wsX10_isRow rmX10_isRow D G S z [.int a0] (fun r S' => S' = S ∧ ((r = 1 ∧ (0 ≤ a0.toInt ∧ a0.toInt < 8)) ∨ (r = 0 ∧ ¬ ((0 ≤ a0.toInt ∧ a0.toInt < 8))))) := by
  refine Met.ofW (cc := cX10_isRow) (maxL := 1) (ret := (some .boolean)) (by decide +kernel) rfl ?_
  intro pP eE s mM args bl mT cD s₁ bD hml hv
  obtain ⟨rfl, hv⟩ := hv
  have hz := hv.1
  subst hz
  have hx := bD.exec
  have hb := bD.bytes
  have hr := bD.returns
  have hts := atoms_spec (ws := wsX10_isRow) bD.pre
  have hown : s.vm.findClass RX10 = some mM.cls := findClass_of_methodNamed bD.named
  have hlocks := bD.notSynchronized
  have hW := Wd.start hv
  have hA : ∀ q, s.heap.size ≤ q → AW G s.heap.size q := fun q h => Or.inr h
  have hl := lv_entry ([.int a0]) (n := 1) (Nat.le_of_ble_eq_true rfl)
  rw [lg_entry_eq]
  generalize (lg_sl ([.int a0]) ++ List.replicate (1 - (lg_sl ([.int a0])).length) Slot.unset).toArray = ls at hl ⊢
  have hl : lv_has ls 1 [(0, .int a0)] := hl
  refine lv_iload_n hx hb dX10_isRow_0 rfl (lv_at hl 0 rfl) ?_
  refine lv_if_lt (tgt := 14) hx hb dX10_isRow_1 (by decide) (fun c1 => ?_) (fun c1 => ?_)
  · skip
    refine lv_iconst (v := 0) hx hb dX10_isRow_14 (by decide) ?_
    refine r_zret hx hb hr hlocks hW (Or.inl rfl) ?_ dX10_isRow_15
    refine ⟨rfl, Or.inr ⟨rfl, ?_⟩⟩
    simp [t_lt, t_le, t_eq] at c1 ⊢ <;> omega
  · skip
    refine lv_iload_n hx hb dX10_isRow_4 rfl (lv_at hl 0 rfl) ?_
    refine lv_bipush (v := 8) hx hb dX10_isRow_5 (by decide) ?_
    refine lv_icmp_ge (tgt := 14) hx hb dX10_isRow_7 (by decide) (fun c7 => ?_) (fun c7 => ?_)
    · skip
      refine lv_iconst (v := 0) hx hb dX10_isRow_14 (by decide) ?_
      refine r_zret hx hb hr hlocks hW (Or.inl rfl) ?_ dX10_isRow_15
      refine ⟨rfl, Or.inr ⟨rfl, ?_⟩⟩
      simp [t_lt, t_le, t_eq] at c1 c7 ⊢ <;> omega
    · skip
      refine lv_iconst (v := 1) hx hb dX10_isRow_10 (by decide) ?_
      refine lv_goto (tgt := 15) hx hb dX10_isRow_11 (by decide) ?_
      refine r_zret hx hb hr hlocks hW (Or.inr rfl) ?_ dX10_isRow_15
      refine ⟨rfl, Or.inl ⟨rfl, ?_⟩⟩
      simp [t_lt, t_le, t_eq] at c1 c7 ⊢ <;> omega

def rmX10_isLaw : Jvm.Room := { frames := 0, cells := 0, slots := 0, locals := 0 }
set_option maxHeartbeats 4000000 in
set_option maxRecDepth 100000 in
theorem t_X10_isLaw (l : Launch) (D : Dc) (G : Gg) (S : Sg) (z : Nat) (a0 : Int32) : MI l yX10_isLaw wsX10_isLaw rmX10_isLaw D G S z [.int a0] (fun r S' => S' = S ∧ ((r = 1 ∧ (0 ≤ a0.toInt ∧ a0.toInt ≤ 2)) ∨ (r = 0 ∧ ¬ ((0 ≤ a0.toInt ∧ a0.toInt ≤ 2))))) := by
  refine Met.ofW (cc := cX10_isLaw) (maxL := 1) (ret := (some .boolean)) (by decide +kernel) rfl ?_
  intro pP eE s mM args bl mT cD s₁ bD hml hv
  obtain ⟨rfl, hv⟩ := hv
  have hz := hv.1
  subst hz
  have hx := bD.exec
  have hb := bD.bytes
  have hr := bD.returns
  have hts := atoms_spec (ws := wsX10_isLaw) bD.pre
  have hown : s.vm.findClass RX10 = some mM.cls := findClass_of_methodNamed bD.named
  have hlocks := bD.notSynchronized
  have hW := Wd.start hv
  have hA : ∀ q, s.heap.size ≤ q → AW G s.heap.size q := fun q h => Or.inr h
  have hl := lv_entry ([.int a0]) (n := 1) (Nat.le_of_ble_eq_true rfl)
  rw [lg_entry_eq]
  generalize (lg_sl ([.int a0]) ++ List.replicate (1 - (lg_sl ([.int a0])).length) Slot.unset).toArray = ls at hl ⊢
  have hl : lv_has ls 1 [(0, .int a0)] := hl
  refine lv_iload_n hx hb dX10_isLaw_0 rfl (lv_at hl 0 rfl) ?_
  refine lv_if_lt (tgt := 13) hx hb dX10_isLaw_1 (by decide) (fun c1 => ?_) (fun c1 => ?_)
  · skip
    refine lv_iconst (v := 0) hx hb dX10_isLaw_13 (by decide) ?_
    refine r_zret hx hb hr hlocks hW (Or.inl rfl) ?_ dX10_isLaw_14
    refine ⟨rfl, Or.inr ⟨rfl, ?_⟩⟩
    simp [t_lt, t_le, t_eq] at c1 ⊢ <;> omega
  · skip
    refine lv_iload_n hx hb dX10_isLaw_4 rfl (lv_at hl 0 rfl) ?_
    refine lv_iconst (v := 2) hx hb dX10_isLaw_5 (by decide) ?_
    refine lv_icmp_gt (tgt := 13) hx hb dX10_isLaw_6 (by decide) (fun c6 => ?_) (fun c6 => ?_)
    · skip
      refine lv_iconst (v := 0) hx hb dX10_isLaw_13 (by decide) ?_
      refine r_zret hx hb hr hlocks hW (Or.inl rfl) ?_ dX10_isLaw_14
      refine ⟨rfl, Or.inr ⟨rfl, ?_⟩⟩
      simp [t_lt, t_le, t_eq] at c1 c6 ⊢ <;> omega
    · skip
      refine lv_iconst (v := 1) hx hb dX10_isLaw_9 (by decide) ?_
      refine lv_goto (tgt := 14) hx hb dX10_isLaw_10 (by decide) ?_
      refine r_zret hx hb hr hlocks hW (Or.inr rfl) ?_ dX10_isLaw_14
      refine ⟨rfl, Or.inl ⟨rfl, ?_⟩⟩
      simp [t_lt, t_le, t_eq] at c1 c6 ⊢ <;> omega

def rmX10_isNights : Jvm.Room := { frames := 0, cells := 0, slots := 0, locals := 0 }
set_option maxHeartbeats 4000000 in
set_option maxRecDepth 100000 in
theorem t_X10_isNights (l : Launch) (D : Dc) (G : Gg) (S : Sg) (z : Nat) (a0 : Int32) : MI l yX10_isNights wsX10_isNights rmX10_isNights D G S z [.int a0] (fun r S' => S' = S ∧ ((r = 1 ∧ (1 ≤ a0.toInt ∧ a0.toInt ≤ 8)) ∨ (r = 0 ∧ ¬ ((1 ≤ a0.toInt ∧ a0.toInt ≤ 8))))) := by
  refine Met.ofW (cc := cX10_isNights) (maxL := 1) (ret := (some .boolean)) (by decide +kernel) rfl ?_
  intro pP eE s mM args bl mT cD s₁ bD hml hv
  obtain ⟨rfl, hv⟩ := hv
  have hz := hv.1
  subst hz
  have hx := bD.exec
  have hb := bD.bytes
  have hr := bD.returns
  have hts := atoms_spec (ws := wsX10_isNights) bD.pre
  have hown : s.vm.findClass RX10 = some mM.cls := findClass_of_methodNamed bD.named
  have hlocks := bD.notSynchronized
  have hW := Wd.start hv
  have hA : ∀ q, s.heap.size ≤ q → AW G s.heap.size q := fun q h => Or.inr h
  have hl := lv_entry ([.int a0]) (n := 1) (Nat.le_of_ble_eq_true rfl)
  rw [lg_entry_eq]
  generalize (lg_sl ([.int a0]) ++ List.replicate (1 - (lg_sl ([.int a0])).length) Slot.unset).toArray = ls at hl ⊢
  have hl : lv_has ls 1 [(0, .int a0)] := hl
  refine lv_iload_n hx hb dX10_isNights_0 rfl (lv_at hl 0 rfl) ?_
  refine lv_iconst (v := 1) hx hb dX10_isNights_1 (by decide) ?_
  refine lv_icmp_lt (tgt := 15) hx hb dX10_isNights_2 (by decide) (fun c2 => ?_) (fun c2 => ?_)
  · skip
    refine lv_iconst (v := 0) hx hb dX10_isNights_15 (by decide) ?_
    refine r_zret hx hb hr hlocks hW (Or.inl rfl) ?_ dX10_isNights_16
    refine ⟨rfl, Or.inr ⟨rfl, ?_⟩⟩
    simp [t_lt, t_le, t_eq] at c2 ⊢ <;> omega
  · skip
    refine lv_iload_n hx hb dX10_isNights_5 rfl (lv_at hl 0 rfl) ?_
    refine lv_bipush (v := 8) hx hb dX10_isNights_6 (by decide) ?_
    refine lv_icmp_gt (tgt := 15) hx hb dX10_isNights_8 (by decide) (fun c8 => ?_) (fun c8 => ?_)
    · skip
      refine lv_iconst (v := 0) hx hb dX10_isNights_15 (by decide) ?_
      refine r_zret hx hb hr hlocks hW (Or.inl rfl) ?_ dX10_isNights_16
      refine ⟨rfl, Or.inr ⟨rfl, ?_⟩⟩
      simp [t_lt, t_le, t_eq] at c2 c8 ⊢ <;> omega
    · skip
      refine lv_iconst (v := 1) hx hb dX10_isNights_11 (by decide) ?_
      refine lv_goto (tgt := 16) hx hb dX10_isNights_12 (by decide) ?_
      refine r_zret hx hb hr hlocks hW (Or.inr rfl) ?_ dX10_isNights_16
      refine ⟨rfl, Or.inl ⟨rfl, ?_⟩⟩
      simp [t_lt, t_le, t_eq] at c2 c8 ⊢ <;> omega

def rmX10_isZeroOrOne : Jvm.Room := { frames := 0, cells := 0, slots := 0, locals := 0 }
set_option maxHeartbeats 4000000 in
set_option maxRecDepth 100000 in
theorem t_X10_isZeroOrOne (l : Launch) (D : Dc) (G : Gg) (S : Sg) (z : Nat) (a0 : Int32) : MI l yX10_isZeroOrOne wsX10_isZeroOrOne rmX10_isZeroOrOne D G S z [.int a0] (fun r S' => S' = S ∧ ((r = 1 ∧ (a0.toInt = 0 ∨ a0.toInt = 1)) ∨ (r = 0 ∧ ¬ ((a0.toInt = 0 ∨ a0.toInt = 1))))) := by
  refine Met.ofW (cc := cX10_isZeroOrOne) (maxL := 1) (ret := (some .boolean)) (by decide +kernel) rfl ?_
  intro pP eE s mM args bl mT cD s₁ bD hml hv
  obtain ⟨rfl, hv⟩ := hv
  have hz := hv.1
  subst hz
  have hx := bD.exec
  have hb := bD.bytes
  have hr := bD.returns
  have hts := atoms_spec (ws := wsX10_isZeroOrOne) bD.pre
  have hown : s.vm.findClass RX10 = some mM.cls := findClass_of_methodNamed bD.named
  have hlocks := bD.notSynchronized
  have hW := Wd.start hv
  have hA : ∀ q, s.heap.size ≤ q → AW G s.heap.size q := fun q h => Or.inr h
  have hl := lv_entry ([.int a0]) (n := 1) (Nat.le_of_ble_eq_true rfl)
  rw [lg_entry_eq]
  generalize (lg_sl ([.int a0]) ++ List.replicate (1 - (lg_sl ([.int a0])).length) Slot.unset).toArray = ls at hl ⊢
  have hl : lv_has ls 1 [(0, .int a0)] := hl
  refine lv_iload_n hx hb dX10_isZeroOrOne_0 rfl (lv_at hl 0 rfl) ?_
  refine lv_if_eq (tgt := 9) hx hb dX10_isZeroOrOne_1 (by decide) (fun c1 => ?_) (fun c1 => ?_)
  · skip
    refine lv_iconst (v := 1) hx hb dX10_isZeroOrOne_9 (by decide) ?_
    refine lv_goto (tgt := 14) hx hb dX10_isZeroOrOne_10 (by decide) ?_
    refine r_zret hx hb hr hlocks hW (Or.inr rfl) ?_ dX10_isZeroOrOne_14
    refine ⟨rfl, Or.inl ⟨rfl, ?_⟩⟩
    simp [t_lt, t_le, t_eq] at c1 ⊢ <;> omega
  · skip
    refine lv_iload_n hx hb dX10_isZeroOrOne_4 rfl (lv_at hl 0 rfl) ?_
    refine lv_iconst (v := 1) hx hb dX10_isZeroOrOne_5 (by decide) ?_
    refine lv_icmp_ne (tgt := 13) hx hb dX10_isZeroOrOne_6 (by decide) (fun c6 => ?_) (fun c6 => ?_)
    · skip
      refine lv_iconst (v := 0) hx hb dX10_isZeroOrOne_13 (by decide) ?_
      refine r_zret hx hb hr hlocks hW (Or.inl rfl) ?_ dX10_isZeroOrOne_14
      refine ⟨rfl, Or.inr ⟨rfl, ?_⟩⟩
      simp [t_lt, t_le, t_eq] at c1 c6 ⊢ <;> omega
    · skip
      refine lv_iconst (v := 1) hx hb dX10_isZeroOrOne_9 (by decide) ?_
      refine lv_goto (tgt := 14) hx hb dX10_isZeroOrOne_10 (by decide) ?_
      refine r_zret hx hb hr hlocks hW (Or.inr rfl) ?_ dX10_isZeroOrOne_14
      refine ⟨rfl, Or.inl ⟨rfl, ?_⟩⟩
      simp [t_lt, t_le, t_eq] at c1 c6 ⊢ <;> omega

def rmX10_isWood : Jvm.Room := { frames := 0, cells := 0, slots := 0, locals := 0 }
set_option maxHeartbeats 4000000 in
set_option maxRecDepth 100000 in
theorem t_X10_isWood (l : Launch) (D : Dc) (G : Gg) (S : Sg) (z : Nat) (a0 : Int32) : MI l yX10_isWood wsX10_isWood rmX10_isWood D G S z [.int a0] (fun r S' => S' = S ∧ ((r = 1 ∧ (0 ≤ a0.toInt ∧ a0.toInt ≤ 999)) ∨ (r = 0 ∧ ¬ ((0 ≤ a0.toInt ∧ a0.toInt ≤ 999))))) := by
  refine Met.ofW (cc := cX10_isWood) (maxL := 1) (ret := (some .boolean)) (by decide +kernel) rfl ?_
  intro pP eE s mM args bl mT cD s₁ bD hml hv
  obtain ⟨rfl, hv⟩ := hv
  have hz := hv.1
  subst hz
  have hx := bD.exec
  have hb := bD.bytes
  have hr := bD.returns
  have hts := atoms_spec (ws := wsX10_isWood) bD.pre
  have hown : s.vm.findClass RX10 = some mM.cls := findClass_of_methodNamed bD.named
  have hlocks := bD.notSynchronized
  have hW := Wd.start hv
  have hA : ∀ q, s.heap.size ≤ q → AW G s.heap.size q := fun q h => Or.inr h
  have hl := lv_entry ([.int a0]) (n := 1) (Nat.le_of_ble_eq_true rfl)
  rw [lg_entry_eq]
  generalize (lg_sl ([.int a0]) ++ List.replicate (1 - (lg_sl ([.int a0])).length) Slot.unset).toArray = ls at hl ⊢
  have hl : lv_has ls 1 [(0, .int a0)] := hl
  refine lv_iload_n hx hb dX10_isWood_0 rfl (lv_at hl 0 rfl) ?_
  refine lv_if_lt (tgt := 15) hx hb dX10_isWood_1 (by decide) (fun c1 => ?_) (fun c1 => ?_)
  · skip
    refine lv_iconst (v := 0) hx hb dX10_isWood_15 (by decide) ?_
    refine r_zret hx hb hr hlocks hW (Or.inl rfl) ?_ dX10_isWood_16
    refine ⟨rfl, Or.inr ⟨rfl, ?_⟩⟩
    simp [t_lt, t_le, t_eq] at c1 ⊢ <;> omega
  · skip
    refine lv_iload_n hx hb dX10_isWood_4 rfl (lv_at hl 0 rfl) ?_
    refine lv_sipush (v := 999) hx hb dX10_isWood_5 (by decide) ?_
    refine lv_icmp_gt (tgt := 15) hx hb dX10_isWood_8 (by decide) (fun c8 => ?_) (fun c8 => ?_)
    · skip
      refine lv_iconst (v := 0) hx hb dX10_isWood_15 (by decide) ?_
      refine r_zret hx hb hr hlocks hW (Or.inl rfl) ?_ dX10_isWood_16
      refine ⟨rfl, Or.inr ⟨rfl, ?_⟩⟩
      simp [t_lt, t_le, t_eq] at c1 c8 ⊢ <;> omega
    · skip
      refine lv_iconst (v := 1) hx hb dX10_isWood_11 (by decide) ?_
      refine lv_goto (tgt := 16) hx hb dX10_isWood_12 (by decide) ?_
      refine r_zret hx hb hr hlocks hW (Or.inr rfl) ?_ dX10_isWood_16
      refine ⟨rfl, Or.inl ⟨rfl, ?_⟩⟩
      simp [t_lt, t_le, t_eq] at c1 c8 ⊢ <;> omega

def rmX8_empty : Jvm.Room := { frames := 0, cells := 0, slots := 0, locals := 0 }
set_option maxHeartbeats 4000000 in
set_option maxRecDepth 100000 in
theorem t_X8_empty (l : Launch) (D : Dc) (G : Gg) (S : Sg) (z : Nat) (hG : GrG G) (hP : GrP G S) : MV l yX8_empty wsX8_empty rmX8_empty D G S z [.ref (gA G 30)] (fun S' => S' = ri S 30 (va_up (gi S 30) 1 0)) := by
  refine Met.ofW (cc := cX8_empty) (maxL := 1) (ret := none) (by decide +kernel) rfl ?_
  intro pP eE s mM args bl mT cD s₁ bD hml hv
  obtain ⟨rfl, hv⟩ := hv
  have hz := hv.1
  subst hz
  have hx := bD.exec
  have hb := bD.bytes
  have hr := bD.returns
  have hts := atoms_spec (ws := wsX8_empty) bD.pre
  have hown : s.vm.findClass RX8 = some mM.cls := findClass_of_methodNamed bD.named
  have hlocks := bD.notSynchronized
  have hW := Wd.start hv
  have hA : ∀ q, s.heap.size ≤ q → AW G s.heap.size q := fun q h => Or.inr h
  have hl := lv_entry ([.ref (gA G 30)]) (n := 1) (Nat.le_of_ble_eq_true rfl)
  rw [lg_entry_eq]
  generalize (lg_sl ([.ref (gA G 30)]) ++ List.replicate (1 - (lg_sl ([.ref (gA G 30)])).length) Slot.unset).toArray = ls at hl ⊢
  have hl : lv_has ls 1 [(0, .ref (gA G 30))] := hl
  have q0 := hts (.fieldLink RX8 15 "WoodForTwo$Trace" "length" "I") (List.mem_of_getElem? (i := 1) rfl)
  have iX8 : ∀ w ∈ wsX80, w ∈ wsX8_empty := fun _ h => List.mem_cons_of_mem _ (List.mem_append_right _ (h))
  refine lv_aload_n hx hb dX8_empty_0 rfl (lv_at hl 0 rfl) ?_
  refine lv_iconst (v := 0) hx hb dX8_empty_1 (by decide) ?_
  refine r_puti (ci := 7) (C := RX8) (T := TX8) (N := 2) hx hb hts iX8 tyX8 tyX8_ok nmX8 hown hW rfl 30 1 rfl (g_lt hG (by decide)) (g_kd hG (by decide) rfl) (by decide) q0 (fun _ h9 => h9) rfl (tyX8_ok 1 (by decide)) rfl rfl (ri S 30 (va_up (gi S 30) 1 0)) (gi S 30) (va_up (gi S 30) 1 0) rfl (e_is _ _ _) rfl rfl rfl (Nat.le_of_ble_eq_true rfl) rfl c_i0 dX8_empty_2 (fun H locs hW => ?_)
  refine r_vret hx hb hr hlocks hW ?_ dX8_empty_5
  rfl

/-- a body begins: its number into the trace -/
def bgN (n : Int32) : Int32 := if n.toInt < 16 then n + 1 else n
def bgR (r : Nat → Int32) (n b : Int32) : Nat → Int32 := if n.toInt < 16 then va_up r n.toNatClampNeg b else r
def trc (S : Sg) (b : Int32) : Sg := ri (ri S 31 (bgR (gi S 31) (gi S 30 1) b)) 30 (va_up (gi S 30) 1 (bgN (gi S 30 1)))
theorem trc_i {S : Sg} {b : Int32} {k : Nat} (h30 : k ≠ 30) (h31 : k ≠ 31) : gi (trc S b) k = gi S k := by unfold trc; rw [gi_ri, up_n _ _ h30, gi_ri, up_n _ _ h31]
theorem trc_p (S : Sg) (b : Int32) : gp (trc S b) = gp S := rfl
theorem trc_j (S : Sg) (b : Int32) : gj (trc S b) = gj S := rfl
def rmX8_begin : Jvm.Room := { frames := 0, cells := 0, slots := 0, locals := 0 }
set_option maxHeartbeats 4000000 in
set_option maxRecDepth 100000 in
theorem t_X8_begin (l : Launch) (D : Dc) (G : Gg) (S : Sg) (z : Nat) (hG : GrG G) (hP : GrP G S) (a1 : Int32) (h0 : 0 ≤ (gi S 30 1).toInt) : MV l yX8_begin wsX8_begin rmX8_begin D G S z [.ref (gA G 30), .int a1] (fun S' => S' = trc S a1) := by
  refine Met.ofW (cc := cX8_begin) (maxL := 2) (ret := none) (by decide +kernel) rfl ?_
  intro pP eE s mM args bl mT cD s₁ bD hml hv
  obtain ⟨rfl, hv⟩ := hv
  have hz := hv.1
  subst hz
  have hx := bD.exec
  have hb := bD.bytes
  have hr := bD.returns
  have hts := atoms_spec (ws := wsX8_begin) bD.pre
  have hown : s.vm.findClass RX8 = some mM.cls := findClass_of_methodNamed bD.named
  have hlocks := bD.notSynchronized
  have hW := Wd.start hv
  have hA : ∀ q, s.heap.size ≤ q → AW G s.heap.size q := fun q h => Or.inr h
  have hl := lv_entry ([.ref (gA G 30), .int a1]) (n := 2) (Nat.le_of_ble_eq_true rfl)
  rw [lg_entry_eq]
  generalize (lg_sl ([.ref (gA G 30), .int a1]) ++ List.replicate (2 - (lg_sl ([.ref (gA G 30), .int a1])).length) Slot.unset).toArray = ls at hl ⊢
  have hl : lv_has ls 2 [(0, .ref (gA G 30)), (1, .int a1)] := hl
  have q0 := hts (.fieldLink RX8 15 "WoodForTwo$Trace" "length" "I") (List.mem_of_getElem? (i := 1) rfl)
  have q1 := hts (.fieldLink RX8 9 "WoodForTwo$Trace" "numbers" "[I") (List.mem_of_getElem? (i := 2) rfl)
  have iX8 : ∀ w ∈ wsX80, w ∈ wsX8_begin := fun _ h => List.mem_cons_of_mem _ (List.mem_append_right _ (h))
  refine lv_aload_n hx hb dX8_begin_0 rfl (lv_at hl 0 rfl) ?_
  refine r_geti (ci := 7) (C := RX8) (T := TX8) (N := 2) hx hb hts iX8 hown hW rfl 30 1 rfl (g_lt hG (by decide)) (g_kd hG (by decide) rfl) (by decide) q0 (fun _ h9 => h9) (gi S 30 1) rfl rfl rfl dX8_begin_1 ?_
  refine lv_bipush (v := 16) hx hb dX8_begin_4 (by decide) ?_
  refine lv_icmp_ge (tgt := 29) hx hb dX8_begin_6 (by decide) (fun c6 => ?_) (fun c6 => ?_)
  · skip
    refine r_vret hx hb hr hlocks hW ?_ dX8_begin_29
    simp [t_lt, t_le] at c6
    unfold trc bgR bgN
    rw [if_neg (by omega), if_neg (by omega), up_id, ri_id, ri_id]
  · skip
    refine lv_aload_n hx hb dX8_begin_9 rfl (lv_at hl 0 rfl) ?_
    refine r_getr (ci := 7) (C := RX8) (T := TX8) (N := 2) hx hb hts iX8 hown hW rfl 30 0 rfl (g_lt hG (by decide)) (g_kd hG (by decide) rfl) (by decide) q1 (fun _ h9 => h9) (hP _ (List.mem_of_getElem? (i := 29) rfl)) rfl rfl dX8_begin_10 ?_
    refine lv_aload_n hx hb dX8_begin_13 rfl (lv_at hl 0 rfl) ?_
    refine r_geti (ci := 7) (C := RX8) (T := TX8) (N := 2) hx hb hts iX8 hown hW rfl 30 1 rfl (g_lt hG (by decide)) (g_kd hG (by decide) rfl) (by decide) q0 (fun _ h9 => h9) (gi S 30 1) rfl rfl rfl dX8_begin_14 ?_
    refine lv_iload_n hx hb dX8_begin_17 rfl (lv_at hl 1 rfl) ?_
    refine r_iast hx hb hW 31 rfl (g_lt hG (by decide)) (g_kd hG (by decide) rfl) (g_ix hG (c := 16) (by decide) rfl (t_in h0 (by simp [t_lt, t_le] at c6; omega))) (ri S 31 (va_up (gi S 31) ((gi S 30 1)).toNatClampNeg a1)) (gi S 31) rfl (e_is _ _ _) rfl rfl c_i0 dX8_begin_18 (fun H locs hW => ?_)
    refine lv_aload_n hx hb dX8_begin_19 rfl (lv_at hl 0 rfl) ?_
    refine lv_dup hx hb dX8_begin_20 rfl ?_
    refine r_geti (ci := 7) (C := RX8) (T := TX8) (N := 2) hx hb hts iX8 hown hW rfl 30 1 rfl (g_lt hG (by decide)) (g_kd hG (by decide) rfl) (by decide) q0 (fun _ h9 => h9) (gi S 30 1) (congrFun (e_in (by decide) rfl) 1) rfl rfl dX8_begin_21 ?_
    refine lv_iconst (v := 1) hx hb dX8_begin_24 (by decide) ?_
    refine lv_iadd hx hb dX8_begin_25 ?_
    refine r_puti (ci := 7) (C := RX8) (T := TX8) (N := 2) hx hb hts iX8 tyX8 tyX8_ok nmX8 hown hW rfl 30 1 rfl (g_lt hG (by decide)) (g_kd hG (by decide) rfl) (by decide) q0 (fun _ h9 => h9) rfl (tyX8_ok 1 (by decide)) rfl rfl (ri (ri S 31 (va_up (gi S 31) ((gi S 30 1)).toNatClampNeg a1)) 30 (va_up (gi S 30) 1 ((gi S 30 1) + 1))) (gi S 30) (va_up (gi S 30) 1 ((gi S 30 1) + 1)) (e_in (by decide) rfl) (e_is _ _ _) rfl rfl rfl (Nat.le_of_ble_eq_true rfl) rfl c_i0 dX8_begin_26 (fun H locs hW => ?_)
    refine r_vret hx hb hr hlocks hW ?_ dX8_begin_29
    simp [t_lt, t_le] at c6
    unfold trc bgR bgN
    rw [if_pos (by omega), if_pos (by omega)]

def rmX8_numberAt : Jvm.Room := { frames := 0, cells := 0, slots := 0, locals := 0 }
set_option maxHeartbeats 4000000 in
set_option maxRecDepth 100000 in
theorem t_X8_numberAt (l : Launch) (D : Dc) (G : Gg) (S : Sg) (z : Nat) (hG : GrG G) (hP : GrP G S) (a1 : Int32) (h0 : (gi S 30 1).toInt ≤ 16) : MI l yX8_numberAt wsX8_numberAt rmX8_numberAt D G S z [.ref (gA G 30), .int a1] (fun r S' => S' = S ∧ r = if 0 ≤ a1.toInt ∧ a1.toInt < (gi S 30 1).toInt then gi S 31 a1.toNatClampNeg else -1000000) := by
  refine Met.ofW (cc := cX8_numberAt) (maxL := 2) (ret := (some .int)) (by decide +kernel) rfl ?_
  intro pP eE s mM args bl mT cD s₁ bD hml hv
  obtain ⟨rfl, hv⟩ := hv
  have hz := hv.1
  subst hz
  have hx := bD.exec
  have hb := bD.bytes
  have hr := bD.returns
  have hts := atoms_spec (ws := wsX8_numberAt) bD.pre
  have hown : s.vm.findClass RX8 = some mM.cls := findClass_of_methodNamed bD.named
  have hlocks := bD.notSynchronized
  have hW := Wd.start hv
  have hA : ∀ q, s.heap.size ≤ q → AW G s.heap.size q := fun q h => Or.inr h
  have hl := lv_entry ([.ref (gA G 30), .int a1]) (n := 2) (Nat.le_of_ble_eq_true rfl)
  rw [lg_entry_eq]
  generalize (lg_sl ([.ref (gA G 30), .int a1]) ++ List.replicate (2 - (lg_sl ([.ref (gA G 30), .int a1])).length) Slot.unset).toArray = ls at hl ⊢
  have hl : lv_has ls 2 [(0, .ref (gA G 30)), (1, .int a1)] := hl
  have q0 := hts (.constant RX8 19 (-1000000)) (List.mem_of_getElem? (i := 3) rfl)
  have q1 := hts (.fieldLink RX8 15 "WoodForTwo$Trace" "length" "I") (List.mem_of_getElem? (i := 1) rfl)
  have q2 := hts (.fieldLink RX8 9 "WoodForTwo$Trace" "numbers" "[I") (List.mem_of_getElem? (i := 2) rfl)
  have iX8 : ∀ w ∈ wsX80, w ∈ wsX8_numberAt := fun _ h => List.mem_cons_of_mem _ (List.mem_append_right _ (h))
  refine lv_iload_n hx hb dX8_numberAt_0 rfl (lv_at hl 1 rfl) ?_
  refine lv_if_lt (tgt := 21) hx hb dX8_numberAt_1 (by decide) (fun c1 => ?_) (fun c1 => ?_)
  · skip
    refine lv_ldc (v := (-1000000)) hx hb hown q0 dX8_numberAt_21 ?_
    refine r_iret hx hb hr hlocks hW ?_ dX8_numberAt_23
    refine ⟨rfl, ?_⟩
    simp [t_lt, t_le] at c1
    first | rw [if_pos (by omega)] | rw [if_neg (by omega)]
  · skip
    refine lv_iload_n hx hb dX8_numberAt_4 rfl (lv_at hl 1 rfl) ?_
    refine lv_aload_n hx hb dX8_numberAt_5 rfl (lv_at hl 0 rfl) ?_
    refine r_geti (ci := 7) (C := RX8) (T := TX8) (N := 2) hx hb hts iX8 hown hW rfl 30 1 rfl (g_lt hG (by decide)) (g_kd hG (by decide) rfl) (by decide) q1 (fun _ h9 => h9) (gi S 30 1) rfl rfl rfl dX8_numberAt_6 ?_
    refine lv_icmp_ge (tgt := 21) hx hb dX8_numberAt_9 (by decide) (fun c9 => ?_) (fun c9 => ?_)
    · skip
      refine lv_ldc (v := (-1000000)) hx hb hown q0 dX8_numberAt_21 ?_
      refine r_iret hx hb hr hlocks hW ?_ dX8_numberAt_23
      refine ⟨rfl, ?_⟩
      simp [t_lt, t_le] at c1 c9
      first | rw [if_pos (by omega)] | rw [if_neg (by omega)]
    · skip
      refine lv_aload_n hx hb dX8_numberAt_12 rfl (lv_at hl 0 rfl) ?_
      refine r_getr (ci := 7) (C := RX8) (T := TX8) (N := 2) hx hb hts iX8 hown hW rfl 30 0 rfl (g_lt hG (by decide)) (g_kd hG (by decide) rfl) (by decide) q2 (fun _ h9 => h9) (hP _ (List.mem_of_getElem? (i := 29) rfl)) rfl rfl dX8_numberAt_13 ?_
      refine lv_iload_n hx hb dX8_numberAt_16 rfl (lv_at hl 1 rfl) ?_
      refine r_iald hx hb hW 31 rfl (g_lt hG (by decide)) (g_kd hG (by decide) rfl) (g_ix hG (c := 16) (by decide) rfl (t_in (by simp [t_lt, t_le] at c1; omega) (by simp [t_lt, t_le] at c9; omega))) ((gi S 31) (a1).toNatClampNeg) rfl dX8_numberAt_17 ?_
      refine lv_goto (tgt := 23) hx hb dX8_numberAt_18 (by decide) ?_
      refine r_iret hx hb hr hlocks hW ?_ dX8_numberAt_23
      refine ⟨rfl, ?_⟩
      simp [t_lt, t_le] at c1 c9
      first | rw [if_pos (by omega)] | rw [if_neg (by omega)]
