set_option maxHeartbeats 4000000 in
set_option maxRecDepth 100000 in
theorem t_X11_takeNumber_past (l : Launch) (D : Dc) (G : Gg) (S : Sg) (z : Nat) (hG : GrG G) (hP : GrP G S) (f : Nat) (hf1 : 1 ≤ f) (hf3 : f ≤ 3) (h12 : gi S 65 12 = nI f) (a1 a2 : Int32) : MI l yX11_takeNumber wsX11_takeNumber rmX11_takeNumber D G S z [.ref (gA G 65), .int a1, .int a2] (fun r S' => r = 0 ∧ S' = S) := by
  refine Met.ofW (cc := cX11_takeNumber) (maxL := 4) (ret := (some .int)) (by decide +kernel) rfl ?_
  intro pP eE s mM args bl mT cD s₁ bD hml hv
  obtain ⟨rfl, hv⟩ := hv
  have hz := hv.1
  subst hz
  have hx := bD.exec
  have hb := bD.bytes
  have hr := bD.returns
  have hts := atoms_spec (ws := wsX11_takeNumber) bD.pre
  have hown : s.vm.findClass RX11 = some mM.cls := findClass_of_methodNamed bD.named
  have hlocks := bD.notSynchronized
  have hW := Wd.start hv
  have hA : ∀ q, s.heap.size ≤ q → AW G s.heap.size q := fun q h => Or.inr h
  have hl := lv_entry ([.ref (gA G 65), .int a1, .int a2]) (n := 4) (Nat.le_of_ble_eq_true rfl)
  rw [lg_entry_eq]
  generalize (lg_sl ([.ref (gA G 65), .int a1, .int a2]) ++ List.replicate (4 - (lg_sl ([.ref (gA G 65), .int a1, .int a2])).length) Slot.unset).toArray = ls at hl ⊢
  have hl : lv_has ls 4 [(0, .ref (gA G 65)), (1, .int a1), (2, .int a2)] := hl
  have q0 := hts (.fieldLink RX11 109 "WoodForTwoModel" "faultOf" "I") (List.mem_of_getElem? (i := 1) rfl)
  have iX11 : ∀ w ∈ wsX110, w ∈ wsX11_takeNumber := fun _ h => List.mem_cons_of_mem _ (List.mem_append_right _ (h))
  refine lv_aload_n hx hb dX11_takeNumber_0 rfl (lv_at hl 0 rfl) ?_
  refine r_geti (ci := 10) (C := RX11) (T := TX11) (N := 20) hx hb hts iX11 hown hW rfl 65 12 rfl (g_lt hG (by decide)) (g_kd hG (by decide) rfl) (by decide) q0 (fun _ h9 => h9) (nI f) h12 rfl rfl dX11_takeNumber_1 ?_
  refine lv_if_le (tgt := 9) hx hb dX11_takeNumber_4 (by decide) (fun c4 => ?_) (fun c4 => ?_)
  · skip
    rw [t_le, show (0 : Int32).toInt = 0 from by decide] at c4
    exfalso; rw [n_toInt (by omega)] at c4; omega --stop
  · skip
    rw [t_le, show (0 : Int32).toInt = 0 from by decide] at c4
    refine lv_iconst (v := 0) hx hb dX11_takeNumber_7 (by decide) ?_
    refine r_iret hx hb hr hlocks hW ?_ dX11_takeNumber_8
    exact ⟨rfl, rfl⟩

set_option maxHeartbeats 4000000 in
set_option maxRecDepth 100000 in
theorem t_X11_takeSign_past (l : Launch) (D : Dc) (G : Gg) (S : Sg) (z : Nat) (hG : GrG G) (hP : GrP G S) (f : Nat) (hf1 : 1 ≤ f) (hf3 : f ≤ 3) (h12 : gi S 65 12 = nI f) : MV l yX11_takeSign wsX11_takeSign rmX11_takeSign D G S z [.ref (gA G 65)] (fun S' => S' = S) := by
  refine Met.ofW (cc := cX11_takeSign) (maxL := 2) (ret := none) (by decide +kernel) rfl ?_
  intro pP eE s mM args bl mT cD s₁ bD hml hv
  obtain ⟨rfl, hv⟩ := hv
  have hz := hv.1
  subst hz
  have hx := bD.exec
  have hb := bD.bytes
  have hr := bD.returns
  have hts := atoms_spec (ws := wsX11_takeSign) bD.pre
  have hown : s.vm.findClass RX11 = some mM.cls := findClass_of_methodNamed bD.named
  have hlocks := bD.notSynchronized
  have hW := Wd.start hv
  have hA : ∀ q, s.heap.size ≤ q → AW G s.heap.size q := fun q h => Or.inr h
  have hl := lv_entry ([.ref (gA G 65)]) (n := 2) (Nat.le_of_ble_eq_true rfl)
  rw [lg_entry_eq]
  generalize (lg_sl ([.ref (gA G 65)]) ++ List.replicate (2 - (lg_sl ([.ref (gA G 65)])).length) Slot.unset).toArray = ls at hl ⊢
  have hl : lv_has ls 2 [(0, .ref (gA G 65))] := hl
  have q0 := hts (.fieldLink RX11 109 "WoodForTwoModel" "faultOf" "I") (List.mem_of_getElem? (i := 1) rfl)
  have iX11 : ∀ w ∈ wsX110, w ∈ wsX11_takeSign := fun _ h => List.mem_cons_of_mem _ (List.mem_append_right _ (h))
  refine lv_aload_n hx hb dX11_takeSign_0 rfl (lv_at hl 0 rfl) ?_
  refine r_geti (ci := 10) (C := RX11) (T := TX11) (N := 20) hx hb hts iX11 hown hW rfl 65 12 rfl (g_lt hG (by decide)) (g_kd hG (by decide) rfl) (by decide) q0 (fun _ h9 => h9) (nI f) h12 rfl rfl dX11_takeSign_1 ?_
  refine lv_if_ne (tgt := 30) hx hb dX11_takeSign_4 (by decide) (fun c4 => ?_) (fun c4 => ?_)
  · skip
    rw [t_eq, show (0 : Int32).toInt = 0 from by decide] at c4
    refine r_vret hx hb hr hlocks hW ?_ dX11_takeSign_30
    rfl
  · skip
    rw [t_eq, show (0 : Int32).toInt = 0 from by decide] at c4
    exfalso; rw [n_toInt (by omega)] at c4; omega --stop

set_option maxHeartbeats 4000000 in
set_option maxRecDepth 100000 in
theorem t_X11_takeChoice_past1 (l : Launch) (D : Dc) (G : Gg) (S : Sg) (z : Nat) (hG : GrG G) (hP : GrP G S) (f : Nat) (hf1 : 1 ≤ f) (hf3 : f ≤ 3) (h12 : gi S 65 12 = nI f) : MI l yX11_takeChoice wsX11_takeChoice rmX11_takeChoice D G S z [.ref (gA G 65), .int 1] (fun r S' => r = 0 ∧ S' = S) := by
  refine Met.ofW (cc := cX11_takeChoice) (maxL := 4) (ret := (some .int)) (by decide +kernel) rfl ?_
  intro pP eE s mM args bl mT cD s₁ bD hml hv
  obtain ⟨rfl, hv⟩ := hv
  have hz := hv.1
  subst hz
  have hx := bD.exec
  have hb := bD.bytes
  have hr := bD.returns
  have hts := atoms_spec (ws := wsX11_takeChoice) bD.pre
  have hown : s.vm.findClass RX11 = some mM.cls := findClass_of_methodNamed bD.named
  have hlocks := bD.notSynchronized
  have hW := Wd.start hv
  have hA : ∀ q, s.heap.size ≤ q → AW G s.heap.size q := fun q h => Or.inr h
  have hl := lv_entry ([.ref (gA G 65), .int 1]) (n := 4) (Nat.le_of_ble_eq_true rfl)
  rw [lg_entry_eq]
  generalize (lg_sl ([.ref (gA G 65), .int 1]) ++ List.replicate (4 - (lg_sl ([.ref (gA G 65), .int 1])).length) Slot.unset).toArray = ls at hl ⊢
  have hl : lv_has ls 4 [(0, .ref (gA G 65)), (1, .int 1)] := hl
  have q0 := hts (.fieldLink RX11 109 "WoodForTwoModel" "faultOf" "I") (List.mem_of_getElem? (i := 1) rfl)
  have iX11 : ∀ w ∈ wsX110, w ∈ wsX11_takeChoice := fun _ h => List.mem_cons_of_mem _ (List.mem_append_right _ (h))
  refine lv_aload_n hx hb dX11_takeChoice_0 rfl (lv_at hl 0 rfl) ?_
  refine r_geti (ci := 10) (C := RX11) (T := TX11) (N := 20) hx hb hts iX11 hown hW rfl 65 12 rfl (g_lt hG (by decide)) (g_kd hG (by decide) rfl) (by decide) q0 (fun _ h9 => h9) (nI f) h12 rfl rfl dX11_takeChoice_1 ?_
  refine lv_if_le (tgt := 9) hx hb dX11_takeChoice_4 (by decide) (fun c4 => ?_) (fun c4 => ?_)
  · skip
    rw [t_le, show (0 : Int32).toInt = 0 from by decide] at c4
    exfalso; rw [n_toInt (by omega)] at c4; omega --stop
  · skip
    rw [t_le, show (0 : Int32).toInt = 0 from by decide] at c4
    refine lv_iconst (v := 0) hx hb dX11_takeChoice_7 (by decide) ?_
    refine r_iret hx hb hr hlocks hW ?_ dX11_takeChoice_8
    exact ⟨rfl, rfl⟩

set_option maxHeartbeats 4000000 in
set_option maxRecDepth 100000 in
theorem t_X11_takeChoice_past0 (l : Launch) (D : Dc) (G : Gg) (S : Sg) (z : Nat) (hG : GrG G) (hP : GrP G S) (f : Nat) (hf1 : 1 ≤ f) (hf3 : f ≤ 3) (h12 : gi S 65 12 = nI f) : MI l yX11_takeChoice wsX11_takeChoice rmX11_takeChoice D G S z [.ref (gA G 65), .int 0] (fun r S' => r = 0 ∧ S' = S) := by
  refine Met.ofW (cc := cX11_takeChoice) (maxL := 4) (ret := (some .int)) (by decide +kernel) rfl ?_
  intro pP eE s mM args bl mT cD s₁ bD hml hv
  obtain ⟨rfl, hv⟩ := hv
  have hz := hv.1
  subst hz
  have hx := bD.exec
  have hb := bD.bytes
  have hr := bD.returns
  have hts := atoms_spec (ws := wsX11_takeChoice) bD.pre
  have hown : s.vm.findClass RX11 = some mM.cls := findClass_of_methodNamed bD.named
  have hlocks := bD.notSynchronized
  have hW := Wd.start hv
  have hA : ∀ q, s.heap.size ≤ q → AW G s.heap.size q := fun q h => Or.inr h
  have hl := lv_entry ([.ref (gA G 65), .int 0]) (n := 4) (Nat.le_of_ble_eq_true rfl)
  rw [lg_entry_eq]
  generalize (lg_sl ([.ref (gA G 65), .int 0]) ++ List.replicate (4 - (lg_sl ([.ref (gA G 65), .int 0])).length) Slot.unset).toArray = ls at hl ⊢
  have hl : lv_has ls 4 [(0, .ref (gA G 65)), (1, .int 0)] := hl
  have q0 := hts (.fieldLink RX11 109 "WoodForTwoModel" "faultOf" "I") (List.mem_of_getElem? (i := 1) rfl)
  have iX11 : ∀ w ∈ wsX110, w ∈ wsX11_takeChoice := fun _ h => List.mem_cons_of_mem _ (List.mem_append_right _ (h))
  refine lv_aload_n hx hb dX11_takeChoice_0 rfl (lv_at hl 0 rfl) ?_
  refine r_geti (ci := 10) (C := RX11) (T := TX11) (N := 20) hx hb hts iX11 hown hW rfl 65 12 rfl (g_lt hG (by decide)) (g_kd hG (by decide) rfl) (by decide) q0 (fun _ h9 => h9) (nI f) h12 rfl rfl dX11_takeChoice_1 ?_
  refine lv_if_le (tgt := 9) hx hb dX11_takeChoice_4 (by decide) (fun c4 => ?_) (fun c4 => ?_)
  · skip
    rw [t_le, show (0 : Int32).toInt = 0 from by decide] at c4
    exfalso; rw [n_toInt (by omega)] at c4; omega --stop
  · skip
    rw [t_le, show (0 : Int32).toInt = 0 from by decide] at c4
    refine lv_iconst (v := 0) hx hb dX11_takeChoice_7 (by decide) ?_
    refine r_iret hx hb hr hlocks hW ?_ dX11_takeChoice_8
    exact ⟨rfl, rfl⟩
