/-! the parties are made -/
def rmX4_init : Jvm.Room := { frames := 1, cells := 0, slots := 0, locals := 12 }
set_option maxHeartbeats 4000000 in
set_option maxRecDepth 100000 in
theorem t_X4_init_X1 (l : Launch) (D : Dc) (G : Gg) (S : Sg) (z : Nat) (k : Nat) (hk : k < gN G) (hkd : gK G k = 1) (a1 a2 a3 : Int32) : MV l yX4_init wsX4_init rmX4_init D G S z [.ref (gA G k), .int a1, .int a2, .int a3] (fun S' => S' = ri S k (va_up (va_up (va_up (gi S k) 0 a1) 1 a2) 2 a3)) := by
  refine Met.ofW (cc := cX4_init) (maxL := 4) (ret := none) (by decide +kernel) rfl ?_
  intro pP eE s mM args bl mT cD s₁ bD hml hv
  obtain ⟨rfl, hv⟩ := hv
  have hz := hv.1
  subst hz
  have hx := bD.exec
  have hb := bD.bytes
  have hr := bD.returns
  have hts := atoms_spec (ws := wsX4_init) bD.pre
  have hown : s.vm.findClass RX4 = some mM.cls := findClass_of_methodNamed bD.named
  have hlocks := bD.notSynchronized
  have hin : mT.name = "<init>" := (name_of_methodNamed bD.named bD.method).1
  have hW := Wd.start hv
  have hA : ∀ q, s.heap.size ≤ q → AW G s.heap.size q := fun q h => Or.inr h
  have hl := lv_entry ([.ref (gA G k), .int a1, .int a2, .int a3]) (n := 4) (Nat.le_of_ble_eq_true rfl)
  rw [lg_entry_eq]
  generalize (lg_sl ([.ref (gA G k), .int a1, .int a2, .int a3]) ++ List.replicate (4 - (lg_sl ([.ref (gA G k), .int a1, .int a2, .int a3])).length) Slot.unset).toArray = ls at hl ⊢
  have hl : lv_has ls 4 [(0, .ref (gA G k)), (1, .int a1), (2, .int a2), (3, .int a3)] := hl
  have q0 := hts (.methodLink RX4 1 objectInit) (List.mem_of_getElem? (i := 1) rfl)
  have q1 := hts (.instanceMethod objectInit) (List.mem_of_getElem? (i := 2) rfl)
  have q2 := hts (.code objectInit ⟨#[0xb1]⟩ 1 none) (List.mem_of_getElem? (i := 3) rfl)
  have q3 := hts (.fieldLink RX4 7 "WoodForTwo$Party" "number" "I") (List.mem_of_getElem? (i := 4) rfl)
  have q4 := hts (.fieldLink RX4 13 "WoodForTwo$Party" "heads" "I") (List.mem_of_getElem? (i := 5) rfl)
  have q5 := hts (.fieldLink RX4 16 "WoodForTwo$Party" "toil" "I") (List.mem_of_getElem? (i := 6) rfl)
  have iX1 : ∀ w ∈ wsX10, w ∈ wsX4_init := fun _ h => List.mem_cons_of_mem _ (List.mem_append_left _ (List.mem_append_left _ (List.mem_append_left _ (List.mem_append_left _ (List.mem_append_right _ (h))))))
  refine lv_aload_n hx hb dX4_init_0 rfl (lv_at hl 0 rfl) ?_
  refine W.objInit hx hb hown q0 q1 q2 rfl (by rw [hml]; exact hl.1) rfl dX4_init_1 (Nat.le_of_ble_eq_true rfl) (Nat.le_of_ble_eq_true rfl) ?_
  refine W.eq (g2 := F0 mM 4 ls []) rfl ?_
  refine lv_aload_n hx hb dX4_init_4 rfl (lv_at hl 0 rfl) ?_
  refine lv_iload_n hx hb dX4_init_5 rfl (lv_at hl 1 rfl) ?_
  refine r_putiF (ci := 1) (C := RX1) (T := TX1) (N := 3) hx hb hts iX1 tyX1 tyX1_ok nmX1 hown hW rfl k 0 rfl hk hkd (by decide) q3 (fun _ h9 => h9) rfl hin rfl (tyX1_ok 0 (by decide)) rfl rfl (ri S k (va_up (gi S k) 0 a1)) (gi S k) (va_up (gi S k) 0 a1) rfl (e_is _ _ _) rfl rfl rfl (Nat.le_of_ble_eq_true rfl) rfl c_i0 dX4_init_6 (fun H locs hW => ?_)
  refine lv_aload_n hx hb dX4_init_9 rfl (lv_at hl 0 rfl) ?_
  refine lv_iload_n hx hb dX4_init_10 rfl (lv_at hl 2 rfl) ?_
  refine r_putiF (ci := 1) (C := RX1) (T := TX1) (N := 3) hx hb hts iX1 tyX1 tyX1_ok nmX1 hown hW rfl k 1 rfl hk hkd (by decide) q4 (fun _ h9 => h9) rfl hin rfl (tyX1_ok 1 (by decide)) rfl rfl (ri S k (va_up (va_up (gi S k) 0 a1) 1 a2)) (va_up (gi S k) 0 a1) (va_up (va_up (gi S k) 0 a1) 1 a2) (e_is _ _ _) (e_is _ _ _) rfl rfl rfl (Nat.le_of_ble_eq_true rfl) rfl c_i dX4_init_11 (fun H locs hW => ?_)
  refine lv_aload_n hx hb dX4_init_14 rfl (lv_at hl 0 rfl) ?_
  refine lv_iload_n hx hb dX4_init_15 rfl (lv_at hl 3 rfl) ?_
  refine r_putiF (ci := 1) (C := RX1) (T := TX1) (N := 3) hx hb hts iX1 tyX1 tyX1_ok nmX1 hown hW rfl k 2 rfl hk hkd (by decide) q5 (fun _ h9 => h9) rfl hin rfl (tyX1_ok 2 (by decide)) rfl rfl (ri S k (va_up (va_up (va_up (gi S k) 0 a1) 1 a2) 2 a3)) (va_up (va_up (gi S k) 0 a1) 1 a2) (va_up (va_up (va_up (gi S k) 0 a1) 1 a2) 2 a3) (e_is _ _ _) (e_is _ _ _) rfl rfl rfl (Nat.le_of_ble_eq_true rfl) rfl c_i dX4_init_16 (fun H locs hW => ?_)
  refine r_vret hx hb hr hlocks hW ?_ dX4_init_19
  rfl

set_option maxHeartbeats 4000000 in
set_option maxRecDepth 100000 in
theorem t_X4_init_X2 (l : Launch) (D : Dc) (G : Gg) (S : Sg) (z : Nat) (k : Nat) (hk : k < gN G) (hkd : gK G k = 2) (a1 a2 a3 : Int32) : MV l yX4_init wsX4_init rmX4_init D G S z [.ref (gA G k), .int a1, .int a2, .int a3] (fun S' => S' = ri S k (va_up (va_up (va_up (gi S k) 0 a1) 1 a2) 2 a3)) := by
  refine Met.ofW (cc := cX4_init) (maxL := 4) (ret := none) (by decide +kernel) rfl ?_
  intro pP eE s mM args bl mT cD s₁ bD hml hv
  obtain ⟨rfl, hv⟩ := hv
  have hz := hv.1
  subst hz
  have hx := bD.exec
  have hb := bD.bytes
  have hr := bD.returns
  have hts := atoms_spec (ws := wsX4_init) bD.pre
  have hown : s.vm.findClass RX4 = some mM.cls := findClass_of_methodNamed bD.named
  have hlocks := bD.notSynchronized
  have hin : mT.name = "<init>" := (name_of_methodNamed bD.named bD.method).1
  have hW := Wd.start hv
  have hA : ∀ q, s.heap.size ≤ q → AW G s.heap.size q := fun q h => Or.inr h
  have hl := lv_entry ([.ref (gA G k), .int a1, .int a2, .int a3]) (n := 4) (Nat.le_of_ble_eq_true rfl)
  rw [lg_entry_eq]
  generalize (lg_sl ([.ref (gA G k), .int a1, .int a2, .int a3]) ++ List.replicate (4 - (lg_sl ([.ref (gA G k), .int a1, .int a2, .int a3])).length) Slot.unset).toArray = ls at hl ⊢
  have hl : lv_has ls 4 [(0, .ref (gA G k)), (1, .int a1), (2, .int a2), (3, .int a3)] := hl
  have q0 := hts (.methodLink RX4 1 objectInit) (List.mem_of_getElem? (i := 1) rfl)
  have q1 := hts (.instanceMethod objectInit) (List.mem_of_getElem? (i := 2) rfl)
  have q2 := hts (.code objectInit ⟨#[0xb1]⟩ 1 none) (List.mem_of_getElem? (i := 3) rfl)
  have q3 := hts (.fieldLink RX4 7 "WoodForTwo$Party" "number" "I") (List.mem_of_getElem? (i := 4) rfl)
  have q4 := hts (.fieldLink RX4 13 "WoodForTwo$Party" "heads" "I") (List.mem_of_getElem? (i := 5) rfl)
  have q5 := hts (.fieldLink RX4 16 "WoodForTwo$Party" "toil" "I") (List.mem_of_getElem? (i := 6) rfl)
  have iX2 : ∀ w ∈ wsX20, w ∈ wsX4_init := fun _ h => List.mem_cons_of_mem _ (List.mem_append_left _ (List.mem_append_left _ (List.mem_append_left _ (List.mem_append_right _ (h)))))
  refine lv_aload_n hx hb dX4_init_0 rfl (lv_at hl 0 rfl) ?_
  refine W.objInit hx hb hown q0 q1 q2 rfl (by rw [hml]; exact hl.1) rfl dX4_init_1 (Nat.le_of_ble_eq_true rfl) (Nat.le_of_ble_eq_true rfl) ?_
  refine W.eq (g2 := F0 mM 4 ls []) rfl ?_
  refine lv_aload_n hx hb dX4_init_4 rfl (lv_at hl 0 rfl) ?_
  refine lv_iload_n hx hb dX4_init_5 rfl (lv_at hl 1 rfl) ?_
  refine r_putiF (ci := 2) (C := RX2) (T := TX2) (N := 3) hx hb hts iX2 tyX2 tyX2_ok nmX2 hown hW rfl k 0 rfl hk hkd (by decide) q3 (fun _ h9 => h9) rfl hin rfl (tyX2_ok 0 (by decide)) rfl rfl (ri S k (va_up (gi S k) 0 a1)) (gi S k) (va_up (gi S k) 0 a1) rfl (e_is _ _ _) rfl rfl rfl (Nat.le_of_ble_eq_true rfl) rfl c_i0 dX4_init_6 (fun H locs hW => ?_)
  refine lv_aload_n hx hb dX4_init_9 rfl (lv_at hl 0 rfl) ?_
  refine lv_iload_n hx hb dX4_init_10 rfl (lv_at hl 2 rfl) ?_
  refine r_putiF (ci := 2) (C := RX2) (T := TX2) (N := 3) hx hb hts iX2 tyX2 tyX2_ok nmX2 hown hW rfl k 1 rfl hk hkd (by decide) q4 (fun _ h9 => h9) rfl hin rfl (tyX2_ok 1 (by decide)) rfl rfl (ri S k (va_up (va_up (gi S k) 0 a1) 1 a2)) (va_up (gi S k) 0 a1) (va_up (va_up (gi S k) 0 a1) 1 a2) (e_is _ _ _) (e_is _ _ _) rfl rfl rfl (Nat.le_of_ble_eq_true rfl) rfl c_i dX4_init_11 (fun H locs hW => ?_)
  refine lv_aload_n hx hb dX4_init_14 rfl (lv_at hl 0 rfl) ?_
  refine lv_iload_n hx hb dX4_init_15 rfl (lv_at hl 3 rfl) ?_
  refine r_putiF (ci := 2) (C := RX2) (T := TX2) (N := 3) hx hb hts iX2 tyX2 tyX2_ok nmX2 hown hW rfl k 2 rfl hk hkd (by decide) q5 (fun _ h9 => h9) rfl hin rfl (tyX2_ok 2 (by decide)) rfl rfl (ri S k (va_up (va_up (va_up (gi S k) 0 a1) 1 a2) 2 a3)) (va_up (va_up (gi S k) 0 a1) 1 a2) (va_up (va_up (va_up (gi S k) 0 a1) 1 a2) 2 a3) (e_is _ _ _) (e_is _ _ _) rfl rfl rfl (Nat.le_of_ble_eq_true rfl) rfl c_i dX4_init_16 (fun H locs hW => ?_)
  refine r_vret hx hb hr hlocks hW ?_ dX4_init_19
  rfl

set_option maxHeartbeats 4000000 in
set_option maxRecDepth 100000 in
theorem t_X4_init_X3 (l : Launch) (D : Dc) (G : Gg) (S : Sg) (z : Nat) (k : Nat) (hk : k < gN G) (hkd : gK G k = 3) (a1 a2 a3 : Int32) : MV l yX4_init wsX4_init rmX4_init D G S z [.ref (gA G k), .int a1, .int a2, .int a3] (fun S' => S' = ri S k (va_up (va_up (va_up (gi S k) 0 a1) 1 a2) 2 a3)) := by
  refine Met.ofW (cc := cX4_init) (maxL := 4) (ret := none) (by decide +kernel) rfl ?_
  intro pP eE s mM args bl mT cD s₁ bD hml hv
  obtain ⟨rfl, hv⟩ := hv
  have hz := hv.1
  subst hz
  have hx := bD.exec
  have hb := bD.bytes
  have hr := bD.returns
  have hts := atoms_spec (ws := wsX4_init) bD.pre
  have hown : s.vm.findClass RX4 = some mM.cls := findClass_of_methodNamed bD.named
  have hlocks := bD.notSynchronized
  have hin : mT.name = "<init>" := (name_of_methodNamed bD.named bD.method).1
  have hW := Wd.start hv
  have hA : ∀ q, s.heap.size ≤ q → AW G s.heap.size q := fun q h => Or.inr h
  have hl := lv_entry ([.ref (gA G k), .int a1, .int a2, .int a3]) (n := 4) (Nat.le_of_ble_eq_true rfl)
  rw [lg_entry_eq]
  generalize (lg_sl ([.ref (gA G k), .int a1, .int a2, .int a3]) ++ List.replicate (4 - (lg_sl ([.ref (gA G k), .int a1, .int a2, .int a3])).length) Slot.unset).toArray = ls at hl ⊢
  have hl : lv_has ls 4 [(0, .ref (gA G k)), (1, .int a1), (2, .int a2), (3, .int a3)] := hl
  have q0 := hts (.methodLink RX4 1 objectInit) (List.mem_of_getElem? (i := 1) rfl)
  have q1 := hts (.instanceMethod objectInit) (List.mem_of_getElem? (i := 2) rfl)
  have q2 := hts (.code objectInit ⟨#[0xb1]⟩ 1 none) (List.mem_of_getElem? (i := 3) rfl)
  have q3 := hts (.fieldLink RX4 7 "WoodForTwo$Party" "number" "I") (List.mem_of_getElem? (i := 4) rfl)
  have q4 := hts (.fieldLink RX4 13 "WoodForTwo$Party" "heads" "I") (List.mem_of_getElem? (i := 5) rfl)
  have q5 := hts (.fieldLink RX4 16 "WoodForTwo$Party" "toil" "I") (List.mem_of_getElem? (i := 6) rfl)
  have iX3 : ∀ w ∈ wsX30, w ∈ wsX4_init := fun _ h => List.mem_cons_of_mem _ (List.mem_append_left _ (List.mem_append_left _ (List.mem_append_right _ (h))))
  refine lv_aload_n hx hb dX4_init_0 rfl (lv_at hl 0 rfl) ?_
  refine W.objInit hx hb hown q0 q1 q2 rfl (by rw [hml]; exact hl.1) rfl dX4_init_1 (Nat.le_of_ble_eq_true rfl) (Nat.le_of_ble_eq_true rfl) ?_
  refine W.eq (g2 := F0 mM 4 ls []) rfl ?_
  refine lv_aload_n hx hb dX4_init_4 rfl (lv_at hl 0 rfl) ?_
  refine lv_iload_n hx hb dX4_init_5 rfl (lv_at hl 1 rfl) ?_
  refine r_putiF (ci := 3) (C := RX3) (T := TX3) (N := 3) hx hb hts iX3 tyX3 tyX3_ok nmX3 hown hW rfl k 0 rfl hk hkd (by decide) q3 (fun _ h9 => h9) rfl hin rfl (tyX3_ok 0 (by decide)) rfl rfl (ri S k (va_up (gi S k) 0 a1)) (gi S k) (va_up (gi S k) 0 a1) rfl (e_is _ _ _) rfl rfl rfl (Nat.le_of_ble_eq_true rfl) rfl c_i0 dX4_init_6 (fun H locs hW => ?_)
  refine lv_aload_n hx hb dX4_init_9 rfl (lv_at hl 0 rfl) ?_
  refine lv_iload_n hx hb dX4_init_10 rfl (lv_at hl 2 rfl) ?_
  refine r_putiF (ci := 3) (C := RX3) (T := TX3) (N := 3) hx hb hts iX3 tyX3 tyX3_ok nmX3 hown hW rfl k 1 rfl hk hkd (by decide) q4 (fun _ h9 => h9) rfl hin rfl (tyX3_ok 1 (by decide)) rfl rfl (ri S k (va_up (va_up (gi S k) 0 a1) 1 a2)) (va_up (gi S k) 0 a1) (va_up (va_up (gi S k) 0 a1) 1 a2) (e_is _ _ _) (e_is _ _ _) rfl rfl rfl (Nat.le_of_ble_eq_true rfl) rfl c_i dX4_init_11 (fun H locs hW => ?_)
  refine lv_aload_n hx hb dX4_init_14 rfl (lv_at hl 0 rfl) ?_
  refine lv_iload_n hx hb dX4_init_15 rfl (lv_at hl 3 rfl) ?_
  refine r_putiF (ci := 3) (C := RX3) (T := TX3) (N := 3) hx hb hts iX3 tyX3 tyX3_ok nmX3 hown hW rfl k 2 rfl hk hkd (by decide) q5 (fun _ h9 => h9) rfl hin rfl (tyX3_ok 2 (by decide)) rfl rfl (ri S k (va_up (va_up (va_up (gi S k) 0 a1) 1 a2) 2 a3)) (va_up (va_up (gi S k) 0 a1) 1 a2) (va_up (va_up (va_up (gi S k) 0 a1) 1 a2) 2 a3) (e_is _ _ _) (e_is _ _ _) rfl rfl rfl (Nat.le_of_ble_eq_true rfl) rfl c_i dX4_init_16 (fun H locs hW => ?_)
  refine r_vret hx hb hr hlocks hW ?_ dX4_init_19
  rfl

set_option maxHeartbeats 4000000 in
set_option maxRecDepth 100000 in
theorem t_X4_init_X7 (l : Launch) (D : Dc) (G : Gg) (S : Sg) (z : Nat) (k : Nat) (hk : k < gN G) (hkd : gK G k = 6) (a1 a2 a3 : Int32) : MV l yX4_init wsX4_init rmX4_init D G S z [.ref (gA G k), .int a1, .int a2, .int a3] (fun S' => S' = ri S k (va_up (va_up (va_up (gi S k) 0 a1) 1 a2) 2 a3)) := by
  refine Met.ofW (cc := cX4_init) (maxL := 4) (ret := none) (by decide +kernel) rfl ?_
  intro pP eE s mM args bl mT cD s₁ bD hml hv
  obtain ⟨rfl, hv⟩ := hv
  have hz := hv.1
  subst hz
  have hx := bD.exec
  have hb := bD.bytes
  have hr := bD.returns
  have hts := atoms_spec (ws := wsX4_init) bD.pre
  have hown : s.vm.findClass RX4 = some mM.cls := findClass_of_methodNamed bD.named
  have hlocks := bD.notSynchronized
  have hin : mT.name = "<init>" := (name_of_methodNamed bD.named bD.method).1
  have hW := Wd.start hv
  have hA : ∀ q, s.heap.size ≤ q → AW G s.heap.size q := fun q h => Or.inr h
  have hl := lv_entry ([.ref (gA G k), .int a1, .int a2, .int a3]) (n := 4) (Nat.le_of_ble_eq_true rfl)
  rw [lg_entry_eq]
  generalize (lg_sl ([.ref (gA G k), .int a1, .int a2, .int a3]) ++ List.replicate (4 - (lg_sl ([.ref (gA G k), .int a1, .int a2, .int a3])).length) Slot.unset).toArray = ls at hl ⊢
  have hl : lv_has ls 4 [(0, .ref (gA G k)), (1, .int a1), (2, .int a2), (3, .int a3)] := hl
  have q0 := hts (.methodLink RX4 1 objectInit) (List.mem_of_getElem? (i := 1) rfl)
  have q1 := hts (.instanceMethod objectInit) (List.mem_of_getElem? (i := 2) rfl)
  have q2 := hts (.code objectInit ⟨#[0xb1]⟩ 1 none) (List.mem_of_getElem? (i := 3) rfl)
  have q3 := hts (.fieldLink RX4 7 "WoodForTwo$Party" "number" "I") (List.mem_of_getElem? (i := 4) rfl)
  have q4 := hts (.fieldLink RX4 13 "WoodForTwo$Party" "heads" "I") (List.mem_of_getElem? (i := 5) rfl)
  have q5 := hts (.fieldLink RX4 16 "WoodForTwo$Party" "toil" "I") (List.mem_of_getElem? (i := 6) rfl)
  have iX7 : ∀ w ∈ wsX70, w ∈ wsX4_init := fun _ h => List.mem_cons_of_mem _ (List.mem_append_left _ (List.mem_append_right _ (h)))
  refine lv_aload_n hx hb dX4_init_0 rfl (lv_at hl 0 rfl) ?_
  refine W.objInit hx hb hown q0 q1 q2 rfl (by rw [hml]; exact hl.1) rfl dX4_init_1 (Nat.le_of_ble_eq_true rfl) (Nat.le_of_ble_eq_true rfl) ?_
  refine W.eq (g2 := F0 mM 4 ls []) rfl ?_
  refine lv_aload_n hx hb dX4_init_4 rfl (lv_at hl 0 rfl) ?_
  refine lv_iload_n hx hb dX4_init_5 rfl (lv_at hl 1 rfl) ?_
  refine r_putiF (ci := 6) (C := RX7) (T := TX7) (N := 3) hx hb hts iX7 tyX7 tyX7_ok nmX7 hown hW rfl k 0 rfl hk hkd (by decide) q3 (fun _ h9 => h9) rfl hin rfl (tyX7_ok 0 (by decide)) rfl rfl (ri S k (va_up (gi S k) 0 a1)) (gi S k) (va_up (gi S k) 0 a1) rfl (e_is _ _ _) rfl rfl rfl (Nat.le_of_ble_eq_true rfl) rfl c_i0 dX4_init_6 (fun H locs hW => ?_)
  refine lv_aload_n hx hb dX4_init_9 rfl (lv_at hl 0 rfl) ?_
  refine lv_iload_n hx hb dX4_init_10 rfl (lv_at hl 2 rfl) ?_
  refine r_putiF (ci := 6) (C := RX7) (T := TX7) (N := 3) hx hb hts iX7 tyX7 tyX7_ok nmX7 hown hW rfl k 1 rfl hk hkd (by decide) q4 (fun _ h9 => h9) rfl hin rfl (tyX7_ok 1 (by decide)) rfl rfl (ri S k (va_up (va_up (gi S k) 0 a1) 1 a2)) (va_up (gi S k) 0 a1) (va_up (va_up (gi S k) 0 a1) 1 a2) (e_is _ _ _) (e_is _ _ _) rfl rfl rfl (Nat.le_of_ble_eq_true rfl) rfl c_i dX4_init_11 (fun H locs hW => ?_)
  refine lv_aload_n hx hb dX4_init_14 rfl (lv_at hl 0 rfl) ?_
  refine lv_iload_n hx hb dX4_init_15 rfl (lv_at hl 3 rfl) ?_
  refine r_putiF (ci := 6) (C := RX7) (T := TX7) (N := 3) hx hb hts iX7 tyX7 tyX7_ok nmX7 hown hW rfl k 2 rfl hk hkd (by decide) q5 (fun _ h9 => h9) rfl hin rfl (tyX7_ok 2 (by decide)) rfl rfl (ri S k (va_up (va_up (va_up (gi S k) 0 a1) 1 a2) 2 a3)) (va_up (va_up (gi S k) 0 a1) 1 a2) (va_up (va_up (va_up (gi S k) 0 a1) 1 a2) 2 a3) (e_is _ _ _) (e_is _ _ _) rfl rfl rfl (Nat.le_of_ble_eq_true rfl) rfl c_i dX4_init_16 (fun H locs hW => ?_)
  refine r_vret hx hb hr hlocks hW ?_ dX4_init_19
  rfl

set_option maxHeartbeats 4000000 in
set_option maxRecDepth 100000 in
theorem t_X4_init_X9 (l : Launch) (D : Dc) (G : Gg) (S : Sg) (z : Nat) (k : Nat) (hk : k < gN G) (hkd : gK G k = 8) (a1 a2 a3 : Int32) : MV l yX4_init wsX4_init rmX4_init D G S z [.ref (gA G k), .int a1, .int a2, .int a3] (fun S' => S' = ri S k (va_up (va_up (va_up (gi S k) 0 a1) 1 a2) 2 a3)) := by
  refine Met.ofW (cc := cX4_init) (maxL := 4) (ret := none) (by decide +kernel) rfl ?_
  intro pP eE s mM args bl mT cD s₁ bD hml hv
  obtain ⟨rfl, hv⟩ := hv
  have hz := hv.1
  subst hz
  have hx := bD.exec
  have hb := bD.bytes
  have hr := bD.returns
  have hts := atoms_spec (ws := wsX4_init) bD.pre
  have hown : s.vm.findClass RX4 = some mM.cls := findClass_of_methodNamed bD.named
  have hlocks := bD.notSynchronized
  have hin : mT.name = "<init>" := (name_of_methodNamed bD.named bD.method).1
  have hW := Wd.start hv
  have hA : ∀ q, s.heap.size ≤ q → AW G s.heap.size q := fun q h => Or.inr h
  have hl := lv_entry ([.ref (gA G k), .int a1, .int a2, .int a3]) (n := 4) (Nat.le_of_ble_eq_true rfl)
  rw [lg_entry_eq]
  generalize (lg_sl ([.ref (gA G k), .int a1, .int a2, .int a3]) ++ List.replicate (4 - (lg_sl ([.ref (gA G k), .int a1, .int a2, .int a3])).length) Slot.unset).toArray = ls at hl ⊢
  have hl : lv_has ls 4 [(0, .ref (gA G k)), (1, .int a1), (2, .int a2), (3, .int a3)] := hl
  have q0 := hts (.methodLink RX4 1 objectInit) (List.mem_of_getElem? (i := 1) rfl)
  have q1 := hts (.instanceMethod objectInit) (List.mem_of_getElem? (i := 2) rfl)
  have q2 := hts (.code objectInit ⟨#[0xb1]⟩ 1 none) (List.mem_of_getElem? (i := 3) rfl)
  have q3 := hts (.fieldLink RX4 7 "WoodForTwo$Party" "number" "I") (List.mem_of_getElem? (i := 4) rfl)
  have q4 := hts (.fieldLink RX4 13 "WoodForTwo$Party" "heads" "I") (List.mem_of_getElem? (i := 5) rfl)
  have q5 := hts (.fieldLink RX4 16 "WoodForTwo$Party" "toil" "I") (List.mem_of_getElem? (i := 6) rfl)
  have iX9 : ∀ w ∈ wsX90, w ∈ wsX4_init := fun _ h => List.mem_cons_of_mem _ (List.mem_append_right _ (h))
  refine lv_aload_n hx hb dX4_init_0 rfl (lv_at hl 0 rfl) ?_
  refine W.objInit hx hb hown q0 q1 q2 rfl (by rw [hml]; exact hl.1) rfl dX4_init_1 (Nat.le_of_ble_eq_true rfl) (Nat.le_of_ble_eq_true rfl) ?_
  refine W.eq (g2 := F0 mM 4 ls []) rfl ?_
  refine lv_aload_n hx hb dX4_init_4 rfl (lv_at hl 0 rfl) ?_
  refine lv_iload_n hx hb dX4_init_5 rfl (lv_at hl 1 rfl) ?_
  refine r_putiF (ci := 8) (C := RX9) (T := TX9) (N := 3) hx hb hts iX9 tyX9 tyX9_ok nmX9 hown hW rfl k 0 rfl hk hkd (by decide) q3 (fun _ h9 => h9) rfl hin rfl (tyX9_ok 0 (by decide)) rfl rfl (ri S k (va_up (gi S k) 0 a1)) (gi S k) (va_up (gi S k) 0 a1) rfl (e_is _ _ _) rfl rfl rfl (Nat.le_of_ble_eq_true rfl) rfl c_i0 dX4_init_6 (fun H locs hW => ?_)
  refine lv_aload_n hx hb dX4_init_9 rfl (lv_at hl 0 rfl) ?_
  refine lv_iload_n hx hb dX4_init_10 rfl (lv_at hl 2 rfl) ?_
  refine r_putiF (ci := 8) (C := RX9) (T := TX9) (N := 3) hx hb hts iX9 tyX9 tyX9_ok nmX9 hown hW rfl k 1 rfl hk hkd (by decide) q4 (fun _ h9 => h9) rfl hin rfl (tyX9_ok 1 (by decide)) rfl rfl (ri S k (va_up (va_up (gi S k) 0 a1) 1 a2)) (va_up (gi S k) 0 a1) (va_up (va_up (gi S k) 0 a1) 1 a2) (e_is _ _ _) (e_is _ _ _) rfl rfl rfl (Nat.le_of_ble_eq_true rfl) rfl c_i dX4_init_11 (fun H locs hW => ?_)
  refine lv_aload_n hx hb dX4_init_14 rfl (lv_at hl 0 rfl) ?_
  refine lv_iload_n hx hb dX4_init_15 rfl (lv_at hl 3 rfl) ?_
  refine r_putiF (ci := 8) (C := RX9) (T := TX9) (N := 3) hx hb hts iX9 tyX9 tyX9_ok nmX9 hown hW rfl k 2 rfl hk hkd (by decide) q5 (fun _ h9 => h9) rfl hin rfl (tyX9_ok 2 (by decide)) rfl rfl (ri S k (va_up (va_up (va_up (gi S k) 0 a1) 1 a2) 2 a3)) (va_up (va_up (gi S k) 0 a1) 1 a2) (va_up (va_up (va_up (gi S k) 0 a1) 1 a2) 2 a3) (e_is _ _ _) (e_is _ _ _) rfl rfl rfl (Nat.le_of_ble_eq_true rfl) rfl c_i dX4_init_16 (fun H locs hW => ?_)
  refine r_vret hx hb hr hlocks hW ?_ dX4_init_19
  rfl

def rmX2_init : Jvm.Room := { frames := 2, cells := 0, slots := 0, locals := 35 }
set_option maxHeartbeats 4000000 in
set_option maxRecDepth 100000 in
theorem t_X2_init_X1 (l : Launch) (D : Dc) (G : Gg) (S : Sg) (z : Nat) (k : Nat) (hk : k < gN G) (hkd : gK G k = 1) (a1 a2 a3 : Int32) : MV l yX2_init wsX2_init rmX2_init D G S z [.ref (gA G k), .int a1, .int a2, .int a3] (fun S' => S' = ri S k (va_up (va_up (va_up (gi S k) 0 a1) 1 a2) 2 a3)) := by
  refine Met.ofW (cc := cX2_init) (maxL := 4) (ret := none) (by decide +kernel) rfl ?_
  intro pP eE s mM args bl mT cD s₁ bD hml hv
  obtain ⟨rfl, hv⟩ := hv
  have hz := hv.1
  subst hz
  have hx := bD.exec
  have hb := bD.bytes
  have hr := bD.returns
  have hts := atoms_spec (ws := wsX2_init) bD.pre
  have hown : s.vm.findClass RX2 = some mM.cls := findClass_of_methodNamed bD.named
  have hlocks := bD.notSynchronized
  have hin : mT.name = "<init>" := (name_of_methodNamed bD.named bD.method).1
  have hW := Wd.start hv
  have hA : ∀ q, s.heap.size ≤ q → AW G s.heap.size q := fun q h => Or.inr h
  have hl := lv_entry ([.ref (gA G k), .int a1, .int a2, .int a3]) (n := 4) (Nat.le_of_ble_eq_true rfl)
  rw [lg_entry_eq]
  generalize (lg_sl ([.ref (gA G k), .int a1, .int a2, .int a3]) ++ List.replicate (4 - (lg_sl ([.ref (gA G k), .int a1, .int a2, .int a3])).length) Slot.unset).toArray = ls at hl ⊢
  have hl : lv_has ls 4 [(0, .ref (gA G k)), (1, .int a1), (2, .int a2), (3, .int a3)] := hl
  have q0 := hts (.initialized RX4) (List.mem_of_getElem? (i := 3) rfl)
  have q1 := hts (.methodLink RX2 1 yX4_init) (List.mem_of_getElem? (i := 1) rfl)
  have q2 := hts (.instanceMethod yX4_init) (List.mem_of_getElem? (i := 2) rfl)
  refine lv_aload_n hx hb dX2_init_0 rfl (lv_at hl 0 rfl) ?_
  refine lv_iload_n hx hb dX2_init_1 rfl (lv_at hl 1 rfl) ?_
  refine lv_iload_n hx hb dX2_init_2 rfl (lv_at hl 2 rfl) ?_
  refine lv_iload_n hx hb dX2_init_3 rfl (lv_at hl 3 rfl) ?_
  refine r_callv hW hA (va_runI (As := [.int a1, .int a2, .int a3]) (rest := []) ⟨hx, hb, hml, hown, hts⟩ (t_X4_init_X1 l D G S _ k hk hkd a1 a2 a3) (cwI 3 hts gX2_init_X4_init rfl rfl rfl q0 q1 q2 rfl (by decide +kernel) ⟨Nat.le_of_ble_eq_true rfl, Nat.le_of_ble_eq_true rfl⟩) (r_preS hA hW) rfl rfl hl.1 rfl (lv_room (Nat.le_of_ble_eq_true rfl)) dX2_init_4 ⟨Nat.zero_le _, Nat.zero_le _⟩) (fun S4 H locs hp4 hW => ?_)
  rw [hp4] at hW
  refine r_vret hx hb hr hlocks hW ?_ dX2_init_7
  rfl

set_option maxHeartbeats 4000000 in
set_option maxRecDepth 100000 in
theorem t_X2_init_X2 (l : Launch) (D : Dc) (G : Gg) (S : Sg) (z : Nat) (k : Nat) (hk : k < gN G) (hkd : gK G k = 2) (a1 a2 a3 : Int32) : MV l yX2_init wsX2_init rmX2_init D G S z [.ref (gA G k), .int a1, .int a2, .int a3] (fun S' => S' = ri S k (va_up (va_up (va_up (gi S k) 0 a1) 1 a2) 2 a3)) := by
  refine Met.ofW (cc := cX2_init) (maxL := 4) (ret := none) (by decide +kernel) rfl ?_
  intro pP eE s mM args bl mT cD s₁ bD hml hv
  obtain ⟨rfl, hv⟩ := hv
  have hz := hv.1
  subst hz
  have hx := bD.exec
  have hb := bD.bytes
  have hr := bD.returns
  have hts := atoms_spec (ws := wsX2_init) bD.pre
  have hown : s.vm.findClass RX2 = some mM.cls := findClass_of_methodNamed bD.named
  have hlocks := bD.notSynchronized
  have hin : mT.name = "<init>" := (name_of_methodNamed bD.named bD.method).1
  have hW := Wd.start hv
  have hA : ∀ q, s.heap.size ≤ q → AW G s.heap.size q := fun q h => Or.inr h
  have hl := lv_entry ([.ref (gA G k), .int a1, .int a2, .int a3]) (n := 4) (Nat.le_of_ble_eq_true rfl)
  rw [lg_entry_eq]
  generalize (lg_sl ([.ref (gA G k), .int a1, .int a2, .int a3]) ++ List.replicate (4 - (lg_sl ([.ref (gA G k), .int a1, .int a2, .int a3])).length) Slot.unset).toArray = ls at hl ⊢
  have hl : lv_has ls 4 [(0, .ref (gA G k)), (1, .int a1), (2, .int a2), (3, .int a3)] := hl
  have q0 := hts (.initialized RX4) (List.mem_of_getElem? (i := 3) rfl)
  have q1 := hts (.methodLink RX2 1 yX4_init) (List.mem_of_getElem? (i := 1) rfl)
  have q2 := hts (.instanceMethod yX4_init) (List.mem_of_getElem? (i := 2) rfl)
  refine lv_aload_n hx hb dX2_init_0 rfl (lv_at hl 0 rfl) ?_
  refine lv_iload_n hx hb dX2_init_1 rfl (lv_at hl 1 rfl) ?_
  refine lv_iload_n hx hb dX2_init_2 rfl (lv_at hl 2 rfl) ?_
  refine lv_iload_n hx hb dX2_init_3 rfl (lv_at hl 3 rfl) ?_
  refine r_callv hW hA (va_runI (As := [.int a1, .int a2, .int a3]) (rest := []) ⟨hx, hb, hml, hown, hts⟩ (t_X4_init_X2 l D G S _ k hk hkd a1 a2 a3) (cwI 3 hts gX2_init_X4_init rfl rfl rfl q0 q1 q2 rfl (by decide +kernel) ⟨Nat.le_of_ble_eq_true rfl, Nat.le_of_ble_eq_true rfl⟩) (r_preS hA hW) rfl rfl hl.1 rfl (lv_room (Nat.le_of_ble_eq_true rfl)) dX2_init_4 ⟨Nat.zero_le _, Nat.zero_le _⟩) (fun S4 H locs hp4 hW => ?_)
  rw [hp4] at hW
  refine r_vret hx hb hr hlocks hW ?_ dX2_init_7
  rfl

set_option maxHeartbeats 4000000 in
set_option maxRecDepth 100000 in
theorem t_X2_init_X3 (l : Launch) (D : Dc) (G : Gg) (S : Sg) (z : Nat) (k : Nat) (hk : k < gN G) (hkd : gK G k = 3) (a1 a2 a3 : Int32) : MV l yX2_init wsX2_init rmX2_init D G S z [.ref (gA G k), .int a1, .int a2, .int a3] (fun S' => S' = ri S k (va_up (va_up (va_up (gi S k) 0 a1) 1 a2) 2 a3)) := by
  refine Met.ofW (cc := cX2_init) (maxL := 4) (ret := none) (by decide +kernel) rfl ?_
  intro pP eE s mM args bl mT cD s₁ bD hml hv
  obtain ⟨rfl, hv⟩ := hv
  have hz := hv.1
  subst hz
  have hx := bD.exec
  have hb := bD.bytes
  have hr := bD.returns
  have hts := atoms_spec (ws := wsX2_init) bD.pre
  have hown : s.vm.findClass RX2 = some mM.cls := findClass_of_methodNamed bD.named
  have hlocks := bD.notSynchronized
  have hin : mT.name = "<init>" := (name_of_methodNamed bD.named bD.method).1
  have hW := Wd.start hv
  have hA : ∀ q, s.heap.size ≤ q → AW G s.heap.size q := fun q h => Or.inr h
  have hl := lv_entry ([.ref (gA G k), .int a1, .int a2, .int a3]) (n := 4) (Nat.le_of_ble_eq_true rfl)
  rw [lg_entry_eq]
  generalize (lg_sl ([.ref (gA G k), .int a1, .int a2, .int a3]) ++ List.replicate (4 - (lg_sl ([.ref (gA G k), .int a1, .int a2, .int a3])).length) Slot.unset).toArray = ls at hl ⊢
  have hl : lv_has ls 4 [(0, .ref (gA G k)), (1, .int a1), (2, .int a2), (3, .int a3)] := hl
  have q0 := hts (.initialized RX4) (List.mem_of_getElem? (i := 3) rfl)
  have q1 := hts (.methodLink RX2 1 yX4_init) (List.mem_of_getElem? (i := 1) rfl)
  have q2 := hts (.instanceMethod yX4_init) (List.mem_of_getElem? (i := 2) rfl)
  refine lv_aload_n hx hb dX2_init_0 rfl (lv_at hl 0 rfl) ?_
  refine lv_iload_n hx hb dX2_init_1 rfl (lv_at hl 1 rfl) ?_
  refine lv_iload_n hx hb dX2_init_2 rfl (lv_at hl 2 rfl) ?_
  refine lv_iload_n hx hb dX2_init_3 rfl (lv_at hl 3 rfl) ?_
  refine r_callv hW hA (va_runI (As := [.int a1, .int a2, .int a3]) (rest := []) ⟨hx, hb, hml, hown, hts⟩ (t_X4_init_X3 l D G S _ k hk hkd a1 a2 a3) (cwI 3 hts gX2_init_X4_init rfl rfl rfl q0 q1 q2 rfl (by decide +kernel) ⟨Nat.le_of_ble_eq_true rfl, Nat.le_of_ble_eq_true rfl⟩) (r_preS hA hW) rfl rfl hl.1 rfl (lv_room (Nat.le_of_ble_eq_true rfl)) dX2_init_4 ⟨Nat.zero_le _, Nat.zero_le _⟩) (fun S4 H locs hp4 hW => ?_)
  rw [hp4] at hW
  refine r_vret hx hb hr hlocks hW ?_ dX2_init_7
  rfl

def rmX1_init : Jvm.Room := { frames := 3, cells := 0, slots := 0, locals := 58 }
set_option maxHeartbeats 4000000 in
set_option maxRecDepth 100000 in
theorem t_X1_init_X1 (l : Launch) (D : Dc) (G : Gg) (S : Sg) (z : Nat) (k : Nat) (hk : k < gN G) (hkd : gK G k = 1) (a1 a2 a3 : Int32) : MV l yX1_init wsX1_init rmX1_init D G S z [.ref (gA G k), .int a1, .int a2, .int a3] (fun S' => S' = ri S k (va_up (va_up (va_up (gi S k) 0 a1) 1 a2) 2 a3)) := by
  refine Met.ofW (cc := cX1_init) (maxL := 4) (ret := none) (by decide +kernel) rfl ?_
  intro pP eE s mM args bl mT cD s₁ bD hml hv
  obtain ⟨rfl, hv⟩ := hv
  have hz := hv.1
  subst hz
  have hx := bD.exec
  have hb := bD.bytes
  have hr := bD.returns
  have hts := atoms_spec (ws := wsX1_init) bD.pre
  have hown : s.vm.findClass RX1 = some mM.cls := findClass_of_methodNamed bD.named
  have hlocks := bD.notSynchronized
  have hin : mT.name = "<init>" := (name_of_methodNamed bD.named bD.method).1
  have hW := Wd.start hv
  have hA : ∀ q, s.heap.size ≤ q → AW G s.heap.size q := fun q h => Or.inr h
  have hl := lv_entry ([.ref (gA G k), .int a1, .int a2, .int a3]) (n := 4) (Nat.le_of_ble_eq_true rfl)
  rw [lg_entry_eq]
  generalize (lg_sl ([.ref (gA G k), .int a1, .int a2, .int a3]) ++ List.replicate (4 - (lg_sl ([.ref (gA G k), .int a1, .int a2, .int a3])).length) Slot.unset).toArray = ls at hl ⊢
  have hl : lv_has ls 4 [(0, .ref (gA G k)), (1, .int a1), (2, .int a2), (3, .int a3)] := hl
  have q0 := hts (.initialized RX2) (List.mem_of_getElem? (i := 3) rfl)
  have q1 := hts (.methodLink RX1 1 yX2_init) (List.mem_of_getElem? (i := 1) rfl)
  have q2 := hts (.instanceMethod yX2_init) (List.mem_of_getElem? (i := 2) rfl)
  refine lv_aload_n hx hb dX1_init_0 rfl (lv_at hl 0 rfl) ?_
  refine lv_iload_n hx hb dX1_init_1 rfl (lv_at hl 1 rfl) ?_
  refine lv_iload_n hx hb dX1_init_2 rfl (lv_at hl 2 rfl) ?_
  refine lv_iload_n hx hb dX1_init_3 rfl (lv_at hl 3 rfl) ?_
  refine r_callv hW hA (va_runI (As := [.int a1, .int a2, .int a3]) (rest := []) ⟨hx, hb, hml, hown, hts⟩ (t_X2_init_X1 l D G S _ k hk hkd a1 a2 a3) (cwI 3 hts gX1_init_X2_init rfl rfl rfl q0 q1 q2 rfl (by decide +kernel) ⟨Nat.le_of_ble_eq_true rfl, Nat.le_of_ble_eq_true rfl⟩) (r_preS hA hW) rfl rfl hl.1 rfl (lv_room (Nat.le_of_ble_eq_true rfl)) dX1_init_4 ⟨Nat.zero_le _, Nat.zero_le _⟩) (fun S4 H locs hp4 hW => ?_)
  rw [hp4] at hW
  refine r_vret hx hb hr hlocks hW ?_ dX1_init_7
  rfl

def rmX7_init : Jvm.Room := { frames := 2, cells := 0, slots := 0, locals := 35 }
set_option maxHeartbeats 4000000 in
set_option maxRecDepth 100000 in
theorem t_X7_init_X7 (l : Launch) (D : Dc) (G : Gg) (S : Sg) (z : Nat) (k : Nat) (hk : k < gN G) (hkd : gK G k = 6) (a1 a2 a3 : Int32) : MV l yX7_init wsX7_init rmX7_init D G S z [.ref (gA G k), .int a1, .int a2, .int a3] (fun S' => S' = ri S k (va_up (va_up (va_up (gi S k) 0 a1) 1 a2) 2 a3)) := by
  refine Met.ofW (cc := cX7_init) (maxL := 4) (ret := none) (by decide +kernel) rfl ?_
  intro pP eE s mM args bl mT cD s₁ bD hml hv
  obtain ⟨rfl, hv⟩ := hv
  have hz := hv.1
  subst hz
  have hx := bD.exec
  have hb := bD.bytes
  have hr := bD.returns
  have hts := atoms_spec (ws := wsX7_init) bD.pre
  have hown : s.vm.findClass RX7 = some mM.cls := findClass_of_methodNamed bD.named
  have hlocks := bD.notSynchronized
  have hin : mT.name = "<init>" := (name_of_methodNamed bD.named bD.method).1
  have hW := Wd.start hv
  have hA : ∀ q, s.heap.size ≤ q → AW G s.heap.size q := fun q h => Or.inr h
  have hl := lv_entry ([.ref (gA G k), .int a1, .int a2, .int a3]) (n := 4) (Nat.le_of_ble_eq_true rfl)
  rw [lg_entry_eq]
  generalize (lg_sl ([.ref (gA G k), .int a1, .int a2, .int a3]) ++ List.replicate (4 - (lg_sl ([.ref (gA G k), .int a1, .int a2, .int a3])).length) Slot.unset).toArray = ls at hl ⊢
  have hl : lv_has ls 4 [(0, .ref (gA G k)), (1, .int a1), (2, .int a2), (3, .int a3)] := hl
  have q0 := hts (.initialized RX4) (List.mem_of_getElem? (i := 3) rfl)
  have q1 := hts (.methodLink RX7 1 yX4_init) (List.mem_of_getElem? (i := 1) rfl)
  have q2 := hts (.instanceMethod yX4_init) (List.mem_of_getElem? (i := 2) rfl)
  refine lv_aload_n hx hb dX7_init_0 rfl (lv_at hl 0 rfl) ?_
  refine lv_iload_n hx hb dX7_init_1 rfl (lv_at hl 1 rfl) ?_
  refine lv_iload_n hx hb dX7_init_2 rfl (lv_at hl 2 rfl) ?_
  refine lv_iload_n hx hb dX7_init_3 rfl (lv_at hl 3 rfl) ?_
  refine r_callv hW hA (va_runI (As := [.int a1, .int a2, .int a3]) (rest := []) ⟨hx, hb, hml, hown, hts⟩ (t_X4_init_X7 l D G S _ k hk hkd a1 a2 a3) (cwI 3 hts gX7_init_X4_init rfl rfl rfl q0 q1 q2 rfl (by decide +kernel) ⟨Nat.le_of_ble_eq_true rfl, Nat.le_of_ble_eq_true rfl⟩) (r_preS hA hW) rfl rfl hl.1 rfl (lv_room (Nat.le_of_ble_eq_true rfl)) dX7_init_4 ⟨Nat.zero_le _, Nat.zero_le _⟩) (fun S4 H locs hp4 hW => ?_)
  rw [hp4] at hW
  refine r_vret hx hb hr hlocks hW ?_ dX7_init_7
  rfl

def rmX9_init : Jvm.Room := { frames := 2, cells := 0, slots := 0, locals := 35 }
set_option maxHeartbeats 4000000 in
set_option maxRecDepth 100000 in
theorem t_X9_init_X9 (l : Launch) (D : Dc) (G : Gg) (S : Sg) (z : Nat) (k : Nat) (hk : k < gN G) (hkd : gK G k = 8) (a1 a2 a3 : Int32) : MV l yX9_init wsX9_init rmX9_init D G S z [.ref (gA G k), .int a1, .int a2, .int a3] (fun S' => S' = ri S k (va_up (va_up (va_up (gi S k) 0 a1) 1 a2) 2 a3)) := by
  refine Met.ofW (cc := cX9_init) (maxL := 4) (ret := none) (by decide +kernel) rfl ?_
  intro pP eE s mM args bl mT cD s₁ bD hml hv
  obtain ⟨rfl, hv⟩ := hv
  have hz := hv.1
  subst hz
  have hx := bD.exec
  have hb := bD.bytes
  have hr := bD.returns
  have hts := atoms_spec (ws := wsX9_init) bD.pre
  have hown : s.vm.findClass RX9 = some mM.cls := findClass_of_methodNamed bD.named
  have hlocks := bD.notSynchronized
  have hin : mT.name = "<init>" := (name_of_methodNamed bD.named bD.method).1
  have hW := Wd.start hv
  have hA : ∀ q, s.heap.size ≤ q → AW G s.heap.size q := fun q h => Or.inr h
  have hl := lv_entry ([.ref (gA G k), .int a1, .int a2, .int a3]) (n := 4) (Nat.le_of_ble_eq_true rfl)
  rw [lg_entry_eq]
  generalize (lg_sl ([.ref (gA G k), .int a1, .int a2, .int a3]) ++ List.replicate (4 - (lg_sl ([.ref (gA G k), .int a1, .int a2, .int a3])).length) Slot.unset).toArray = ls at hl ⊢
  have hl : lv_has ls 4 [(0, .ref (gA G k)), (1, .int a1), (2, .int a2), (3, .int a3)] := hl
  have q0 := hts (.initialized RX4) (List.mem_of_getElem? (i := 3) rfl)
  have q1 := hts (.methodLink RX9 1 yX4_init) (List.mem_of_getElem? (i := 1) rfl)
  have q2 := hts (.instanceMethod yX4_init) (List.mem_of_getElem? (i := 2) rfl)
  refine lv_aload_n hx hb dX9_init_0 rfl (lv_at hl 0 rfl) ?_
  refine lv_iload_n hx hb dX9_init_1 rfl (lv_at hl 1 rfl) ?_
  refine lv_iload_n hx hb dX9_init_2 rfl (lv_at hl 2 rfl) ?_
  refine lv_iload_n hx hb dX9_init_3 rfl (lv_at hl 3 rfl) ?_
  refine r_callv hW hA (va_runI (As := [.int a1, .int a2, .int a3]) (rest := []) ⟨hx, hb, hml, hown, hts⟩ (t_X4_init_X9 l D G S _ k hk hkd a1 a2 a3) (cwI 3 hts gX9_init_X4_init rfl rfl rfl q0 q1 q2 rfl (by decide +kernel) ⟨Nat.le_of_ble_eq_true rfl, Nat.le_of_ble_eq_true rfl⟩) (r_preS hA hW) rfl rfl hl.1 rfl (lv_room (Nat.le_of_ble_eq_true rfl)) dX9_init_4 ⟨Nat.zero_le _, Nat.zero_le _⟩) (fun S4 H locs hp4 hW => ?_)
  rw [hp4] at hW
  refine r_vret hx hb hr hlocks hW ?_ dX9_init_7
  rfl

def rmX3_init : Jvm.Room := { frames := 3, cells := 0, slots := 0, locals := 58 }
set_option maxHeartbeats 4000000 in
set_option maxRecDepth 100000 in
theorem t_X3_init_X3 (l : Launch) (D : Dc) (G : Gg) (S : Sg) (z : Nat) (k : Nat) (hk : k < gN G) (hkd : gK G k = 3) (a1 a2 : Int32) : MV l yX3_init wsX3_init rmX3_init D G S z [.ref (gA G k), .int a1, .int a2] (fun S' => S' = ri S k (va_up (va_up (va_up (gi S k) 0 a1) 1 1) 2 a2)) := by
  refine Met.ofW (cc := cX3_init) (maxL := 3) (ret := none) (by decide +kernel) rfl ?_
  intro pP eE s mM args bl mT cD s₁ bD hml hv
  obtain ⟨rfl, hv⟩ := hv
  have hz := hv.1
  subst hz
  have hx := bD.exec
  have hb := bD.bytes
  have hr := bD.returns
  have hts := atoms_spec (ws := wsX3_init) bD.pre
  have hown : s.vm.findClass RX3 = some mM.cls := findClass_of_methodNamed bD.named
  have hlocks := bD.notSynchronized
  have hin : mT.name = "<init>" := (name_of_methodNamed bD.named bD.method).1
  have hW := Wd.start hv
  have hA : ∀ q, s.heap.size ≤ q → AW G s.heap.size q := fun q h => Or.inr h
  have hl := lv_entry ([.ref (gA G k), .int a1, .int a2]) (n := 3) (Nat.le_of_ble_eq_true rfl)
  rw [lg_entry_eq]
  generalize (lg_sl ([.ref (gA G k), .int a1, .int a2]) ++ List.replicate (3 - (lg_sl ([.ref (gA G k), .int a1, .int a2])).length) Slot.unset).toArray = ls at hl ⊢
  have hl : lv_has ls 3 [(0, .ref (gA G k)), (1, .int a1), (2, .int a2)] := hl
  have q0 := hts (.initialized RX2) (List.mem_of_getElem? (i := 3) rfl)
  have q1 := hts (.methodLink RX3 1 yX2_init) (List.mem_of_getElem? (i := 1) rfl)
  have q2 := hts (.instanceMethod yX2_init) (List.mem_of_getElem? (i := 2) rfl)
  refine lv_aload_n hx hb dX3_init_0 rfl (lv_at hl 0 rfl) ?_
  refine lv_iload_n hx hb dX3_init_1 rfl (lv_at hl 1 rfl) ?_
  refine lv_iconst (v := 1) hx hb dX3_init_2 (by decide) ?_
  refine lv_iload_n hx hb dX3_init_3 rfl (lv_at hl 2 rfl) ?_
  refine r_callv hW hA (va_runI (As := [.int a1, .int 1, .int a2]) (rest := []) ⟨hx, hb, hml, hown, hts⟩ (t_X2_init_X3 l D G S _ k hk hkd a1 1 a2) (cwI 3 hts gX3_init_X2_init rfl rfl rfl q0 q1 q2 rfl (by decide +kernel) ⟨Nat.le_of_ble_eq_true rfl, Nat.le_of_ble_eq_true rfl⟩) (r_preS hA hW) rfl rfl hl.1 rfl (lv_room (Nat.le_of_ble_eq_true rfl)) dX3_init_4 ⟨Nat.zero_le _, Nat.zero_le _⟩) (fun S4 H locs hp4 hW => ?_)
  rw [hp4] at hW
  refine r_vret hx hb hr hlocks hW ?_ dX3_init_7
  rfl

def rmX6_partyOf : Jvm.Room := { frames := 4, cells := 1, slots := 3, locals := 81 }
set_option maxHeartbeats 4000000 in
set_option maxRecDepth 100000 in
theorem t_X6_partyOf (l : Launch) (D : Dc) (G : Gg) (S : Sg) (z : Nat) (n m w t : Nat) (hw : w ≤ 3) (hm1 : 1 ≤ m) (hm : m ≤ 9) : MQa l yX6_partyOf wsX6_partyOf rmX6_partyOf D G S z [.int (nI n), .int (nI m), .int (nI w), .int (nI t)] 1 3 (fun r U => ∃ q kd row, U.1 = gAdd G q kd 0 ∧ U.2 = ri (sAdd G S) (gN G) row ∧ r = some q ∧ kd = kdF w m ∧ row 0 = nI n ∧ row 1 = nI m ∧ row 2 = nI t) := by
  refine Met.ofW (cc := cX6_partyOf) (maxL := 4) (ret := (some (.object "WoodForTwo$Party"))) (by decide +kernel) rfl ?_
  intro pP eE s mM args bl mT cD s₁ bD hml hv
  obtain ⟨rfl, hv⟩ := hv
  have hz := hv.1
  subst hz
  have hx := bD.exec
  have hb := bD.bytes
  have hr := bD.returns
  have hts := atoms_spec (ws := wsX6_partyOf) bD.pre
  have hown : s.vm.findClass RX6 = some mM.cls := findClass_of_methodNamed bD.named
  have hlocks := bD.notSynchronized
  have hW := Wd.start hv
  have hA : ∀ q, s.heap.size ≤ q → AW G s.heap.size q := fun q h => Or.inr h
  have hl := lv_entry ([.int (nI n), .int (nI m), .int (nI w), .int (nI t)]) (n := 4) (Nat.le_of_ble_eq_true rfl)
  rw [lg_entry_eq]
  generalize (lg_sl ([.int (nI n), .int (nI m), .int (nI w), .int (nI t)]) ++ List.replicate (4 - (lg_sl ([.int (nI n), .int (nI m), .int (nI w), .int (nI t)])).length) Slot.unset).toArray = ls at hl ⊢
  have hl : lv_has ls 4 [(0, .int (nI n)), (1, .int (nI m)), (2, .int (nI w)), (3, .int (nI t))] := hl
  have q0 := hts (.classLink RX6 109 RX2) (List.mem_of_getElem? (i := 4) rfl)
  have q1 := hts (.instantiable RX2 3) (List.mem_of_getElem? (i := 5) rfl)
  have q2 := hts (.initialized RX2) (List.mem_of_getElem? (i := 6) rfl)
  have q3 := hts (.methodLink RX6 111 yX2_init) (List.mem_of_getElem? (i := 32) rfl)
  have q4 := hts (.instanceMethod yX2_init) (List.mem_of_getElem? (i := 20) rfl)
  have q5 := hts (.classLink RX6 105 RX3) (List.mem_of_getElem? (i := 1) rfl)
  have q6 := hts (.instantiable RX3 3) (List.mem_of_getElem? (i := 2) rfl)
  have q7 := hts (.initialized RX3) (List.mem_of_getElem? (i := 3) rfl)
  have q8 := hts (.methodLink RX6 107 yX3_init) (List.mem_of_getElem? (i := 16) rfl)
  have q9 := hts (.instanceMethod yX3_init) (List.mem_of_getElem? (i := 17) rfl)
  have q10 := hts (.classLink RX6 114 RX1) (List.mem_of_getElem? (i := 7) rfl)
  have q11 := hts (.instantiable RX1 3) (List.mem_of_getElem? (i := 8) rfl)
  have q12 := hts (.initialized RX1) (List.mem_of_getElem? (i := 9) rfl)
  have q13 := hts (.methodLink RX6 116 yX1_init) (List.mem_of_getElem? (i := 33) rfl)
  have q14 := hts (.instanceMethod yX1_init) (List.mem_of_getElem? (i := 34) rfl)
  have q15 := hts (.classLink RX6 120 RX7) (List.mem_of_getElem? (i := 13) rfl)
  have q16 := hts (.instantiable RX7 3) (List.mem_of_getElem? (i := 14) rfl)
  have q17 := hts (.initialized RX7) (List.mem_of_getElem? (i := 15) rfl)
  have q18 := hts (.methodLink RX6 122 yX7_init) (List.mem_of_getElem? (i := 41) rfl)
  have q19 := hts (.instanceMethod yX7_init) (List.mem_of_getElem? (i := 42) rfl)
  have q20 := hts (.classLink RX6 117 RX9) (List.mem_of_getElem? (i := 10) rfl)
  have q21 := hts (.instantiable RX9 3) (List.mem_of_getElem? (i := 11) rfl)
  have q22 := hts (.initialized RX9) (List.mem_of_getElem? (i := 12) rfl)
  have q23 := hts (.methodLink RX6 119 yX9_init) (List.mem_of_getElem? (i := 37) rfl)
  have q24 := hts (.instanceMethod yX9_init) (List.mem_of_getElem? (i := 38) rfl)
  have iX2 : ∀ w ∈ wsX20, w ∈ wsX6_partyOf := fun _ h => List.mem_cons_of_mem _ (List.mem_append_left _ (List.mem_append_left _ (List.mem_append_left _ (List.mem_append_right _ (h)))))
  have iX3 : ∀ w ∈ wsX30, w ∈ wsX6_partyOf := fun _ h => List.mem_cons_of_mem _ (List.mem_append_left _ (List.mem_append_left _ (List.mem_append_left _ (List.mem_append_left _ (List.mem_append_right _ (h))))))
  have iX1 : ∀ w ∈ wsX10, w ∈ wsX6_partyOf := fun _ h => List.mem_cons_of_mem _ (List.mem_append_left _ (List.mem_append_left _ (List.mem_append_right _ (h))))
  have iX7 : ∀ w ∈ wsX70, w ∈ wsX6_partyOf := fun _ h => List.mem_cons_of_mem _ (List.mem_append_right _ (h))
  have iX9 : ∀ w ∈ wsX90, w ∈ wsX6_partyOf := fun _ h => List.mem_cons_of_mem _ (List.mem_append_left _ (List.mem_append_right _ (h)))
  have ew : (nI w).toInt = w := n_toInt (by omega)
  refine lv_iload_n hx hb dX6_partyOf_0 rfl (lv_at hl 2 rfl) ?_
  rcases (show ((nI w)).toInt = 0 ∨ ((nI w)).toInt = 1 ∨ ((nI w)).toInt = 2 ∨ ((nI w)).toInt = 3 by omega) with k1 | k1 | k1 | k1
  · refine lv_tableIn (off := 31) (tgt := 32) hx hb dX6_partyOf_1 (by omega) (by omega) (by rw [k1]; rfl) (by decide) ?_
    refine lv_iload_n hx hb dX6_partyOf_32 rfl (lv_at hl 1 rfl) ?_
    refine lv_iconst (v := 1) hx hb dX6_partyOf_33 (by decide) ?_
    refine lv_icmp_ne (tgt := 49) hx hb dX6_partyOf_34 (by decide) (fun c34 => ?_) (fun c34 => ?_)
    · skip
      rw [t_eq, show (1 : Int32).toInt = 1 from by decide] at c34
      have hm2 : ¬ m = 1 := by rw [n_toInt (by omega)] at c34; omega
      refine r_new (ci := 2) (C := RX2) (T := TX2) (N := 3) (fs := [.int 0, .int 0, .int 0]) hx hb hts iX2 tyX2 tyX2_ok hown q0 q1 q2 hW hA rfl rfl (fun j hj => by rcases (show j = 0 ∨ j = 1 ∨ j = 2 by omega) with rfl | rfl | rfl <;> rfl) (Nat.le_of_ble_eq_true rfl) (Nat.le_of_ble_eq_true rfl) dX6_partyOf_49 (fun qn H hW => ?_)
      have hq1 : gA (gAdd G qn 2 0) (gN G) = qn := gAdd_As
      have hk1 : gN G < gN (gAdd G qn 2 0) := Nat.lt_succ_self _
      have hd1 : gK (gAdd G qn 2 0) (gN G) = 2 := gAdd_Ks
      refine lv_dup hx hb dX6_partyOf_52 rfl ?_
      refine lv_iload_n hx hb dX6_partyOf_53 rfl (lv_at hl 0 rfl) ?_
      refine lv_iload_n hx hb dX6_partyOf_54 rfl (lv_at hl 1 rfl) ?_
      refine lv_iload_n hx hb dX6_partyOf_55 rfl (lv_at hl 3 rfl) ?_
      refine r_callv hW hA (va_runI (As := [.int (nI n), .int (nI m), .int (nI t)]) (rest := [.ref qn]) ⟨hx, hb, hml, hown, hts⟩ (hq1 ▸ t_X2_init_X2 l D (gAdd G qn 2 0) (sAdd G S) _ (gN G) hk1 hd1 (nI n) (nI m) (nI t)) (cwI 3 hts gX6_partyOf_X2_init rfl rfl rfl q2 q3 q4 rfl (by decide +kernel) ⟨Nat.le_of_ble_eq_true rfl, Nat.le_of_ble_eq_true rfl⟩) (r_preS hA hW) rfl rfl hl.1 rfl (lv_room (Nat.le_of_ble_eq_true rfl)) dX6_partyOf_56 ⟨(show 1 + 0 ≤ 1 by omega), (show 3 + 0 ≤ 3 by omega)⟩) (fun S56 H locs hp56 hW => ?_)
      rw [hp56] at hW
      refine W.widen (k := 1) (n := 3) (by omega) (by omega) ?_
      refine r_areta (x := (some qn)) hx hb hr (Or.inl ⟨_, rfl⟩) hlocks hW ?_ dX6_partyOf_59
      exact ⟨qn, 2, _, rfl, rfl, rfl, by unfold kdF; rw [if_pos (by omega), if_neg (by omega)], rfl, rfl, rfl⟩
    · skip
      rw [t_eq, show (1 : Int32).toInt = 1 from by decide] at c34
      have hm2 : m = 1 := by rw [n_toInt (by omega)] at c34; omega
      refine r_new (ci := 3) (C := RX3) (T := TX3) (N := 3) (fs := [.int 0, .int 0, .int 0]) hx hb hts iX3 tyX3 tyX3_ok hown q5 q6 q7 hW hA rfl rfl (fun j hj => by rcases (show j = 0 ∨ j = 1 ∨ j = 2 by omega) with rfl | rfl | rfl <;> rfl) (Nat.le_of_ble_eq_true rfl) (Nat.le_of_ble_eq_true rfl) dX6_partyOf_37 (fun qn H hW => ?_)
      have hq1 : gA (gAdd G qn 3 0) (gN G) = qn := gAdd_As
      have hk1 : gN G < gN (gAdd G qn 3 0) := Nat.lt_succ_self _
      have hd1 : gK (gAdd G qn 3 0) (gN G) = 3 := gAdd_Ks
      refine lv_dup hx hb dX6_partyOf_40 rfl ?_
      refine lv_iload_n hx hb dX6_partyOf_41 rfl (lv_at hl 0 rfl) ?_
      refine lv_iload_n hx hb dX6_partyOf_42 rfl (lv_at hl 3 rfl) ?_
      refine r_callv hW hA (va_runI (As := [.int (nI n), .int (nI t)]) (rest := [.ref qn]) ⟨hx, hb, hml, hown, hts⟩ (hq1 ▸ t_X3_init_X3 l D (gAdd G qn 3 0) (sAdd G S) _ (gN G) hk1 hd1 (nI n) (nI t)) (cwI 2 hts gX6_partyOf_X3_init rfl rfl rfl q7 q8 q9 rfl (by decide +kernel) ⟨Nat.le_of_ble_eq_true rfl, Nat.le_of_ble_eq_true rfl⟩) (r_preS hA hW) rfl rfl hl.1 rfl (lv_room (Nat.le_of_ble_eq_true rfl)) dX6_partyOf_43 ⟨(show 1 + 0 ≤ 1 by omega), (show 3 + 0 ≤ 3 by omega)⟩) (fun S43 H locs hp43 hW => ?_)
      rw [hp43] at hW
      refine lv_goto (tgt := 59) hx hb dX6_partyOf_46 (by decide) ?_
      refine W.widen (k := 1) (n := 3) (by omega) (by omega) ?_
      refine r_areta (x := (some qn)) hx hb hr (Or.inl ⟨_, rfl⟩) hlocks hW ?_ dX6_partyOf_59
      exact ⟨qn, 3, _, rfl, rfl, rfl, by unfold kdF; rw [if_pos (by omega), if_pos (by omega)], rfl, (by rw [show m = 1 by omega]; rfl), rfl⟩
  · refine lv_tableIn (off := 59) (tgt := 60) hx hb dX6_partyOf_1 (by omega) (by omega) (by rw [k1]; rfl) (by decide) ?_
    refine r_new (ci := 1) (C := RX1) (T := TX1) (N := 3) (fs := [.int 0, .int 0, .int 0]) hx hb hts iX1 tyX1 tyX1_ok hown q10 q11 q12 hW hA rfl rfl (fun j hj => by rcases (show j = 0 ∨ j = 1 ∨ j = 2 by omega) with rfl | rfl | rfl <;> rfl) (Nat.le_of_ble_eq_true rfl) (Nat.le_of_ble_eq_true rfl) dX6_partyOf_60 (fun qn H hW => ?_)
    have hq1 : gA (gAdd G qn 1 0) (gN G) = qn := gAdd_As
    have hk1 : gN G < gN (gAdd G qn 1 0) := Nat.lt_succ_self _
    have hd1 : gK (gAdd G qn 1 0) (gN G) = 1 := gAdd_Ks
    refine lv_dup hx hb dX6_partyOf_63 rfl ?_
    refine lv_iload_n hx hb dX6_partyOf_64 rfl (lv_at hl 0 rfl) ?_
    refine lv_iload_n hx hb dX6_partyOf_65 rfl (lv_at hl 1 rfl) ?_
    refine lv_iload_n hx hb dX6_partyOf_66 rfl (lv_at hl 3 rfl) ?_
    refine r_callv hW hA (va_runI (As := [.int (nI n), .int (nI m), .int (nI t)]) (rest := [.ref qn]) ⟨hx, hb, hml, hown, hts⟩ (hq1 ▸ t_X1_init_X1 l D (gAdd G qn 1 0) (sAdd G S) _ (gN G) hk1 hd1 (nI n) (nI m) (nI t)) (cwI 3 hts gX6_partyOf_X1_init rfl rfl rfl q12 q13 q14 rfl (by decide +kernel) ⟨Nat.le_of_ble_eq_true rfl, Nat.le_of_ble_eq_true rfl⟩) (r_preS hA hW) rfl rfl hl.1 rfl (lv_room (Nat.le_of_ble_eq_true rfl)) dX6_partyOf_67 ⟨(show 1 + 0 ≤ 1 by omega), (show 3 + 0 ≤ 3 by omega)⟩) (fun S67 H locs hp67 hW => ?_)
    rw [hp67] at hW
    refine W.widen (k := 1) (n := 3) (by omega) (by omega) ?_
    refine r_areta (x := (some qn)) hx hb hr (Or.inl ⟨_, rfl⟩) hlocks hW ?_ dX6_partyOf_70
    exact ⟨qn, 1, _, rfl, rfl, rfl, by unfold kdF; rw [if_neg (by omega), if_pos (by omega)], rfl, rfl, rfl⟩
  · refine lv_tableIn (off := 81) (tgt := 82) hx hb dX6_partyOf_1 (by omega) (by omega) (by rw [k1]; rfl) (by decide) ?_
    refine r_new (ci := 6) (C := RX7) (T := TX7) (N := 3) (fs := [.int 0, .int 0, .int 0]) hx hb hts iX7 tyX7 tyX7_ok hown q15 q16 q17 hW hA rfl rfl (fun j hj => by rcases (show j = 0 ∨ j = 1 ∨ j = 2 by omega) with rfl | rfl | rfl <;> rfl) (Nat.le_of_ble_eq_true rfl) (Nat.le_of_ble_eq_true rfl) dX6_partyOf_82 (fun qn H hW => ?_)
    have hq1 : gA (gAdd G qn 6 0) (gN G) = qn := gAdd_As
    have hk1 : gN G < gN (gAdd G qn 6 0) := Nat.lt_succ_self _
    have hd1 : gK (gAdd G qn 6 0) (gN G) = 6 := gAdd_Ks
    refine lv_dup hx hb dX6_partyOf_85 rfl ?_
    refine lv_iload_n hx hb dX6_partyOf_86 rfl (lv_at hl 0 rfl) ?_
    refine lv_iload_n hx hb dX6_partyOf_87 rfl (lv_at hl 1 rfl) ?_
    refine lv_iload_n hx hb dX6_partyOf_88 rfl (lv_at hl 3 rfl) ?_
    refine r_callv hW hA (va_runI (As := [.int (nI n), .int (nI m), .int (nI t)]) (rest := [.ref qn]) ⟨hx, hb, hml, hown, hts⟩ (hq1 ▸ t_X7_init_X7 l D (gAdd G qn 6 0) (sAdd G S) _ (gN G) hk1 hd1 (nI n) (nI m) (nI t)) (cwI 3 hts gX6_partyOf_X7_init rfl rfl rfl q17 q18 q19 rfl (by decide +kernel) ⟨Nat.le_of_ble_eq_true rfl, Nat.le_of_ble_eq_true rfl⟩) (r_preS hA hW) rfl rfl hl.1 rfl (lv_room (Nat.le_of_ble_eq_true rfl)) dX6_partyOf_89 ⟨(show 1 + 0 ≤ 1 by omega), (show 3 + 0 ≤ 3 by omega)⟩) (fun S89 H locs hp89 hW => ?_)
    rw [hp89] at hW
    refine W.widen (k := 1) (n := 3) (by omega) (by omega) ?_
    refine r_areta (x := (some qn)) hx hb hr (Or.inl ⟨_, rfl⟩) hlocks hW ?_ dX6_partyOf_92
    exact ⟨qn, 6, _, rfl, rfl, rfl, by unfold kdF; rw [if_neg (by omega), if_neg (by omega), if_pos (by omega)], rfl, rfl, rfl⟩
  · refine lv_tableIn (off := 70) (tgt := 71) hx hb dX6_partyOf_1 (by omega) (by omega) (by rw [k1]; rfl) (by decide) ?_
    refine r_new (ci := 8) (C := RX9) (T := TX9) (N := 3) (fs := [.int 0, .int 0, .int 0]) hx hb hts iX9 tyX9 tyX9_ok hown q20 q21 q22 hW hA rfl rfl (fun j hj => by rcases (show j = 0 ∨ j = 1 ∨ j = 2 by omega) with rfl | rfl | rfl <;> rfl) (Nat.le_of_ble_eq_true rfl) (Nat.le_of_ble_eq_true rfl) dX6_partyOf_71 (fun qn H hW => ?_)
    have hq1 : gA (gAdd G qn 8 0) (gN G) = qn := gAdd_As
    have hk1 : gN G < gN (gAdd G qn 8 0) := Nat.lt_succ_self _
    have hd1 : gK (gAdd G qn 8 0) (gN G) = 8 := gAdd_Ks
    refine lv_dup hx hb dX6_partyOf_74 rfl ?_
    refine lv_iload_n hx hb dX6_partyOf_75 rfl (lv_at hl 0 rfl) ?_
    refine lv_iload_n hx hb dX6_partyOf_76 rfl (lv_at hl 1 rfl) ?_
    refine lv_iload_n hx hb dX6_partyOf_77 rfl (lv_at hl 3 rfl) ?_
    refine r_callv hW hA (va_runI (As := [.int (nI n), .int (nI m), .int (nI t)]) (rest := [.ref qn]) ⟨hx, hb, hml, hown, hts⟩ (hq1 ▸ t_X9_init_X9 l D (gAdd G qn 8 0) (sAdd G S) _ (gN G) hk1 hd1 (nI n) (nI m) (nI t)) (cwI 3 hts gX6_partyOf_X9_init rfl rfl rfl q22 q23 q24 rfl (by decide +kernel) ⟨Nat.le_of_ble_eq_true rfl, Nat.le_of_ble_eq_true rfl⟩) (r_preS hA hW) rfl rfl hl.1 rfl (lv_room (Nat.le_of_ble_eq_true rfl)) dX6_partyOf_78 ⟨(show 1 + 0 ≤ 1 by omega), (show 3 + 0 ≤ 3 by omega)⟩) (fun S78 H locs hp78 hW => ?_)
    rw [hp78] at hW
    refine W.widen (k := 1) (n := 3) (by omega) (by omega) ?_
    refine r_areta (x := (some qn)) hx hb hr (Or.inl ⟨_, rfl⟩) hlocks hW ?_ dX6_partyOf_81
    exact ⟨qn, 8, _, rfl, rfl, rfl, by unfold kdF; rw [if_neg (by omega), if_neg (by omega), if_neg (by omega)], rfl, rfl, rfl⟩
