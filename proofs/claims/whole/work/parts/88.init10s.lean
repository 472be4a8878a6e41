theorem lk10s : ∀ x ∈ lk0.filter (fun q => q.1 < 65) ++ [(0, 7, 33), (0, 8, 41), (14, 4, 28), (14, 5, 29)], x ∈ ((((((((((((((((((((((((((((((((((((((((((((((((([] ++ (List.range 8).map (fun j => (1, j, 1 + 1 + j))) ++ [(0, 0, 1)]) ++ [(0, 1, 10)]) ++ [(0, 2, 11)]) ++ [(12, 0, 13)]) ++ [(0, 3, 12)]) ++ (List.range 9).map (fun j => (15, j, 15 + 1 + j))) ++ [(14, 0, 15)]) ++ [(14, 1, (15 + 10))]) ++ [(14, 2, (15 + 11))]) ++ [(14, 3, (15 + 12))]) ++ [(14, 4, (15 + 13))]) ++ [(14, 5, (15 + 14))]) ++ [(0, 4, 14)]) ++ [(30, 0, 31)]) ++ [(0, 5, 30)]) ++ [(0, 6, 32)]) ++ [(33, 9, 34)]) ++ [(33, 10, (34 + 1))]) ++ [(33, 11, (34 + 2))]) ++ [(33, 12, (34 + 3))]) ++ [(33, 13, (34 + 4))]) ++ [(33, 14, (34 + 5))]) ++ [(33, 15, (34 + 6))]) ++ [(0, 7, 33)]) ++ [(41, 9, 42)]) ++ [(41, 10, (42 + 1))]) ++ [(41, 11, (42 + 2))]) ++ [(41, 12, (42 + 3))]) ++ [(41, 13, (42 + 4))]) ++ [(41, 14, (42 + 5))]) ++ [(41, 15, (42 + 6))]) ++ [(0, 8, 41)]) ++ [(49, 9, 50)]) ++ [(49, 10, (50 + 1))]) ++ [(49, 11, (50 + 2))]) ++ [(49, 12, (50 + 3))]) ++ [(49, 13, (50 + 4))]) ++ [(49, 14, (50 + 5))]) ++ [(49, 15, (50 + 6))]) ++ [(32, 0, 49)]) ++ [(57, 9, 58)]) ++ [(57, 10, (58 + 1))]) ++ [(57, 11, (58 + 2))]) ++ [(57, 12, (58 + 3))]) ++ [(57, 13, (58 + 4))]) ++ [(57, 14, (58 + 5))]) ++ [(57, 15, (58 + 6))]) ++ [(32, 1, 57)]) := by decide +kernel
set_option maxHeartbeats 4000000 in
set_option maxRecDepth 100000 in
theorem t_X10_init_s (l : Launch) (D : Dc) (G : Gg) (S : Sg) (z : Nat) (hn0 : gN G = 1) (hkd : gK G 0 = 9) (hz0 : gZ G 0 = 0) (hF : Fr G S) (hI : gi S = fun _ _ => 0) (hJ : gj S = fun _ _ => 0) (hP0 : gp S = fun _ _ => none) : MVa l yX10_init wsX10_init rmX10_init D G S z [.ref (gA G 0)] 64 8380 (fun U => gN U.1 = 65 ∧ gA U.1 0 = gA G 0 ∧ (∀ k, k < 65 → gK U.1 k = K0.getD k 0 ∧ gZ U.1 k = Z0.getD k 0) ∧ Fr U.1 U.2 ∧ LkS U.1 U.2 (lk0.filter (fun q => q.1 < 65) ++ [(0, 7, 33), (0, 8, 41), (14, 4, 28), (14, 5, 29)]) ∧ gi U.2 = va_up (fun _ _ => 0) 11 (flR (fun _ => 0) 8 (-1)) ∧ gj U.2 = (fun _ _ => 0) ∧ ∀ j, j = 40 ∨ j = 48 ∨ j = 56 ∨ j = 64 → gp U.2 j = fun _ => none) := by
  refine Met.ofW (cc := cX10_init) (maxL := 2) (ret := none) (by decide +kernel) rfl ?_
  intro pP eE s mM args bl mT cD s₁ bD hml hv
  obtain ⟨rfl, hv⟩ := hv
  have hz := hv.1
  subst hz
  have hx := bD.exec
  have hb := bD.bytes
  have hr := bD.returns
  have hts := atoms_spec (ws := wsX10_init) bD.pre
  have hown : s.vm.findClass RX10 = some mM.cls := findClass_of_methodNamed bD.named
  have hlocks := bD.notSynchronized
  have hin : mT.name = "<init>" := (name_of_methodNamed bD.named bD.method).1
  have hW := Wd.start hv
  have hA : ∀ q, s.heap.size ≤ q → AW G s.heap.size q := fun q h => Or.inr h
  have hl := lv_entry ([.ref (gA G 0)]) (n := 2) (Nat.le_of_ble_eq_true rfl)
  rw [lg_entry_eq]
  generalize (lg_sl ([.ref (gA G 0)]) ++ List.replicate (2 - (lg_sl ([.ref (gA G 0)])).length) Slot.unset).toArray = ls at hl ⊢
  have hl : lv_has ls 2 [(0, .ref (gA G 0))] := hl
  have q0 := hts (.methodLink RX10 3 objectInit) (List.mem_of_getElem? (i := 1) rfl)
  have q1 := hts (.instanceMethod objectInit) (List.mem_of_getElem? (i := 2) rfl)
  have q2 := hts (.code objectInit ⟨#[0xb1]⟩ 1 none) (List.mem_of_getElem? (i := 3) rfl)
  have q3 := hts (.classLink RX10 9 "[[I") (List.mem_of_getElem? (i := 4) rfl)
  have q4 := hts (.arrayClass .int) (List.mem_of_getElem? (i := 5) rfl)
  have q5 := hts (.fieldLink RX10 11 "WoodForTwo" "items" "[[I") (List.mem_of_getElem? (i := 6) rfl)
  have q6 := hts (.fieldLink RX10 14 "WoodForTwo" "lanes" "[I") (List.mem_of_getElem? (i := 7) rfl)
  have q7 := hts (.fieldLink RX10 18 "WoodForTwo" "sizes" "[I") (List.mem_of_getElem? (i := 8) rfl)
  have q8 := hts (.classLink RX10 21 RX6) (List.mem_of_getElem? (i := 9) rfl)
  have q9 := hts (.instantiable RX6 8) (List.mem_of_getElem? (i := 10) rfl)
  have q10 := hts (.initialized RX6) (List.mem_of_getElem? (i := 11) rfl)
  have q11 := hts (.instanceMethod yX6_init) (List.mem_of_getElem? (i := 27) rfl)
  have q12 := hts (.fieldLink RX10 24 "WoodForTwo" "reader" "LWoodForTwo$Reader;") (List.mem_of_getElem? (i := 12) rfl)
  have q13 := hts (.classLink RX10 28 RX0) (List.mem_of_getElem? (i := 13) rfl)
  have q14 := hts (.instantiable RX0 10) (List.mem_of_getElem? (i := 14) rfl)
  have q15 := hts (.initialized RX0) (List.mem_of_getElem? (i := 15) rfl)
  have q16 := hts (.instanceMethod yX0_init) (List.mem_of_getElem? (i := 32) rfl)
  have q17 := hts (.fieldLink RX10 31 "WoodForTwo" "foretelling" "LWoodForTwo$Foretelling;") (List.mem_of_getElem? (i := 16) rfl)
  have q18 := hts (.classLink RX10 35 RX8) (List.mem_of_getElem? (i := 17) rfl)
  have q19 := hts (.instantiable RX8 2) (List.mem_of_getElem? (i := 18) rfl)
  have q20 := hts (.initialized RX8) (List.mem_of_getElem? (i := 19) rfl)
  have q21 := hts (.instanceMethod yX8_init) (List.mem_of_getElem? (i := 43) rfl)
  have q22 := hts (.fieldLink RX10 38 "WoodForTwo" "bodies" "LWoodForTwo$Trace;") (List.mem_of_getElem? (i := 20) rfl)
  have q23 := hts (.classLink RX10 42 RX5) (List.mem_of_getElem? (i := 21) rfl)
  have q24 := hts (.fieldLink RX10 44 "WoodForTwo" "images" "[LWoodForTwo$Pass;") (List.mem_of_getElem? (i := 22) rfl)
  have q25 := hts (.instantiable RX5 16) (List.mem_of_getElem? (i := 23) rfl)
  have q26 := hts (.initialized RX5) (List.mem_of_getElem? (i := 24) rfl)
  have q27 := hts (.instanceMethod yX5_init) (List.mem_of_getElem? (i := 47) rfl)
  have q28 := hts (.fieldLink RX10 49 "WoodForTwo" "here" "LWoodForTwo$Pass;") (List.mem_of_getElem? (i := 25) rfl)
  have q29 := hts (.fieldLink RX10 53 "WoodForTwo" "spare" "LWoodForTwo$Pass;") (List.mem_of_getElem? (i := 26) rfl)
  have iX10 : ∀ w ∈ wsX100, w ∈ wsX10_init := fun _ h => List.mem_cons_of_mem _ (List.mem_append_left _ (List.mem_append_left _ (List.mem_append_left _ (List.mem_append_left _ (List.mem_append_right _ (h))))))
  have iX6 : ∀ w ∈ wsX60, w ∈ wsX10_init := fun _ h => List.mem_cons_of_mem _ (List.mem_append_left _ (List.mem_append_left _ (List.mem_append_left _ (List.mem_append_right _ (h)))))
  have iX0 : ∀ w ∈ wsX00, w ∈ wsX10_init := fun _ h => List.mem_cons_of_mem _ (List.mem_append_left _ (List.mem_append_left _ (List.mem_append_right _ (h))))
  have iX8 : ∀ w ∈ wsX80, w ∈ wsX10_init := fun _ h => List.mem_cons_of_mem _ (List.mem_append_left _ (List.mem_append_right _ (h)))
  have iX5 : ∀ w ∈ wsX50, w ∈ wsX10_init := fun _ h => List.mem_cons_of_mem _ (List.mem_append_right _ (h))
  refine lv_aload_n hx hb dX10_init_0 rfl (lv_at hl 0 rfl) ?_
  refine W.objInit hx hb hown q0 q1 q2 rfl (by rw [hml]; exact hl.1) rfl dX10_init_1 (Nat.le_of_ble_eq_true rfl) (Nat.le_of_ble_eq_true rfl) ?_
  refine W.eq (g2 := F0 mM 4 ls []) rfl ?_
  have hk : 0 < gN G := by omega
  have hE0 : Ext G G [] := Ext.rf
  have hN0 : gN G = 1 + 0 := hn0
  have hF0_0 : Fr G S := hF
  have hI0 : gi S = fun _ _ => 0 := hI
  have hJ0 : gj S = fun _ _ => 0 := hJ
  have hO0 : ∀ j, ¬ (j = 0 ∨ j = 1 ∨ j = 12 ∨ j = 13 ∨ j = 14 ∨ j = 15 ∨ j = 30 ∨ j = 31 ∨ j = 32 ∨ j = 33 ∨ j = 34 ∨ j = 41 ∨ j = 42 ∨ j = 49 ∨ j = 50 ∨ j = 57 ∨ j = 58) → gp S j = fun _ => none := fun j _ => by rw [hP0]
  have hL0_0 : LkS G S [] := LkS.nil
  refine lv_aload_n hx hb dX10_init_4 rfl (lv_at hl 0 rfl) ?_
  refine lv_bipush (v := 8) hx hb dX10_init_5 (by decide) ?_
  refine lv_bipush (v := 40) hx hb dX10_init_7 (by decide) ?_
  refine r_mnaF (R := (headSpec wsX10_init rmX10_init).room) (cells := 0) (slots := 0) (ty := .int) (N := 8) (M := 40) (a0 := (40, .inl (fun _ => 0))) hx hb hown (by rw [show ("[" ++ (FieldType.array .int).toString) = "[[I" from by decide +kernel]; exact q3) (by exact hW.2.2.2.2.2.2.2.2.2.2.2.2.2.2.2.1) q4 hW hA hF0_0 16 12 (hn_ints hW).1 (hn_ints hW).2 (fun _ _ _ _ => rfl) rfl (fun _ => rfl) (by decide) (by decide) (show (8 : Int32).toNatClampNeg = 8 from by decide) (show (40 : Int32).toNatClampNeg = 40 from by decide) (Nat.le_of_ble_eq_true rfl) (Nat.le_of_ble_eq_true rfl) (Nat.le_of_ble_eq_true rfl) rfl rfl (by exact Nat.le_of_ble_eq_true rfl) (by exact Nat.le_of_ble_eq_true rfl) dX10_init_9 (fun ad0 H hW => ?_)
  obtain ⟨G1, hG1⟩ : ∃ g, g = gMna G ad0 16 12 8 40 := ⟨_, rfl⟩
  rw [← hG1] at hW
  have hX1 : Ext G G1 [(16, 8), (12, 40), (12, 40), (12, 40), (12, 40), (12, 40), (12, 40), (12, 40), (12, 40)] := by rw [hG1]; exact Ext.mna
  have hE1 : Ext G G1 [(16, 8), (12, 40), (12, 40), (12, 40), (12, 40), (12, 40), (12, 40), (12, 40), (12, 40)] := Ext.tr hE0 hX1
  have hN1 : gN G1 = 1 + 9 := by have h9 := hE1.1; rw [hn0] at h9; exact h9
  have hQ0 : gA G1 1 = ad0 := by rw [hG1, show 1 = gN G from by omega]; exact gMna_s.1
  have hgn0 : gN G = 1 := by omega
  rw [hgn0] at hW
  obtain ⟨S1, hS1⟩ : ∃ g, g = rp S 1 (fun j => if j < 8 then some (ad0 + 1 + j) else none) := ⟨_, rfl⟩
  rw [← hS1] at hW
  have hF1_1 : Fr G1 S1 := by rw [hS1]; exact (Fr.mono hF0_0 (by omega)).rp (by omega)
  have hI1 : gi S1 = fun _ _ => 0 := by rw [hS1]; exact hI0
  have hJ1 : gj S1 = fun _ _ => 0 := by rw [hS1]; exact hJ0
  have hO1 : ∀ j, ¬ (j = 0 ∨ j = 1 ∨ j = 12 ∨ j = 13 ∨ j = 14 ∨ j = 15 ∨ j = 30 ∨ j = 31 ∨ j = 32 ∨ j = 33 ∨ j = 34 ∨ j = 41 ∨ j = 42 ∨ j = 49 ∨ j = 50 ∨ j = 57 ∨ j = 58) → gp S1 j = fun _ => none := fun j x => by rw [hS1]; exact (up_n _ _ (by omega)).trans (hO0 j x)
  have hL1_1 : LkS G1 S1 ([] ++ (List.range 8).map (fun j => (1, j, 1 + 1 + j))) := by have h9 := (hL0_0).mna (q := ad0) (kdO := 16) (kdI := 12) (N := 8) (M := 40); rw [hgn0] at h9; rw [hS1, hG1]; exact h9
  refine r_putrF (ci := 9) (C := RX10) (T := TX10) (N := 10) hx hb hts iX10 tyX10 tyX10_ok nmX10 hown hW rfl 0 0 (hE1.2.1 0 hk).1 (by omega) ((hE1.2.1 0 hk).2.1.trans hkd) (by decide) q5 (fun _ h9 => h9) rfl hin rfl (tyX10_ok 0 (by decide)) rfl rfl (rp S1 0 (va_up (gp S1 0) 0 (some ad0))) (gp S1 0) (va_up (gp S1 0) 0 (some ad0)) rfl (e_ps _ _ _) rfl rfl rfl (Nat.le_of_ble_eq_true rfl) rfl c_p0 dX10_init_13 (fun H locs hW => ?_)
  obtain ⟨S2, hS2⟩ : ∃ g, g = (rp S1 0 (va_up (gp S1 0) 0 (some ad0))) := ⟨_, rfl⟩
  rw [← hS2] at hW
  have hF1_2 : Fr G1 S2 := by rw [hS2]; exact Fr.rp hF1_1 (by omega)
  have hI2 : gi S2 = fun _ _ => 0 := by rw [hS2]; exact hI1
  have hJ2 : gj S2 = fun _ _ => 0 := by rw [hS2]; exact hJ1
  have hO2 : ∀ j, ¬ (j = 0 ∨ j = 1 ∨ j = 12 ∨ j = 13 ∨ j = 14 ∨ j = 15 ∨ j = 30 ∨ j = 31 ∨ j = 32 ∨ j = 33 ∨ j = 34 ∨ j = 41 ∨ j = 42 ∨ j = 49 ∨ j = 50 ∨ j = 57 ∨ j = 58) → gp S2 j = fun _ => none := fun j x => by rw [hS2]; exact (up_n _ _ (by omega)).trans (hO1 j x)
  have hL1_2 : LkS G1 S2 (([] ++ (List.range 8).map (fun j => (1, j, 1 + 1 + j))) ++ [(0, 0, 1)]) := by rw [hS2]; exact LkS.put hL1_1 (by decide) (by omega) (by omega) hQ0
  refine lv_aload_n hx hb dX10_init_16 rfl (lv_at hl 0 rfl) ?_
  refine lv_bipush (v := 8) hx hb dX10_init_17 (by decide) ?_
  refine r_newaF (atype := .int) (a0 := (8, .inl (fun _ => 0))) hx hb q4 rfl hW hA hF1_2 12 (hn_int hW) rfl (fun _ => rfl) (by decide) (show (8 : Int32).toNatClampNeg = 8 from by decide) (Nat.le_of_ble_eq_true rfl) (Nat.le_of_ble_eq_true rfl) (Nat.le_of_ble_eq_true rfl) dX10_init_19 (fun ad1 H hW => ?_)
  obtain ⟨G2, hG2⟩ : ∃ g, g = gAdd G1 ad1 12 8 := ⟨_, rfl⟩
  rw [← hG2] at hW
  have hX2 : Ext G1 G2 [(12, 8)] := by rw [hG2]; exact Ext.add
  have hE2 : Ext G G2 [(16, 8), (12, 40), (12, 40), (12, 40), (12, 40), (12, 40), (12, 40), (12, 40), (12, 40), (12, 8)] := Ext.tr hE1 hX2
  have hN2 : gN G2 = 1 + 10 := by have h9 := hE2.1; rw [hn0] at h9; exact h9
  have hQ1 : gA G2 10 = ad1 := by rw [hG2, show 10 = gN G1 from by omega]; exact gAdd_As
  have hF2_2 : Fr G2 S2 := Fr.mono hF1_2 (by omega)
  have hL2_2 : LkS G2 S2 (([] ++ (List.range 8).map (fun j => (1, j, 1 + 1 + j))) ++ [(0, 0, 1)]) := hL1_2.ext hX2
  refine r_putrF (ci := 9) (C := RX10) (T := TX10) (N := 10) hx hb hts iX10 tyX10 tyX10_ok nmX10 hown hW rfl 0 1 (hE2.2.1 0 hk).1 (by omega) ((hE2.2.1 0 hk).2.1.trans hkd) (by decide) q6 (fun _ h9 => h9) rfl hin rfl (tyX10_ok 1 (by decide)) rfl rfl (rp S2 0 (va_up (gp S2 0) 1 (some ad1))) (gp S2 0) (va_up (gp S2 0) 1 (some ad1)) rfl (e_ps _ _ _) rfl rfl rfl (Nat.le_of_ble_eq_true rfl) rfl c_p0 dX10_init_21 (fun H locs hW => ?_)
  obtain ⟨S3, hS3⟩ : ∃ g, g = (rp S2 0 (va_up (gp S2 0) 1 (some ad1))) := ⟨_, rfl⟩
  rw [← hS3] at hW
  have hF2_3 : Fr G2 S3 := by rw [hS3]; exact Fr.rp hF2_2 (by omega)
  have hI3 : gi S3 = fun _ _ => 0 := by rw [hS3]; exact hI2
  have hJ3 : gj S3 = fun _ _ => 0 := by rw [hS3]; exact hJ2
  have hO3 : ∀ j, ¬ (j = 0 ∨ j = 1 ∨ j = 12 ∨ j = 13 ∨ j = 14 ∨ j = 15 ∨ j = 30 ∨ j = 31 ∨ j = 32 ∨ j = 33 ∨ j = 34 ∨ j = 41 ∨ j = 42 ∨ j = 49 ∨ j = 50 ∨ j = 57 ∨ j = 58) → gp S3 j = fun _ => none := fun j x => by rw [hS3]; exact (up_n _ _ (by omega)).trans (hO2 j x)
  have hL2_3 : LkS G2 S3 ((([] ++ (List.range 8).map (fun j => (1, j, 1 + 1 + j))) ++ [(0, 0, 1)]) ++ [(0, 1, 10)]) := by rw [hS3]; exact LkS.put hL2_2 (by decide) (by omega) (by omega) hQ1
  refine lv_aload_n hx hb dX10_init_24 rfl (lv_at hl 0 rfl) ?_
  refine lv_bipush (v := 8) hx hb dX10_init_25 (by decide) ?_
  refine r_newaF (atype := .int) (a0 := (8, .inl (fun _ => 0))) hx hb q4 rfl hW hA hF2_3 12 (hn_int hW) rfl (fun _ => rfl) (by decide) (show (8 : Int32).toNatClampNeg = 8 from by decide) (Nat.le_of_ble_eq_true rfl) (Nat.le_of_ble_eq_true rfl) (Nat.le_of_ble_eq_true rfl) dX10_init_27 (fun ad2 H hW => ?_)
  obtain ⟨G3, hG3⟩ : ∃ g, g = gAdd G2 ad2 12 8 := ⟨_, rfl⟩
  rw [← hG3] at hW
  have hX3 : Ext G2 G3 [(12, 8)] := by rw [hG3]; exact Ext.add
  have hE3 : Ext G G3 [(16, 8), (12, 40), (12, 40), (12, 40), (12, 40), (12, 40), (12, 40), (12, 40), (12, 40), (12, 8), (12, 8)] := Ext.tr hE2 hX3
  have hN3 : gN G3 = 1 + 11 := by have h9 := hE3.1; rw [hn0] at h9; exact h9
  have hQ2 : gA G3 11 = ad2 := by rw [hG3, show 11 = gN G2 from by omega]; exact gAdd_As
  have hF3_3 : Fr G3 S3 := Fr.mono hF2_3 (by omega)
  have hL3_3 : LkS G3 S3 ((([] ++ (List.range 8).map (fun j => (1, j, 1 + 1 + j))) ++ [(0, 0, 1)]) ++ [(0, 1, 10)]) := hL2_3.ext hX3
  refine r_putrF (ci := 9) (C := RX10) (T := TX10) (N := 10) hx hb hts iX10 tyX10 tyX10_ok nmX10 hown hW rfl 0 2 (hE3.2.1 0 hk).1 (by omega) ((hE3.2.1 0 hk).2.1.trans hkd) (by decide) q7 (fun _ h9 => h9) rfl hin rfl (tyX10_ok 2 (by decide)) rfl rfl (rp S3 0 (va_up (gp S3 0) 2 (some ad2))) (gp S3 0) (va_up (gp S3 0) 2 (some ad2)) rfl (e_ps _ _ _) rfl rfl rfl (Nat.le_of_ble_eq_true rfl) rfl c_p0 dX10_init_29 (fun H locs hW => ?_)
  obtain ⟨S4, hS4⟩ : ∃ g, g = (rp S3 0 (va_up (gp S3 0) 2 (some ad2))) := ⟨_, rfl⟩
  rw [← hS4] at hW
  have hF3_4 : Fr G3 S4 := by rw [hS4]; exact Fr.rp hF3_3 (by omega)
  have hI4 : gi S4 = fun _ _ => 0 := by rw [hS4]; exact hI3
  have hJ4 : gj S4 = fun _ _ => 0 := by rw [hS4]; exact hJ3
  have hO4 : ∀ j, ¬ (j = 0 ∨ j = 1 ∨ j = 12 ∨ j = 13 ∨ j = 14 ∨ j = 15 ∨ j = 30 ∨ j = 31 ∨ j = 32 ∨ j = 33 ∨ j = 34 ∨ j = 41 ∨ j = 42 ∨ j = 49 ∨ j = 50 ∨ j = 57 ∨ j = 58) → gp S4 j = fun _ => none := fun j x => by rw [hS4]; exact (up_n _ _ (by omega)).trans (hO3 j x)
  have hL3_4 : LkS G3 S4 (((([] ++ (List.range 8).map (fun j => (1, j, 1 + 1 + j))) ++ [(0, 0, 1)]) ++ [(0, 1, 10)]) ++ [(0, 2, 11)]) := by rw [hS4]; exact LkS.put hL3_3 (by decide) (by omega) (by omega) hQ2
  refine lv_aload_n hx hb dX10_init_32 rfl (lv_at hl 0 rfl) ?_
  refine r_newF (ci := 5) (C := RX6) (T := TX6) (N := 8) (fs := [.null, .int 0, .int 0, .int 0, .int 0, .int 0, .int 0, .int 0]) hx hb hts iX6 tyX6 tyX6_ok hown q8 q9 q10 hW hA hF3_4 rfl rfl (fun j hj => by rcases (show j = 0 ∨ j = 1 ∨ j = 2 ∨ j = 3 ∨ j = 4 ∨ j = 5 ∨ j = 6 ∨ j = 7 by omega) with rfl | rfl | rfl | rfl | rfl | rfl | rfl | rfl <;> rfl) (Nat.le_of_ble_eq_true rfl) (Nat.le_of_ble_eq_true rfl) dX10_init_33 (fun ad3 H hW => ?_)
  obtain ⟨G4, hG4⟩ : ∃ g, g = gAdd G3 ad3 5 0 := ⟨_, rfl⟩
  rw [← hG4] at hW
  have hX4 : Ext G3 G4 [(5, 0)] := by rw [hG4]; exact Ext.add
  have hE4 : Ext G G4 [(16, 8), (12, 40), (12, 40), (12, 40), (12, 40), (12, 40), (12, 40), (12, 40), (12, 40), (12, 8), (12, 8), (5, 0)] := Ext.tr hE3 hX4
  have hN4 : gN G4 = 1 + 12 := by have h9 := hE4.1; rw [hn0] at h9; exact h9
  have hQ3 : gA G4 12 = ad3 := by rw [hG4, show 12 = gN G3 from by omega]; exact gAdd_As
  have hF4_4 : Fr G4 S4 := Fr.mono hF3_4 (by omega)
  have hL4_4 : LkS G4 S4 (((([] ++ (List.range 8).map (fun j => (1, j, 1 + 1 + j))) ++ [(0, 0, 1)]) ++ [(0, 1, 10)]) ++ [(0, 2, 11)]) := hL3_4.ext hX4
  refine lv_dup hx hb dX10_init_36 rfl ?_
  refine W.eq (g2 := F0 mM 37 ls [.ref (gA G4 12), .ref ad3, .ref (gA G 0)]) (by rw [hQ3]) ?_
  refine r_callva hW hA (va_runIN (As := []) (rest := [.ref ad3, .ref (gA G 0)]) ⟨hx, hb, hml, hown, hts⟩ (t_X6_init l D G4 S4 _ 12 13 (by omega) ((hE4.kz hn0 (by decide) (by decide)).1) (by omega) hF4_4) ⟨va_cnB 0 hts gX10_init_X6_init_n23 rfl rfl rfl (hW.2.2.2.2.2.2.2.2.2.1 (23, "WoodForTwo$Reader") (by decide)) q10 (by decide +kernel) ⟨Nat.le_of_ble_eq_true rfl, Nat.le_of_ble_eq_true rfl⟩, rfl, q11⟩ (r_preS hA hW) rfl rfl hl.1 rfl (lv_room (Nat.le_of_ble_eq_true rfl)) dX10_init_37 ⟨(show 12 + 1 ≤ 64 by omega), (show 352 + 400 ≤ 8380 by omega)⟩) (fun G5 S5 H locs hp5 hW => ?_)
  obtain ⟨hX5, hF5_5, hl5, hi5, hj5, ho5⟩ := hp5
  have hX5 : Ext G4 G5 [(11, 400)] := hX5
  have hF5_5 : Fr G5 S5 := hF5_5
  have hE5 : Ext G G5 [(16, 8), (12, 40), (12, 40), (12, 40), (12, 40), (12, 40), (12, 40), (12, 40), (12, 40), (12, 8), (12, 8), (5, 0), (11, 400)] := Ext.tr hE4 hX5
  have hN5 : gN G5 = 1 + 13 := by have h9 := hE5.1; rw [hn0] at h9; exact h9
  have hL5_5 : LkS G5 S5 ((((([] ++ (List.range 8).map (fun j => (1, j, 1 + 1 + j))) ++ [(0, 0, 1)]) ++ [(0, 1, 10)]) ++ [(0, 2, 11)]) ++ [(12, 0, 13)]) := hl5 _ hL4_4 (by decide)
  have hI5 : gi S5 = fun _ _ => 0 := hi5.trans hI4
  have hJ5 : gj S5 = fun _ _ => 0 := hj5.trans hJ4
  have hO5 : ∀ j, ¬ (j = 0 ∨ j = 1 ∨ j = 12 ∨ j = 13 ∨ j = 14 ∨ j = 15 ∨ j = 30 ∨ j = 31 ∨ j = 32 ∨ j = 33 ∨ j = 34 ∨ j = 41 ∨ j = 42 ∨ j = 49 ∨ j = 50 ∨ j = 57 ∨ j = 58) → gp S5 j = fun _ => none := fun j x => (ho5 j (by omega) (by omega)).trans (hO4 j x)
  refine r_putrF (ci := 9) (C := RX10) (T := TX10) (N := 10) hx hb hts iX10 tyX10 tyX10_ok nmX10 hown hW rfl 0 3 (hE5.2.1 0 hk).1 (by omega) ((hE5.2.1 0 hk).2.1.trans hkd) (by decide) q12 (fun _ h9 => h9) rfl hin rfl (tyX10_ok 3 (by decide)) rfl rfl (rp S5 0 (va_up (gp S5 0) 3 (some ad3))) (gp S5 0) (va_up (gp S5 0) 3 (some ad3)) rfl (e_ps _ _ _) rfl rfl rfl (Nat.le_of_ble_eq_true rfl) rfl c_p0 dX10_init_40 (fun H locs hW => ?_)
  obtain ⟨S6, hS6⟩ : ∃ g, g = (rp S5 0 (va_up (gp S5 0) 3 (some ad3))) := ⟨_, rfl⟩
  rw [← hS6] at hW
  have hF5_6 : Fr G5 S6 := by rw [hS6]; exact Fr.rp hF5_5 (by omega)
  have hI6 : gi S6 = fun _ _ => 0 := by rw [hS6]; exact hI5
  have hJ6 : gj S6 = fun _ _ => 0 := by rw [hS6]; exact hJ5
  have hO6 : ∀ j, ¬ (j = 0 ∨ j = 1 ∨ j = 12 ∨ j = 13 ∨ j = 14 ∨ j = 15 ∨ j = 30 ∨ j = 31 ∨ j = 32 ∨ j = 33 ∨ j = 34 ∨ j = 41 ∨ j = 42 ∨ j = 49 ∨ j = 50 ∨ j = 57 ∨ j = 58) → gp S6 j = fun _ => none := fun j x => by rw [hS6]; exact (up_n _ _ (by omega)).trans (hO5 j x)
  have hL5_6 : LkS G5 S6 (((((([] ++ (List.range 8).map (fun j => (1, j, 1 + 1 + j))) ++ [(0, 0, 1)]) ++ [(0, 1, 10)]) ++ [(0, 2, 11)]) ++ [(12, 0, 13)]) ++ [(0, 3, 12)]) := by rw [hS6]; exact LkS.put hL5_5 (by decide) (by omega) (by omega) ((hX5.2.1 12 (by omega)).1.trans hQ3)
  refine lv_aload_n hx hb dX10_init_43 rfl (lv_at hl 0 rfl) ?_
  refine r_newF (ci := 0) (C := RX0) (T := TX0) (N := 10) (fs := [.null, .null, .null, .null, .null, .null, .int 0, .int 0, .int 0, .long 0]) hx hb hts iX0 tyX0 tyX0_ok hown q13 q14 q15 hW hA hF5_6 rfl rfl (fun j hj => by rcases (show j = 0 ∨ j = 1 ∨ j = 2 ∨ j = 3 ∨ j = 4 ∨ j = 5 ∨ j = 6 ∨ j = 7 ∨ j = 8 ∨ j = 9 by omega) with rfl | rfl | rfl | rfl | rfl | rfl | rfl | rfl | rfl | rfl <;> rfl) (Nat.le_of_ble_eq_true rfl) (Nat.le_of_ble_eq_true rfl) dX10_init_44 (fun ad5 H hW => ?_)
  obtain ⟨G6, hG6⟩ : ∃ g, g = gAdd G5 ad5 0 0 := ⟨_, rfl⟩
  rw [← hG6] at hW
  have hX6 : Ext G5 G6 [(0, 0)] := by rw [hG6]; exact Ext.add
  have hE6 : Ext G G6 [(16, 8), (12, 40), (12, 40), (12, 40), (12, 40), (12, 40), (12, 40), (12, 40), (12, 40), (12, 8), (12, 8), (5, 0), (11, 400), (0, 0)] := Ext.tr hE5 hX6
  have hN6 : gN G6 = 1 + 14 := by have h9 := hE6.1; rw [hn0] at h9; exact h9
  have hQ5 : gA G6 14 = ad5 := by rw [hG6, show 14 = gN G5 from by omega]; exact gAdd_As
  have hF6_6 : Fr G6 S6 := Fr.mono hF5_6 (by omega)
  have hL6_6 : LkS G6 S6 (((((([] ++ (List.range 8).map (fun j => (1, j, 1 + 1 + j))) ++ [(0, 0, 1)]) ++ [(0, 1, 10)]) ++ [(0, 2, 11)]) ++ [(12, 0, 13)]) ++ [(0, 3, 12)]) := hL5_6.ext hX6
  refine lv_dup hx hb dX10_init_47 rfl ?_
  refine W.eq (g2 := F0 mM 48 ls [.ref (gA G6 14), .ref ad5, .ref (gA G 0)]) (by rw [hQ5]) ?_
  refine r_callva hW hA (va_runIN (As := []) (rest := [.ref ad5, .ref (gA G 0)]) ⟨hx, hb, hml, hown, hts⟩ (t_X0_init l D G6 S6 _ 14 15 (by omega) ((hE6.kz hn0 (by decide) (by decide)).1) (by omega) hF6_6) ⟨va_cnB 0 hts gX10_init_X0_init_n30 rfl rfl rfl (hW.2.2.2.2.2.2.2.2.2.1 (30, "WoodForTwo$Foretelling") (by decide)) q15 (by decide +kernel) ⟨Nat.le_of_ble_eq_true rfl, Nat.le_of_ble_eq_true rfl⟩, rfl, q16⟩ (r_preS hA hW) rfl rfl hl.1 rfl (lv_room (Nat.le_of_ble_eq_true rfl)) dX10_init_48 ⟨(show 14 + 15 ≤ 64 by omega), (show 762 + 7166 ≤ 8380 by omega)⟩) (fun G7 S7 H locs hp7 hW => ?_)
  obtain ⟨hX7, hF7_7, hl7, hi7, hj7, ho7⟩ := hp7
  have hX7 : Ext G6 G7 [(17, 9), (13, 649), (13, 649), (13, 649), (13, 649), (13, 649), (13, 649), (13, 649), (13, 649), (13, 649), (12, 6), (12, 6), (12, 6), (13, 649), (13, 649)] := hX7
  have hF7_7 : Fr G7 S7 := hF7_7
  have hE7 : Ext G G7 [(16, 8), (12, 40), (12, 40), (12, 40), (12, 40), (12, 40), (12, 40), (12, 40), (12, 40), (12, 8), (12, 8), (5, 0), (11, 400), (0, 0), (17, 9), (13, 649), (13, 649), (13, 649), (13, 649), (13, 649), (13, 649), (13, 649), (13, 649), (13, 649), (12, 6), (12, 6), (12, 6), (13, 649), (13, 649)] := Ext.tr hE6 hX7
  have hN7 : gN G7 = 1 + 29 := by have h9 := hE7.1; rw [hn0] at h9; exact h9
  have hL7_7 : LkS G7 S7 ((((((((((((([] ++ (List.range 8).map (fun j => (1, j, 1 + 1 + j))) ++ [(0, 0, 1)]) ++ [(0, 1, 10)]) ++ [(0, 2, 11)]) ++ [(12, 0, 13)]) ++ [(0, 3, 12)]) ++ (List.range 9).map (fun j => (15, j, 15 + 1 + j))) ++ [(14, 0, 15)]) ++ [(14, 1, (15 + 10))]) ++ [(14, 2, (15 + 11))]) ++ [(14, 3, (15 + 12))]) ++ [(14, 4, (15 + 13))]) ++ [(14, 5, (15 + 14))]) := hl7 _ hL6_6 (by decide)
  have hI7 : gi S7 = fun _ _ => 0 := hi7.trans hI6
  have hJ7 : gj S7 = fun _ _ => 0 := hj7.trans hJ6
  have hO7 : ∀ j, ¬ (j = 0 ∨ j = 1 ∨ j = 12 ∨ j = 13 ∨ j = 14 ∨ j = 15 ∨ j = 30 ∨ j = 31 ∨ j = 32 ∨ j = 33 ∨ j = 34 ∨ j = 41 ∨ j = 42 ∨ j = 49 ∨ j = 50 ∨ j = 57 ∨ j = 58) → gp S7 j = fun _ => none := fun j x => (ho7 j (by omega) (by omega)).trans (hO6 j x)
  refine r_putrF (ci := 9) (C := RX10) (T := TX10) (N := 10) hx hb hts iX10 tyX10 tyX10_ok nmX10 hown hW rfl 0 4 (hE7.2.1 0 hk).1 (by omega) ((hE7.2.1 0 hk).2.1.trans hkd) (by decide) q17 (fun _ h9 => h9) rfl hin rfl (tyX10_ok 4 (by decide)) rfl rfl (rp S7 0 (va_up (gp S7 0) 4 (some ad5))) (gp S7 0) (va_up (gp S7 0) 4 (some ad5)) rfl (e_ps _ _ _) rfl rfl rfl (Nat.le_of_ble_eq_true rfl) rfl c_p0 dX10_init_51 (fun H locs hW => ?_)
  obtain ⟨S8, hS8⟩ : ∃ g, g = (rp S7 0 (va_up (gp S7 0) 4 (some ad5))) := ⟨_, rfl⟩
  rw [← hS8] at hW
  have hF7_8 : Fr G7 S8 := by rw [hS8]; exact Fr.rp hF7_7 (by omega)
  have hI8 : gi S8 = fun _ _ => 0 := by rw [hS8]; exact hI7
  have hJ8 : gj S8 = fun _ _ => 0 := by rw [hS8]; exact hJ7
  have hO8 : ∀ j, ¬ (j = 0 ∨ j = 1 ∨ j = 12 ∨ j = 13 ∨ j = 14 ∨ j = 15 ∨ j = 30 ∨ j = 31 ∨ j = 32 ∨ j = 33 ∨ j = 34 ∨ j = 41 ∨ j = 42 ∨ j = 49 ∨ j = 50 ∨ j = 57 ∨ j = 58) → gp S8 j = fun _ => none := fun j x => by rw [hS8]; exact (up_n _ _ (by omega)).trans (hO7 j x)
  have hL7_8 : LkS G7 S8 (((((((((((((([] ++ (List.range 8).map (fun j => (1, j, 1 + 1 + j))) ++ [(0, 0, 1)]) ++ [(0, 1, 10)]) ++ [(0, 2, 11)]) ++ [(12, 0, 13)]) ++ [(0, 3, 12)]) ++ (List.range 9).map (fun j => (15, j, 15 + 1 + j))) ++ [(14, 0, 15)]) ++ [(14, 1, (15 + 10))]) ++ [(14, 2, (15 + 11))]) ++ [(14, 3, (15 + 12))]) ++ [(14, 4, (15 + 13))]) ++ [(14, 5, (15 + 14))]) ++ [(0, 4, 14)]) := by rw [hS8]; exact LkS.put hL7_7 (by decide) (by omega) (by omega) ((hX7.2.1 14 (by omega)).1.trans hQ5)
  refine lv_aload_n hx hb dX10_init_54 rfl (lv_at hl 0 rfl) ?_
  refine r_newF (ci := 7) (C := RX8) (T := TX8) (N := 2) (fs := [.null, .int 0]) hx hb hts iX8 tyX8 tyX8_ok hown q18 q19 q20 hW hA hF7_8 rfl rfl (fun j hj => by rcases (show j = 0 ∨ j = 1 by omega) with rfl | rfl <;> rfl) (Nat.le_of_ble_eq_true rfl) (Nat.le_of_ble_eq_true rfl) dX10_init_55 (fun ad7 H hW => ?_)
  obtain ⟨G8, hG8⟩ : ∃ g, g = gAdd G7 ad7 7 0 := ⟨_, rfl⟩
  rw [← hG8] at hW
  have hX8 : Ext G7 G8 [(7, 0)] := by rw [hG8]; exact Ext.add
  have hE8 : Ext G G8 [(16, 8), (12, 40), (12, 40), (12, 40), (12, 40), (12, 40), (12, 40), (12, 40), (12, 40), (12, 8), (12, 8), (5, 0), (11, 400), (0, 0), (17, 9), (13, 649), (13, 649), (13, 649), (13, 649), (13, 649), (13, 649), (13, 649), (13, 649), (13, 649), (12, 6), (12, 6), (12, 6), (13, 649), (13, 649), (7, 0)] := Ext.tr hE7 hX8
  have hN8 : gN G8 = 1 + 30 := by have h9 := hE8.1; rw [hn0] at h9; exact h9
  have hQ7 : gA G8 30 = ad7 := by rw [hG8, show 30 = gN G7 from by omega]; exact gAdd_As
  have hF8_8 : Fr G8 S8 := Fr.mono hF7_8 (by omega)
  have hL8_8 : LkS G8 S8 (((((((((((((([] ++ (List.range 8).map (fun j => (1, j, 1 + 1 + j))) ++ [(0, 0, 1)]) ++ [(0, 1, 10)]) ++ [(0, 2, 11)]) ++ [(12, 0, 13)]) ++ [(0, 3, 12)]) ++ (List.range 9).map (fun j => (15, j, 15 + 1 + j))) ++ [(14, 0, 15)]) ++ [(14, 1, (15 + 10))]) ++ [(14, 2, (15 + 11))]) ++ [(14, 3, (15 + 12))]) ++ [(14, 4, (15 + 13))]) ++ [(14, 5, (15 + 14))]) ++ [(0, 4, 14)]) := hL7_8.ext hX8
  refine lv_dup hx hb dX10_init_58 rfl ?_
  refine W.eq (g2 := F0 mM 59 ls [.ref (gA G8 30), .ref ad7, .ref (gA G 0)]) (by rw [hQ7]) ?_
  refine r_callva hW hA (va_runIN (As := []) (rest := [.ref ad7, .ref (gA G 0)]) ⟨hx, hb, hml, hown, hts⟩ (t_X8_init l D G8 S8 _ 30 31 (by omega) ((hE8.kz hn0 (by decide) (by decide)).1) (by omega) hF8_8) ⟨va_cnB 0 hts gX10_init_X8_init_n37 rfl rfl rfl (hW.2.2.2.2.2.2.2.2.2.1 (37, "WoodForTwo$Trace") (by decide)) q20 (by decide +kernel) ⟨Nat.le_of_ble_eq_true rfl, Nat.le_of_ble_eq_true rfl⟩, rfl, q21⟩ (r_preS hA hW) rfl rfl hl.1 rfl (lv_room (Nat.le_of_ble_eq_true rfl)) dX10_init_59 ⟨(show 30 + 1 ≤ 64 by omega), (show 7930 + 16 ≤ 8380 by omega)⟩) (fun G9 S9 H locs hp9 hW => ?_)
  obtain ⟨hX9, hF9_9, hl9, hi9, hj9, ho9⟩ := hp9
  have hX9 : Ext G8 G9 [(12, 16)] := hX9
  have hF9_9 : Fr G9 S9 := hF9_9
  have hE9 : Ext G G9 [(16, 8), (12, 40), (12, 40), (12, 40), (12, 40), (12, 40), (12, 40), (12, 40), (12, 40), (12, 8), (12, 8), (5, 0), (11, 400), (0, 0), (17, 9), (13, 649), (13, 649), (13, 649), (13, 649), (13, 649), (13, 649), (13, 649), (13, 649), (13, 649), (12, 6), (12, 6), (12, 6), (13, 649), (13, 649), (7, 0), (12, 16)] := Ext.tr hE8 hX9
  have hN9 : gN G9 = 1 + 31 := by have h9 := hE9.1; rw [hn0] at h9; exact h9
  have hL9_9 : LkS G9 S9 ((((((((((((((([] ++ (List.range 8).map (fun j => (1, j, 1 + 1 + j))) ++ [(0, 0, 1)]) ++ [(0, 1, 10)]) ++ [(0, 2, 11)]) ++ [(12, 0, 13)]) ++ [(0, 3, 12)]) ++ (List.range 9).map (fun j => (15, j, 15 + 1 + j))) ++ [(14, 0, 15)]) ++ [(14, 1, (15 + 10))]) ++ [(14, 2, (15 + 11))]) ++ [(14, 3, (15 + 12))]) ++ [(14, 4, (15 + 13))]) ++ [(14, 5, (15 + 14))]) ++ [(0, 4, 14)]) ++ [(30, 0, 31)]) := hl9 _ hL8_8 (by decide)
  have hI9 : gi S9 = fun _ _ => 0 := hi9.trans hI8
  have hJ9 : gj S9 = fun _ _ => 0 := hj9.trans hJ8
  have hO9 : ∀ j, ¬ (j = 0 ∨ j = 1 ∨ j = 12 ∨ j = 13 ∨ j = 14 ∨ j = 15 ∨ j = 30 ∨ j = 31 ∨ j = 32 ∨ j = 33 ∨ j = 34 ∨ j = 41 ∨ j = 42 ∨ j = 49 ∨ j = 50 ∨ j = 57 ∨ j = 58) → gp S9 j = fun _ => none := fun j x => (ho9 j (by omega) (by omega)).trans (hO8 j x)
  refine r_putrF (ci := 9) (C := RX10) (T := TX10) (N := 10) hx hb hts iX10 tyX10 tyX10_ok nmX10 hown hW rfl 0 5 (hE9.2.1 0 hk).1 (by omega) ((hE9.2.1 0 hk).2.1.trans hkd) (by decide) q22 (fun _ h9 => h9) rfl hin rfl (tyX10_ok 5 (by decide)) rfl rfl (rp S9 0 (va_up (gp S9 0) 5 (some ad7))) (gp S9 0) (va_up (gp S9 0) 5 (some ad7)) rfl (e_ps _ _ _) rfl rfl rfl (Nat.le_of_ble_eq_true rfl) rfl c_p0 dX10_init_62 (fun H locs hW => ?_)
  obtain ⟨S10, hS10⟩ : ∃ g, g = (rp S9 0 (va_up (gp S9 0) 5 (some ad7))) := ⟨_, rfl⟩
  rw [← hS10] at hW
  have hF9_10 : Fr G9 S10 := by rw [hS10]; exact Fr.rp hF9_9 (by omega)
  have hI10 : gi S10 = fun _ _ => 0 := by rw [hS10]; exact hI9
  have hJ10 : gj S10 = fun _ _ => 0 := by rw [hS10]; exact hJ9
  have hO10 : ∀ j, ¬ (j = 0 ∨ j = 1 ∨ j = 12 ∨ j = 13 ∨ j = 14 ∨ j = 15 ∨ j = 30 ∨ j = 31 ∨ j = 32 ∨ j = 33 ∨ j = 34 ∨ j = 41 ∨ j = 42 ∨ j = 49 ∨ j = 50 ∨ j = 57 ∨ j = 58) → gp S10 j = fun _ => none := fun j x => by rw [hS10]; exact (up_n _ _ (by omega)).trans (hO9 j x)
  have hL9_10 : LkS G9 S10 (((((((((((((((([] ++ (List.range 8).map (fun j => (1, j, 1 + 1 + j))) ++ [(0, 0, 1)]) ++ [(0, 1, 10)]) ++ [(0, 2, 11)]) ++ [(12, 0, 13)]) ++ [(0, 3, 12)]) ++ (List.range 9).map (fun j => (15, j, 15 + 1 + j))) ++ [(14, 0, 15)]) ++ [(14, 1, (15 + 10))]) ++ [(14, 2, (15 + 11))]) ++ [(14, 3, (15 + 12))]) ++ [(14, 4, (15 + 13))]) ++ [(14, 5, (15 + 14))]) ++ [(0, 4, 14)]) ++ [(30, 0, 31)]) ++ [(0, 5, 30)]) := by rw [hS10]; exact LkS.put hL9_9 (by decide) (by omega) (by omega) ((hX9.2.1 30 (by omega)).1.trans hQ7)
  refine lv_aload_n hx hb dX10_init_65 rfl (lv_at hl 0 rfl) ?_
  refine lv_iconst (v := 2) hx hb dX10_init_66 (by decide) ?_
  refine r_newqF (C := "WoodForTwo$Pass") hx hb hown q23 hW.2.2.2.2.2.2.2.2.2.2.2.2.2.1 hW hA hF9_10 15 (hn_pass hW) rfl (by decide) (show (2 : Int32).toNatClampNeg = 2 from by decide) (Nat.le_of_ble_eq_true rfl) (Nat.le_of_ble_eq_true rfl) (Nat.le_of_ble_eq_true rfl) dX10_init_67 (fun ad9 H hW => ?_)
  obtain ⟨G10, hG10⟩ : ∃ g, g = gAdd G9 ad9 15 2 := ⟨_, rfl⟩
  rw [← hG10] at hW
  have hX10 : Ext G9 G10 [(15, 2)] := by rw [hG10]; exact Ext.add
  have hE10 : Ext G G10 [(16, 8), (12, 40), (12, 40), (12, 40), (12, 40), (12, 40), (12, 40), (12, 40), (12, 40), (12, 8), (12, 8), (5, 0), (11, 400), (0, 0), (17, 9), (13, 649), (13, 649), (13, 649), (13, 649), (13, 649), (13, 649), (13, 649), (13, 649), (13, 649), (12, 6), (12, 6), (12, 6), (13, 649), (13, 649), (7, 0), (12, 16), (15, 2)] := Ext.tr hE9 hX10
  have hN10 : gN G10 = 1 + 32 := by have h9 := hE10.1; rw [hn0] at h9; exact h9
  have hQ9 : gA G10 32 = ad9 := by rw [hG10, show 32 = gN G9 from by omega]; exact gAdd_As
  have hF10_10 : Fr G10 S10 := Fr.mono hF9_10 (by omega)
  have hL10_10 : LkS G10 S10 (((((((((((((((([] ++ (List.range 8).map (fun j => (1, j, 1 + 1 + j))) ++ [(0, 0, 1)]) ++ [(0, 1, 10)]) ++ [(0, 2, 11)]) ++ [(12, 0, 13)]) ++ [(0, 3, 12)]) ++ (List.range 9).map (fun j => (15, j, 15 + 1 + j))) ++ [(14, 0, 15)]) ++ [(14, 1, (15 + 10))]) ++ [(14, 2, (15 + 11))]) ++ [(14, 3, (15 + 12))]) ++ [(14, 4, (15 + 13))]) ++ [(14, 5, (15 + 14))]) ++ [(0, 4, 14)]) ++ [(30, 0, 31)]) ++ [(0, 5, 30)]) := hL9_10.ext hX10
  refine r_putrF (ci := 9) (C := RX10) (T := TX10) (N := 10) hx hb hts iX10 tyX10 tyX10_ok nmX10 hown hW rfl 0 6 (hE10.2.1 0 hk).1 (by omega) ((hE10.2.1 0 hk).2.1.trans hkd) (by decide) q24 (fun _ h9 => h9) rfl hin rfl (tyX10_ok 6 (by decide)) rfl rfl (rp S10 0 (va_up (gp S10 0) 6 (some ad9))) (gp S10 0) (va_up (gp S10 0) 6 (some ad9)) rfl (e_ps _ _ _) rfl rfl rfl (Nat.le_of_ble_eq_true rfl) rfl c_p0 dX10_init_70 (fun H locs hW => ?_)
  obtain ⟨S11, hS11⟩ : ∃ g, g = (rp S10 0 (va_up (gp S10 0) 6 (some ad9))) := ⟨_, rfl⟩
  rw [← hS11] at hW
  have hF10_11 : Fr G10 S11 := by rw [hS11]; exact Fr.rp hF10_10 (by omega)
  have hI11 : gi S11 = fun _ _ => 0 := by rw [hS11]; exact hI10
  have hJ11 : gj S11 = fun _ _ => 0 := by rw [hS11]; exact hJ10
  have hO11 : ∀ j, ¬ (j = 0 ∨ j = 1 ∨ j = 12 ∨ j = 13 ∨ j = 14 ∨ j = 15 ∨ j = 30 ∨ j = 31 ∨ j = 32 ∨ j = 33 ∨ j = 34 ∨ j = 41 ∨ j = 42 ∨ j = 49 ∨ j = 50 ∨ j = 57 ∨ j = 58) → gp S11 j = fun _ => none := fun j x => by rw [hS11]; exact (up_n _ _ (by omega)).trans (hO10 j x)
  have hL10_11 : LkS G10 S11 ((((((((((((((((([] ++ (List.range 8).map (fun j => (1, j, 1 + 1 + j))) ++ [(0, 0, 1)]) ++ [(0, 1, 10)]) ++ [(0, 2, 11)]) ++ [(12, 0, 13)]) ++ [(0, 3, 12)]) ++ (List.range 9).map (fun j => (15, j, 15 + 1 + j))) ++ [(14, 0, 15)]) ++ [(14, 1, (15 + 10))]) ++ [(14, 2, (15 + 11))]) ++ [(14, 3, (15 + 12))]) ++ [(14, 4, (15 + 13))]) ++ [(14, 5, (15 + 14))]) ++ [(0, 4, 14)]) ++ [(30, 0, 31)]) ++ [(0, 5, 30)]) ++ [(0, 6, 32)]) := by rw [hS11]; exact LkS.put hL10_10 (by decide) (by omega) (by omega) hQ9
  refine lv_aload_n hx hb dX10_init_73 rfl (lv_at hl 0 rfl) ?_
  refine r_newF (ci := 4) (C := RX5) (T := TX5) (N := 16) (fs := [.int 0, .int 0, .int 0, .int 0, .int 0, .int 0, .int 0, .int 0, .int 0, .null, .null, .null, .null, .null, .null, .null]) hx hb hts iX5 tyX5 tyX5_ok hown q23 q25 q26 hW hA hF10_11 rfl rfl (fun j hj => by rcases (show j = 0 ∨ j = 1 ∨ j = 2 ∨ j = 3 ∨ j = 4 ∨ j = 5 ∨ j = 6 ∨ j = 7 ∨ j = 8 ∨ j = 9 ∨ j = 10 ∨ j = 11 ∨ j = 12 ∨ j = 13 ∨ j = 14 ∨ j = 15 by omega) with rfl | rfl | rfl | rfl | rfl | rfl | rfl | rfl | rfl | rfl | rfl | rfl | rfl | rfl | rfl | rfl <;> rfl) (Nat.le_of_ble_eq_true rfl) (Nat.le_of_ble_eq_true rfl) dX10_init_74 (fun ad10 H hW => ?_)
  obtain ⟨G11, hG11⟩ : ∃ g, g = gAdd G10 ad10 4 0 := ⟨_, rfl⟩
  rw [← hG11] at hW
  have hX11 : Ext G10 G11 [(4, 0)] := by rw [hG11]; exact Ext.add
  have hE11 : Ext G G11 [(16, 8), (12, 40), (12, 40), (12, 40), (12, 40), (12, 40), (12, 40), (12, 40), (12, 40), (12, 8), (12, 8), (5, 0), (11, 400), (0, 0), (17, 9), (13, 649), (13, 649), (13, 649), (13, 649), (13, 649), (13, 649), (13, 649), (13, 649), (13, 649), (12, 6), (12, 6), (12, 6), (13, 649), (13, 649), (7, 0), (12, 16), (15, 2), (4, 0)] := Ext.tr hE10 hX11
  have hN11 : gN G11 = 1 + 33 := by have h9 := hE11.1; rw [hn0] at h9; exact h9
  have hQ10 : gA G11 33 = ad10 := by rw [hG11, show 33 = gN G10 from by omega]; exact gAdd_As
  have hF11_11 : Fr G11 S11 := Fr.mono hF10_11 (by omega)
  have hL11_11 : LkS G11 S11 ((((((((((((((((([] ++ (List.range 8).map (fun j => (1, j, 1 + 1 + j))) ++ [(0, 0, 1)]) ++ [(0, 1, 10)]) ++ [(0, 2, 11)]) ++ [(12, 0, 13)]) ++ [(0, 3, 12)]) ++ (List.range 9).map (fun j => (15, j, 15 + 1 + j))) ++ [(14, 0, 15)]) ++ [(14, 1, (15 + 10))]) ++ [(14, 2, (15 + 11))]) ++ [(14, 3, (15 + 12))]) ++ [(14, 4, (15 + 13))]) ++ [(14, 5, (15 + 14))]) ++ [(0, 4, 14)]) ++ [(30, 0, 31)]) ++ [(0, 5, 30)]) ++ [(0, 6, 32)]) := hL10_11.ext hX11
  refine lv_dup hx hb dX10_init_77 rfl ?_
  refine W.eq (g2 := F0 mM 78 ls [.ref (gA G11 33), .ref ad10, .ref (gA G 0)]) (by rw [hQ10]) ?_
  refine r_callva hW hA (va_runIN (As := []) (rest := [.ref ad10, .ref (gA G 0)]) ⟨hx, hb, hml, hown, hts⟩ (t_X5_init l D G11 S11 _ 33 34 (by omega) ((hE11.kz hn0 (by decide) (by decide)).1) (by omega) hF11_11) ⟨va_cnB 0 hts gX10_init_X5_init_n48 rfl rfl rfl (hW.2.2.2.2.2.2.2.2.2.1 (48, "WoodForTwo$Pass") (by decide)) q26 (by decide +kernel) ⟨Nat.le_of_ble_eq_true rfl, Nat.le_of_ble_eq_true rfl⟩, rfl, q27⟩ (r_preS hA hW) rfl rfl hl.1 rfl (lv_room (Nat.le_of_ble_eq_true rfl)) dX10_init_78 ⟨(show 33 + 7 ≤ 64 by omega), (show 7964 + 92 ≤ 8380 by omega)⟩) (fun G12 S12 H locs hp12 hW => ?_)
  obtain ⟨hX12, hF12_12, hl12, hi12, hj12, ho12⟩ := hp12
  have hX12 : Ext G11 G12 [(12, 6), (12, 6), (12, 16), (12, 16), (12, 16), (12, 16), (14, 16)] := hX12
  have hF12_12 : Fr G12 S12 := hF12_12
  have hE12 : Ext G G12 [(16, 8), (12, 40), (12, 40), (12, 40), (12, 40), (12, 40), (12, 40), (12, 40), (12, 40), (12, 8), (12, 8), (5, 0), (11, 400), (0, 0), (17, 9), (13, 649), (13, 649), (13, 649), (13, 649), (13, 649), (13, 649), (13, 649), (13, 649), (13, 649), (12, 6), (12, 6), (12, 6), (13, 649), (13, 649), (7, 0), (12, 16), (15, 2), (4, 0), (12, 6), (12, 6), (12, 16), (12, 16), (12, 16), (12, 16), (14, 16)] := Ext.tr hE11 hX12
  have hN12 : gN G12 = 1 + 40 := by have h9 := hE12.1; rw [hn0] at h9; exact h9
  have hL12_12 : LkS G12 S12 (((((((((((((((((((((((([] ++ (List.range 8).map (fun j => (1, j, 1 + 1 + j))) ++ [(0, 0, 1)]) ++ [(0, 1, 10)]) ++ [(0, 2, 11)]) ++ [(12, 0, 13)]) ++ [(0, 3, 12)]) ++ (List.range 9).map (fun j => (15, j, 15 + 1 + j))) ++ [(14, 0, 15)]) ++ [(14, 1, (15 + 10))]) ++ [(14, 2, (15 + 11))]) ++ [(14, 3, (15 + 12))]) ++ [(14, 4, (15 + 13))]) ++ [(14, 5, (15 + 14))]) ++ [(0, 4, 14)]) ++ [(30, 0, 31)]) ++ [(0, 5, 30)]) ++ [(0, 6, 32)]) ++ [(33, 9, 34)]) ++ [(33, 10, (34 + 1))]) ++ [(33, 11, (34 + 2))]) ++ [(33, 12, (34 + 3))]) ++ [(33, 13, (34 + 4))]) ++ [(33, 14, (34 + 5))]) ++ [(33, 15, (34 + 6))]) := hl12 _ hL11_11 (by decide)
  have hI12 : gi S12 = fun _ _ => 0 := hi12.trans hI11
  have hJ12 : gj S12 = fun _ _ => 0 := hj12.trans hJ11
  have hO12 : ∀ j, ¬ (j = 0 ∨ j = 1 ∨ j = 12 ∨ j = 13 ∨ j = 14 ∨ j = 15 ∨ j = 30 ∨ j = 31 ∨ j = 32 ∨ j = 33 ∨ j = 34 ∨ j = 41 ∨ j = 42 ∨ j = 49 ∨ j = 50 ∨ j = 57 ∨ j = 58) → gp S12 j = fun _ => none := fun j x => (ho12 j (by omega) (by omega)).trans (hO11 j x)
  refine r_putr (ci := 9) (C := RX10) (T := TX10) (N := 10) hx hb hts iX10 tyX10 tyX10_ok nmX10 hown hW rfl 0 7 (hE12.2.1 0 hk).1 (by omega) ((hE12.2.1 0 hk).2.1.trans hkd) (by decide) q28 (fun _ h9 => h9) rfl (tyX10_ok 7 (by decide)) rfl rfl (rp S12 0 (va_up (gp S12 0) 7 (some ad10))) (gp S12 0) (va_up (gp S12 0) 7 (some ad10)) rfl (e_ps _ _ _) rfl rfl rfl (Nat.le_of_ble_eq_true rfl) rfl c_p0 dX10_init_81 (fun H locs hW => ?_)
  obtain ⟨S13, hS13⟩ : ∃ g, g = (rp S12 0 (va_up (gp S12 0) 7 (some ad10))) := ⟨_, rfl⟩
  rw [← hS13] at hW
  have hF12_13 : Fr G12 S13 := by rw [hS13]; exact Fr.rp hF12_12 (by omega)
  have hI13 : gi S13 = fun _ _ => 0 := by rw [hS13]; exact hI12
  have hJ13 : gj S13 = fun _ _ => 0 := by rw [hS13]; exact hJ12
  have hO13 : ∀ j, ¬ (j = 0 ∨ j = 1 ∨ j = 12 ∨ j = 13 ∨ j = 14 ∨ j = 15 ∨ j = 30 ∨ j = 31 ∨ j = 32 ∨ j = 33 ∨ j = 34 ∨ j = 41 ∨ j = 42 ∨ j = 49 ∨ j = 50 ∨ j = 57 ∨ j = 58) → gp S13 j = fun _ => none := fun j x => by rw [hS13]; exact (up_n _ _ (by omega)).trans (hO12 j x)
  have hL12_13 : LkS G12 S13 ((((((((((((((((((((((((([] ++ (List.range 8).map (fun j => (1, j, 1 + 1 + j))) ++ [(0, 0, 1)]) ++ [(0, 1, 10)]) ++ [(0, 2, 11)]) ++ [(12, 0, 13)]) ++ [(0, 3, 12)]) ++ (List.range 9).map (fun j => (15, j, 15 + 1 + j))) ++ [(14, 0, 15)]) ++ [(14, 1, (15 + 10))]) ++ [(14, 2, (15 + 11))]) ++ [(14, 3, (15 + 12))]) ++ [(14, 4, (15 + 13))]) ++ [(14, 5, (15 + 14))]) ++ [(0, 4, 14)]) ++ [(30, 0, 31)]) ++ [(0, 5, 30)]) ++ [(0, 6, 32)]) ++ [(33, 9, 34)]) ++ [(33, 10, (34 + 1))]) ++ [(33, 11, (34 + 2))]) ++ [(33, 12, (34 + 3))]) ++ [(33, 13, (34 + 4))]) ++ [(33, 14, (34 + 5))]) ++ [(33, 15, (34 + 6))]) ++ [(0, 7, 33)]) := by rw [hS13]; exact LkS.put hL12_12 (by decide) (by omega) (by omega) ((hX12.2.1 33 (by omega)).1.trans hQ10)
  refine lv_aload_n hx hb dX10_init_84 rfl (lv_at hl 0 rfl) ?_
  refine r_newF (ci := 4) (C := RX5) (T := TX5) (N := 16) (fs := [.int 0, .int 0, .int 0, .int 0, .int 0, .int 0, .int 0, .int 0, .int 0, .null, .null, .null, .null, .null, .null, .null]) hx hb hts iX5 tyX5 tyX5_ok hown q23 q25 q26 hW hA hF12_13 rfl rfl (fun j hj => by rcases (show j = 0 ∨ j = 1 ∨ j = 2 ∨ j = 3 ∨ j = 4 ∨ j = 5 ∨ j = 6 ∨ j = 7 ∨ j = 8 ∨ j = 9 ∨ j = 10 ∨ j = 11 ∨ j = 12 ∨ j = 13 ∨ j = 14 ∨ j = 15 by omega) with rfl | rfl | rfl | rfl | rfl | rfl | rfl | rfl | rfl | rfl | rfl | rfl | rfl | rfl | rfl | rfl <;> rfl) (Nat.le_of_ble_eq_true rfl) (Nat.le_of_ble_eq_true rfl) dX10_init_85 (fun ad12 H hW => ?_)
  obtain ⟨G13, hG13⟩ : ∃ g, g = gAdd G12 ad12 4 0 := ⟨_, rfl⟩
  rw [← hG13] at hW
  have hX13 : Ext G12 G13 [(4, 0)] := by rw [hG13]; exact Ext.add
  have hE13 : Ext G G13 [(16, 8), (12, 40), (12, 40), (12, 40), (12, 40), (12, 40), (12, 40), (12, 40), (12, 40), (12, 8), (12, 8), (5, 0), (11, 400), (0, 0), (17, 9), (13, 649), (13, 649), (13, 649), (13, 649), (13, 649), (13, 649), (13, 649), (13, 649), (13, 649), (12, 6), (12, 6), (12, 6), (13, 649), (13, 649), (7, 0), (12, 16), (15, 2), (4, 0), (12, 6), (12, 6), (12, 16), (12, 16), (12, 16), (12, 16), (14, 16), (4, 0)] := Ext.tr hE12 hX13
  have hN13 : gN G13 = 1 + 41 := by have h9 := hE13.1; rw [hn0] at h9; exact h9
  have hQ12 : gA G13 41 = ad12 := by rw [hG13, show 41 = gN G12 from by omega]; exact gAdd_As
  have hF13_13 : Fr G13 S13 := Fr.mono hF12_13 (by omega)
  have hL13_13 : LkS G13 S13 ((((((((((((((((((((((((([] ++ (List.range 8).map (fun j => (1, j, 1 + 1 + j))) ++ [(0, 0, 1)]) ++ [(0, 1, 10)]) ++ [(0, 2, 11)]) ++ [(12, 0, 13)]) ++ [(0, 3, 12)]) ++ (List.range 9).map (fun j => (15, j, 15 + 1 + j))) ++ [(14, 0, 15)]) ++ [(14, 1, (15 + 10))]) ++ [(14, 2, (15 + 11))]) ++ [(14, 3, (15 + 12))]) ++ [(14, 4, (15 + 13))]) ++ [(14, 5, (15 + 14))]) ++ [(0, 4, 14)]) ++ [(30, 0, 31)]) ++ [(0, 5, 30)]) ++ [(0, 6, 32)]) ++ [(33, 9, 34)]) ++ [(33, 10, (34 + 1))]) ++ [(33, 11, (34 + 2))]) ++ [(33, 12, (34 + 3))]) ++ [(33, 13, (34 + 4))]) ++ [(33, 14, (34 + 5))]) ++ [(33, 15, (34 + 6))]) ++ [(0, 7, 33)]) := hL12_13.ext hX13
  refine lv_dup hx hb dX10_init_88 rfl ?_
  refine W.eq (g2 := F0 mM 89 ls [.ref (gA G13 41), .ref ad12, .ref (gA G 0)]) (by rw [hQ12]) ?_
  refine r_callva hW hA (va_runIN (As := []) (rest := [.ref ad12, .ref (gA G 0)]) ⟨hx, hb, hml, hown, hts⟩ (t_X5_init l D G13 S13 _ 41 42 (by omega) ((hE13.kz hn0 (by decide) (by decide)).1) (by omega) hF13_13) ⟨va_cnB 0 hts gX10_init_X5_init_n48 rfl rfl rfl (hW.2.2.2.2.2.2.2.2.2.1 (48, "WoodForTwo$Pass") (by decide)) q26 (by decide +kernel) ⟨Nat.le_of_ble_eq_true rfl, Nat.le_of_ble_eq_true rfl⟩, rfl, q27⟩ (r_preS hA hW) rfl rfl hl.1 rfl (lv_room (Nat.le_of_ble_eq_true rfl)) dX10_init_89 ⟨(show 41 + 7 ≤ 64 by omega), (show 8072 + 92 ≤ 8380 by omega)⟩) (fun G14 S14 H locs hp14 hW => ?_)
  obtain ⟨hX14, hF14_14, hl14, hi14, hj14, ho14⟩ := hp14
  have hX14 : Ext G13 G14 [(12, 6), (12, 6), (12, 16), (12, 16), (12, 16), (12, 16), (14, 16)] := hX14
  have hF14_14 : Fr G14 S14 := hF14_14
  have hE14 : Ext G G14 [(16, 8), (12, 40), (12, 40), (12, 40), (12, 40), (12, 40), (12, 40), (12, 40), (12, 40), (12, 8), (12, 8), (5, 0), (11, 400), (0, 0), (17, 9), (13, 649), (13, 649), (13, 649), (13, 649), (13, 649), (13, 649), (13, 649), (13, 649), (13, 649), (12, 6), (12, 6), (12, 6), (13, 649), (13, 649), (7, 0), (12, 16), (15, 2), (4, 0), (12, 6), (12, 6), (12, 16), (12, 16), (12, 16), (12, 16), (14, 16), (4, 0), (12, 6), (12, 6), (12, 16), (12, 16), (12, 16), (12, 16), (14, 16)] := Ext.tr hE13 hX14
  have hN14 : gN G14 = 1 + 48 := by have h9 := hE14.1; rw [hn0] at h9; exact h9
  have hL14_14 : LkS G14 S14 (((((((((((((((((((((((((((((((([] ++ (List.range 8).map (fun j => (1, j, 1 + 1 + j))) ++ [(0, 0, 1)]) ++ [(0, 1, 10)]) ++ [(0, 2, 11)]) ++ [(12, 0, 13)]) ++ [(0, 3, 12)]) ++ (List.range 9).map (fun j => (15, j, 15 + 1 + j))) ++ [(14, 0, 15)]) ++ [(14, 1, (15 + 10))]) ++ [(14, 2, (15 + 11))]) ++ [(14, 3, (15 + 12))]) ++ [(14, 4, (15 + 13))]) ++ [(14, 5, (15 + 14))]) ++ [(0, 4, 14)]) ++ [(30, 0, 31)]) ++ [(0, 5, 30)]) ++ [(0, 6, 32)]) ++ [(33, 9, 34)]) ++ [(33, 10, (34 + 1))]) ++ [(33, 11, (34 + 2))]) ++ [(33, 12, (34 + 3))]) ++ [(33, 13, (34 + 4))]) ++ [(33, 14, (34 + 5))]) ++ [(33, 15, (34 + 6))]) ++ [(0, 7, 33)]) ++ [(41, 9, 42)]) ++ [(41, 10, (42 + 1))]) ++ [(41, 11, (42 + 2))]) ++ [(41, 12, (42 + 3))]) ++ [(41, 13, (42 + 4))]) ++ [(41, 14, (42 + 5))]) ++ [(41, 15, (42 + 6))]) := hl14 _ hL13_13 (by decide)
  have hI14 : gi S14 = fun _ _ => 0 := hi14.trans hI13
  have hJ14 : gj S14 = fun _ _ => 0 := hj14.trans hJ13
  have hO14 : ∀ j, ¬ (j = 0 ∨ j = 1 ∨ j = 12 ∨ j = 13 ∨ j = 14 ∨ j = 15 ∨ j = 30 ∨ j = 31 ∨ j = 32 ∨ j = 33 ∨ j = 34 ∨ j = 41 ∨ j = 42 ∨ j = 49 ∨ j = 50 ∨ j = 57 ∨ j = 58) → gp S14 j = fun _ => none := fun j x => (ho14 j (by omega) (by omega)).trans (hO13 j x)
  refine r_putr (ci := 9) (C := RX10) (T := TX10) (N := 10) hx hb hts iX10 tyX10 tyX10_ok nmX10 hown hW rfl 0 8 (hE14.2.1 0 hk).1 (by omega) ((hE14.2.1 0 hk).2.1.trans hkd) (by decide) q29 (fun _ h9 => h9) rfl (tyX10_ok 8 (by decide)) rfl rfl (rp S14 0 (va_up (gp S14 0) 8 (some ad12))) (gp S14 0) (va_up (gp S14 0) 8 (some ad12)) rfl (e_ps _ _ _) rfl rfl rfl (Nat.le_of_ble_eq_true rfl) rfl c_p0 dX10_init_92 (fun H locs hW => ?_)
  obtain ⟨S15, hS15⟩ : ∃ g, g = (rp S14 0 (va_up (gp S14 0) 8 (some ad12))) := ⟨_, rfl⟩
  rw [← hS15] at hW
  have hF14_15 : Fr G14 S15 := by rw [hS15]; exact Fr.rp hF14_14 (by omega)
  have hI15 : gi S15 = fun _ _ => 0 := by rw [hS15]; exact hI14
  have hJ15 : gj S15 = fun _ _ => 0 := by rw [hS15]; exact hJ14
  have hO15 : ∀ j, ¬ (j = 0 ∨ j = 1 ∨ j = 12 ∨ j = 13 ∨ j = 14 ∨ j = 15 ∨ j = 30 ∨ j = 31 ∨ j = 32 ∨ j = 33 ∨ j = 34 ∨ j = 41 ∨ j = 42 ∨ j = 49 ∨ j = 50 ∨ j = 57 ∨ j = 58) → gp S15 j = fun _ => none := fun j x => by rw [hS15]; exact (up_n _ _ (by omega)).trans (hO14 j x)
  have hL14_15 : LkS G14 S15 ((((((((((((((((((((((((((((((((([] ++ (List.range 8).map (fun j => (1, j, 1 + 1 + j))) ++ [(0, 0, 1)]) ++ [(0, 1, 10)]) ++ [(0, 2, 11)]) ++ [(12, 0, 13)]) ++ [(0, 3, 12)]) ++ (List.range 9).map (fun j => (15, j, 15 + 1 + j))) ++ [(14, 0, 15)]) ++ [(14, 1, (15 + 10))]) ++ [(14, 2, (15 + 11))]) ++ [(14, 3, (15 + 12))]) ++ [(14, 4, (15 + 13))]) ++ [(14, 5, (15 + 14))]) ++ [(0, 4, 14)]) ++ [(30, 0, 31)]) ++ [(0, 5, 30)]) ++ [(0, 6, 32)]) ++ [(33, 9, 34)]) ++ [(33, 10, (34 + 1))]) ++ [(33, 11, (34 + 2))]) ++ [(33, 12, (34 + 3))]) ++ [(33, 13, (34 + 4))]) ++ [(33, 14, (34 + 5))]) ++ [(33, 15, (34 + 6))]) ++ [(0, 7, 33)]) ++ [(41, 9, 42)]) ++ [(41, 10, (42 + 1))]) ++ [(41, 11, (42 + 2))]) ++ [(41, 12, (42 + 3))]) ++ [(41, 13, (42 + 4))]) ++ [(41, 14, (42 + 5))]) ++ [(41, 15, (42 + 6))]) ++ [(0, 8, 41)]) := by rw [hS15]; exact LkS.put hL14_14 (by decide) (by omega) (by omega) ((hX14.2.1 41 (by omega)).1.trans hQ12)
  refine lv_aload_n hx hb dX10_init_95 rfl (lv_at hl 0 rfl) ?_
  refine r_getr (ci := 9) (C := RX10) (T := TX10) (N := 10) hx hb hts iX10 hown hW rfl 0 2 (hE14.2.1 0 hk).1 (by omega) ((hE14.2.1 0 hk).2.1.trans hkd) (by decide) q7 (fun _ h9 => h9) ((hL14_15 (0, 2, 11) (by decide)).1) rfl rfl dX10_init_96 ?_
  refine lv_iconst (v := (-1)) hx hb dX10_init_99 (by decide) ?_
  refine r_callv hW hA (va_runS (As := [.ref (gA G14 11), .int (-1)]) (rest := []) ⟨hx, hb, hml, hown, hts⟩ (t_J7_fill_53178 l D G14 S15 _ 11 8 (by omega) (hE14.kz hn0 (by decide) (by decide)).1 (hE14.kz hn0 (by decide) (by decide)).2 (by decide) (-1)) (va_cwS 2 hts gX10_init_J7_fill_53178 rfl rfl rfl (by decide +kernel) ⟨Nat.le_of_ble_eq_true rfl, Nat.le_of_ble_eq_true rfl⟩) (r_preS hA hW) rfl rfl hl.1 rfl (lv_room (Nat.le_of_ble_eq_true rfl)) dX10_init_100 ⟨(show 48 + 0 ≤ 64 by omega), (show 8164 + 0 ≤ 8380 by omega)⟩) (fun S16 H locs hS16 hW => ?_)
  have hF14_16 : Fr G14 S16 := by rw [hS16]; exact Fr.ri hF14_15 (by omega)
  have hI16 : gi S16 = va_up (fun _ _ => 0) 11 (flR (fun _ => 0) 8 (-1)) := by rw [hS16, gi_ri, hI15]
  have hJ16 : gj S16 = fun _ _ => 0 := by rw [hS16]; exact hJ15
  have hO16 : ∀ j, ¬ (j = 0 ∨ j = 1 ∨ j = 12 ∨ j = 13 ∨ j = 14 ∨ j = 15 ∨ j = 30 ∨ j = 31 ∨ j = 32 ∨ j = 33 ∨ j = 34 ∨ j = 41 ∨ j = 42 ∨ j = 49 ∨ j = 50 ∨ j = 57 ∨ j = 58) → gp S16 j = fun _ => none := fun j x => by rw [hS16]; exact hO15 j x
  have hL14_16 : LkS G14 S16 ((((((((((((((((((((((((((((((((([] ++ (List.range 8).map (fun j => (1, j, 1 + 1 + j))) ++ [(0, 0, 1)]) ++ [(0, 1, 10)]) ++ [(0, 2, 11)]) ++ [(12, 0, 13)]) ++ [(0, 3, 12)]) ++ (List.range 9).map (fun j => (15, j, 15 + 1 + j))) ++ [(14, 0, 15)]) ++ [(14, 1, (15 + 10))]) ++ [(14, 2, (15 + 11))]) ++ [(14, 3, (15 + 12))]) ++ [(14, 4, (15 + 13))]) ++ [(14, 5, (15 + 14))]) ++ [(0, 4, 14)]) ++ [(30, 0, 31)]) ++ [(0, 5, 30)]) ++ [(0, 6, 32)]) ++ [(33, 9, 34)]) ++ [(33, 10, (34 + 1))]) ++ [(33, 11, (34 + 2))]) ++ [(33, 12, (34 + 3))]) ++ [(33, 13, (34 + 4))]) ++ [(33, 14, (34 + 5))]) ++ [(33, 15, (34 + 6))]) ++ [(0, 7, 33)]) ++ [(41, 9, 42)]) ++ [(41, 10, (42 + 1))]) ++ [(41, 11, (42 + 2))]) ++ [(41, 12, (42 + 3))]) ++ [(41, 13, (42 + 4))]) ++ [(41, 14, (42 + 5))]) ++ [(41, 15, (42 + 6))]) ++ [(0, 8, 41)]) := LkS.p hL14_15 (by rw [hS16]; rfl)
  refine lv_iconst (v := 0) hx hb dX10_init_103 (by decide) ?_
  refine lv_istore_n (lv' := [(1, .int 0), (0, .ref (gA G 0))]) hx hb dX10_init_104 rfl hl (by decide) rfl (fun ls hl => ?_)
  refine lv_iload_n hx hb dX10_init_105 rfl (lv_at hl 0 rfl) ?_
  refine lv_iconst (v := 2) hx hb dX10_init_106 (by decide) ?_
  refine lv_icmp_ge (tgt := 129) hx hb dX10_init_107 (by decide) (fun c107 => ?_) (fun c107 => ?_)
  · exact absurd c107 (by decide)
  · skip
    refine lv_aload_n hx hb dX10_init_110 rfl (lv_at hl 1 rfl) ?_
    refine r_getr (ci := 9) (C := RX10) (T := TX10) (N := 10) hx hb hts iX10 hown hW rfl 0 6 (hE14.2.1 0 hk).1 (by omega) ((hE14.2.1 0 hk).2.1.trans hkd) (by decide) q24 (fun _ h9 => h9) ((hL14_16 (0, 6, 32) (by decide)).1) rfl rfl dX10_init_111 ?_
    refine lv_iload_n hx hb dX10_init_114 rfl (lv_at hl 0 rfl) ?_
    refine r_newF (ci := 4) (C := RX5) (T := TX5) (N := 16) (fs := [.int 0, .int 0, .int 0, .int 0, .int 0, .int 0, .int 0, .int 0, .int 0, .null, .null, .null, .null, .null, .null, .null]) hx hb hts iX5 tyX5 tyX5_ok hown q23 q25 q26 hW hA hF14_16 rfl rfl (fun j hj => by rcases (show j = 0 ∨ j = 1 ∨ j = 2 ∨ j = 3 ∨ j = 4 ∨ j = 5 ∨ j = 6 ∨ j = 7 ∨ j = 8 ∨ j = 9 ∨ j = 10 ∨ j = 11 ∨ j = 12 ∨ j = 13 ∨ j = 14 ∨ j = 15 by omega) with rfl | rfl | rfl | rfl | rfl | rfl | rfl | rfl | rfl | rfl | rfl | rfl | rfl | rfl | rfl | rfl <;> rfl) (Nat.le_of_ble_eq_true rfl) (Nat.le_of_ble_eq_true rfl) dX10_init_115 (fun ad14 H hW => ?_)
    obtain ⟨G15, hG15⟩ : ∃ g, g = gAdd G14 ad14 4 0 := ⟨_, rfl⟩
    rw [← hG15] at hW
    have hX15 : Ext G14 G15 [(4, 0)] := by rw [hG15]; exact Ext.add
    have hE15 : Ext G G15 [(16, 8), (12, 40), (12, 40), (12, 40), (12, 40), (12, 40), (12, 40), (12, 40), (12, 40), (12, 8), (12, 8), (5, 0), (11, 400), (0, 0), (17, 9), (13, 649), (13, 649), (13, 649), (13, 649), (13, 649), (13, 649), (13, 649), (13, 649), (13, 649), (12, 6), (12, 6), (12, 6), (13, 649), (13, 649), (7, 0), (12, 16), (15, 2), (4, 0), (12, 6), (12, 6), (12, 16), (12, 16), (12, 16), (12, 16), (14, 16), (4, 0), (12, 6), (12, 6), (12, 16), (12, 16), (12, 16), (12, 16), (14, 16), (4, 0)] := Ext.tr hE14 hX15
    have hN15 : gN G15 = 1 + 49 := by have h9 := hE15.1; rw [hn0] at h9; exact h9
    have hQ14 : gA G15 49 = ad14 := by rw [hG15, show 49 = gN G14 from by omega]; exact gAdd_As
    have hF15_16 : Fr G15 S16 := Fr.mono hF14_16 (by omega)
    have hL15_16 : LkS G15 S16 ((((((((((((((((((((((((((((((((([] ++ (List.range 8).map (fun j => (1, j, 1 + 1 + j))) ++ [(0, 0, 1)]) ++ [(0, 1, 10)]) ++ [(0, 2, 11)]) ++ [(12, 0, 13)]) ++ [(0, 3, 12)]) ++ (List.range 9).map (fun j => (15, j, 15 + 1 + j))) ++ [(14, 0, 15)]) ++ [(14, 1, (15 + 10))]) ++ [(14, 2, (15 + 11))]) ++ [(14, 3, (15 + 12))]) ++ [(14, 4, (15 + 13))]) ++ [(14, 5, (15 + 14))]) ++ [(0, 4, 14)]) ++ [(30, 0, 31)]) ++ [(0, 5, 30)]) ++ [(0, 6, 32)]) ++ [(33, 9, 34)]) ++ [(33, 10, (34 + 1))]) ++ [(33, 11, (34 + 2))]) ++ [(33, 12, (34 + 3))]) ++ [(33, 13, (34 + 4))]) ++ [(33, 14, (34 + 5))]) ++ [(33, 15, (34 + 6))]) ++ [(0, 7, 33)]) ++ [(41, 9, 42)]) ++ [(41, 10, (42 + 1))]) ++ [(41, 11, (42 + 2))]) ++ [(41, 12, (42 + 3))]) ++ [(41, 13, (42 + 4))]) ++ [(41, 14, (42 + 5))]) ++ [(41, 15, (42 + 6))]) ++ [(0, 8, 41)]) := hL14_16.ext hX15
    refine lv_dup hx hb dX10_init_118 rfl ?_
    refine W.eq (g2 := F0 mM 119 ls [.ref (gA G15 49), .ref ad14, .int 0, .ref (gA G14 32)]) (by rw [hQ14]) ?_
    refine r_callva hW hA (va_runIN (As := []) (rest := [.ref ad14, .int 0, .ref (gA G14 32)]) ⟨hx, hb, hml, hown, hts⟩ (t_X5_init l D G15 S16 _ 49 50 (by omega) ((hE15.kz hn0 (by decide) (by decide)).1) (by omega) hF15_16) ⟨va_cnB 0 hts gX10_init_X5_init_n48 rfl rfl rfl (hW.2.2.2.2.2.2.2.2.2.1 (48, "WoodForTwo$Pass") (by decide)) q26 (by decide +kernel) ⟨Nat.le_of_ble_eq_true rfl, Nat.le_of_ble_eq_true rfl⟩, rfl, q27⟩ (r_preS hA hW) rfl rfl hl.1 rfl (lv_room (Nat.le_of_ble_eq_true rfl)) dX10_init_119 ⟨(show 49 + 7 ≤ 64 by omega), (show 8180 + 92 ≤ 8380 by omega)⟩) (fun G16 S17 H locs hp16 hW => ?_)
    obtain ⟨hX16, hF16_17, hl16, hi16, hj16, ho16⟩ := hp16
    have hX16 : Ext G15 G16 [(12, 6), (12, 6), (12, 16), (12, 16), (12, 16), (12, 16), (14, 16)] := hX16
    have hF16_17 : Fr G16 S17 := hF16_17
    have hE16 : Ext G G16 [(16, 8), (12, 40), (12, 40), (12, 40), (12, 40), (12, 40), (12, 40), (12, 40), (12, 40), (12, 8), (12, 8), (5, 0), (11, 400), (0, 0), (17, 9), (13, 649), (13, 649), (13, 649), (13, 649), (13, 649), (13, 649), (13, 649), (13, 649), (13, 649), (12, 6), (12, 6), (12, 6), (13, 649), (13, 649), (7, 0), (12, 16), (15, 2), (4, 0), (12, 6), (12, 6), (12, 16), (12, 16), (12, 16), (12, 16), (14, 16), (4, 0), (12, 6), (12, 6), (12, 16), (12, 16), (12, 16), (12, 16), (14, 16), (4, 0), (12, 6), (12, 6), (12, 16), (12, 16), (12, 16), (12, 16), (14, 16)] := Ext.tr hE15 hX16
    have hN16 : gN G16 = 1 + 56 := by have h9 := hE16.1; rw [hn0] at h9; exact h9
    have hL16_17 : LkS G16 S17 (((((((((((((((((((((((((((((((((((((((([] ++ (List.range 8).map (fun j => (1, j, 1 + 1 + j))) ++ [(0, 0, 1)]) ++ [(0, 1, 10)]) ++ [(0, 2, 11)]) ++ [(12, 0, 13)]) ++ [(0, 3, 12)]) ++ (List.range 9).map (fun j => (15, j, 15 + 1 + j))) ++ [(14, 0, 15)]) ++ [(14, 1, (15 + 10))]) ++ [(14, 2, (15 + 11))]) ++ [(14, 3, (15 + 12))]) ++ [(14, 4, (15 + 13))]) ++ [(14, 5, (15 + 14))]) ++ [(0, 4, 14)]) ++ [(30, 0, 31)]) ++ [(0, 5, 30)]) ++ [(0, 6, 32)]) ++ [(33, 9, 34)]) ++ [(33, 10, (34 + 1))]) ++ [(33, 11, (34 + 2))]) ++ [(33, 12, (34 + 3))]) ++ [(33, 13, (34 + 4))]) ++ [(33, 14, (34 + 5))]) ++ [(33, 15, (34 + 6))]) ++ [(0, 7, 33)]) ++ [(41, 9, 42)]) ++ [(41, 10, (42 + 1))]) ++ [(41, 11, (42 + 2))]) ++ [(41, 12, (42 + 3))]) ++ [(41, 13, (42 + 4))]) ++ [(41, 14, (42 + 5))]) ++ [(41, 15, (42 + 6))]) ++ [(0, 8, 41)]) ++ [(49, 9, 50)]) ++ [(49, 10, (50 + 1))]) ++ [(49, 11, (50 + 2))]) ++ [(49, 12, (50 + 3))]) ++ [(49, 13, (50 + 4))]) ++ [(49, 14, (50 + 5))]) ++ [(49, 15, (50 + 6))]) := hl16 _ hL15_16 (by decide)
    have hI17 : gi S17 = va_up (fun _ _ => 0) 11 (flR (fun _ => 0) 8 (-1)) := hi16.trans hI16
    have hJ17 : gj S17 = fun _ _ => 0 := hj16.trans hJ16
    have hO17 : ∀ j, ¬ (j = 0 ∨ j = 1 ∨ j = 12 ∨ j = 13 ∨ j = 14 ∨ j = 15 ∨ j = 30 ∨ j = 31 ∨ j = 32 ∨ j = 33 ∨ j = 34 ∨ j = 41 ∨ j = 42 ∨ j = 49 ∨ j = 50 ∨ j = 57 ∨ j = 58) → gp S17 j = fun _ => none := fun j x => (ho16 j (by omega) (by omega)).trans (hO16 j x)
    refine r_aastX hx hb hW 32 ((hX16.2.1 32 (by omega)).1.trans ((hX15.2.1 32 (by omega)).1)) (by omega) (hE16.kz hn0 (by decide) (by decide)).1 (b := 49) ((hX16.2.1 49 (by omega)).1.trans hQ14) (by omega) (hE16.kz hn0 (by decide) (by decide)).1 (by rw [(hE16.kz hn0 (by decide) (by decide)).2]; exact t_in (by decide) (by decide)) (rp S17 32 (va_up (gp S17 32) 0 (some ad14))) (gp S17 32) rfl (by rw [show (0 : Int32).toNatClampNeg = 0 from by decide]; exact e_ps _ _ _) rfl rfl c_p0 dX10_init_122 (fun H locs hW => ?_)
    obtain ⟨S18, hS18⟩ : ∃ g, g = (rp S17 32 (va_up (gp S17 32) 0 (some ad14))) := ⟨_, rfl⟩
    rw [← hS18] at hW
    have hF16_18 : Fr G16 S18 := by rw [hS18]; exact Fr.rp hF16_17 (by omega)
    have hI18 : gi S18 = va_up (fun _ _ => 0) 11 (flR (fun _ => 0) 8 (-1)) := by rw [hS18]; exact hI17
    have hJ18 : gj S18 = fun _ _ => 0 := by rw [hS18]; exact hJ17
    have hO18 : ∀ j, ¬ (j = 0 ∨ j = 1 ∨ j = 12 ∨ j = 13 ∨ j = 14 ∨ j = 15 ∨ j = 30 ∨ j = 31 ∨ j = 32 ∨ j = 33 ∨ j = 34 ∨ j = 41 ∨ j = 42 ∨ j = 49 ∨ j = 50 ∨ j = 57 ∨ j = 58) → gp S18 j = fun _ => none := fun j x => by rw [hS18]; exact (up_n _ _ (by omega)).trans (hO17 j x)
    have hL16_18 : LkS G16 S18 ((((((((((((((((((((((((((((((((((((((((([] ++ (List.range 8).map (fun j => (1, j, 1 + 1 + j))) ++ [(0, 0, 1)]) ++ [(0, 1, 10)]) ++ [(0, 2, 11)]) ++ [(12, 0, 13)]) ++ [(0, 3, 12)]) ++ (List.range 9).map (fun j => (15, j, 15 + 1 + j))) ++ [(14, 0, 15)]) ++ [(14, 1, (15 + 10))]) ++ [(14, 2, (15 + 11))]) ++ [(14, 3, (15 + 12))]) ++ [(14, 4, (15 + 13))]) ++ [(14, 5, (15 + 14))]) ++ [(0, 4, 14)]) ++ [(30, 0, 31)]) ++ [(0, 5, 30)]) ++ [(0, 6, 32)]) ++ [(33, 9, 34)]) ++ [(33, 10, (34 + 1))]) ++ [(33, 11, (34 + 2))]) ++ [(33, 12, (34 + 3))]) ++ [(33, 13, (34 + 4))]) ++ [(33, 14, (34 + 5))]) ++ [(33, 15, (34 + 6))]) ++ [(0, 7, 33)]) ++ [(41, 9, 42)]) ++ [(41, 10, (42 + 1))]) ++ [(41, 11, (42 + 2))]) ++ [(41, 12, (42 + 3))]) ++ [(41, 13, (42 + 4))]) ++ [(41, 14, (42 + 5))]) ++ [(41, 15, (42 + 6))]) ++ [(0, 8, 41)]) ++ [(49, 9, 50)]) ++ [(49, 10, (50 + 1))]) ++ [(49, 11, (50 + 2))]) ++ [(49, 12, (50 + 3))]) ++ [(49, 13, (50 + 4))]) ++ [(49, 14, (50 + 5))]) ++ [(49, 15, (50 + 6))]) ++ [(32, 0, 49)]) := by rw [hS18]; exact LkS.put hL16_17 (by decide) (by omega) (by omega) ((hX16.2.1 49 (by omega)).1.trans hQ14)
    refine lv_iinc (v := 1) (lv' := [(1, .int 1), (0, .ref (gA G 0))]) hx hb dX10_init_123 hl (k := 0) rfl (by decide) (by decide) rfl (fun ls hl => ?_)
    refine lv_goto (tgt := 105) hx hb dX10_init_126 (by decide) ?_
    refine lv_iload_n hx hb dX10_init_105 rfl (lv_at hl 0 rfl) ?_
    refine lv_iconst (v := 2) hx hb dX10_init_106 (by decide) ?_
    refine lv_icmp_ge (tgt := 129) hx hb dX10_init_107 (by decide) (fun c107 => ?_) (fun c107 => ?_)
    · exact absurd c107 (by decide)
    · skip
      refine lv_aload_n hx hb dX10_init_110 rfl (lv_at hl 1 rfl) ?_
      refine r_getr (ci := 9) (C := RX10) (T := TX10) (N := 10) hx hb hts iX10 hown hW rfl 0 6 (hE16.2.1 0 hk).1 (by omega) ((hE16.2.1 0 hk).2.1.trans hkd) (by decide) q24 (fun _ h9 => h9) ((hL16_18 (0, 6, 32) (by decide)).1) rfl rfl dX10_init_111 ?_
      refine lv_iload_n hx hb dX10_init_114 rfl (lv_at hl 0 rfl) ?_
      refine r_newF (ci := 4) (C := RX5) (T := TX5) (N := 16) (fs := [.int 0, .int 0, .int 0, .int 0, .int 0, .int 0, .int 0, .int 0, .int 0, .null, .null, .null, .null, .null, .null, .null]) hx hb hts iX5 tyX5 tyX5_ok hown q23 q25 q26 hW hA hF16_18 rfl rfl (fun j hj => by rcases (show j = 0 ∨ j = 1 ∨ j = 2 ∨ j = 3 ∨ j = 4 ∨ j = 5 ∨ j = 6 ∨ j = 7 ∨ j = 8 ∨ j = 9 ∨ j = 10 ∨ j = 11 ∨ j = 12 ∨ j = 13 ∨ j = 14 ∨ j = 15 by omega) with rfl | rfl | rfl | rfl | rfl | rfl | rfl | rfl | rfl | rfl | rfl | rfl | rfl | rfl | rfl | rfl <;> rfl) (Nat.le_of_ble_eq_true rfl) (Nat.le_of_ble_eq_true rfl) dX10_init_115 (fun ad16 H hW => ?_)
      obtain ⟨G17, hG17⟩ : ∃ g, g = gAdd G16 ad16 4 0 := ⟨_, rfl⟩
      rw [← hG17] at hW
      have hX17 : Ext G16 G17 [(4, 0)] := by rw [hG17]; exact Ext.add
      have hE17 : Ext G G17 [(16, 8), (12, 40), (12, 40), (12, 40), (12, 40), (12, 40), (12, 40), (12, 40), (12, 40), (12, 8), (12, 8), (5, 0), (11, 400), (0, 0), (17, 9), (13, 649), (13, 649), (13, 649), (13, 649), (13, 649), (13, 649), (13, 649), (13, 649), (13, 649), (12, 6), (12, 6), (12, 6), (13, 649), (13, 649), (7, 0), (12, 16), (15, 2), (4, 0), (12, 6), (12, 6), (12, 16), (12, 16), (12, 16), (12, 16), (14, 16), (4, 0), (12, 6), (12, 6), (12, 16), (12, 16), (12, 16), (12, 16), (14, 16), (4, 0), (12, 6), (12, 6), (12, 16), (12, 16), (12, 16), (12, 16), (14, 16), (4, 0)] := Ext.tr hE16 hX17
      have hN17 : gN G17 = 1 + 57 := by have h9 := hE17.1; rw [hn0] at h9; exact h9
      have hQ16 : gA G17 57 = ad16 := by rw [hG17, show 57 = gN G16 from by omega]; exact gAdd_As
      have hF17_18 : Fr G17 S18 := Fr.mono hF16_18 (by omega)
      have hL17_18 : LkS G17 S18 ((((((((((((((((((((((((((((((((((((((((([] ++ (List.range 8).map (fun j => (1, j, 1 + 1 + j))) ++ [(0, 0, 1)]) ++ [(0, 1, 10)]) ++ [(0, 2, 11)]) ++ [(12, 0, 13)]) ++ [(0, 3, 12)]) ++ (List.range 9).map (fun j => (15, j, 15 + 1 + j))) ++ [(14, 0, 15)]) ++ [(14, 1, (15 + 10))]) ++ [(14, 2, (15 + 11))]) ++ [(14, 3, (15 + 12))]) ++ [(14, 4, (15 + 13))]) ++ [(14, 5, (15 + 14))]) ++ [(0, 4, 14)]) ++ [(30, 0, 31)]) ++ [(0, 5, 30)]) ++ [(0, 6, 32)]) ++ [(33, 9, 34)]) ++ [(33, 10, (34 + 1))]) ++ [(33, 11, (34 + 2))]) ++ [(33, 12, (34 + 3))]) ++ [(33, 13, (34 + 4))]) ++ [(33, 14, (34 + 5))]) ++ [(33, 15, (34 + 6))]) ++ [(0, 7, 33)]) ++ [(41, 9, 42)]) ++ [(41, 10, (42 + 1))]) ++ [(41, 11, (42 + 2))]) ++ [(41, 12, (42 + 3))]) ++ [(41, 13, (42 + 4))]) ++ [(41, 14, (42 + 5))]) ++ [(41, 15, (42 + 6))]) ++ [(0, 8, 41)]) ++ [(49, 9, 50)]) ++ [(49, 10, (50 + 1))]) ++ [(49, 11, (50 + 2))]) ++ [(49, 12, (50 + 3))]) ++ [(49, 13, (50 + 4))]) ++ [(49, 14, (50 + 5))]) ++ [(49, 15, (50 + 6))]) ++ [(32, 0, 49)]) := hL16_18.ext hX17
      refine lv_dup hx hb dX10_init_118 rfl ?_
      refine W.eq (g2 := F0 mM 119 ls [.ref (gA G17 57), .ref ad16, .int 1, .ref (gA G16 32)]) (by rw [hQ16]) ?_
      refine r_callva hW hA (va_runIN (As := []) (rest := [.ref ad16, .int 1, .ref (gA G16 32)]) ⟨hx, hb, hml, hown, hts⟩ (t_X5_init l D G17 S18 _ 57 58 (by omega) ((hE17.kz hn0 (by decide) (by decide)).1) (by omega) hF17_18) ⟨va_cnB 0 hts gX10_init_X5_init_n48 rfl rfl rfl (hW.2.2.2.2.2.2.2.2.2.1 (48, "WoodForTwo$Pass") (by decide)) q26 (by decide +kernel) ⟨Nat.le_of_ble_eq_true rfl, Nat.le_of_ble_eq_true rfl⟩, rfl, q27⟩ (r_preS hA hW) rfl rfl hl.1 rfl (lv_room (Nat.le_of_ble_eq_true rfl)) dX10_init_119 ⟨(show 57 + 7 ≤ 64 by omega), (show 8288 + 92 ≤ 8380 by omega)⟩) (fun G18 S19 H locs hp18 hW => ?_)
      obtain ⟨hX18, hF18_19, hl18, hi18, hj18, ho18⟩ := hp18
      have hX18 : Ext G17 G18 [(12, 6), (12, 6), (12, 16), (12, 16), (12, 16), (12, 16), (14, 16)] := hX18
      have hF18_19 : Fr G18 S19 := hF18_19
      have hE18 : Ext G G18 [(16, 8), (12, 40), (12, 40), (12, 40), (12, 40), (12, 40), (12, 40), (12, 40), (12, 40), (12, 8), (12, 8), (5, 0), (11, 400), (0, 0), (17, 9), (13, 649), (13, 649), (13, 649), (13, 649), (13, 649), (13, 649), (13, 649), (13, 649), (13, 649), (12, 6), (12, 6), (12, 6), (13, 649), (13, 649), (7, 0), (12, 16), (15, 2), (4, 0), (12, 6), (12, 6), (12, 16), (12, 16), (12, 16), (12, 16), (14, 16), (4, 0), (12, 6), (12, 6), (12, 16), (12, 16), (12, 16), (12, 16), (14, 16), (4, 0), (12, 6), (12, 6), (12, 16), (12, 16), (12, 16), (12, 16), (14, 16), (4, 0), (12, 6), (12, 6), (12, 16), (12, 16), (12, 16), (12, 16), (14, 16)] := Ext.tr hE17 hX18
      have hN18 : gN G18 = 1 + 64 := by have h9 := hE18.1; rw [hn0] at h9; exact h9
      have hL18_19 : LkS G18 S19 (((((((((((((((((((((((((((((((((((((((((((((((([] ++ (List.range 8).map (fun j => (1, j, 1 + 1 + j))) ++ [(0, 0, 1)]) ++ [(0, 1, 10)]) ++ [(0, 2, 11)]) ++ [(12, 0, 13)]) ++ [(0, 3, 12)]) ++ (List.range 9).map (fun j => (15, j, 15 + 1 + j))) ++ [(14, 0, 15)]) ++ [(14, 1, (15 + 10))]) ++ [(14, 2, (15 + 11))]) ++ [(14, 3, (15 + 12))]) ++ [(14, 4, (15 + 13))]) ++ [(14, 5, (15 + 14))]) ++ [(0, 4, 14)]) ++ [(30, 0, 31)]) ++ [(0, 5, 30)]) ++ [(0, 6, 32)]) ++ [(33, 9, 34)]) ++ [(33, 10, (34 + 1))]) ++ [(33, 11, (34 + 2))]) ++ [(33, 12, (34 + 3))]) ++ [(33, 13, (34 + 4))]) ++ [(33, 14, (34 + 5))]) ++ [(33, 15, (34 + 6))]) ++ [(0, 7, 33)]) ++ [(41, 9, 42)]) ++ [(41, 10, (42 + 1))]) ++ [(41, 11, (42 + 2))]) ++ [(41, 12, (42 + 3))]) ++ [(41, 13, (42 + 4))]) ++ [(41, 14, (42 + 5))]) ++ [(41, 15, (42 + 6))]) ++ [(0, 8, 41)]) ++ [(49, 9, 50)]) ++ [(49, 10, (50 + 1))]) ++ [(49, 11, (50 + 2))]) ++ [(49, 12, (50 + 3))]) ++ [(49, 13, (50 + 4))]) ++ [(49, 14, (50 + 5))]) ++ [(49, 15, (50 + 6))]) ++ [(32, 0, 49)]) ++ [(57, 9, 58)]) ++ [(57, 10, (58 + 1))]) ++ [(57, 11, (58 + 2))]) ++ [(57, 12, (58 + 3))]) ++ [(57, 13, (58 + 4))]) ++ [(57, 14, (58 + 5))]) ++ [(57, 15, (58 + 6))]) := hl18 _ hL17_18 (by decide)
      have hI19 : gi S19 = va_up (fun _ _ => 0) 11 (flR (fun _ => 0) 8 (-1)) := hi18.trans hI18
      have hJ19 : gj S19 = fun _ _ => 0 := hj18.trans hJ18
      have hO19 : ∀ j, ¬ (j = 0 ∨ j = 1 ∨ j = 12 ∨ j = 13 ∨ j = 14 ∨ j = 15 ∨ j = 30 ∨ j = 31 ∨ j = 32 ∨ j = 33 ∨ j = 34 ∨ j = 41 ∨ j = 42 ∨ j = 49 ∨ j = 50 ∨ j = 57 ∨ j = 58) → gp S19 j = fun _ => none := fun j x => (ho18 j (by omega) (by omega)).trans (hO18 j x)
      refine r_aastX hx hb hW 32 ((hX18.2.1 32 (by omega)).1.trans ((hX17.2.1 32 (by omega)).1)) (by omega) (hE18.kz hn0 (by decide) (by decide)).1 (b := 57) ((hX18.2.1 57 (by omega)).1.trans hQ16) (by omega) (hE18.kz hn0 (by decide) (by decide)).1 (by rw [(hE18.kz hn0 (by decide) (by decide)).2]; exact t_in (by decide) (by decide)) (rp S19 32 (va_up (gp S19 32) 1 (some ad16))) (gp S19 32) rfl (by rw [show (1 : Int32).toNatClampNeg = 1 from by decide]; exact e_ps _ _ _) rfl rfl c_p0 dX10_init_122 (fun H locs hW => ?_)
      obtain ⟨S20, hS20⟩ : ∃ g, g = (rp S19 32 (va_up (gp S19 32) 1 (some ad16))) := ⟨_, rfl⟩
      rw [← hS20] at hW
      have hF18_20 : Fr G18 S20 := by rw [hS20]; exact Fr.rp hF18_19 (by omega)
      have hI20 : gi S20 = va_up (fun _ _ => 0) 11 (flR (fun _ => 0) 8 (-1)) := by rw [hS20]; exact hI19
      have hJ20 : gj S20 = fun _ _ => 0 := by rw [hS20]; exact hJ19
      have hO20 : ∀ j, ¬ (j = 0 ∨ j = 1 ∨ j = 12 ∨ j = 13 ∨ j = 14 ∨ j = 15 ∨ j = 30 ∨ j = 31 ∨ j = 32 ∨ j = 33 ∨ j = 34 ∨ j = 41 ∨ j = 42 ∨ j = 49 ∨ j = 50 ∨ j = 57 ∨ j = 58) → gp S20 j = fun _ => none := fun j x => by rw [hS20]; exact (up_n _ _ (by omega)).trans (hO19 j x)
      have hL18_20 : LkS G18 S20 ((((((((((((((((((((((((((((((((((((((((((((((((([] ++ (List.range 8).map (fun j => (1, j, 1 + 1 + j))) ++ [(0, 0, 1)]) ++ [(0, 1, 10)]) ++ [(0, 2, 11)]) ++ [(12, 0, 13)]) ++ [(0, 3, 12)]) ++ (List.range 9).map (fun j => (15, j, 15 + 1 + j))) ++ [(14, 0, 15)]) ++ [(14, 1, (15 + 10))]) ++ [(14, 2, (15 + 11))]) ++ [(14, 3, (15 + 12))]) ++ [(14, 4, (15 + 13))]) ++ [(14, 5, (15 + 14))]) ++ [(0, 4, 14)]) ++ [(30, 0, 31)]) ++ [(0, 5, 30)]) ++ [(0, 6, 32)]) ++ [(33, 9, 34)]) ++ [(33, 10, (34 + 1))]) ++ [(33, 11, (34 + 2))]) ++ [(33, 12, (34 + 3))]) ++ [(33, 13, (34 + 4))]) ++ [(33, 14, (34 + 5))]) ++ [(33, 15, (34 + 6))]) ++ [(0, 7, 33)]) ++ [(41, 9, 42)]) ++ [(41, 10, (42 + 1))]) ++ [(41, 11, (42 + 2))]) ++ [(41, 12, (42 + 3))]) ++ [(41, 13, (42 + 4))]) ++ [(41, 14, (42 + 5))]) ++ [(41, 15, (42 + 6))]) ++ [(0, 8, 41)]) ++ [(49, 9, 50)]) ++ [(49, 10, (50 + 1))]) ++ [(49, 11, (50 + 2))]) ++ [(49, 12, (50 + 3))]) ++ [(49, 13, (50 + 4))]) ++ [(49, 14, (50 + 5))]) ++ [(49, 15, (50 + 6))]) ++ [(32, 0, 49)]) ++ [(57, 9, 58)]) ++ [(57, 10, (58 + 1))]) ++ [(57, 11, (58 + 2))]) ++ [(57, 12, (58 + 3))]) ++ [(57, 13, (58 + 4))]) ++ [(57, 14, (58 + 5))]) ++ [(57, 15, (58 + 6))]) ++ [(32, 1, 57)]) := by rw [hS20]; exact LkS.put hL18_19 (by decide) (by omega) (by omega) ((hX18.2.1 57 (by omega)).1.trans hQ16)
      refine lv_iinc (v := 2) (lv' := [(1, .int 2), (0, .ref (gA G 0))]) hx hb dX10_init_123 hl (k := 0) rfl (by decide) (by decide) rfl (fun ls hl => ?_)
      refine lv_goto (tgt := 105) hx hb dX10_init_126 (by decide) ?_
      refine lv_iload_n hx hb dX10_init_105 rfl (lv_at hl 0 rfl) ?_
      refine lv_iconst (v := 2) hx hb dX10_init_106 (by decide) ?_
      refine lv_icmp_ge (tgt := 129) hx hb dX10_init_107 (by decide) (fun c107 => ?_) (fun c107 => ?_)
      · skip
        refine W.widen (k := 64) (n := 8380) (by omega) (by omega) ?_
        refine r_vreta hx hb hr hlocks hW ?_ dX10_init_129
        refine ⟨hN18, (hE18.2.1 0 hk).1, fun j hj => ?_, hF18_20, fun x hx => hL18_20 x ?_, hI20, hJ20, fun j hj => hO20 j (by omega)⟩
        · by_cases e : j = 0
          · subst e; exact ⟨(hE18.2.1 0 hk).2.1.trans hkd, (hE18.2.1 0 hk).2.2.trans hz0⟩
          · have h9 := hE18.kz (k := j) hn0 (by omega) (by show j < 1 + 64; omega)
            exact ⟨h9.1.trans (kz10 j (by omega) hj).1, h9.2.trans (kz10 j (by omega) hj).2⟩
        · exact lk10s x hx
      · exact absurd (by decide) c107
