def rmX11_init : Jvm.Room := { frames := 1, cells := 9, slots := 3352, locals := 12 }
set_option maxHeartbeats 4000000 in
set_option maxRecDepth 100000 in
theorem t_X11_init (l : Launch) (D : Dc) (G : Gg) (S : Sg) (z : Nat) (k n0 : Nat) (hk : k < gN G) (hkd : gK G k = 10) (hn0 : gN G = n0) (hF : Fr G S) : MVa l yX11_init wsX11_init rmX11_init D G S z [.ref (gA G k)] 9 3352 (fun U => Ext G U.1 [(13, 560), (12, 320), (12, 8), (12, 8), (12, 40), (12, 400), (13, 1000), (13, 1000), (12, 16)] ∧ Fr U.1 U.2 ∧ (∀ L, LkS G S L → (∀ x ∈ L, x.1 ≠ k) → LkS U.1 U.2 (((((((((L ++ [(k, 0, n0)]) ++ [(k, 1, (n0 + 1))]) ++ [(k, 2, (n0 + 2))]) ++ [(k, 3, (n0 + 3))]) ++ [(k, 5, (n0 + 4))]) ++ [(k, 6, (n0 + 5))]) ++ [(k, 15, (n0 + 6))]) ++ [(k, 16, (n0 + 7))]) ++ [(k, 18, (n0 + 8))])) ∧ (∀ j, j ≠ n0 + 3 → gi U.2 j = gi S j) ∧ (∀ r, r < 8 → gi U.2 (n0 + 3) r = -1) ∧ gj U.2 = gj S ∧ ∀ j, j ≠ k → j ≠ n0 → gp U.2 j = gp S j) := by
  refine Met.ofW (cc := cX11_init) (maxL := 2) (ret := none) (by decide +kernel) rfl ?_
  intro pP eE s mM args bl mT cD s₁ bD hml hv
  obtain ⟨rfl, hv⟩ := hv
  have hz := hv.1
  subst hz
  have hx := bD.exec
  have hb := bD.bytes
  have hr := bD.returns
  have hts := atoms_spec (ws := wsX11_init) bD.pre
  have hown : s.vm.findClass RX11 = some mM.cls := findClass_of_methodNamed bD.named
  have hlocks := bD.notSynchronized
  have hin : mT.name = "<init>" := (name_of_methodNamed bD.named bD.method).1
  have hW := Wd.start hv
  have hA : ∀ q, s.heap.size ≤ q → AW G s.heap.size q := fun q h => Or.inr h
  have hl := lv_entry ([.ref (gA G k)]) (n := 2) (Nat.le_of_ble_eq_true rfl)
  rw [lg_entry_eq]
  generalize (lg_sl ([.ref (gA G k)]) ++ List.replicate (2 - (lg_sl ([.ref (gA G k)])).length) Slot.unset).toArray = ls at hl ⊢
  have hl : lv_has ls 2 [(0, .ref (gA G k))] := hl
  have q0 := hts (.methodLink RX11 1 objectInit) (List.mem_of_getElem? (i := 1) rfl)
  have q1 := hts (.instanceMethod objectInit) (List.mem_of_getElem? (i := 2) rfl)
  have q2 := hts (.code objectInit ⟨#[0xb1]⟩ 1 none) (List.mem_of_getElem? (i := 3) rfl)
  have q3 := hts (.arrayClass .long) (List.mem_of_getElem? (i := 4) rfl)
  have q4 := hts (.fieldLink RX11 7 "WoodForTwoModel" "w" "[J") (List.mem_of_getElem? (i := 5) rfl)
  have q5 := hts (.arrayClass .int) (List.mem_of_getElem? (i := 6) rfl)
  have q6 := hts (.fieldLink RX11 13 "WoodForTwoModel" "items" "[I") (List.mem_of_getElem? (i := 7) rfl)
  have q7 := hts (.fieldLink RX11 17 "WoodForTwoModel" "lane" "[I") (List.mem_of_getElem? (i := 8) rfl)
  have q8 := hts (.fieldLink RX11 20 "WoodForTwoModel" "length" "[I") (List.mem_of_getElem? (i := 9) rfl)
  have q9 := hts (.fieldLink RX11 23 "WoodForTwoModel" "spare" "[I") (List.mem_of_getElem? (i := 10) rfl)
  have q10 := hts (.fieldLink RX11 26 "WoodForTwoModel" "tape" "[I") (List.mem_of_getElem? (i := 11) rfl)
  have q11 := hts (.fieldLink RX11 29 "WoodForTwoModel" "ways" "[J") (List.mem_of_getElem? (i := 12) rfl)
  have q12 := hts (.fieldLink RX11 32 "WoodForTwoModel" "then" "[J") (List.mem_of_getElem? (i := 13) rfl)
  have q13 := hts (.fieldLink RX11 35 "WoodForTwoModel" "trace" "[I") (List.mem_of_getElem? (i := 14) rfl)
  have iX11 : ∀ w ∈ wsX110, w ∈ wsX11_init := fun _ h => List.mem_cons_of_mem _ (List.mem_append_right _ (h))
  refine lv_aload_n hx hb dX11_init_0 rfl (lv_at hl 0 rfl) ?_
  refine W.objInit hx hb hown q0 q1 q2 rfl (by rw [hml]; exact hl.1) rfl dX11_init_1 (Nat.le_of_ble_eq_true rfl) (Nat.le_of_ble_eq_true rfl) ?_
  refine W.eq (g2 := F0 mM 4 ls []) rfl ?_
  have hE0 : Ext G G [] := Ext.rf
  have hN0 : gN G = n0 + 0 := hn0
  have hF0_0 : Fr G S := hF
  have hI0 : gi S = gi S := rfl
  have hJ0 : gj S = gj S := rfl
  have hO0 : ∀ j, j ≠ k → j ≠ n0 → gp S j = gp S j := fun _ _ _ => rfl
  have hL0 : ∀ L, LkS G S L → (∀ x ∈ L, x.1 ≠ k) → LkS G S L := fun L a _ => a
  refine lv_aload_n hx hb dX11_init_4 rfl (lv_at hl 0 rfl) ?_
  refine lv_sipush (v := 560) hx hb dX11_init_5 (by decide) ?_
  refine r_newaF (atype := .long) (a0 := (560, .inr (.inl (fun _ => 0)))) hx hb q3 rfl hW hA hF0_0 13 (hn_long hW) rfl (fun _ => rfl) (by decide) (show (560 : Int32).toNatClampNeg = 560 from by decide) (Nat.le_of_ble_eq_true rfl) (Nat.le_of_ble_eq_true rfl) (Nat.le_of_ble_eq_true rfl) dX11_init_8 (fun ad0 H hW => ?_)
  obtain ⟨G1, hG1⟩ : ∃ g, g = gAdd G ad0 13 560 := ⟨_, rfl⟩
  rw [← hG1] at hW
  have hX1 : Ext G G1 [(13, 560)] := by rw [hG1]; exact Ext.add
  have hE1 : Ext G G1 [(13, 560)] := Ext.tr hE0 hX1
  have hN1 : gN G1 = n0 + 1 := by have h9 := hE1.1; rw [hn0] at h9; exact h9
  have hQ0 : gA G1 n0 = ad0 := by rw [hG1, show n0 = gN G from by omega]; exact gAdd_As
  have hF1_0 : Fr G1 S := Fr.mono hF0_0 (by omega)
  have hL1_0 : ∀ L, LkS G S L → (∀ x ∈ L, x.1 ≠ k) → LkS G1 S L := fun L a b => (hL0 L a b).ext hX1
  refine r_putrF (ci := 10) (C := RX11) (T := TX11) (N := 20) hx hb hts iX11 tyX11 tyX11_ok nmX11 hown hW rfl k 0 (hE1.2.1 k hk).1 (by omega) ((hE1.2.1 k hk).2.1.trans hkd) (by decide) q4 (fun _ h9 => h9) rfl hin rfl (tyX11_ok 0 (by decide)) rfl rfl (rp S k (va_up (gp S k) 0 (some ad0))) (gp S k) (va_up (gp S k) 0 (some ad0)) rfl (e_ps _ _ _) rfl rfl rfl (Nat.le_of_ble_eq_true rfl) rfl c_p0 dX11_init_10 (fun H locs hW => ?_)
  obtain ⟨S1, hS1⟩ : ∃ g, g = (rp S k (va_up (gp S k) 0 (some ad0))) := ⟨_, rfl⟩
  rw [← hS1] at hW
  have hF1_1 : Fr G1 S1 := by rw [hS1]; exact Fr.rp hF1_0 (by omega)
  have hI1 : gi S1 = gi S := by rw [hS1]; exact hI0
  have hJ1 : gj S1 = gj S := by rw [hS1]; exact hJ0
  have hO1 : ∀ j, j ≠ k → j ≠ n0 → gp S1 j = gp S j := fun j x y => by rw [hS1]; exact (up_n _ _ x).trans (hO0 j x y)
  have hL1_1 : ∀ L, LkS G S L → (∀ x ∈ L, x.1 ≠ k) → LkS G1 S1 (L ++ [(k, 0, n0)]) := by
    intro L a b
    rw [hS1]
    refine LkS.put (hL1_0 L a b) (fun x hx ⟨e1, e2⟩ => ?_) (by omega) (by omega) hQ0
    exact b x hx e1
  refine lv_aload_n hx hb dX11_init_13 rfl (lv_at hl 0 rfl) ?_
  refine lv_sipush (v := 320) hx hb dX11_init_14 (by decide) ?_
  refine r_newaF (atype := .int) (a0 := (320, .inl (fun _ => 0))) hx hb q5 rfl hW hA hF1_1 12 (hn_int hW) rfl (fun _ => rfl) (by decide) (show (320 : Int32).toNatClampNeg = 320 from by decide) (Nat.le_of_ble_eq_true rfl) (Nat.le_of_ble_eq_true rfl) (Nat.le_of_ble_eq_true rfl) dX11_init_17 (fun ad1 H hW => ?_)
  obtain ⟨G2, hG2⟩ : ∃ g, g = gAdd G1 ad1 12 320 := ⟨_, rfl⟩
  rw [← hG2] at hW
  have hX2 : Ext G1 G2 [(12, 320)] := by rw [hG2]; exact Ext.add
  have hE2 : Ext G G2 [(13, 560), (12, 320)] := Ext.tr hE1 hX2
  have hN2 : gN G2 = n0 + 2 := by have h9 := hE2.1; rw [hn0] at h9; exact h9
  have hQ1 : gA G2 (n0 + 1) = ad1 := by rw [hG2, show (n0 + 1) = gN G1 from by omega]; exact gAdd_As
  have hF2_1 : Fr G2 S1 := Fr.mono hF1_1 (by omega)
  have hL2_1 : ∀ L, LkS G S L → (∀ x ∈ L, x.1 ≠ k) → LkS G2 S1 (L ++ [(k, 0, n0)]) := fun L a b => (hL1_1 L a b).ext hX2
  refine r_putrF (ci := 10) (C := RX11) (T := TX11) (N := 20) hx hb hts iX11 tyX11 tyX11_ok nmX11 hown hW rfl k 1 (hE2.2.1 k hk).1 (by omega) ((hE2.2.1 k hk).2.1.trans hkd) (by decide) q6 (fun _ h9 => h9) rfl hin rfl (tyX11_ok 1 (by decide)) rfl rfl (rp S1 k (va_up (gp S1 k) 1 (some ad1))) (gp S1 k) (va_up (gp S1 k) 1 (some ad1)) rfl (e_ps _ _ _) rfl rfl rfl (Nat.le_of_ble_eq_true rfl) rfl c_p0 dX11_init_19 (fun H locs hW => ?_)
  obtain ⟨S2, hS2⟩ : ∃ g, g = (rp S1 k (va_up (gp S1 k) 1 (some ad1))) := ⟨_, rfl⟩
  rw [← hS2] at hW
  have hF2_2 : Fr G2 S2 := by rw [hS2]; exact Fr.rp hF2_1 (by omega)
  have hI2 : gi S2 = gi S := by rw [hS2]; exact hI1
  have hJ2 : gj S2 = gj S := by rw [hS2]; exact hJ1
  have hO2 : ∀ j, j ≠ k → j ≠ n0 → gp S2 j = gp S j := fun j x y => by rw [hS2]; exact (up_n _ _ x).trans (hO1 j x y)
  have hL2_2 : ∀ L, LkS G S L → (∀ x ∈ L, x.1 ≠ k) → LkS G2 S2 ((L ++ [(k, 0, n0)]) ++ [(k, 1, (n0 + 1))]) := by
    intro L a b
    rw [hS2]
    refine LkS.put (hL2_1 L a b) (fun x hx ⟨e1, e2⟩ => ?_) (by omega) (by omega) hQ1
    simp only [List.mem_append] at hx
    rcases hx with hx | hx
    · exact b x hx e1
    · rw [List.mem_singleton] at hx; rw [hx] at e2; exact absurd (show (0 : Nat) = 1 from e2) (by decide)
  refine lv_aload_n hx hb dX11_init_22 rfl (lv_at hl 0 rfl) ?_
  refine lv_bipush (v := 8) hx hb dX11_init_23 (by decide) ?_
  refine r_newaF (atype := .int) (a0 := (8, .inl (fun _ => 0))) hx hb q5 rfl hW hA hF2_2 12 (hn_int hW) rfl (fun _ => rfl) (by decide) (show (8 : Int32).toNatClampNeg = 8 from by decide) (Nat.le_of_ble_eq_true rfl) (Nat.le_of_ble_eq_true rfl) (Nat.le_of_ble_eq_true rfl) dX11_init_25 (fun ad2 H hW => ?_)
  obtain ⟨G3, hG3⟩ : ∃ g, g = gAdd G2 ad2 12 8 := ⟨_, rfl⟩
  rw [← hG3] at hW
  have hX3 : Ext G2 G3 [(12, 8)] := by rw [hG3]; exact Ext.add
  have hE3 : Ext G G3 [(13, 560), (12, 320), (12, 8)] := Ext.tr hE2 hX3
  have hN3 : gN G3 = n0 + 3 := by have h9 := hE3.1; rw [hn0] at h9; exact h9
  have hQ2 : gA G3 (n0 + 2) = ad2 := by rw [hG3, show (n0 + 2) = gN G2 from by omega]; exact gAdd_As
  have hF3_2 : Fr G3 S2 := Fr.mono hF2_2 (by omega)
  have hL3_2 : ∀ L, LkS G S L → (∀ x ∈ L, x.1 ≠ k) → LkS G3 S2 ((L ++ [(k, 0, n0)]) ++ [(k, 1, (n0 + 1))]) := fun L a b => (hL2_2 L a b).ext hX3
  refine r_putrF (ci := 10) (C := RX11) (T := TX11) (N := 20) hx hb hts iX11 tyX11 tyX11_ok nmX11 hown hW rfl k 2 (hE3.2.1 k hk).1 (by omega) ((hE3.2.1 k hk).2.1.trans hkd) (by decide) q7 (fun _ h9 => h9) rfl hin rfl (tyX11_ok 2 (by decide)) rfl rfl (rp S2 k (va_up (gp S2 k) 2 (some ad2))) (gp S2 k) (va_up (gp S2 k) 2 (some ad2)) rfl (e_ps _ _ _) rfl rfl rfl (Nat.le_of_ble_eq_true rfl) rfl c_p0 dX11_init_27 (fun H locs hW => ?_)
  obtain ⟨S3, hS3⟩ : ∃ g, g = (rp S2 k (va_up (gp S2 k) 2 (some ad2))) := ⟨_, rfl⟩
  rw [← hS3] at hW
  have hF3_3 : Fr G3 S3 := by rw [hS3]; exact Fr.rp hF3_2 (by omega)
  have hI3 : gi S3 = gi S := by rw [hS3]; exact hI2
  have hJ3 : gj S3 = gj S := by rw [hS3]; exact hJ2
  have hO3 : ∀ j, j ≠ k → j ≠ n0 → gp S3 j = gp S j := fun j x y => by rw [hS3]; exact (up_n _ _ x).trans (hO2 j x y)
  have hL3_3 : ∀ L, LkS G S L → (∀ x ∈ L, x.1 ≠ k) → LkS G3 S3 (((L ++ [(k, 0, n0)]) ++ [(k, 1, (n0 + 1))]) ++ [(k, 2, (n0 + 2))]) := by
    intro L a b
    rw [hS3]
    refine LkS.put (hL3_2 L a b) (fun x hx ⟨e1, e2⟩ => ?_) (by omega) (by omega) hQ2
    simp only [List.mem_append] at hx
    rcases hx with (hx | hx) | hx
    · exact b x hx e1
    · rw [List.mem_singleton] at hx; rw [hx] at e2; exact absurd (show (0 : Nat) = 2 from e2) (by decide)
    · rw [List.mem_singleton] at hx; rw [hx] at e2; exact absurd (show (1 : Nat) = 2 from e2) (by decide)
  refine lv_aload_n hx hb dX11_init_30 rfl (lv_at hl 0 rfl) ?_
  refine lv_bipush (v := 8) hx hb dX11_init_31 (by decide) ?_
  refine r_newaF (atype := .int) (a0 := (8, .inl (fun _ => 0))) hx hb q5 rfl hW hA hF3_3 12 (hn_int hW) rfl (fun _ => rfl) (by decide) (show (8 : Int32).toNatClampNeg = 8 from by decide) (Nat.le_of_ble_eq_true rfl) (Nat.le_of_ble_eq_true rfl) (Nat.le_of_ble_eq_true rfl) dX11_init_33 (fun ad3 H hW => ?_)
  obtain ⟨G4, hG4⟩ : ∃ g, g = gAdd G3 ad3 12 8 := ⟨_, rfl⟩
  rw [← hG4] at hW
  have hX4 : Ext G3 G4 [(12, 8)] := by rw [hG4]; exact Ext.add
  have hE4 : Ext G G4 [(13, 560), (12, 320), (12, 8), (12, 8)] := Ext.tr hE3 hX4
  have hN4 : gN G4 = n0 + 4 := by have h9 := hE4.1; rw [hn0] at h9; exact h9
  have hQ3 : gA G4 (n0 + 3) = ad3 := by rw [hG4, show (n0 + 3) = gN G3 from by omega]; exact gAdd_As
  have hF4_3 : Fr G4 S3 := Fr.mono hF3_3 (by omega)
  have hL4_3 : ∀ L, LkS G S L → (∀ x ∈ L, x.1 ≠ k) → LkS G4 S3 (((L ++ [(k, 0, n0)]) ++ [(k, 1, (n0 + 1))]) ++ [(k, 2, (n0 + 2))]) := fun L a b => (hL3_3 L a b).ext hX4
  refine r_putrF (ci := 10) (C := RX11) (T := TX11) (N := 20) hx hb hts iX11 tyX11 tyX11_ok nmX11 hown hW rfl k 3 (hE4.2.1 k hk).1 (by omega) ((hE4.2.1 k hk).2.1.trans hkd) (by decide) q8 (fun _ h9 => h9) rfl hin rfl (tyX11_ok 3 (by decide)) rfl rfl (rp S3 k (va_up (gp S3 k) 3 (some ad3))) (gp S3 k) (va_up (gp S3 k) 3 (some ad3)) rfl (e_ps _ _ _) rfl rfl rfl (Nat.le_of_ble_eq_true rfl) rfl c_p0 dX11_init_35 (fun H locs hW => ?_)
  obtain ⟨S4, hS4⟩ : ∃ g, g = (rp S3 k (va_up (gp S3 k) 3 (some ad3))) := ⟨_, rfl⟩
  rw [← hS4] at hW
  have hF4_4 : Fr G4 S4 := by rw [hS4]; exact Fr.rp hF4_3 (by omega)
  have hI4 : gi S4 = gi S := by rw [hS4]; exact hI3
  have hJ4 : gj S4 = gj S := by rw [hS4]; exact hJ3
  have hO4 : ∀ j, j ≠ k → j ≠ n0 → gp S4 j = gp S j := fun j x y => by rw [hS4]; exact (up_n _ _ x).trans (hO3 j x y)
  have hL4_4 : ∀ L, LkS G S L → (∀ x ∈ L, x.1 ≠ k) → LkS G4 S4 ((((L ++ [(k, 0, n0)]) ++ [(k, 1, (n0 + 1))]) ++ [(k, 2, (n0 + 2))]) ++ [(k, 3, (n0 + 3))]) := by
    intro L a b
    rw [hS4]
    refine LkS.put (hL4_3 L a b) (fun x hx ⟨e1, e2⟩ => ?_) (by omega) (by omega) hQ3
    simp only [List.mem_append] at hx
    rcases hx with ((hx | hx) | hx) | hx
    · exact b x hx e1
    · rw [List.mem_singleton] at hx; rw [hx] at e2; exact absurd (show (0 : Nat) = 3 from e2) (by decide)
    · rw [List.mem_singleton] at hx; rw [hx] at e2; exact absurd (show (1 : Nat) = 3 from e2) (by decide)
    · rw [List.mem_singleton] at hx; rw [hx] at e2; exact absurd (show (2 : Nat) = 3 from e2) (by decide)
  refine lv_aload_n hx hb dX11_init_38 rfl (lv_at hl 0 rfl) ?_
  refine lv_bipush (v := 40) hx hb dX11_init_39 (by decide) ?_
  refine r_newaF (atype := .int) (a0 := (40, .inl (fun _ => 0))) hx hb q5 rfl hW hA hF4_4 12 (hn_int hW) rfl (fun _ => rfl) (by decide) (show (40 : Int32).toNatClampNeg = 40 from by decide) (Nat.le_of_ble_eq_true rfl) (Nat.le_of_ble_eq_true rfl) (Nat.le_of_ble_eq_true rfl) dX11_init_41 (fun ad4 H hW => ?_)
  obtain ⟨G5, hG5⟩ : ∃ g, g = gAdd G4 ad4 12 40 := ⟨_, rfl⟩
  rw [← hG5] at hW
  have hX5 : Ext G4 G5 [(12, 40)] := by rw [hG5]; exact Ext.add
  have hE5 : Ext G G5 [(13, 560), (12, 320), (12, 8), (12, 8), (12, 40)] := Ext.tr hE4 hX5
  have hN5 : gN G5 = n0 + 5 := by have h9 := hE5.1; rw [hn0] at h9; exact h9
  have hQ4 : gA G5 (n0 + 4) = ad4 := by rw [hG5, show (n0 + 4) = gN G4 from by omega]; exact gAdd_As
  have hF5_4 : Fr G5 S4 := Fr.mono hF4_4 (by omega)
  have hL5_4 : ∀ L, LkS G S L → (∀ x ∈ L, x.1 ≠ k) → LkS G5 S4 ((((L ++ [(k, 0, n0)]) ++ [(k, 1, (n0 + 1))]) ++ [(k, 2, (n0 + 2))]) ++ [(k, 3, (n0 + 3))]) := fun L a b => (hL4_4 L a b).ext hX5
  refine r_putrF (ci := 10) (C := RX11) (T := TX11) (N := 20) hx hb hts iX11 tyX11 tyX11_ok nmX11 hown hW rfl k 5 (hE5.2.1 k hk).1 (by omega) ((hE5.2.1 k hk).2.1.trans hkd) (by decide) q9 (fun _ h9 => h9) rfl hin rfl (tyX11_ok 5 (by decide)) rfl rfl (rp S4 k (va_up (gp S4 k) 5 (some ad4))) (gp S4 k) (va_up (gp S4 k) 5 (some ad4)) rfl (e_ps _ _ _) rfl rfl rfl (Nat.le_of_ble_eq_true rfl) rfl c_p0 dX11_init_43 (fun H locs hW => ?_)
  obtain ⟨S5, hS5⟩ : ∃ g, g = (rp S4 k (va_up (gp S4 k) 5 (some ad4))) := ⟨_, rfl⟩
  rw [← hS5] at hW
  have hF5_5 : Fr G5 S5 := by rw [hS5]; exact Fr.rp hF5_4 (by omega)
  have hI5 : gi S5 = gi S := by rw [hS5]; exact hI4
  have hJ5 : gj S5 = gj S := by rw [hS5]; exact hJ4
  have hO5 : ∀ j, j ≠ k → j ≠ n0 → gp S5 j = gp S j := fun j x y => by rw [hS5]; exact (up_n _ _ x).trans (hO4 j x y)
  have hL5_5 : ∀ L, LkS G S L → (∀ x ∈ L, x.1 ≠ k) → LkS G5 S5 (((((L ++ [(k, 0, n0)]) ++ [(k, 1, (n0 + 1))]) ++ [(k, 2, (n0 + 2))]) ++ [(k, 3, (n0 + 3))]) ++ [(k, 5, (n0 + 4))]) := by
    intro L a b
    rw [hS5]
    refine LkS.put (hL5_4 L a b) (fun x hx ⟨e1, e2⟩ => ?_) (by omega) (by omega) hQ4
    simp only [List.mem_append] at hx
    rcases hx with (((hx | hx) | hx) | hx) | hx
    · exact b x hx e1
    · rw [List.mem_singleton] at hx; rw [hx] at e2; exact absurd (show (0 : Nat) = 5 from e2) (by decide)
    · rw [List.mem_singleton] at hx; rw [hx] at e2; exact absurd (show (1 : Nat) = 5 from e2) (by decide)
    · rw [List.mem_singleton] at hx; rw [hx] at e2; exact absurd (show (2 : Nat) = 5 from e2) (by decide)
    · rw [List.mem_singleton] at hx; rw [hx] at e2; exact absurd (show (3 : Nat) = 5 from e2) (by decide)
  refine lv_aload_n hx hb dX11_init_46 rfl (lv_at hl 0 rfl) ?_
  refine lv_sipush (v := 400) hx hb dX11_init_47 (by decide) ?_
  refine r_newaF (atype := .int) (a0 := (400, .inl (fun _ => 0))) hx hb q5 rfl hW hA hF5_5 12 (hn_int hW) rfl (fun _ => rfl) (by decide) (show (400 : Int32).toNatClampNeg = 400 from by decide) (Nat.le_of_ble_eq_true rfl) (Nat.le_of_ble_eq_true rfl) (Nat.le_of_ble_eq_true rfl) dX11_init_50 (fun ad5 H hW => ?_)
  obtain ⟨G6, hG6⟩ : ∃ g, g = gAdd G5 ad5 12 400 := ⟨_, rfl⟩
  rw [← hG6] at hW
  have hX6 : Ext G5 G6 [(12, 400)] := by rw [hG6]; exact Ext.add
  have hE6 : Ext G G6 [(13, 560), (12, 320), (12, 8), (12, 8), (12, 40), (12, 400)] := Ext.tr hE5 hX6
  have hN6 : gN G6 = n0 + 6 := by have h9 := hE6.1; rw [hn0] at h9; exact h9
  have hQ5 : gA G6 (n0 + 5) = ad5 := by rw [hG6, show (n0 + 5) = gN G5 from by omega]; exact gAdd_As
  have hF6_5 : Fr G6 S5 := Fr.mono hF5_5 (by omega)
  have hL6_5 : ∀ L, LkS G S L → (∀ x ∈ L, x.1 ≠ k) → LkS G6 S5 (((((L ++ [(k, 0, n0)]) ++ [(k, 1, (n0 + 1))]) ++ [(k, 2, (n0 + 2))]) ++ [(k, 3, (n0 + 3))]) ++ [(k, 5, (n0 + 4))]) := fun L a b => (hL5_5 L a b).ext hX6
  refine r_putrF (ci := 10) (C := RX11) (T := TX11) (N := 20) hx hb hts iX11 tyX11 tyX11_ok nmX11 hown hW rfl k 6 (hE6.2.1 k hk).1 (by omega) ((hE6.2.1 k hk).2.1.trans hkd) (by decide) q10 (fun _ h9 => h9) rfl hin rfl (tyX11_ok 6 (by decide)) rfl rfl (rp S5 k (va_up (gp S5 k) 6 (some ad5))) (gp S5 k) (va_up (gp S5 k) 6 (some ad5)) rfl (e_ps _ _ _) rfl rfl rfl (Nat.le_of_ble_eq_true rfl) rfl c_p0 dX11_init_52 (fun H locs hW => ?_)
  obtain ⟨S6, hS6⟩ : ∃ g, g = (rp S5 k (va_up (gp S5 k) 6 (some ad5))) := ⟨_, rfl⟩
  rw [← hS6] at hW
  have hF6_6 : Fr G6 S6 := by rw [hS6]; exact Fr.rp hF6_5 (by omega)
  have hI6 : gi S6 = gi S := by rw [hS6]; exact hI5
  have hJ6 : gj S6 = gj S := by rw [hS6]; exact hJ5
  have hO6 : ∀ j, j ≠ k → j ≠ n0 → gp S6 j = gp S j := fun j x y => by rw [hS6]; exact (up_n _ _ x).trans (hO5 j x y)
  have hL6_6 : ∀ L, LkS G S L → (∀ x ∈ L, x.1 ≠ k) → LkS G6 S6 ((((((L ++ [(k, 0, n0)]) ++ [(k, 1, (n0 + 1))]) ++ [(k, 2, (n0 + 2))]) ++ [(k, 3, (n0 + 3))]) ++ [(k, 5, (n0 + 4))]) ++ [(k, 6, (n0 + 5))]) := by
    intro L a b
    rw [hS6]
    refine LkS.put (hL6_5 L a b) (fun x hx ⟨e1, e2⟩ => ?_) (by omega) (by omega) hQ5
    simp only [List.mem_append] at hx
    rcases hx with ((((hx | hx) | hx) | hx) | hx) | hx
    · exact b x hx e1
    · rw [List.mem_singleton] at hx; rw [hx] at e2; exact absurd (show (0 : Nat) = 6 from e2) (by decide)
    · rw [List.mem_singleton] at hx; rw [hx] at e2; exact absurd (show (1 : Nat) = 6 from e2) (by decide)
    · rw [List.mem_singleton] at hx; rw [hx] at e2; exact absurd (show (2 : Nat) = 6 from e2) (by decide)
    · rw [List.mem_singleton] at hx; rw [hx] at e2; exact absurd (show (3 : Nat) = 6 from e2) (by decide)
    · rw [List.mem_singleton] at hx; rw [hx] at e2; exact absurd (show (5 : Nat) = 6 from e2) (by decide)
  refine lv_aload_n hx hb dX11_init_55 rfl (lv_at hl 0 rfl) ?_
  refine lv_sipush (v := 1000) hx hb dX11_init_56 (by decide) ?_
  refine r_newaF (atype := .long) (a0 := (1000, .inr (.inl (fun _ => 0)))) hx hb q3 rfl hW hA hF6_6 13 (hn_long hW) rfl (fun _ => rfl) (by decide) (show (1000 : Int32).toNatClampNeg = 1000 from by decide) (Nat.le_of_ble_eq_true rfl) (Nat.le_of_ble_eq_true rfl) (Nat.le_of_ble_eq_true rfl) dX11_init_59 (fun ad6 H hW => ?_)
  obtain ⟨G7, hG7⟩ : ∃ g, g = gAdd G6 ad6 13 1000 := ⟨_, rfl⟩
  rw [← hG7] at hW
  have hX7 : Ext G6 G7 [(13, 1000)] := by rw [hG7]; exact Ext.add
  have hE7 : Ext G G7 [(13, 560), (12, 320), (12, 8), (12, 8), (12, 40), (12, 400), (13, 1000)] := Ext.tr hE6 hX7
  have hN7 : gN G7 = n0 + 7 := by have h9 := hE7.1; rw [hn0] at h9; exact h9
  have hQ6 : gA G7 (n0 + 6) = ad6 := by rw [hG7, show (n0 + 6) = gN G6 from by omega]; exact gAdd_As
  have hF7_6 : Fr G7 S6 := Fr.mono hF6_6 (by omega)
  have hL7_6 : ∀ L, LkS G S L → (∀ x ∈ L, x.1 ≠ k) → LkS G7 S6 ((((((L ++ [(k, 0, n0)]) ++ [(k, 1, (n0 + 1))]) ++ [(k, 2, (n0 + 2))]) ++ [(k, 3, (n0 + 3))]) ++ [(k, 5, (n0 + 4))]) ++ [(k, 6, (n0 + 5))]) := fun L a b => (hL6_6 L a b).ext hX7
  refine r_putrF (ci := 10) (C := RX11) (T := TX11) (N := 20) hx hb hts iX11 tyX11 tyX11_ok nmX11 hown hW rfl k 15 (hE7.2.1 k hk).1 (by omega) ((hE7.2.1 k hk).2.1.trans hkd) (by decide) q11 (fun _ h9 => h9) rfl hin rfl (tyX11_ok 15 (by decide)) rfl rfl (rp S6 k (va_up (gp S6 k) 15 (some ad6))) (gp S6 k) (va_up (gp S6 k) 15 (some ad6)) rfl (e_ps _ _ _) rfl rfl rfl (Nat.le_of_ble_eq_true rfl) rfl c_p0 dX11_init_61 (fun H locs hW => ?_)
  obtain ⟨S7, hS7⟩ : ∃ g, g = (rp S6 k (va_up (gp S6 k) 15 (some ad6))) := ⟨_, rfl⟩
  rw [← hS7] at hW
  have hF7_7 : Fr G7 S7 := by rw [hS7]; exact Fr.rp hF7_6 (by omega)
  have hI7 : gi S7 = gi S := by rw [hS7]; exact hI6
  have hJ7 : gj S7 = gj S := by rw [hS7]; exact hJ6
  have hO7 : ∀ j, j ≠ k → j ≠ n0 → gp S7 j = gp S j := fun j x y => by rw [hS7]; exact (up_n _ _ x).trans (hO6 j x y)
  have hL7_7 : ∀ L, LkS G S L → (∀ x ∈ L, x.1 ≠ k) → LkS G7 S7 (((((((L ++ [(k, 0, n0)]) ++ [(k, 1, (n0 + 1))]) ++ [(k, 2, (n0 + 2))]) ++ [(k, 3, (n0 + 3))]) ++ [(k, 5, (n0 + 4))]) ++ [(k, 6, (n0 + 5))]) ++ [(k, 15, (n0 + 6))]) := by
    intro L a b
    rw [hS7]
    refine LkS.put (hL7_6 L a b) (fun x hx ⟨e1, e2⟩ => ?_) (by omega) (by omega) hQ6
    simp only [List.mem_append] at hx
    rcases hx with (((((hx | hx) | hx) | hx) | hx) | hx) | hx
    · exact b x hx e1
    · rw [List.mem_singleton] at hx; rw [hx] at e2; exact absurd (show (0 : Nat) = 15 from e2) (by decide)
    · rw [List.mem_singleton] at hx; rw [hx] at e2; exact absurd (show (1 : Nat) = 15 from e2) (by decide)
    · rw [List.mem_singleton] at hx; rw [hx] at e2; exact absurd (show (2 : Nat) = 15 from e2) (by decide)
    · rw [List.mem_singleton] at hx; rw [hx] at e2; exact absurd (show (3 : Nat) = 15 from e2) (by decide)
    · rw [List.mem_singleton] at hx; rw [hx] at e2; exact absurd (show (5 : Nat) = 15 from e2) (by decide)
    · rw [List.mem_singleton] at hx; rw [hx] at e2; exact absurd (show (6 : Nat) = 15 from e2) (by decide)
  refine lv_aload_n hx hb dX11_init_64 rfl (lv_at hl 0 rfl) ?_
  refine lv_sipush (v := 1000) hx hb dX11_init_65 (by decide) ?_
  refine r_newaF (atype := .long) (a0 := (1000, .inr (.inl (fun _ => 0)))) hx hb q3 rfl hW hA hF7_7 13 (hn_long hW) rfl (fun _ => rfl) (by decide) (show (1000 : Int32).toNatClampNeg = 1000 from by decide) (Nat.le_of_ble_eq_true rfl) (Nat.le_of_ble_eq_true rfl) (Nat.le_of_ble_eq_true rfl) dX11_init_68 (fun ad7 H hW => ?_)
  obtain ⟨G8, hG8⟩ : ∃ g, g = gAdd G7 ad7 13 1000 := ⟨_, rfl⟩
  rw [← hG8] at hW
  have hX8 : Ext G7 G8 [(13, 1000)] := by rw [hG8]; exact Ext.add
  have hE8 : Ext G G8 [(13, 560), (12, 320), (12, 8), (12, 8), (12, 40), (12, 400), (13, 1000), (13, 1000)] := Ext.tr hE7 hX8
  have hN8 : gN G8 = n0 + 8 := by have h9 := hE8.1; rw [hn0] at h9; exact h9
  have hQ7 : gA G8 (n0 + 7) = ad7 := by rw [hG8, show (n0 + 7) = gN G7 from by omega]; exact gAdd_As
  have hF8_7 : Fr G8 S7 := Fr.mono hF7_7 (by omega)
  have hL8_7 : ∀ L, LkS G S L → (∀ x ∈ L, x.1 ≠ k) → LkS G8 S7 (((((((L ++ [(k, 0, n0)]) ++ [(k, 1, (n0 + 1))]) ++ [(k, 2, (n0 + 2))]) ++ [(k, 3, (n0 + 3))]) ++ [(k, 5, (n0 + 4))]) ++ [(k, 6, (n0 + 5))]) ++ [(k, 15, (n0 + 6))]) := fun L a b => (hL7_7 L a b).ext hX8
  refine r_putrF (ci := 10) (C := RX11) (T := TX11) (N := 20) hx hb hts iX11 tyX11 tyX11_ok nmX11 hown hW rfl k 16 (hE8.2.1 k hk).1 (by omega) ((hE8.2.1 k hk).2.1.trans hkd) (by decide) q12 (fun _ h9 => h9) rfl hin rfl (tyX11_ok 16 (by decide)) rfl rfl (rp S7 k (va_up (gp S7 k) 16 (some ad7))) (gp S7 k) (va_up (gp S7 k) 16 (some ad7)) rfl (e_ps _ _ _) rfl rfl rfl (Nat.le_of_ble_eq_true rfl) rfl c_p0 dX11_init_70 (fun H locs hW => ?_)
  obtain ⟨S8, hS8⟩ : ∃ g, g = (rp S7 k (va_up (gp S7 k) 16 (some ad7))) := ⟨_, rfl⟩
  rw [← hS8] at hW
  have hF8_8 : Fr G8 S8 := by rw [hS8]; exact Fr.rp hF8_7 (by omega)
  have hI8 : gi S8 = gi S := by rw [hS8]; exact hI7
  have hJ8 : gj S8 = gj S := by rw [hS8]; exact hJ7
  have hO8 : ∀ j, j ≠ k → j ≠ n0 → gp S8 j = gp S j := fun j x y => by rw [hS8]; exact (up_n _ _ x).trans (hO7 j x y)
  have hL8_8 : ∀ L, LkS G S L → (∀ x ∈ L, x.1 ≠ k) → LkS G8 S8 ((((((((L ++ [(k, 0, n0)]) ++ [(k, 1, (n0 + 1))]) ++ [(k, 2, (n0 + 2))]) ++ [(k, 3, (n0 + 3))]) ++ [(k, 5, (n0 + 4))]) ++ [(k, 6, (n0 + 5))]) ++ [(k, 15, (n0 + 6))]) ++ [(k, 16, (n0 + 7))]) := by
    intro L a b
    rw [hS8]
    refine LkS.put (hL8_7 L a b) (fun x hx ⟨e1, e2⟩ => ?_) (by omega) (by omega) hQ7
    simp only [List.mem_append] at hx
    rcases hx with ((((((hx | hx) | hx) | hx) | hx) | hx) | hx) | hx
    · exact b x hx e1
    · rw [List.mem_singleton] at hx; rw [hx] at e2; exact absurd (show (0 : Nat) = 16 from e2) (by decide)
    · rw [List.mem_singleton] at hx; rw [hx] at e2; exact absurd (show (1 : Nat) = 16 from e2) (by decide)
    · rw [List.mem_singleton] at hx; rw [hx] at e2; exact absurd (show (2 : Nat) = 16 from e2) (by decide)
    · rw [List.mem_singleton] at hx; rw [hx] at e2; exact absurd (show (3 : Nat) = 16 from e2) (by decide)
    · rw [List.mem_singleton] at hx; rw [hx] at e2; exact absurd (show (5 : Nat) = 16 from e2) (by decide)
    · rw [List.mem_singleton] at hx; rw [hx] at e2; exact absurd (show (6 : Nat) = 16 from e2) (by decide)
    · rw [List.mem_singleton] at hx; rw [hx] at e2; exact absurd (show (15 : Nat) = 16 from e2) (by decide)
  refine lv_aload_n hx hb dX11_init_73 rfl (lv_at hl 0 rfl) ?_
  refine lv_bipush (v := 16) hx hb dX11_init_74 (by decide) ?_
  refine r_newaF (atype := .int) (a0 := (16, .inl (fun _ => 0))) hx hb q5 rfl hW hA hF8_8 12 (hn_int hW) rfl (fun _ => rfl) (by decide) (show (16 : Int32).toNatClampNeg = 16 from by decide) (Nat.le_of_ble_eq_true rfl) (Nat.le_of_ble_eq_true rfl) (Nat.le_of_ble_eq_true rfl) dX11_init_76 (fun ad8 H hW => ?_)
  obtain ⟨G9, hG9⟩ : ∃ g, g = gAdd G8 ad8 12 16 := ⟨_, rfl⟩
  rw [← hG9] at hW
  have hX9 : Ext G8 G9 [(12, 16)] := by rw [hG9]; exact Ext.add
  have hE9 : Ext G G9 [(13, 560), (12, 320), (12, 8), (12, 8), (12, 40), (12, 400), (13, 1000), (13, 1000), (12, 16)] := Ext.tr hE8 hX9
  have hN9 : gN G9 = n0 + 9 := by have h9 := hE9.1; rw [hn0] at h9; exact h9
  have hQ8 : gA G9 (n0 + 8) = ad8 := by rw [hG9, show (n0 + 8) = gN G8 from by omega]; exact gAdd_As
  have hF9_8 : Fr G9 S8 := Fr.mono hF8_8 (by omega)
  have hL9_8 : ∀ L, LkS G S L → (∀ x ∈ L, x.1 ≠ k) → LkS G9 S8 ((((((((L ++ [(k, 0, n0)]) ++ [(k, 1, (n0 + 1))]) ++ [(k, 2, (n0 + 2))]) ++ [(k, 3, (n0 + 3))]) ++ [(k, 5, (n0 + 4))]) ++ [(k, 6, (n0 + 5))]) ++ [(k, 15, (n0 + 6))]) ++ [(k, 16, (n0 + 7))]) := fun L a b => (hL8_8 L a b).ext hX9
  refine r_putrF (ci := 10) (C := RX11) (T := TX11) (N := 20) hx hb hts iX11 tyX11 tyX11_ok nmX11 hown hW rfl k 18 (hE9.2.1 k hk).1 (by omega) ((hE9.2.1 k hk).2.1.trans hkd) (by decide) q13 (fun _ h9 => h9) rfl hin rfl (tyX11_ok 18 (by decide)) rfl rfl (rp S8 k (va_up (gp S8 k) 18 (some ad8))) (gp S8 k) (va_up (gp S8 k) 18 (some ad8)) rfl (e_ps _ _ _) rfl rfl rfl (Nat.le_of_ble_eq_true rfl) rfl c_p0 dX11_init_78 (fun H locs hW => ?_)
  obtain ⟨S9, hS9⟩ : ∃ g, g = (rp S8 k (va_up (gp S8 k) 18 (some ad8))) := ⟨_, rfl⟩
  rw [← hS9] at hW
  have hF9_9 : Fr G9 S9 := by rw [hS9]; exact Fr.rp hF9_8 (by omega)
  have hI9 : gi S9 = gi S := by rw [hS9]; exact hI8
  have hJ9 : gj S9 = gj S := by rw [hS9]; exact hJ8
  have hO9 : ∀ j, j ≠ k → j ≠ n0 → gp S9 j = gp S j := fun j x y => by rw [hS9]; exact (up_n _ _ x).trans (hO8 j x y)
  have hL9_9 : ∀ L, LkS G S L → (∀ x ∈ L, x.1 ≠ k) → LkS G9 S9 (((((((((L ++ [(k, 0, n0)]) ++ [(k, 1, (n0 + 1))]) ++ [(k, 2, (n0 + 2))]) ++ [(k, 3, (n0 + 3))]) ++ [(k, 5, (n0 + 4))]) ++ [(k, 6, (n0 + 5))]) ++ [(k, 15, (n0 + 6))]) ++ [(k, 16, (n0 + 7))]) ++ [(k, 18, (n0 + 8))]) := by
    intro L a b
    rw [hS9]
    refine LkS.put (hL9_8 L a b) (fun x hx ⟨e1, e2⟩ => ?_) (by omega) (by omega) hQ8
    simp only [List.mem_append] at hx
    rcases hx with (((((((hx | hx) | hx) | hx) | hx) | hx) | hx) | hx) | hx
    · exact b x hx e1
    · rw [List.mem_singleton] at hx; rw [hx] at e2; exact absurd (show (0 : Nat) = 18 from e2) (by decide)
    · rw [List.mem_singleton] at hx; rw [hx] at e2; exact absurd (show (1 : Nat) = 18 from e2) (by decide)
    · rw [List.mem_singleton] at hx; rw [hx] at e2; exact absurd (show (2 : Nat) = 18 from e2) (by decide)
    · rw [List.mem_singleton] at hx; rw [hx] at e2; exact absurd (show (3 : Nat) = 18 from e2) (by decide)
    · rw [List.mem_singleton] at hx; rw [hx] at e2; exact absurd (show (5 : Nat) = 18 from e2) (by decide)
    · rw [List.mem_singleton] at hx; rw [hx] at e2; exact absurd (show (6 : Nat) = 18 from e2) (by decide)
    · rw [List.mem_singleton] at hx; rw [hx] at e2; exact absurd (show (15 : Nat) = 18 from e2) (by decide)
    · rw [List.mem_singleton] at hx; rw [hx] at e2; exact absurd (show (16 : Nat) = 18 from e2) (by decide)
  refine lv_iconst (v := 0) hx hb dX11_init_81 (by decide) ?_
  refine lv_istore_n (lv' := [(1, .int 0), (0, .ref (gA G k))]) hx hb dX11_init_82 rfl hl (by decide) rfl (fun ls hl => ?_)
  refine lv_iload_n hx hb dX11_init_83 rfl (lv_at hl 0 rfl) ?_
  refine lv_bipush (v := 8) hx hb dX11_init_84 (by decide) ?_
  refine lv_icmp_ge (tgt := 102) hx hb dX11_init_86 (by decide) (fun c86 => ?_) (fun c86 => ?_)
  · exact absurd c86 (by decide)
  · skip
    refine lv_aload_n hx hb dX11_init_89 rfl (lv_at hl 1 rfl) ?_
    refine r_getr (ci := 10) (C := RX11) (T := TX11) (N := 20) hx hb hts iX11 hown hW rfl k 3 (hE9.2.1 k hk).1 (by omega) ((hE9.2.1 k hk).2.1.trans hkd) (by decide) q8 (fun _ h9 => h9) ((hL9_9 [] LkS.nil (fun _ h => absurd h List.not_mem_nil) (k, 3, n0 + 3) (by simp)).1) rfl rfl dX11_init_90 ?_
    refine lv_iload_n hx hb dX11_init_93 rfl (lv_at hl 0 rfl) ?_
    refine lv_iconst (v := (-1)) hx hb dX11_init_94 (by decide) ?_
    refine r_iast hx hb hW (n0 + 3) rfl (by omega) (by have h9 := (hE9.2.2 3 (by decide)).1; rw [hn0] at h9; exact h9) (by rw [show gZ G9 (n0 + 3) = 8 from by have h9 := (hE9.2.2 3 (by decide)).2; rw [hn0] at h9; exact h9]; exact t_in (by decide) (by decide)) (ri S9 (n0 + 3) (va_up (gi S9 (n0 + 3)) (0 : Int32).toNatClampNeg (-1))) (gi S9 (n0 + 3)) rfl (e_is _ _ _) rfl rfl c_i0 dX11_init_95 (fun H locs hW => ?_)
    refine lv_iinc (v := 1) (lv' := [(1, .int 1), (0, .ref (gA G k))]) hx hb dX11_init_96 hl (k := 0) rfl (by decide) (by decide) rfl (fun ls hl => ?_)
    refine lv_goto (tgt := 83) hx hb dX11_init_99 (by decide) ?_
    refine lv_iload_n hx hb dX11_init_83 rfl (lv_at hl 0 rfl) ?_
    refine lv_bipush (v := 8) hx hb dX11_init_84 (by decide) ?_
    refine lv_icmp_ge (tgt := 102) hx hb dX11_init_86 (by decide) (fun c86 => ?_) (fun c86 => ?_)
    · exact absurd c86 (by decide)
    · skip
      refine lv_aload_n hx hb dX11_init_89 rfl (lv_at hl 1 rfl) ?_
      refine r_getr (ci := 10) (C := RX11) (T := TX11) (N := 20) hx hb hts iX11 hown hW rfl k 3 (hE9.2.1 k hk).1 (by omega) ((hE9.2.1 k hk).2.1.trans hkd) (by decide) q8 (fun _ h9 => h9) ((hL9_9 [] LkS.nil (fun _ h => absurd h List.not_mem_nil) (k, 3, n0 + 3) (by simp)).1) rfl rfl dX11_init_90 ?_
      refine lv_iload_n hx hb dX11_init_93 rfl (lv_at hl 0 rfl) ?_
      refine lv_iconst (v := (-1)) hx hb dX11_init_94 (by decide) ?_
      refine r_iast hx hb hW (n0 + 3) rfl (by omega) (by have h9 := (hE9.2.2 3 (by decide)).1; rw [hn0] at h9; exact h9) (by rw [show gZ G9 (n0 + 3) = 8 from by have h9 := (hE9.2.2 3 (by decide)).2; rw [hn0] at h9; exact h9]; exact t_in (by decide) (by decide)) (ri S9 (n0 + 3) (va_up (va_up (gi S9 (n0 + 3)) (0 : Int32).toNatClampNeg (-1)) (1 : Int32).toNatClampNeg (-1))) (va_up (gi S9 (n0 + 3)) (0 : Int32).toNatClampNeg (-1)) (e_is _ _ _) (e_is _ _ _) rfl rfl c_i dX11_init_95 (fun H locs hW => ?_)
      refine lv_iinc (v := 2) (lv' := [(1, .int 2), (0, .ref (gA G k))]) hx hb dX11_init_96 hl (k := 0) rfl (by decide) (by decide) rfl (fun ls hl => ?_)
      refine lv_goto (tgt := 83) hx hb dX11_init_99 (by decide) ?_
      refine lv_iload_n hx hb dX11_init_83 rfl (lv_at hl 0 rfl) ?_
      refine lv_bipush (v := 8) hx hb dX11_init_84 (by decide) ?_
      refine lv_icmp_ge (tgt := 102) hx hb dX11_init_86 (by decide) (fun c86 => ?_) (fun c86 => ?_)
      · exact absurd c86 (by decide)
      · skip
        refine lv_aload_n hx hb dX11_init_89 rfl (lv_at hl 1 rfl) ?_
        refine r_getr (ci := 10) (C := RX11) (T := TX11) (N := 20) hx hb hts iX11 hown hW rfl k 3 (hE9.2.1 k hk).1 (by omega) ((hE9.2.1 k hk).2.1.trans hkd) (by decide) q8 (fun _ h9 => h9) ((hL9_9 [] LkS.nil (fun _ h => absurd h List.not_mem_nil) (k, 3, n0 + 3) (by simp)).1) rfl rfl dX11_init_90 ?_
        refine lv_iload_n hx hb dX11_init_93 rfl (lv_at hl 0 rfl) ?_
        refine lv_iconst (v := (-1)) hx hb dX11_init_94 (by decide) ?_
        refine r_iast hx hb hW (n0 + 3) rfl (by omega) (by have h9 := (hE9.2.2 3 (by decide)).1; rw [hn0] at h9; exact h9) (by rw [show gZ G9 (n0 + 3) = 8 from by have h9 := (hE9.2.2 3 (by decide)).2; rw [hn0] at h9; exact h9]; exact t_in (by decide) (by decide)) (ri S9 (n0 + 3) (va_up (va_up (va_up (gi S9 (n0 + 3)) (0 : Int32).toNatClampNeg (-1)) (1 : Int32).toNatClampNeg (-1)) (2 : Int32).toNatClampNeg (-1))) (va_up (va_up (gi S9 (n0 + 3)) (0 : Int32).toNatClampNeg (-1)) (1 : Int32).toNatClampNeg (-1)) (e_is _ _ _) (e_is _ _ _) rfl rfl c_i dX11_init_95 (fun H locs hW => ?_)
        refine lv_iinc (v := 3) (lv' := [(1, .int 3), (0, .ref (gA G k))]) hx hb dX11_init_96 hl (k := 0) rfl (by decide) (by decide) rfl (fun ls hl => ?_)
        refine lv_goto (tgt := 83) hx hb dX11_init_99 (by decide) ?_
        refine lv_iload_n hx hb dX11_init_83 rfl (lv_at hl 0 rfl) ?_
        refine lv_bipush (v := 8) hx hb dX11_init_84 (by decide) ?_
        refine lv_icmp_ge (tgt := 102) hx hb dX11_init_86 (by decide) (fun c86 => ?_) (fun c86 => ?_)
        · exact absurd c86 (by decide)
        · skip
          refine lv_aload_n hx hb dX11_init_89 rfl (lv_at hl 1 rfl) ?_
          refine r_getr (ci := 10) (C := RX11) (T := TX11) (N := 20) hx hb hts iX11 hown hW rfl k 3 (hE9.2.1 k hk).1 (by omega) ((hE9.2.1 k hk).2.1.trans hkd) (by decide) q8 (fun _ h9 => h9) ((hL9_9 [] LkS.nil (fun _ h => absurd h List.not_mem_nil) (k, 3, n0 + 3) (by simp)).1) rfl rfl dX11_init_90 ?_
          refine lv_iload_n hx hb dX11_init_93 rfl (lv_at hl 0 rfl) ?_
          refine lv_iconst (v := (-1)) hx hb dX11_init_94 (by decide) ?_
          refine r_iast hx hb hW (n0 + 3) rfl (by omega) (by have h9 := (hE9.2.2 3 (by decide)).1; rw [hn0] at h9; exact h9) (by rw [show gZ G9 (n0 + 3) = 8 from by have h9 := (hE9.2.2 3 (by decide)).2; rw [hn0] at h9; exact h9]; exact t_in (by decide) (by decide)) (ri S9 (n0 + 3) (va_up (va_up (va_up (va_up (gi S9 (n0 + 3)) (0 : Int32).toNatClampNeg (-1)) (1 : Int32).toNatClampNeg (-1)) (2 : Int32).toNatClampNeg (-1)) (3 : Int32).toNatClampNeg (-1))) (va_up (va_up (va_up (gi S9 (n0 + 3)) (0 : Int32).toNatClampNeg (-1)) (1 : Int32).toNatClampNeg (-1)) (2 : Int32).toNatClampNeg (-1)) (e_is _ _ _) (e_is _ _ _) rfl rfl c_i dX11_init_95 (fun H locs hW => ?_)
          refine lv_iinc (v := 4) (lv' := [(1, .int 4), (0, .ref (gA G k))]) hx hb dX11_init_96 hl (k := 0) rfl (by decide) (by decide) rfl (fun ls hl => ?_)
          refine lv_goto (tgt := 83) hx hb dX11_init_99 (by decide) ?_
          refine lv_iload_n hx hb dX11_init_83 rfl (lv_at hl 0 rfl) ?_
          refine lv_bipush (v := 8) hx hb dX11_init_84 (by decide) ?_
          refine lv_icmp_ge (tgt := 102) hx hb dX11_init_86 (by decide) (fun c86 => ?_) (fun c86 => ?_)
          · exact absurd c86 (by decide)
          · skip
            refine lv_aload_n hx hb dX11_init_89 rfl (lv_at hl 1 rfl) ?_
            refine r_getr (ci := 10) (C := RX11) (T := TX11) (N := 20) hx hb hts iX11 hown hW rfl k 3 (hE9.2.1 k hk).1 (by omega) ((hE9.2.1 k hk).2.1.trans hkd) (by decide) q8 (fun _ h9 => h9) ((hL9_9 [] LkS.nil (fun _ h => absurd h List.not_mem_nil) (k, 3, n0 + 3) (by simp)).1) rfl rfl dX11_init_90 ?_
            refine lv_iload_n hx hb dX11_init_93 rfl (lv_at hl 0 rfl) ?_
            refine lv_iconst (v := (-1)) hx hb dX11_init_94 (by decide) ?_
            refine r_iast hx hb hW (n0 + 3) rfl (by omega) (by have h9 := (hE9.2.2 3 (by decide)).1; rw [hn0] at h9; exact h9) (by rw [show gZ G9 (n0 + 3) = 8 from by have h9 := (hE9.2.2 3 (by decide)).2; rw [hn0] at h9; exact h9]; exact t_in (by decide) (by decide)) (ri S9 (n0 + 3) (va_up (va_up (va_up (va_up (va_up (gi S9 (n0 + 3)) (0 : Int32).toNatClampNeg (-1)) (1 : Int32).toNatClampNeg (-1)) (2 : Int32).toNatClampNeg (-1)) (3 : Int32).toNatClampNeg (-1)) (4 : Int32).toNatClampNeg (-1))) (va_up (va_up (va_up (va_up (gi S9 (n0 + 3)) (0 : Int32).toNatClampNeg (-1)) (1 : Int32).toNatClampNeg (-1)) (2 : Int32).toNatClampNeg (-1)) (3 : Int32).toNatClampNeg (-1)) (e_is _ _ _) (e_is _ _ _) rfl rfl c_i dX11_init_95 (fun H locs hW => ?_)
            refine lv_iinc (v := 5) (lv' := [(1, .int 5), (0, .ref (gA G k))]) hx hb dX11_init_96 hl (k := 0) rfl (by decide) (by decide) rfl (fun ls hl => ?_)
            refine lv_goto (tgt := 83) hx hb dX11_init_99 (by decide) ?_
            refine lv_iload_n hx hb dX11_init_83 rfl (lv_at hl 0 rfl) ?_
            refine lv_bipush (v := 8) hx hb dX11_init_84 (by decide) ?_
            refine lv_icmp_ge (tgt := 102) hx hb dX11_init_86 (by decide) (fun c86 => ?_) (fun c86 => ?_)
            · exact absurd c86 (by decide)
            · skip
              refine lv_aload_n hx hb dX11_init_89 rfl (lv_at hl 1 rfl) ?_
              refine r_getr (ci := 10) (C := RX11) (T := TX11) (N := 20) hx hb hts iX11 hown hW rfl k 3 (hE9.2.1 k hk).1 (by omega) ((hE9.2.1 k hk).2.1.trans hkd) (by decide) q8 (fun _ h9 => h9) ((hL9_9 [] LkS.nil (fun _ h => absurd h List.not_mem_nil) (k, 3, n0 + 3) (by simp)).1) rfl rfl dX11_init_90 ?_
              refine lv_iload_n hx hb dX11_init_93 rfl (lv_at hl 0 rfl) ?_
              refine lv_iconst (v := (-1)) hx hb dX11_init_94 (by decide) ?_
              refine r_iast hx hb hW (n0 + 3) rfl (by omega) (by have h9 := (hE9.2.2 3 (by decide)).1; rw [hn0] at h9; exact h9) (by rw [show gZ G9 (n0 + 3) = 8 from by have h9 := (hE9.2.2 3 (by decide)).2; rw [hn0] at h9; exact h9]; exact t_in (by decide) (by decide)) (ri S9 (n0 + 3) (va_up (va_up (va_up (va_up (va_up (va_up (gi S9 (n0 + 3)) (0 : Int32).toNatClampNeg (-1)) (1 : Int32).toNatClampNeg (-1)) (2 : Int32).toNatClampNeg (-1)) (3 : Int32).toNatClampNeg (-1)) (4 : Int32).toNatClampNeg (-1)) (5 : Int32).toNatClampNeg (-1))) (va_up (va_up (va_up (va_up (va_up (gi S9 (n0 + 3)) (0 : Int32).toNatClampNeg (-1)) (1 : Int32).toNatClampNeg (-1)) (2 : Int32).toNatClampNeg (-1)) (3 : Int32).toNatClampNeg (-1)) (4 : Int32).toNatClampNeg (-1)) (e_is _ _ _) (e_is _ _ _) rfl rfl c_i dX11_init_95 (fun H locs hW => ?_)
              refine lv_iinc (v := 6) (lv' := [(1, .int 6), (0, .ref (gA G k))]) hx hb dX11_init_96 hl (k := 0) rfl (by decide) (by decide) rfl (fun ls hl => ?_)
              refine lv_goto (tgt := 83) hx hb dX11_init_99 (by decide) ?_
              refine lv_iload_n hx hb dX11_init_83 rfl (lv_at hl 0 rfl) ?_
              refine lv_bipush (v := 8) hx hb dX11_init_84 (by decide) ?_
              refine lv_icmp_ge (tgt := 102) hx hb dX11_init_86 (by decide) (fun c86 => ?_) (fun c86 => ?_)
              · exact absurd c86 (by decide)
              · skip
                refine lv_aload_n hx hb dX11_init_89 rfl (lv_at hl 1 rfl) ?_
                refine r_getr (ci := 10) (C := RX11) (T := TX11) (N := 20) hx hb hts iX11 hown hW rfl k 3 (hE9.2.1 k hk).1 (by omega) ((hE9.2.1 k hk).2.1.trans hkd) (by decide) q8 (fun _ h9 => h9) ((hL9_9 [] LkS.nil (fun _ h => absurd h List.not_mem_nil) (k, 3, n0 + 3) (by simp)).1) rfl rfl dX11_init_90 ?_
                refine lv_iload_n hx hb dX11_init_93 rfl (lv_at hl 0 rfl) ?_
                refine lv_iconst (v := (-1)) hx hb dX11_init_94 (by decide) ?_
                refine r_iast hx hb hW (n0 + 3) rfl (by omega) (by have h9 := (hE9.2.2 3 (by decide)).1; rw [hn0] at h9; exact h9) (by rw [show gZ G9 (n0 + 3) = 8 from by have h9 := (hE9.2.2 3 (by decide)).2; rw [hn0] at h9; exact h9]; exact t_in (by decide) (by decide)) (ri S9 (n0 + 3) (va_up (va_up (va_up (va_up (va_up (va_up (va_up (gi S9 (n0 + 3)) (0 : Int32).toNatClampNeg (-1)) (1 : Int32).toNatClampNeg (-1)) (2 : Int32).toNatClampNeg (-1)) (3 : Int32).toNatClampNeg (-1)) (4 : Int32).toNatClampNeg (-1)) (5 : Int32).toNatClampNeg (-1)) (6 : Int32).toNatClampNeg (-1))) (va_up (va_up (va_up (va_up (va_up (va_up (gi S9 (n0 + 3)) (0 : Int32).toNatClampNeg (-1)) (1 : Int32).toNatClampNeg (-1)) (2 : Int32).toNatClampNeg (-1)) (3 : Int32).toNatClampNeg (-1)) (4 : Int32).toNatClampNeg (-1)) (5 : Int32).toNatClampNeg (-1)) (e_is _ _ _) (e_is _ _ _) rfl rfl c_i dX11_init_95 (fun H locs hW => ?_)
                refine lv_iinc (v := 7) (lv' := [(1, .int 7), (0, .ref (gA G k))]) hx hb dX11_init_96 hl (k := 0) rfl (by decide) (by decide) rfl (fun ls hl => ?_)
                refine lv_goto (tgt := 83) hx hb dX11_init_99 (by decide) ?_
                refine lv_iload_n hx hb dX11_init_83 rfl (lv_at hl 0 rfl) ?_
                refine lv_bipush (v := 8) hx hb dX11_init_84 (by decide) ?_
                refine lv_icmp_ge (tgt := 102) hx hb dX11_init_86 (by decide) (fun c86 => ?_) (fun c86 => ?_)
                · exact absurd c86 (by decide)
                · skip
                  refine lv_aload_n hx hb dX11_init_89 rfl (lv_at hl 1 rfl) ?_
                  refine r_getr (ci := 10) (C := RX11) (T := TX11) (N := 20) hx hb hts iX11 hown hW rfl k 3 (hE9.2.1 k hk).1 (by omega) ((hE9.2.1 k hk).2.1.trans hkd) (by decide) q8 (fun _ h9 => h9) ((hL9_9 [] LkS.nil (fun _ h => absurd h List.not_mem_nil) (k, 3, n0 + 3) (by simp)).1) rfl rfl dX11_init_90 ?_
                  refine lv_iload_n hx hb dX11_init_93 rfl (lv_at hl 0 rfl) ?_
                  refine lv_iconst (v := (-1)) hx hb dX11_init_94 (by decide) ?_
                  refine r_iast hx hb hW (n0 + 3) rfl (by omega) (by have h9 := (hE9.2.2 3 (by decide)).1; rw [hn0] at h9; exact h9) (by rw [show gZ G9 (n0 + 3) = 8 from by have h9 := (hE9.2.2 3 (by decide)).2; rw [hn0] at h9; exact h9]; exact t_in (by decide) (by decide)) (ri S9 (n0 + 3) (va_up (va_up (va_up (va_up (va_up (va_up (va_up (va_up (gi S9 (n0 + 3)) (0 : Int32).toNatClampNeg (-1)) (1 : Int32).toNatClampNeg (-1)) (2 : Int32).toNatClampNeg (-1)) (3 : Int32).toNatClampNeg (-1)) (4 : Int32).toNatClampNeg (-1)) (5 : Int32).toNatClampNeg (-1)) (6 : Int32).toNatClampNeg (-1)) (7 : Int32).toNatClampNeg (-1))) (va_up (va_up (va_up (va_up (va_up (va_up (va_up (gi S9 (n0 + 3)) (0 : Int32).toNatClampNeg (-1)) (1 : Int32).toNatClampNeg (-1)) (2 : Int32).toNatClampNeg (-1)) (3 : Int32).toNatClampNeg (-1)) (4 : Int32).toNatClampNeg (-1)) (5 : Int32).toNatClampNeg (-1)) (6 : Int32).toNatClampNeg (-1)) (e_is _ _ _) (e_is _ _ _) rfl rfl c_i dX11_init_95 (fun H locs hW => ?_)
                  refine lv_iinc (v := 8) (lv' := [(1, .int 8), (0, .ref (gA G k))]) hx hb dX11_init_96 hl (k := 0) rfl (by decide) (by decide) rfl (fun ls hl => ?_)
                  refine lv_goto (tgt := 83) hx hb dX11_init_99 (by decide) ?_
                  refine lv_iload_n hx hb dX11_init_83 rfl (lv_at hl 0 rfl) ?_
                  refine lv_bipush (v := 8) hx hb dX11_init_84 (by decide) ?_
                  refine lv_icmp_ge (tgt := 102) hx hb dX11_init_86 (by decide) (fun c86 => ?_) (fun c86 => ?_)
                  · skip
                    refine W.widen (k := 9) (n := 3352) (by omega) (by omega) ?_
                    refine r_vreta hx hb hr hlocks hW ?_ dX11_init_102
                    refine ⟨hE9, Fr.ri hF9_9 (by show n0 + 3 < gN G9; omega), fun L a b => LkS.p (hL9_9 L a b) rfl, fun j hj => (up_n _ _ hj).trans (congrFun hI9 j), fun r hr => (congrFun (e_is _ _ _) r).trans ?_, hJ9, hO9⟩
                    rcases (show r = 0 ∨ r = 1 ∨ r = 2 ∨ r = 3 ∨ r = 4 ∨ r = 5 ∨ r = 6 ∨ r = 7 by omega) with rfl | rfl | rfl | rfl | rfl | rfl | rfl | rfl <;> rfl
                  · exact absurd (by decide) c86
