/-! the leaves' constructors -/
def rmX5_init : Jvm.Room := { frames := 1, cells := 7, slots := 92, locals := 12 }
set_option maxHeartbeats 4000000 in
set_option maxRecDepth 100000 in
theorem t_X5_init (l : Launch) (D : Dc) (G : Gg) (S : Sg) (z : Nat) (k n0 : Nat) (hk : k < gN G) (hkd : gK G k = 4) (hn0 : gN G = n0) (hF : Fr G S) : MVa l yX5_init wsX5_init rmX5_init D G S z [.ref (gA G k)] 7 92 (fun U => Ext G U.1 [(12, 6), (12, 6), (12, 16), (12, 16), (12, 16), (12, 16), (14, 16)] ∧ Fr U.1 U.2 ∧ (∀ L, LkS G S L → (∀ x ∈ L, x.1 ≠ k) → LkS U.1 U.2 (((((((L ++ [(k, 9, n0)]) ++ [(k, 10, (n0 + 1))]) ++ [(k, 11, (n0 + 2))]) ++ [(k, 12, (n0 + 3))]) ++ [(k, 13, (n0 + 4))]) ++ [(k, 14, (n0 + 5))]) ++ [(k, 15, (n0 + 6))])) ∧ gi U.2 = gi S ∧ gj U.2 = gj S ∧ ∀ j, j ≠ k → j ≠ n0 → gp U.2 j = gp S j) := by
  refine Met.ofW (cc := cX5_init) (maxL := 1) (ret := none) (by decide +kernel) rfl ?_
  intro pP eE s mM args bl mT cD s₁ bD hml hv
  obtain ⟨rfl, hv⟩ := hv
  have hz := hv.1
  subst hz
  have hx := bD.exec
  have hb := bD.bytes
  have hr := bD.returns
  have hts := atoms_spec (ws := wsX5_init) bD.pre
  have hown : s.vm.findClass RX5 = some mM.cls := findClass_of_methodNamed bD.named
  have hlocks := bD.notSynchronized
  have hin : mT.name = "<init>" := (name_of_methodNamed bD.named bD.method).1
  have hW := Wd.start hv
  have hA : ∀ q, s.heap.size ≤ q → AW G s.heap.size q := fun q h => Or.inr h
  have hl := lv_entry ([.ref (gA G k)]) (n := 1) (Nat.le_of_ble_eq_true rfl)
  rw [lg_entry_eq]
  generalize (lg_sl ([.ref (gA G k)]) ++ List.replicate (1 - (lg_sl ([.ref (gA G k)])).length) Slot.unset).toArray = ls at hl ⊢
  have hl : lv_has ls 1 [(0, .ref (gA G k))] := hl
  have q0 := hts (.methodLink RX5 3 objectInit) (List.mem_of_getElem? (i := 1) rfl)
  have q1 := hts (.instanceMethod objectInit) (List.mem_of_getElem? (i := 2) rfl)
  have q2 := hts (.code objectInit ⟨#[0xb1]⟩ 1 none) (List.mem_of_getElem? (i := 3) rfl)
  have q3 := hts (.arrayClass .int) (List.mem_of_getElem? (i := 4) rfl)
  have q4 := hts (.fieldLink RX5 9 "WoodForTwo$Pass" "chanceHeads" "[I") (List.mem_of_getElem? (i := 5) rfl)
  have q5 := hts (.fieldLink RX5 15 "WoodForTwo$Pass" "chanceOdds" "[I") (List.mem_of_getElem? (i := 6) rfl)
  have q6 := hts (.fieldLink RX5 18 "WoodForTwo$Pass" "slept" "[I") (List.mem_of_getElem? (i := 7) rfl)
  have q7 := hts (.fieldLink RX5 21 "WoodForTwo$Pass" "froze" "[I") (List.mem_of_getElem? (i := 8) rfl)
  have q8 := hts (.fieldLink RX5 24 "WoodForTwo$Pass" "left" "[I") (List.mem_of_getElem? (i := 9) rfl)
  have q9 := hts (.fieldLink RX5 27 "WoodForTwo$Pass" "lacked" "[I") (List.mem_of_getElem? (i := 10) rfl)
  have q10 := hts (.classLink RX5 30 RX4) (List.mem_of_getElem? (i := 11) rfl)
  have q11 := hts (.fieldLink RX5 32 "WoodForTwo$Pass" "told" "[LWoodForTwo$Party;") (List.mem_of_getElem? (i := 12) rfl)
  have iX5 : ∀ w ∈ wsX50, w ∈ wsX5_init := fun _ h => List.mem_cons_of_mem _ (List.mem_append_right _ (h))
  refine lv_aload_n hx hb dX5_init_0 rfl (lv_at hl 0 rfl) ?_
  refine W.objInit hx hb hown q0 q1 q2 rfl (by rw [hml]; exact hl.1) rfl dX5_init_1 (Nat.le_of_ble_eq_true rfl) (Nat.le_of_ble_eq_true rfl) ?_
  refine W.eq (g2 := F0 mM 4 ls []) rfl ?_
  have hE0 : Ext G G [] := Ext.rf
  have hN0 : gN G = n0 + 0 := hn0
  have hF0_0 : Fr G S := hF
  have hI0 : gi S = gi S := rfl
  have hJ0 : gj S = gj S := rfl
  have hO0 : ∀ j, j ≠ k → j ≠ n0 → gp S j = gp S j := fun _ _ _ => rfl
  have hL0 : ∀ L, LkS G S L → (∀ x ∈ L, x.1 ≠ k) → LkS G S L := fun L a _ => a
  refine lv_aload_n hx hb dX5_init_4 rfl (lv_at hl 0 rfl) ?_
  refine lv_bipush (v := 6) hx hb dX5_init_5 (by decide) ?_
  refine r_newaF (atype := .int) (a0 := (6, .inl (fun _ => 0))) hx hb q3 rfl hW hA hF0_0 12 (hn_int hW) rfl (fun _ => rfl) (by decide) (show (6 : Int32).toNatClampNeg = 6 from by decide) (Nat.le_of_ble_eq_true rfl) (Nat.le_of_ble_eq_true rfl) (Nat.le_of_ble_eq_true rfl) dX5_init_7 (fun ad0 H hW => ?_)
  obtain ⟨G1, hG1⟩ : ∃ g, g = gAdd G ad0 12 6 := ⟨_, rfl⟩
  rw [← hG1] at hW
  have hX1 : Ext G G1 [(12, 6)] := by rw [hG1]; exact Ext.add
  have hE1 : Ext G G1 [(12, 6)] := Ext.tr hE0 hX1
  have hN1 : gN G1 = n0 + 1 := by have h9 := hE1.1; rw [hn0] at h9; exact h9
  have hQ0 : gA G1 n0 = ad0 := by rw [hG1, show n0 = gN G from by omega]; exact gAdd_As
  have hF1_0 : Fr G1 S := Fr.mono hF0_0 (by omega)
  have hL1_0 : ∀ L, LkS G S L → (∀ x ∈ L, x.1 ≠ k) → LkS G1 S L := fun L a b => (hL0 L a b).ext hX1
  refine r_putrF (ci := 4) (C := RX5) (T := TX5) (N := 16) hx hb hts iX5 tyX5 tyX5_ok nmX5 hown hW rfl k 9 (hE1.2.1 k hk).1 (by omega) ((hE1.2.1 k hk).2.1.trans hkd) (by decide) q4 (fun _ h9 => h9) rfl hin rfl (tyX5_ok 9 (by decide)) rfl rfl (rp S k (va_up (gp S k) 9 (some ad0))) (gp S k) (va_up (gp S k) 9 (some ad0)) rfl (e_ps _ _ _) rfl rfl rfl (Nat.le_of_ble_eq_true rfl) rfl c_p0 dX5_init_9 (fun H locs hW => ?_)
  obtain ⟨S1, hS1⟩ : ∃ g, g = (rp S k (va_up (gp S k) 9 (some ad0))) := ⟨_, rfl⟩
  rw [← hS1] at hW
  have hF1_1 : Fr G1 S1 := by rw [hS1]; exact Fr.rp hF1_0 (by omega)
  have hI1 : gi S1 = gi S := by rw [hS1]; exact hI0
  have hJ1 : gj S1 = gj S := by rw [hS1]; exact hJ0
  have hO1 : ∀ j, j ≠ k → j ≠ n0 → gp S1 j = gp S j := fun j x y => by rw [hS1]; exact (up_n _ _ x).trans (hO0 j x y)
  have hL1_1 : ∀ L, LkS G S L → (∀ x ∈ L, x.1 ≠ k) → LkS G1 S1 (L ++ [(k, 9, n0)]) := by
    intro L a b
    rw [hS1]
    refine LkS.put (hL1_0 L a b) (fun x hx ⟨e1, e2⟩ => ?_) (by omega) (by omega) hQ0
    exact b x hx e1
  refine lv_aload_n hx hb dX5_init_12 rfl (lv_at hl 0 rfl) ?_
  refine lv_bipush (v := 6) hx hb dX5_init_13 (by decide) ?_
  refine r_newaF (atype := .int) (a0 := (6, .inl (fun _ => 0))) hx hb q3 rfl hW hA hF1_1 12 (hn_int hW) rfl (fun _ => rfl) (by decide) (show (6 : Int32).toNatClampNeg = 6 from by decide) (Nat.le_of_ble_eq_true rfl) (Nat.le_of_ble_eq_true rfl) (Nat.le_of_ble_eq_true rfl) dX5_init_15 (fun ad1 H hW => ?_)
  obtain ⟨G2, hG2⟩ : ∃ g, g = gAdd G1 ad1 12 6 := ⟨_, rfl⟩
  rw [← hG2] at hW
  have hX2 : Ext G1 G2 [(12, 6)] := by rw [hG2]; exact Ext.add
  have hE2 : Ext G G2 [(12, 6), (12, 6)] := Ext.tr hE1 hX2
  have hN2 : gN G2 = n0 + 2 := by have h9 := hE2.1; rw [hn0] at h9; exact h9
  have hQ1 : gA G2 (n0 + 1) = ad1 := by rw [hG2, show (n0 + 1) = gN G1 from by omega]; exact gAdd_As
  have hF2_1 : Fr G2 S1 := Fr.mono hF1_1 (by omega)
  have hL2_1 : ∀ L, LkS G S L → (∀ x ∈ L, x.1 ≠ k) → LkS G2 S1 (L ++ [(k, 9, n0)]) := fun L a b => (hL1_1 L a b).ext hX2
  refine r_putrF (ci := 4) (C := RX5) (T := TX5) (N := 16) hx hb hts iX5 tyX5 tyX5_ok nmX5 hown hW rfl k 10 (hE2.2.1 k hk).1 (by omega) ((hE2.2.1 k hk).2.1.trans hkd) (by decide) q5 (fun _ h9 => h9) rfl hin rfl (tyX5_ok 10 (by decide)) rfl rfl (rp S1 k (va_up (gp S1 k) 10 (some ad1))) (gp S1 k) (va_up (gp S1 k) 10 (some ad1)) rfl (e_ps _ _ _) rfl rfl rfl (Nat.le_of_ble_eq_true rfl) rfl c_p0 dX5_init_17 (fun H locs hW => ?_)
  obtain ⟨S2, hS2⟩ : ∃ g, g = (rp S1 k (va_up (gp S1 k) 10 (some ad1))) := ⟨_, rfl⟩
  rw [← hS2] at hW
  have hF2_2 : Fr G2 S2 := by rw [hS2]; exact Fr.rp hF2_1 (by omega)
  have hI2 : gi S2 = gi S := by rw [hS2]; exact hI1
  have hJ2 : gj S2 = gj S := by rw [hS2]; exact hJ1
  have hO2 : ∀ j, j ≠ k → j ≠ n0 → gp S2 j = gp S j := fun j x y => by rw [hS2]; exact (up_n _ _ x).trans (hO1 j x y)
  have hL2_2 : ∀ L, LkS G S L → (∀ x ∈ L, x.1 ≠ k) → LkS G2 S2 ((L ++ [(k, 9, n0)]) ++ [(k, 10, (n0 + 1))]) := by
    intro L a b
    rw [hS2]
    refine LkS.put (hL2_1 L a b) (fun x hx ⟨e1, e2⟩ => ?_) (by omega) (by omega) hQ1
    simp only [List.mem_append] at hx
    rcases hx with hx | hx
    · exact b x hx e1
    · rw [List.mem_singleton] at hx; rw [hx] at e2; exact absurd (show (9 : Nat) = 10 from e2) (by decide)
  refine lv_aload_n hx hb dX5_init_20 rfl (lv_at hl 0 rfl) ?_
  refine lv_bipush (v := 16) hx hb dX5_init_21 (by decide) ?_
  refine r_newaF (atype := .int) (a0 := (16, .inl (fun _ => 0))) hx hb q3 rfl hW hA hF2_2 12 (hn_int hW) rfl (fun _ => rfl) (by decide) (show (16 : Int32).toNatClampNeg = 16 from by decide) (Nat.le_of_ble_eq_true rfl) (Nat.le_of_ble_eq_true rfl) (Nat.le_of_ble_eq_true rfl) dX5_init_23 (fun ad2 H hW => ?_)
  obtain ⟨G3, hG3⟩ : ∃ g, g = gAdd G2 ad2 12 16 := ⟨_, rfl⟩
  rw [← hG3] at hW
  have hX3 : Ext G2 G3 [(12, 16)] := by rw [hG3]; exact Ext.add
  have hE3 : Ext G G3 [(12, 6), (12, 6), (12, 16)] := Ext.tr hE2 hX3
  have hN3 : gN G3 = n0 + 3 := by have h9 := hE3.1; rw [hn0] at h9; exact h9
  have hQ2 : gA G3 (n0 + 2) = ad2 := by rw [hG3, show (n0 + 2) = gN G2 from by omega]; exact gAdd_As
  have hF3_2 : Fr G3 S2 := Fr.mono hF2_2 (by omega)
  have hL3_2 : ∀ L, LkS G S L → (∀ x ∈ L, x.1 ≠ k) → LkS G3 S2 ((L ++ [(k, 9, n0)]) ++ [(k, 10, (n0 + 1))]) := fun L a b => (hL2_2 L a b).ext hX3
  refine r_putrF (ci := 4) (C := RX5) (T := TX5) (N := 16) hx hb hts iX5 tyX5 tyX5_ok nmX5 hown hW rfl k 11 (hE3.2.1 k hk).1 (by omega) ((hE3.2.1 k hk).2.1.trans hkd) (by decide) q6 (fun _ h9 => h9) rfl hin rfl (tyX5_ok 11 (by decide)) rfl rfl (rp S2 k (va_up (gp S2 k) 11 (some ad2))) (gp S2 k) (va_up (gp S2 k) 11 (some ad2)) rfl (e_ps _ _ _) rfl rfl rfl (Nat.le_of_ble_eq_true rfl) rfl c_p0 dX5_init_25 (fun H locs hW => ?_)
  obtain ⟨S3, hS3⟩ : ∃ g, g = (rp S2 k (va_up (gp S2 k) 11 (some ad2))) := ⟨_, rfl⟩
  rw [← hS3] at hW
  have hF3_3 : Fr G3 S3 := by rw [hS3]; exact Fr.rp hF3_2 (by omega)
  have hI3 : gi S3 = gi S := by rw [hS3]; exact hI2
  have hJ3 : gj S3 = gj S := by rw [hS3]; exact hJ2
  have hO3 : ∀ j, j ≠ k → j ≠ n0 → gp S3 j = gp S j := fun j x y => by rw [hS3]; exact (up_n _ _ x).trans (hO2 j x y)
  have hL3_3 : ∀ L, LkS G S L → (∀ x ∈ L, x.1 ≠ k) → LkS G3 S3 (((L ++ [(k, 9, n0)]) ++ [(k, 10, (n0 + 1))]) ++ [(k, 11, (n0 + 2))]) := by
    intro L a b
    rw [hS3]
    refine LkS.put (hL3_2 L a b) (fun x hx ⟨e1, e2⟩ => ?_) (by omega) (by omega) hQ2
    simp only [List.mem_append] at hx
    rcases hx with (hx | hx) | hx
    · exact b x hx e1
    · rw [List.mem_singleton] at hx; rw [hx] at e2; exact absurd (show (9 : Nat) = 11 from e2) (by decide)
    · rw [List.mem_singleton] at hx; rw [hx] at e2; exact absurd (show (10 : Nat) = 11 from e2) (by decide)
  refine lv_aload_n hx hb dX5_init_28 rfl (lv_at hl 0 rfl) ?_
  refine lv_bipush (v := 16) hx hb dX5_init_29 (by decide) ?_
  refine r_newaF (atype := .int) (a0 := (16, .inl (fun _ => 0))) hx hb q3 rfl hW hA hF3_3 12 (hn_int hW) rfl (fun _ => rfl) (by decide) (show (16 : Int32).toNatClampNeg = 16 from by decide) (Nat.le_of_ble_eq_true rfl) (Nat.le_of_ble_eq_true rfl) (Nat.le_of_ble_eq_true rfl) dX5_init_31 (fun ad3 H hW => ?_)
  obtain ⟨G4, hG4⟩ : ∃ g, g = gAdd G3 ad3 12 16 := ⟨_, rfl⟩
  rw [← hG4] at hW
  have hX4 : Ext G3 G4 [(12, 16)] := by rw [hG4]; exact Ext.add
  have hE4 : Ext G G4 [(12, 6), (12, 6), (12, 16), (12, 16)] := Ext.tr hE3 hX4
  have hN4 : gN G4 = n0 + 4 := by have h9 := hE4.1; rw [hn0] at h9; exact h9
  have hQ3 : gA G4 (n0 + 3) = ad3 := by rw [hG4, show (n0 + 3) = gN G3 from by omega]; exact gAdd_As
  have hF4_3 : Fr G4 S3 := Fr.mono hF3_3 (by omega)
  have hL4_3 : ∀ L, LkS G S L → (∀ x ∈ L, x.1 ≠ k) → LkS G4 S3 (((L ++ [(k, 9, n0)]) ++ [(k, 10, (n0 + 1))]) ++ [(k, 11, (n0 + 2))]) := fun L a b => (hL3_3 L a b).ext hX4
  refine r_putrF (ci := 4) (C := RX5) (T := TX5) (N := 16) hx hb hts iX5 tyX5 tyX5_ok nmX5 hown hW rfl k 12 (hE4.2.1 k hk).1 (by omega) ((hE4.2.1 k hk).2.1.trans hkd) (by decide) q7 (fun _ h9 => h9) rfl hin rfl (tyX5_ok 12 (by decide)) rfl rfl (rp S3 k (va_up (gp S3 k) 12 (some ad3))) (gp S3 k) (va_up (gp S3 k) 12 (some ad3)) rfl (e_ps _ _ _) rfl rfl rfl (Nat.le_of_ble_eq_true rfl) rfl c_p0 dX5_init_33 (fun H locs hW => ?_)
  obtain ⟨S4, hS4⟩ : ∃ g, g = (rp S3 k (va_up (gp S3 k) 12 (some ad3))) := ⟨_, rfl⟩
  rw [← hS4] at hW
  have hF4_4 : Fr G4 S4 := by rw [hS4]; exact Fr.rp hF4_3 (by omega)
  have hI4 : gi S4 = gi S := by rw [hS4]; exact hI3
  have hJ4 : gj S4 = gj S := by rw [hS4]; exact hJ3
  have hO4 : ∀ j, j ≠ k → j ≠ n0 → gp S4 j = gp S j := fun j x y => by rw [hS4]; exact (up_n _ _ x).trans (hO3 j x y)
  have hL4_4 : ∀ L, LkS G S L → (∀ x ∈ L, x.1 ≠ k) → LkS G4 S4 ((((L ++ [(k, 9, n0)]) ++ [(k, 10, (n0 + 1))]) ++ [(k, 11, (n0 + 2))]) ++ [(k, 12, (n0 + 3))]) := by
    intro L a b
    rw [hS4]
    refine LkS.put (hL4_3 L a b) (fun x hx ⟨e1, e2⟩ => ?_) (by omega) (by omega) hQ3
    simp only [List.mem_append] at hx
    rcases hx with ((hx | hx) | hx) | hx
    · exact b x hx e1
    · rw [List.mem_singleton] at hx; rw [hx] at e2; exact absurd (show (9 : Nat) = 12 from e2) (by decide)
    · rw [List.mem_singleton] at hx; rw [hx] at e2; exact absurd (show (10 : Nat) = 12 from e2) (by decide)
    · rw [List.mem_singleton] at hx; rw [hx] at e2; exact absurd (show (11 : Nat) = 12 from e2) (by decide)
  refine lv_aload_n hx hb dX5_init_36 rfl (lv_at hl 0 rfl) ?_
  refine lv_bipush (v := 16) hx hb dX5_init_37 (by decide) ?_
  refine r_newaF (atype := .int) (a0 := (16, .inl (fun _ => 0))) hx hb q3 rfl hW hA hF4_4 12 (hn_int hW) rfl (fun _ => rfl) (by decide) (show (16 : Int32).toNatClampNeg = 16 from by decide) (Nat.le_of_ble_eq_true rfl) (Nat.le_of_ble_eq_true rfl) (Nat.le_of_ble_eq_true rfl) dX5_init_39 (fun ad4 H hW => ?_)
  obtain ⟨G5, hG5⟩ : ∃ g, g = gAdd G4 ad4 12 16 := ⟨_, rfl⟩
  rw [← hG5] at hW
  have hX5 : Ext G4 G5 [(12, 16)] := by rw [hG5]; exact Ext.add
  have hE5 : Ext G G5 [(12, 6), (12, 6), (12, 16), (12, 16), (12, 16)] := Ext.tr hE4 hX5
  have hN5 : gN G5 = n0 + 5 := by have h9 := hE5.1; rw [hn0] at h9; exact h9
  have hQ4 : gA G5 (n0 + 4) = ad4 := by rw [hG5, show (n0 + 4) = gN G4 from by omega]; exact gAdd_As
  have hF5_4 : Fr G5 S4 := Fr.mono hF4_4 (by omega)
  have hL5_4 : ∀ L, LkS G S L → (∀ x ∈ L, x.1 ≠ k) → LkS G5 S4 ((((L ++ [(k, 9, n0)]) ++ [(k, 10, (n0 + 1))]) ++ [(k, 11, (n0 + 2))]) ++ [(k, 12, (n0 + 3))]) := fun L a b => (hL4_4 L a b).ext hX5
  refine r_putrF (ci := 4) (C := RX5) (T := TX5) (N := 16) hx hb hts iX5 tyX5 tyX5_ok nmX5 hown hW rfl k 13 (hE5.2.1 k hk).1 (by omega) ((hE5.2.1 k hk).2.1.trans hkd) (by decide) q8 (fun _ h9 => h9) rfl hin rfl (tyX5_ok 13 (by decide)) rfl rfl (rp S4 k (va_up (gp S4 k) 13 (some ad4))) (gp S4 k) (va_up (gp S4 k) 13 (some ad4)) rfl (e_ps _ _ _) rfl rfl rfl (Nat.le_of_ble_eq_true rfl) rfl c_p0 dX5_init_41 (fun H locs hW => ?_)
  obtain ⟨S5, hS5⟩ : ∃ g, g = (rp S4 k (va_up (gp S4 k) 13 (some ad4))) := ⟨_, rfl⟩
  rw [← hS5] at hW
  have hF5_5 : Fr G5 S5 := by rw [hS5]; exact Fr.rp hF5_4 (by omega)
  have hI5 : gi S5 = gi S := by rw [hS5]; exact hI4
  have hJ5 : gj S5 = gj S := by rw [hS5]; exact hJ4
  have hO5 : ∀ j, j ≠ k → j ≠ n0 → gp S5 j = gp S j := fun j x y => by rw [hS5]; exact (up_n _ _ x).trans (hO4 j x y)
  have hL5_5 : ∀ L, LkS G S L → (∀ x ∈ L, x.1 ≠ k) → LkS G5 S5 (((((L ++ [(k, 9, n0)]) ++ [(k, 10, (n0 + 1))]) ++ [(k, 11, (n0 + 2))]) ++ [(k, 12, (n0 + 3))]) ++ [(k, 13, (n0 + 4))]) := by
    intro L a b
    rw [hS5]
    refine LkS.put (hL5_4 L a b) (fun x hx ⟨e1, e2⟩ => ?_) (by omega) (by omega) hQ4
    simp only [List.mem_append] at hx
    rcases hx with (((hx | hx) | hx) | hx) | hx
    · exact b x hx e1
    · rw [List.mem_singleton] at hx; rw [hx] at e2; exact absurd (show (9 : Nat) = 13 from e2) (by decide)
    · rw [List.mem_singleton] at hx; rw [hx] at e2; exact absurd (show (10 : Nat) = 13 from e2) (by decide)
    · rw [List.mem_singleton] at hx; rw [hx] at e2; exact absurd (show (11 : Nat) = 13 from e2) (by decide)
    · rw [List.mem_singleton] at hx; rw [hx] at e2; exact absurd (show (12 : Nat) = 13 from e2) (by decide)
  refine lv_aload_n hx hb dX5_init_44 rfl (lv_at hl 0 rfl) ?_
  refine lv_bipush (v := 16) hx hb dX5_init_45 (by decide) ?_
  refine r_newaF (atype := .int) (a0 := (16, .inl (fun _ => 0))) hx hb q3 rfl hW hA hF5_5 12 (hn_int hW) rfl (fun _ => rfl) (by decide) (show (16 : Int32).toNatClampNeg = 16 from by decide) (Nat.le_of_ble_eq_true rfl) (Nat.le_of_ble_eq_true rfl) (Nat.le_of_ble_eq_true rfl) dX5_init_47 (fun ad5 H hW => ?_)
  obtain ⟨G6, hG6⟩ : ∃ g, g = gAdd G5 ad5 12 16 := ⟨_, rfl⟩
  rw [← hG6] at hW
  have hX6 : Ext G5 G6 [(12, 16)] := by rw [hG6]; exact Ext.add
  have hE6 : Ext G G6 [(12, 6), (12, 6), (12, 16), (12, 16), (12, 16), (12, 16)] := Ext.tr hE5 hX6
  have hN6 : gN G6 = n0 + 6 := by have h9 := hE6.1; rw [hn0] at h9; exact h9
  have hQ5 : gA G6 (n0 + 5) = ad5 := by rw [hG6, show (n0 + 5) = gN G5 from by omega]; exact gAdd_As
  have hF6_5 : Fr G6 S5 := Fr.mono hF5_5 (by omega)
  have hL6_5 : ∀ L, LkS G S L → (∀ x ∈ L, x.1 ≠ k) → LkS G6 S5 (((((L ++ [(k, 9, n0)]) ++ [(k, 10, (n0 + 1))]) ++ [(k, 11, (n0 + 2))]) ++ [(k, 12, (n0 + 3))]) ++ [(k, 13, (n0 + 4))]) := fun L a b => (hL5_5 L a b).ext hX6
  refine r_putrF (ci := 4) (C := RX5) (T := TX5) (N := 16) hx hb hts iX5 tyX5 tyX5_ok nmX5 hown hW rfl k 14 (hE6.2.1 k hk).1 (by omega) ((hE6.2.1 k hk).2.1.trans hkd) (by decide) q9 (fun _ h9 => h9) rfl hin rfl (tyX5_ok 14 (by decide)) rfl rfl (rp S5 k (va_up (gp S5 k) 14 (some ad5))) (gp S5 k) (va_up (gp S5 k) 14 (some ad5)) rfl (e_ps _ _ _) rfl rfl rfl (Nat.le_of_ble_eq_true rfl) rfl c_p0 dX5_init_49 (fun H locs hW => ?_)
  obtain ⟨S6, hS6⟩ : ∃ g, g = (rp S5 k (va_up (gp S5 k) 14 (some ad5))) := ⟨_, rfl⟩
  rw [← hS6] at hW
  have hF6_6 : Fr G6 S6 := by rw [hS6]; exact Fr.rp hF6_5 (by omega)
  have hI6 : gi S6 = gi S := by rw [hS6]; exact hI5
  have hJ6 : gj S6 = gj S := by rw [hS6]; exact hJ5
  have hO6 : ∀ j, j ≠ k → j ≠ n0 → gp S6 j = gp S j := fun j x y => by rw [hS6]; exact (up_n _ _ x).trans (hO5 j x y)
  have hL6_6 : ∀ L, LkS G S L → (∀ x ∈ L, x.1 ≠ k) → LkS G6 S6 ((((((L ++ [(k, 9, n0)]) ++ [(k, 10, (n0 + 1))]) ++ [(k, 11, (n0 + 2))]) ++ [(k, 12, (n0 + 3))]) ++ [(k, 13, (n0 + 4))]) ++ [(k, 14, (n0 + 5))]) := by
    intro L a b
    rw [hS6]
    refine LkS.put (hL6_5 L a b) (fun x hx ⟨e1, e2⟩ => ?_) (by omega) (by omega) hQ5
    simp only [List.mem_append] at hx
    rcases hx with ((((hx | hx) | hx) | hx) | hx) | hx
    · exact b x hx e1
    · rw [List.mem_singleton] at hx; rw [hx] at e2; exact absurd (show (9 : Nat) = 14 from e2) (by decide)
    · rw [List.mem_singleton] at hx; rw [hx] at e2; exact absurd (show (10 : Nat) = 14 from e2) (by decide)
    · rw [List.mem_singleton] at hx; rw [hx] at e2; exact absurd (show (11 : Nat) = 14 from e2) (by decide)
    · rw [List.mem_singleton] at hx; rw [hx] at e2; exact absurd (show (12 : Nat) = 14 from e2) (by decide)
    · rw [List.mem_singleton] at hx; rw [hx] at e2; exact absurd (show (13 : Nat) = 14 from e2) (by decide)
  refine lv_aload_n hx hb dX5_init_52 rfl (lv_at hl 0 rfl) ?_
  refine lv_bipush (v := 16) hx hb dX5_init_53 (by decide) ?_
  refine r_newqF (C := "WoodForTwo$Party") hx hb hown q10 hW.2.2.2.2.2.2.2.2.2.2.2.2.2.2.1 hW hA hF6_6 14 (hn_party hW) rfl (by decide) (show (16 : Int32).toNatClampNeg = 16 from by decide) (Nat.le_of_ble_eq_true rfl) (Nat.le_of_ble_eq_true rfl) (Nat.le_of_ble_eq_true rfl) dX5_init_55 (fun ad6 H hW => ?_)
  obtain ⟨G7, hG7⟩ : ∃ g, g = gAdd G6 ad6 14 16 := ⟨_, rfl⟩
  rw [← hG7] at hW
  have hX7 : Ext G6 G7 [(14, 16)] := by rw [hG7]; exact Ext.add
  have hE7 : Ext G G7 [(12, 6), (12, 6), (12, 16), (12, 16), (12, 16), (12, 16), (14, 16)] := Ext.tr hE6 hX7
  have hN7 : gN G7 = n0 + 7 := by have h9 := hE7.1; rw [hn0] at h9; exact h9
  have hQ6 : gA G7 (n0 + 6) = ad6 := by rw [hG7, show (n0 + 6) = gN G6 from by omega]; exact gAdd_As
  have hF7_6 : Fr G7 S6 := Fr.mono hF6_6 (by omega)
  have hL7_6 : ∀ L, LkS G S L → (∀ x ∈ L, x.1 ≠ k) → LkS G7 S6 ((((((L ++ [(k, 9, n0)]) ++ [(k, 10, (n0 + 1))]) ++ [(k, 11, (n0 + 2))]) ++ [(k, 12, (n0 + 3))]) ++ [(k, 13, (n0 + 4))]) ++ [(k, 14, (n0 + 5))]) := fun L a b => (hL6_6 L a b).ext hX7
  refine r_putrF (ci := 4) (C := RX5) (T := TX5) (N := 16) hx hb hts iX5 tyX5 tyX5_ok nmX5 hown hW rfl k 15 (hE7.2.1 k hk).1 (by omega) ((hE7.2.1 k hk).2.1.trans hkd) (by decide) q11 (fun _ h9 => h9) rfl hin rfl (tyX5_ok 15 (by decide)) rfl rfl (rp S6 k (va_up (gp S6 k) 15 (some ad6))) (gp S6 k) (va_up (gp S6 k) 15 (some ad6)) rfl (e_ps _ _ _) rfl rfl rfl (Nat.le_of_ble_eq_true rfl) rfl c_p0 dX5_init_58 (fun H locs hW => ?_)
  obtain ⟨S7, hS7⟩ : ∃ g, g = (rp S6 k (va_up (gp S6 k) 15 (some ad6))) := ⟨_, rfl⟩
  rw [← hS7] at hW
  have hF7_7 : Fr G7 S7 := by rw [hS7]; exact Fr.rp hF7_6 (by omega)
  have hI7 : gi S7 = gi S := by rw [hS7]; exact hI6
  have hJ7 : gj S7 = gj S := by rw [hS7]; exact hJ6
  have hO7 : ∀ j, j ≠ k → j ≠ n0 → gp S7 j = gp S j := fun j x y => by rw [hS7]; exact (up_n _ _ x).trans (hO6 j x y)
  have hL7_7 : ∀ L, LkS G S L → (∀ x ∈ L, x.1 ≠ k) → LkS G7 S7 (((((((L ++ [(k, 9, n0)]) ++ [(k, 10, (n0 + 1))]) ++ [(k, 11, (n0 + 2))]) ++ [(k, 12, (n0 + 3))]) ++ [(k, 13, (n0 + 4))]) ++ [(k, 14, (n0 + 5))]) ++ [(k, 15, (n0 + 6))]) := by
    intro L a b
    rw [hS7]
    refine LkS.put (hL7_6 L a b) (fun x hx ⟨e1, e2⟩ => ?_) (by omega) (by omega) hQ6
    simp only [List.mem_append] at hx
    rcases hx with (((((hx | hx) | hx) | hx) | hx) | hx) | hx
    · exact b x hx e1
    · rw [List.mem_singleton] at hx; rw [hx] at e2; exact absurd (show (9 : Nat) = 15 from e2) (by decide)
    · rw [List.mem_singleton] at hx; rw [hx] at e2; exact absurd (show (10 : Nat) = 15 from e2) (by decide)
    · rw [List.mem_singleton] at hx; rw [hx] at e2; exact absurd (show (11 : Nat) = 15 from e2) (by decide)
    · rw [List.mem_singleton] at hx; rw [hx] at e2; exact absurd (show (12 : Nat) = 15 from e2) (by decide)
    · rw [List.mem_singleton] at hx; rw [hx] at e2; exact absurd (show (13 : Nat) = 15 from e2) (by decide)
    · rw [List.mem_singleton] at hx; rw [hx] at e2; exact absurd (show (14 : Nat) = 15 from e2) (by decide)
  refine W.widen (k := 7) (n := 92) (by omega) (by omega) ?_
  refine r_vreta hx hb hr hlocks hW ?_ dX5_init_61
  exact ⟨hE7, hF7_7, hL7_7, hI7, hJ7, hO7⟩

def rmX6_init : Jvm.Room := { frames := 1, cells := 1, slots := 400, locals := 12 }
set_option maxHeartbeats 4000000 in
set_option maxRecDepth 100000 in
theorem t_X6_init (l : Launch) (D : Dc) (G : Gg) (S : Sg) (z : Nat) (k n0 : Nat) (hk : k < gN G) (hkd : gK G k = 5) (hn0 : gN G = n0) (hF : Fr G S) : MVa l yX6_init wsX6_init rmX6_init D G S z [.ref (gA G k)] 1 400 (fun U => Ext G U.1 [(11, 400)] ∧ Fr U.1 U.2 ∧ (∀ L, LkS G S L → (∀ x ∈ L, x.1 ≠ k) → LkS U.1 U.2 (L ++ [(k, 0, n0)])) ∧ gi U.2 = gi S ∧ gj U.2 = gj S ∧ ∀ j, j ≠ k → j ≠ n0 → gp U.2 j = gp S j) := by
  refine Met.ofW (cc := cX6_init) (maxL := 1) (ret := none) (by decide +kernel) rfl ?_
  intro pP eE s mM args bl mT cD s₁ bD hml hv
  obtain ⟨rfl, hv⟩ := hv
  have hz := hv.1
  subst hz
  have hx := bD.exec
  have hb := bD.bytes
  have hr := bD.returns
  have hts := atoms_spec (ws := wsX6_init) bD.pre
  have hown : s.vm.findClass RX6 = some mM.cls := findClass_of_methodNamed bD.named
  have hlocks := bD.notSynchronized
  have hin : mT.name = "<init>" := (name_of_methodNamed bD.named bD.method).1
  have hW := Wd.start hv
  have hA : ∀ q, s.heap.size ≤ q → AW G s.heap.size q := fun q h => Or.inr h
  have hl := lv_entry ([.ref (gA G k)]) (n := 1) (Nat.le_of_ble_eq_true rfl)
  rw [lg_entry_eq]
  generalize (lg_sl ([.ref (gA G k)]) ++ List.replicate (1 - (lg_sl ([.ref (gA G k)])).length) Slot.unset).toArray = ls at hl ⊢
  have hl : lv_has ls 1 [(0, .ref (gA G k))] := hl
  have q0 := hts (.methodLink RX6 3 objectInit) (List.mem_of_getElem? (i := 1) rfl)
  have q1 := hts (.instanceMethod objectInit) (List.mem_of_getElem? (i := 2) rfl)
  have q2 := hts (.code objectInit ⟨#[0xb1]⟩ 1 none) (List.mem_of_getElem? (i := 3) rfl)
  have q3 := hts (.arrayClass .byte) (List.mem_of_getElem? (i := 4) rfl)
  have q4 := hts (.fieldLink RX6 9 "WoodForTwo$Reader" "tape" "[B") (List.mem_of_getElem? (i := 5) rfl)
  have iX6 : ∀ w ∈ wsX60, w ∈ wsX6_init := fun _ h => List.mem_cons_of_mem _ (List.mem_append_right _ (h))
  refine lv_aload_n hx hb dX6_init_0 rfl (lv_at hl 0 rfl) ?_
  refine W.objInit hx hb hown q0 q1 q2 rfl (by rw [hml]; exact hl.1) rfl dX6_init_1 (Nat.le_of_ble_eq_true rfl) (Nat.le_of_ble_eq_true rfl) ?_
  refine W.eq (g2 := F0 mM 4 ls []) rfl ?_
  have hE0 : Ext G G [] := Ext.rf
  have hN0 : gN G = n0 + 0 := hn0
  have hF0_0 : Fr G S := hF
  have hI0 : gi S = gi S := rfl
  have hJ0 : gj S = gj S := rfl
  have hO0 : ∀ j, j ≠ k → j ≠ n0 → gp S j = gp S j := fun _ _ _ => rfl
  have hL0 : ∀ L, LkS G S L → (∀ x ∈ L, x.1 ≠ k) → LkS G S L := fun L a _ => a
  refine lv_aload_n hx hb dX6_init_4 rfl (lv_at hl 0 rfl) ?_
  refine lv_sipush (v := 400) hx hb dX6_init_5 (by decide) ?_
  refine r_newaF (atype := .byte) (a0 := (400, .inl (fun _ => 0))) hx hb q3 rfl hW hA hF0_0 11 (hn_byte hW) rfl (fun _ => rfl) (by decide) (show (400 : Int32).toNatClampNeg = 400 from by decide) (Nat.le_of_ble_eq_true rfl) (Nat.le_of_ble_eq_true rfl) (Nat.le_of_ble_eq_true rfl) dX6_init_8 (fun ad0 H hW => ?_)
  obtain ⟨G1, hG1⟩ : ∃ g, g = gAdd G ad0 11 400 := ⟨_, rfl⟩
  rw [← hG1] at hW
  have hX1 : Ext G G1 [(11, 400)] := by rw [hG1]; exact Ext.add
  have hE1 : Ext G G1 [(11, 400)] := Ext.tr hE0 hX1
  have hN1 : gN G1 = n0 + 1 := by have h9 := hE1.1; rw [hn0] at h9; exact h9
  have hQ0 : gA G1 n0 = ad0 := by rw [hG1, show n0 = gN G from by omega]; exact gAdd_As
  have hF1_0 : Fr G1 S := Fr.mono hF0_0 (by omega)
  have hL1_0 : ∀ L, LkS G S L → (∀ x ∈ L, x.1 ≠ k) → LkS G1 S L := fun L a b => (hL0 L a b).ext hX1
  refine r_putrF (ci := 5) (C := RX6) (T := TX6) (N := 8) hx hb hts iX6 tyX6 tyX6_ok nmX6 hown hW rfl k 0 (hE1.2.1 k hk).1 (by omega) ((hE1.2.1 k hk).2.1.trans hkd) (by decide) q4 (fun _ h9 => h9) rfl hin rfl (tyX6_ok 0 (by decide)) rfl rfl (rp S k (va_up (gp S k) 0 (some ad0))) (gp S k) (va_up (gp S k) 0 (some ad0)) rfl (e_ps _ _ _) rfl rfl rfl (Nat.le_of_ble_eq_true rfl) rfl c_p0 dX6_init_10 (fun H locs hW => ?_)
  obtain ⟨S1, hS1⟩ : ∃ g, g = (rp S k (va_up (gp S k) 0 (some ad0))) := ⟨_, rfl⟩
  rw [← hS1] at hW
  have hF1_1 : Fr G1 S1 := by rw [hS1]; exact Fr.rp hF1_0 (by omega)
  have hI1 : gi S1 = gi S := by rw [hS1]; exact hI0
  have hJ1 : gj S1 = gj S := by rw [hS1]; exact hJ0
  have hO1 : ∀ j, j ≠ k → j ≠ n0 → gp S1 j = gp S j := fun j x y => by rw [hS1]; exact (up_n _ _ x).trans (hO0 j x y)
  have hL1_1 : ∀ L, LkS G S L → (∀ x ∈ L, x.1 ≠ k) → LkS G1 S1 (L ++ [(k, 0, n0)]) := by
    intro L a b
    rw [hS1]
    refine LkS.put (hL1_0 L a b) (fun x hx ⟨e1, e2⟩ => ?_) (by omega) (by omega) hQ0
    exact b x hx e1
  refine W.widen (k := 1) (n := 400) (by omega) (by omega) ?_
  refine r_vreta hx hb hr hlocks hW ?_ dX6_init_13
  exact ⟨hE1, hF1_1, hL1_1, hI1, hJ1, hO1⟩

def rmX8_init : Jvm.Room := { frames := 1, cells := 1, slots := 16, locals := 12 }
set_option maxHeartbeats 4000000 in
set_option maxRecDepth 100000 in
theorem t_X8_init (l : Launch) (D : Dc) (G : Gg) (S : Sg) (z : Nat) (k n0 : Nat) (hk : k < gN G) (hkd : gK G k = 7) (hn0 : gN G = n0) (hF : Fr G S) : MVa l yX8_init wsX8_init rmX8_init D G S z [.ref (gA G k)] 1 16 (fun U => Ext G U.1 [(12, 16)] ∧ Fr U.1 U.2 ∧ (∀ L, LkS G S L → (∀ x ∈ L, x.1 ≠ k) → LkS U.1 U.2 (L ++ [(k, 0, n0)])) ∧ gi U.2 = gi S ∧ gj U.2 = gj S ∧ ∀ j, j ≠ k → j ≠ n0 → gp U.2 j = gp S j) := by
  refine Met.ofW (cc := cX8_init) (maxL := 1) (ret := none) (by decide +kernel) rfl ?_
  intro pP eE s mM args bl mT cD s₁ bD hml hv
  obtain ⟨rfl, hv⟩ := hv
  have hz := hv.1
  subst hz
  have hx := bD.exec
  have hb := bD.bytes
  have hr := bD.returns
  have hts := atoms_spec (ws := wsX8_init) bD.pre
  have hown : s.vm.findClass RX8 = some mM.cls := findClass_of_methodNamed bD.named
  have hlocks := bD.notSynchronized
  have hin : mT.name = "<init>" := (name_of_methodNamed bD.named bD.method).1
  have hW := Wd.start hv
  have hA : ∀ q, s.heap.size ≤ q → AW G s.heap.size q := fun q h => Or.inr h
  have hl := lv_entry ([.ref (gA G k)]) (n := 1) (Nat.le_of_ble_eq_true rfl)
  rw [lg_entry_eq]
  generalize (lg_sl ([.ref (gA G k)]) ++ List.replicate (1 - (lg_sl ([.ref (gA G k)])).length) Slot.unset).toArray = ls at hl ⊢
  have hl : lv_has ls 1 [(0, .ref (gA G k))] := hl
  have q0 := hts (.methodLink RX8 3 objectInit) (List.mem_of_getElem? (i := 1) rfl)
  have q1 := hts (.instanceMethod objectInit) (List.mem_of_getElem? (i := 2) rfl)
  have q2 := hts (.code objectInit ⟨#[0xb1]⟩ 1 none) (List.mem_of_getElem? (i := 3) rfl)
  have q3 := hts (.arrayClass .int) (List.mem_of_getElem? (i := 4) rfl)
  have q4 := hts (.fieldLink RX8 9 "WoodForTwo$Trace" "numbers" "[I") (List.mem_of_getElem? (i := 5) rfl)
  have iX8 : ∀ w ∈ wsX80, w ∈ wsX8_init := fun _ h => List.mem_cons_of_mem _ (List.mem_append_right _ (h))
  refine lv_aload_n hx hb dX8_init_0 rfl (lv_at hl 0 rfl) ?_
  refine W.objInit hx hb hown q0 q1 q2 rfl (by rw [hml]; exact hl.1) rfl dX8_init_1 (Nat.le_of_ble_eq_true rfl) (Nat.le_of_ble_eq_true rfl) ?_
  refine W.eq (g2 := F0 mM 4 ls []) rfl ?_
  have hE0 : Ext G G [] := Ext.rf
  have hN0 : gN G = n0 + 0 := hn0
  have hF0_0 : Fr G S := hF
  have hI0 : gi S = gi S := rfl
  have hJ0 : gj S = gj S := rfl
  have hO0 : ∀ j, j ≠ k → j ≠ n0 → gp S j = gp S j := fun _ _ _ => rfl
  have hL0 : ∀ L, LkS G S L → (∀ x ∈ L, x.1 ≠ k) → LkS G S L := fun L a _ => a
  refine lv_aload_n hx hb dX8_init_4 rfl (lv_at hl 0 rfl) ?_
  refine lv_bipush (v := 16) hx hb dX8_init_5 (by decide) ?_
  refine r_newaF (atype := .int) (a0 := (16, .inl (fun _ => 0))) hx hb q3 rfl hW hA hF0_0 12 (hn_int hW) rfl (fun _ => rfl) (by decide) (show (16 : Int32).toNatClampNeg = 16 from by decide) (Nat.le_of_ble_eq_true rfl) (Nat.le_of_ble_eq_true rfl) (Nat.le_of_ble_eq_true rfl) dX8_init_7 (fun ad0 H hW => ?_)
  obtain ⟨G1, hG1⟩ : ∃ g, g = gAdd G ad0 12 16 := ⟨_, rfl⟩
  rw [← hG1] at hW
  have hX1 : Ext G G1 [(12, 16)] := by rw [hG1]; exact Ext.add
  have hE1 : Ext G G1 [(12, 16)] := Ext.tr hE0 hX1
  have hN1 : gN G1 = n0 + 1 := by have h9 := hE1.1; rw [hn0] at h9; exact h9
  have hQ0 : gA G1 n0 = ad0 := by rw [hG1, show n0 = gN G from by omega]; exact gAdd_As
  have hF1_0 : Fr G1 S := Fr.mono hF0_0 (by omega)
  have hL1_0 : ∀ L, LkS G S L → (∀ x ∈ L, x.1 ≠ k) → LkS G1 S L := fun L a b => (hL0 L a b).ext hX1
  refine r_putrF (ci := 7) (C := RX8) (T := TX8) (N := 2) hx hb hts iX8 tyX8 tyX8_ok nmX8 hown hW rfl k 0 (hE1.2.1 k hk).1 (by omega) ((hE1.2.1 k hk).2.1.trans hkd) (by decide) q4 (fun _ h9 => h9) rfl hin rfl (tyX8_ok 0 (by decide)) rfl rfl (rp S k (va_up (gp S k) 0 (some ad0))) (gp S k) (va_up (gp S k) 0 (some ad0)) rfl (e_ps _ _ _) rfl rfl rfl (Nat.le_of_ble_eq_true rfl) rfl c_p0 dX8_init_9 (fun H locs hW => ?_)
  obtain ⟨S1, hS1⟩ : ∃ g, g = (rp S k (va_up (gp S k) 0 (some ad0))) := ⟨_, rfl⟩
  rw [← hS1] at hW
  have hF1_1 : Fr G1 S1 := by rw [hS1]; exact Fr.rp hF1_0 (by omega)
  have hI1 : gi S1 = gi S := by rw [hS1]; exact hI0
  have hJ1 : gj S1 = gj S := by rw [hS1]; exact hJ0
  have hO1 : ∀ j, j ≠ k → j ≠ n0 → gp S1 j = gp S j := fun j x y => by rw [hS1]; exact (up_n _ _ x).trans (hO0 j x y)
  have hL1_1 : ∀ L, LkS G S L → (∀ x ∈ L, x.1 ≠ k) → LkS G1 S1 (L ++ [(k, 0, n0)]) := by
    intro L a b
    rw [hS1]
    refine LkS.put (hL1_0 L a b) (fun x hx ⟨e1, e2⟩ => ?_) (by omega) (by omega) hQ0
    exact b x hx e1
  refine W.widen (k := 1) (n := 16) (by omega) (by omega) ?_
  refine r_vreta hx hb hr hlocks hW ?_ dX8_init_12
  exact ⟨hE1, hF1_1, hL1_1, hI1, hJ1, hO1⟩

def rmX0_init : Jvm.Room := { frames := 1, cells := 15, slots := 7166, locals := 12 }
set_option maxHeartbeats 4000000 in
set_option maxRecDepth 100000 in
theorem t_X0_init (l : Launch) (D : Dc) (G : Gg) (S : Sg) (z : Nat) (k n0 : Nat) (hk : k < gN G) (hkd : gK G k = 0) (hn0 : gN G = n0) (hF : Fr G S) : MVa l yX0_init wsX0_init rmX0_init D G S z [.ref (gA G k)] 15 7166 (fun U => Ext G U.1 [(17, 9), (13, 649), (13, 649), (13, 649), (13, 649), (13, 649), (13, 649), (13, 649), (13, 649), (13, 649), (12, 6), (12, 6), (12, 6), (13, 649), (13, 649)] ∧ Fr U.1 U.2 ∧ (∀ L, LkS G S L → (∀ x ∈ L, x.1 ≠ k) → LkS U.1 U.2 (((((((L ++ (List.range 9).map (fun j => (n0, j, n0 + 1 + j))) ++ [(k, 0, n0)]) ++ [(k, 1, (n0 + 10))]) ++ [(k, 2, (n0 + 11))]) ++ [(k, 3, (n0 + 12))]) ++ [(k, 4, (n0 + 13))]) ++ [(k, 5, (n0 + 14))])) ∧ gi U.2 = gi S ∧ gj U.2 = gj S ∧ ∀ j, j ≠ k → j ≠ n0 → gp U.2 j = gp S j) := by
  refine Met.ofW (cc := cX0_init) (maxL := 1) (ret := none) (by decide +kernel) rfl ?_
  intro pP eE s mM args bl mT cD s₁ bD hml hv
  obtain ⟨rfl, hv⟩ := hv
  have hz := hv.1
  subst hz
  have hx := bD.exec
  have hb := bD.bytes
  have hr := bD.returns
  have hts := atoms_spec (ws := wsX0_init) bD.pre
  have hown : s.vm.findClass RX0 = some mM.cls := findClass_of_methodNamed bD.named
  have hlocks := bD.notSynchronized
  have hin : mT.name = "<init>" := (name_of_methodNamed bD.named bD.method).1
  have hW := Wd.start hv
  have hA : ∀ q, s.heap.size ≤ q → AW G s.heap.size q := fun q h => Or.inr h
  have hl := lv_entry ([.ref (gA G k)]) (n := 1) (Nat.le_of_ble_eq_true rfl)
  rw [lg_entry_eq]
  generalize (lg_sl ([.ref (gA G k)]) ++ List.replicate (1 - (lg_sl ([.ref (gA G k)])).length) Slot.unset).toArray = ls at hl ⊢
  have hl : lv_has ls 1 [(0, .ref (gA G k))] := hl
  have q0 := hts (.methodLink RX0 3 objectInit) (List.mem_of_getElem? (i := 1) rfl)
  have q1 := hts (.instanceMethod objectInit) (List.mem_of_getElem? (i := 2) rfl)
  have q2 := hts (.code objectInit ⟨#[0xb1]⟩ 1 none) (List.mem_of_getElem? (i := 3) rfl)
  have q3 := hts (.classLink RX0 11 "[[J") (List.mem_of_getElem? (i := 4) rfl)
  have q4 := hts (.arrayClass .long) (List.mem_of_getElem? (i := 5) rfl)
  have q5 := hts (.fieldLink RX0 13 "WoodForTwo$Foretelling" "waysFree" "[[J") (List.mem_of_getElem? (i := 6) rfl)
  have q6 := hts (.arrayClass .int) (List.mem_of_getElem? (i := 7) rfl)
  have q7 := hts (.fieldLink RX0 16 "WoodForTwo$Foretelling" "burns" "[I") (List.mem_of_getElem? (i := 8) rfl)
  have q8 := hts (.fieldLink RX0 20 "WoodForTwo$Foretelling" "leaves" "[I") (List.mem_of_getElem? (i := 9) rfl)
  have q9 := hts (.fieldLink RX0 23 "WoodForTwo$Foretelling" "odds" "[I") (List.mem_of_getElem? (i := 10) rfl)
  have q10 := hts (.fieldLink RX0 26 "WoodForTwo$Foretelling" "now" "[J") (List.mem_of_getElem? (i := 11) rfl)
  have q11 := hts (.fieldLink RX0 30 "WoodForTwo$Foretelling" "next" "[J") (List.mem_of_getElem? (i := 12) rfl)
  have iX0 : ∀ w ∈ wsX00, w ∈ wsX0_init := fun _ h => List.mem_cons_of_mem _ (List.mem_append_right _ (h))
  refine lv_aload_n hx hb dX0_init_0 rfl (lv_at hl 0 rfl) ?_
  refine W.objInit hx hb hown q0 q1 q2 rfl (by rw [hml]; exact hl.1) rfl dX0_init_1 (Nat.le_of_ble_eq_true rfl) (Nat.le_of_ble_eq_true rfl) ?_
  refine W.eq (g2 := F0 mM 4 ls []) rfl ?_
  have hE0 : Ext G G [] := Ext.rf
  have hN0 : gN G = n0 + 0 := hn0
  have hF0_0 : Fr G S := hF
  have hI0 : gi S = gi S := rfl
  have hJ0 : gj S = gj S := rfl
  have hO0 : ∀ j, j ≠ k → j ≠ n0 → gp S j = gp S j := fun _ _ _ => rfl
  have hL0 : ∀ L, LkS G S L → (∀ x ∈ L, x.1 ≠ k) → LkS G S L := fun L a _ => a
  refine lv_aload_n hx hb dX0_init_4 rfl (lv_at hl 0 rfl) ?_
  refine lv_bipush (v := 9) hx hb dX0_init_5 (by decide) ?_
  refine lv_sipush (v := 649) hx hb dX0_init_7 (by decide) ?_
  refine r_mnaF (R := (headSpec wsX0_init rmX0_init).room) (cells := 0) (slots := 0) (ty := .long) (N := 9) (M := 649) (a0 := (649, .inr (.inl (fun _ => 0)))) hx hb hown (by rw [show ("[" ++ (FieldType.array .long).toString) = "[[J" from by decide +kernel]; exact q3) (by exact hW.2.2.2.2.2.2.2.2.2.2.2.2.2.2.2.2) q4 hW hA hF0_0 17 13 (hn_longs hW).1 (hn_longs hW).2 (fun _ _ _ _ => rfl) rfl (fun _ => rfl) (by decide) (by decide) (show (9 : Int32).toNatClampNeg = 9 from by decide) (show (649 : Int32).toNatClampNeg = 649 from by decide) (Nat.le_of_ble_eq_true rfl) (Nat.le_of_ble_eq_true rfl) (Nat.le_of_ble_eq_true rfl) rfl rfl (by exact Nat.le_of_ble_eq_true rfl) (by exact Nat.le_of_ble_eq_true rfl) dX0_init_10 (fun ad0 H hW => ?_)
  obtain ⟨G1, hG1⟩ : ∃ g, g = gMna G ad0 17 13 9 649 := ⟨_, rfl⟩
  rw [← hG1] at hW
  have hX1 : Ext G G1 [(17, 9), (13, 649), (13, 649), (13, 649), (13, 649), (13, 649), (13, 649), (13, 649), (13, 649), (13, 649)] := by rw [hG1]; exact Ext.mna
  have hE1 : Ext G G1 [(17, 9), (13, 649), (13, 649), (13, 649), (13, 649), (13, 649), (13, 649), (13, 649), (13, 649), (13, 649)] := Ext.tr hE0 hX1
  have hN1 : gN G1 = n0 + 10 := by have h9 := hE1.1; rw [hn0] at h9; exact h9
  have hQ0 : gA G1 n0 = ad0 := by rw [hG1, show n0 = gN G from by omega]; exact gMna_s.1
  have hgn0 : gN G = n0 := by omega
  rw [hgn0] at hW
  obtain ⟨S1, hS1⟩ : ∃ g, g = rp S n0 (fun j => if j < 9 then some (ad0 + 1 + j) else none) := ⟨_, rfl⟩
  rw [← hS1] at hW
  have hF1_1 : Fr G1 S1 := by rw [hS1]; exact (Fr.mono hF0_0 (by omega)).rp (by omega)
  have hI1 : gi S1 = gi S := by rw [hS1]; exact hI0
  have hJ1 : gj S1 = gj S := by rw [hS1]; exact hJ0
  have hO1 : ∀ j, j ≠ k → j ≠ n0 → gp S1 j = gp S j := fun j x y => by rw [hS1]; exact (up_n _ _ (by omega)).trans (hO0 j x y)
  have hL1_1 : ∀ L, LkS G S L → (∀ x ∈ L, x.1 ≠ k) → LkS G1 S1 (L ++ (List.range 9).map (fun j => (n0, j, n0 + 1 + j))) := fun L a b => by have h9 := (hL0 L a b).mna (q := ad0) (kdO := 17) (kdI := 13) (N := 9) (M := 649); rw [hgn0] at h9; rw [hS1, hG1]; exact h9
  refine r_putrF (ci := 0) (C := RX0) (T := TX0) (N := 10) hx hb hts iX0 tyX0 tyX0_ok nmX0 hown hW rfl k 0 (hE1.2.1 k hk).1 (by omega) ((hE1.2.1 k hk).2.1.trans hkd) (by decide) q5 (fun _ h9 => h9) rfl hin rfl (tyX0_ok 0 (by decide)) rfl rfl (rp S1 k (va_up (gp S1 k) 0 (some ad0))) (gp S1 k) (va_up (gp S1 k) 0 (some ad0)) rfl (e_ps _ _ _) rfl rfl rfl (Nat.le_of_ble_eq_true rfl) rfl c_p0 dX0_init_14 (fun H locs hW => ?_)
  obtain ⟨S2, hS2⟩ : ∃ g, g = (rp S1 k (va_up (gp S1 k) 0 (some ad0))) := ⟨_, rfl⟩
  rw [← hS2] at hW
  have hF1_2 : Fr G1 S2 := by rw [hS2]; exact Fr.rp hF1_1 (by omega)
  have hI2 : gi S2 = gi S := by rw [hS2]; exact hI1
  have hJ2 : gj S2 = gj S := by rw [hS2]; exact hJ1
  have hO2 : ∀ j, j ≠ k → j ≠ n0 → gp S2 j = gp S j := fun j x y => by rw [hS2]; exact (up_n _ _ x).trans (hO1 j x y)
  have hL1_2 : ∀ L, LkS G S L → (∀ x ∈ L, x.1 ≠ k) → LkS G1 S2 ((L ++ (List.range 9).map (fun j => (n0, j, n0 + 1 + j))) ++ [(k, 0, n0)]) := by
    intro L a b
    rw [hS2]
    refine LkS.put (hL1_1 L a b) (fun x hx ⟨e1, e2⟩ => ?_) (by omega) (by omega) hQ0
    simp only [List.mem_append] at hx
    rcases hx with hx | hx
    · exact b x hx e1
    · obtain ⟨j9, -, h8⟩ := List.mem_map.mp hx; rw [← h8] at e1; exact absurd (show n0 = k from e1) (by omega)
  refine lv_aload_n hx hb dX0_init_17 rfl (lv_at hl 0 rfl) ?_
  refine lv_bipush (v := 6) hx hb dX0_init_18 (by decide) ?_
  refine r_newaF (atype := .int) (a0 := (6, .inl (fun _ => 0))) hx hb q6 rfl hW hA hF1_2 12 (hn_int hW) rfl (fun _ => rfl) (by decide) (show (6 : Int32).toNatClampNeg = 6 from by decide) (Nat.le_of_ble_eq_true rfl) (Nat.le_of_ble_eq_true rfl) (Nat.le_of_ble_eq_true rfl) dX0_init_20 (fun ad1 H hW => ?_)
  obtain ⟨G2, hG2⟩ : ∃ g, g = gAdd G1 ad1 12 6 := ⟨_, rfl⟩
  rw [← hG2] at hW
  have hX2 : Ext G1 G2 [(12, 6)] := by rw [hG2]; exact Ext.add
  have hE2 : Ext G G2 [(17, 9), (13, 649), (13, 649), (13, 649), (13, 649), (13, 649), (13, 649), (13, 649), (13, 649), (13, 649), (12, 6)] := Ext.tr hE1 hX2
  have hN2 : gN G2 = n0 + 11 := by have h9 := hE2.1; rw [hn0] at h9; exact h9
  have hQ1 : gA G2 (n0 + 10) = ad1 := by rw [hG2, show (n0 + 10) = gN G1 from by omega]; exact gAdd_As
  have hF2_2 : Fr G2 S2 := Fr.mono hF1_2 (by omega)
  have hL2_2 : ∀ L, LkS G S L → (∀ x ∈ L, x.1 ≠ k) → LkS G2 S2 ((L ++ (List.range 9).map (fun j => (n0, j, n0 + 1 + j))) ++ [(k, 0, n0)]) := fun L a b => (hL1_2 L a b).ext hX2
  refine r_putrF (ci := 0) (C := RX0) (T := TX0) (N := 10) hx hb hts iX0 tyX0 tyX0_ok nmX0 hown hW rfl k 1 (hE2.2.1 k hk).1 (by omega) ((hE2.2.1 k hk).2.1.trans hkd) (by decide) q7 (fun _ h9 => h9) rfl hin rfl (tyX0_ok 1 (by decide)) rfl rfl (rp S2 k (va_up (gp S2 k) 1 (some ad1))) (gp S2 k) (va_up (gp S2 k) 1 (some ad1)) rfl (e_ps _ _ _) rfl rfl rfl (Nat.le_of_ble_eq_true rfl) rfl c_p0 dX0_init_22 (fun H locs hW => ?_)
  obtain ⟨S3, hS3⟩ : ∃ g, g = (rp S2 k (va_up (gp S2 k) 1 (some ad1))) := ⟨_, rfl⟩
  rw [← hS3] at hW
  have hF2_3 : Fr G2 S3 := by rw [hS3]; exact Fr.rp hF2_2 (by omega)
  have hI3 : gi S3 = gi S := by rw [hS3]; exact hI2
  have hJ3 : gj S3 = gj S := by rw [hS3]; exact hJ2
  have hO3 : ∀ j, j ≠ k → j ≠ n0 → gp S3 j = gp S j := fun j x y => by rw [hS3]; exact (up_n _ _ x).trans (hO2 j x y)
  have hL2_3 : ∀ L, LkS G S L → (∀ x ∈ L, x.1 ≠ k) → LkS G2 S3 (((L ++ (List.range 9).map (fun j => (n0, j, n0 + 1 + j))) ++ [(k, 0, n0)]) ++ [(k, 1, (n0 + 10))]) := by
    intro L a b
    rw [hS3]
    refine LkS.put (hL2_2 L a b) (fun x hx ⟨e1, e2⟩ => ?_) (by omega) (by omega) hQ1
    simp only [List.mem_append] at hx
    rcases hx with (hx | hx) | hx
    · exact b x hx e1
    · obtain ⟨j9, -, h8⟩ := List.mem_map.mp hx; rw [← h8] at e1; exact absurd (show n0 = k from e1) (by omega)
    · rw [List.mem_singleton] at hx; rw [hx] at e2; exact absurd (show (0 : Nat) = 1 from e2) (by decide)
  refine lv_aload_n hx hb dX0_init_25 rfl (lv_at hl 0 rfl) ?_
  refine lv_bipush (v := 6) hx hb dX0_init_26 (by decide) ?_
  refine r_newaF (atype := .int) (a0 := (6, .inl (fun _ => 0))) hx hb q6 rfl hW hA hF2_3 12 (hn_int hW) rfl (fun _ => rfl) (by decide) (show (6 : Int32).toNatClampNeg = 6 from by decide) (Nat.le_of_ble_eq_true rfl) (Nat.le_of_ble_eq_true rfl) (Nat.le_of_ble_eq_true rfl) dX0_init_28 (fun ad2 H hW => ?_)
  obtain ⟨G3, hG3⟩ : ∃ g, g = gAdd G2 ad2 12 6 := ⟨_, rfl⟩
  rw [← hG3] at hW
  have hX3 : Ext G2 G3 [(12, 6)] := by rw [hG3]; exact Ext.add
  have hE3 : Ext G G3 [(17, 9), (13, 649), (13, 649), (13, 649), (13, 649), (13, 649), (13, 649), (13, 649), (13, 649), (13, 649), (12, 6), (12, 6)] := Ext.tr hE2 hX3
  have hN3 : gN G3 = n0 + 12 := by have h9 := hE3.1; rw [hn0] at h9; exact h9
  have hQ2 : gA G3 (n0 + 11) = ad2 := by rw [hG3, show (n0 + 11) = gN G2 from by omega]; exact gAdd_As
  have hF3_3 : Fr G3 S3 := Fr.mono hF2_3 (by omega)
  have hL3_3 : ∀ L, LkS G S L → (∀ x ∈ L, x.1 ≠ k) → LkS G3 S3 (((L ++ (List.range 9).map (fun j => (n0, j, n0 + 1 + j))) ++ [(k, 0, n0)]) ++ [(k, 1, (n0 + 10))]) := fun L a b => (hL2_3 L a b).ext hX3
  refine r_putrF (ci := 0) (C := RX0) (T := TX0) (N := 10) hx hb hts iX0 tyX0 tyX0_ok nmX0 hown hW rfl k 2 (hE3.2.1 k hk).1 (by omega) ((hE3.2.1 k hk).2.1.trans hkd) (by decide) q8 (fun _ h9 => h9) rfl hin rfl (tyX0_ok 2 (by decide)) rfl rfl (rp S3 k (va_up (gp S3 k) 2 (some ad2))) (gp S3 k) (va_up (gp S3 k) 2 (some ad2)) rfl (e_ps _ _ _) rfl rfl rfl (Nat.le_of_ble_eq_true rfl) rfl c_p0 dX0_init_30 (fun H locs hW => ?_)
  obtain ⟨S4, hS4⟩ : ∃ g, g = (rp S3 k (va_up (gp S3 k) 2 (some ad2))) := ⟨_, rfl⟩
  rw [← hS4] at hW
  have hF3_4 : Fr G3 S4 := by rw [hS4]; exact Fr.rp hF3_3 (by omega)
  have hI4 : gi S4 = gi S := by rw [hS4]; exact hI3
  have hJ4 : gj S4 = gj S := by rw [hS4]; exact hJ3
  have hO4 : ∀ j, j ≠ k → j ≠ n0 → gp S4 j = gp S j := fun j x y => by rw [hS4]; exact (up_n _ _ x).trans (hO3 j x y)
  have hL3_4 : ∀ L, LkS G S L → (∀ x ∈ L, x.1 ≠ k) → LkS G3 S4 ((((L ++ (List.range 9).map (fun j => (n0, j, n0 + 1 + j))) ++ [(k, 0, n0)]) ++ [(k, 1, (n0 + 10))]) ++ [(k, 2, (n0 + 11))]) := by
    intro L a b
    rw [hS4]
    refine LkS.put (hL3_3 L a b) (fun x hx ⟨e1, e2⟩ => ?_) (by omega) (by omega) hQ2
    simp only [List.mem_append] at hx
    rcases hx with ((hx | hx) | hx) | hx
    · exact b x hx e1
    · obtain ⟨j9, -, h8⟩ := List.mem_map.mp hx; rw [← h8] at e1; exact absurd (show n0 = k from e1) (by omega)
    · rw [List.mem_singleton] at hx; rw [hx] at e2; exact absurd (show (0 : Nat) = 2 from e2) (by decide)
    · rw [List.mem_singleton] at hx; rw [hx] at e2; exact absurd (show (1 : Nat) = 2 from e2) (by decide)
  refine lv_aload_n hx hb dX0_init_33 rfl (lv_at hl 0 rfl) ?_
  refine lv_bipush (v := 6) hx hb dX0_init_34 (by decide) ?_
  refine r_newaF (atype := .int) (a0 := (6, .inl (fun _ => 0))) hx hb q6 rfl hW hA hF3_4 12 (hn_int hW) rfl (fun _ => rfl) (by decide) (show (6 : Int32).toNatClampNeg = 6 from by decide) (Nat.le_of_ble_eq_true rfl) (Nat.le_of_ble_eq_true rfl) (Nat.le_of_ble_eq_true rfl) dX0_init_36 (fun ad3 H hW => ?_)
  obtain ⟨G4, hG4⟩ : ∃ g, g = gAdd G3 ad3 12 6 := ⟨_, rfl⟩
  rw [← hG4] at hW
  have hX4 : Ext G3 G4 [(12, 6)] := by rw [hG4]; exact Ext.add
  have hE4 : Ext G G4 [(17, 9), (13, 649), (13, 649), (13, 649), (13, 649), (13, 649), (13, 649), (13, 649), (13, 649), (13, 649), (12, 6), (12, 6), (12, 6)] := Ext.tr hE3 hX4
  have hN4 : gN G4 = n0 + 13 := by have h9 := hE4.1; rw [hn0] at h9; exact h9
  have hQ3 : gA G4 (n0 + 12) = ad3 := by rw [hG4, show (n0 + 12) = gN G3 from by omega]; exact gAdd_As
  have hF4_4 : Fr G4 S4 := Fr.mono hF3_4 (by omega)
  have hL4_4 : ∀ L, LkS G S L → (∀ x ∈ L, x.1 ≠ k) → LkS G4 S4 ((((L ++ (List.range 9).map (fun j => (n0, j, n0 + 1 + j))) ++ [(k, 0, n0)]) ++ [(k, 1, (n0 + 10))]) ++ [(k, 2, (n0 + 11))]) := fun L a b => (hL3_4 L a b).ext hX4
  refine r_putrF (ci := 0) (C := RX0) (T := TX0) (N := 10) hx hb hts iX0 tyX0 tyX0_ok nmX0 hown hW rfl k 3 (hE4.2.1 k hk).1 (by omega) ((hE4.2.1 k hk).2.1.trans hkd) (by decide) q9 (fun _ h9 => h9) rfl hin rfl (tyX0_ok 3 (by decide)) rfl rfl (rp S4 k (va_up (gp S4 k) 3 (some ad3))) (gp S4 k) (va_up (gp S4 k) 3 (some ad3)) rfl (e_ps _ _ _) rfl rfl rfl (Nat.le_of_ble_eq_true rfl) rfl c_p0 dX0_init_38 (fun H locs hW => ?_)
  obtain ⟨S5, hS5⟩ : ∃ g, g = (rp S4 k (va_up (gp S4 k) 3 (some ad3))) := ⟨_, rfl⟩
  rw [← hS5] at hW
  have hF4_5 : Fr G4 S5 := by rw [hS5]; exact Fr.rp hF4_4 (by omega)
  have hI5 : gi S5 = gi S := by rw [hS5]; exact hI4
  have hJ5 : gj S5 = gj S := by rw [hS5]; exact hJ4
  have hO5 : ∀ j, j ≠ k → j ≠ n0 → gp S5 j = gp S j := fun j x y => by rw [hS5]; exact (up_n _ _ x).trans (hO4 j x y)
  have hL4_5 : ∀ L, LkS G S L → (∀ x ∈ L, x.1 ≠ k) → LkS G4 S5 (((((L ++ (List.range 9).map (fun j => (n0, j, n0 + 1 + j))) ++ [(k, 0, n0)]) ++ [(k, 1, (n0 + 10))]) ++ [(k, 2, (n0 + 11))]) ++ [(k, 3, (n0 + 12))]) := by
    intro L a b
    rw [hS5]
    refine LkS.put (hL4_4 L a b) (fun x hx ⟨e1, e2⟩ => ?_) (by omega) (by omega) hQ3
    simp only [List.mem_append] at hx
    rcases hx with (((hx | hx) | hx) | hx) | hx
    · exact b x hx e1
    · obtain ⟨j9, -, h8⟩ := List.mem_map.mp hx; rw [← h8] at e1; exact absurd (show n0 = k from e1) (by omega)
    · rw [List.mem_singleton] at hx; rw [hx] at e2; exact absurd (show (0 : Nat) = 3 from e2) (by decide)
    · rw [List.mem_singleton] at hx; rw [hx] at e2; exact absurd (show (1 : Nat) = 3 from e2) (by decide)
    · rw [List.mem_singleton] at hx; rw [hx] at e2; exact absurd (show (2 : Nat) = 3 from e2) (by decide)
  refine lv_aload_n hx hb dX0_init_41 rfl (lv_at hl 0 rfl) ?_
  refine lv_sipush (v := 649) hx hb dX0_init_42 (by decide) ?_
  refine r_newaF (atype := .long) (a0 := (649, .inr (.inl (fun _ => 0)))) hx hb q4 rfl hW hA hF4_5 13 (hn_long hW) rfl (fun _ => rfl) (by decide) (show (649 : Int32).toNatClampNeg = 649 from by decide) (Nat.le_of_ble_eq_true rfl) (Nat.le_of_ble_eq_true rfl) (Nat.le_of_ble_eq_true rfl) dX0_init_45 (fun ad4 H hW => ?_)
  obtain ⟨G5, hG5⟩ : ∃ g, g = gAdd G4 ad4 13 649 := ⟨_, rfl⟩
  rw [← hG5] at hW
  have hX5 : Ext G4 G5 [(13, 649)] := by rw [hG5]; exact Ext.add
  have hE5 : Ext G G5 [(17, 9), (13, 649), (13, 649), (13, 649), (13, 649), (13, 649), (13, 649), (13, 649), (13, 649), (13, 649), (12, 6), (12, 6), (12, 6), (13, 649)] := Ext.tr hE4 hX5
  have hN5 : gN G5 = n0 + 14 := by have h9 := hE5.1; rw [hn0] at h9; exact h9
  have hQ4 : gA G5 (n0 + 13) = ad4 := by rw [hG5, show (n0 + 13) = gN G4 from by omega]; exact gAdd_As
  have hF5_5 : Fr G5 S5 := Fr.mono hF4_5 (by omega)
  have hL5_5 : ∀ L, LkS G S L → (∀ x ∈ L, x.1 ≠ k) → LkS G5 S5 (((((L ++ (List.range 9).map (fun j => (n0, j, n0 + 1 + j))) ++ [(k, 0, n0)]) ++ [(k, 1, (n0 + 10))]) ++ [(k, 2, (n0 + 11))]) ++ [(k, 3, (n0 + 12))]) := fun L a b => (hL4_5 L a b).ext hX5
  refine r_putr (ci := 0) (C := RX0) (T := TX0) (N := 10) hx hb hts iX0 tyX0 tyX0_ok nmX0 hown hW rfl k 4 (hE5.2.1 k hk).1 (by omega) ((hE5.2.1 k hk).2.1.trans hkd) (by decide) q10 (fun _ h9 => h9) rfl (tyX0_ok 4 (by decide)) rfl rfl (rp S5 k (va_up (gp S5 k) 4 (some ad4))) (gp S5 k) (va_up (gp S5 k) 4 (some ad4)) rfl (e_ps _ _ _) rfl rfl rfl (Nat.le_of_ble_eq_true rfl) rfl c_p0 dX0_init_47 (fun H locs hW => ?_)
  obtain ⟨S6, hS6⟩ : ∃ g, g = (rp S5 k (va_up (gp S5 k) 4 (some ad4))) := ⟨_, rfl⟩
  rw [← hS6] at hW
  have hF5_6 : Fr G5 S6 := by rw [hS6]; exact Fr.rp hF5_5 (by omega)
  have hI6 : gi S6 = gi S := by rw [hS6]; exact hI5
  have hJ6 : gj S6 = gj S := by rw [hS6]; exact hJ5
  have hO6 : ∀ j, j ≠ k → j ≠ n0 → gp S6 j = gp S j := fun j x y => by rw [hS6]; exact (up_n _ _ x).trans (hO5 j x y)
  have hL5_6 : ∀ L, LkS G S L → (∀ x ∈ L, x.1 ≠ k) → LkS G5 S6 ((((((L ++ (List.range 9).map (fun j => (n0, j, n0 + 1 + j))) ++ [(k, 0, n0)]) ++ [(k, 1, (n0 + 10))]) ++ [(k, 2, (n0 + 11))]) ++ [(k, 3, (n0 + 12))]) ++ [(k, 4, (n0 + 13))]) := by
    intro L a b
    rw [hS6]
    refine LkS.put (hL5_5 L a b) (fun x hx ⟨e1, e2⟩ => ?_) (by omega) (by omega) hQ4
    simp only [List.mem_append] at hx
    rcases hx with ((((hx | hx) | hx) | hx) | hx) | hx
    · exact b x hx e1
    · obtain ⟨j9, -, h8⟩ := List.mem_map.mp hx; rw [← h8] at e1; exact absurd (show n0 = k from e1) (by omega)
    · rw [List.mem_singleton] at hx; rw [hx] at e2; exact absurd (show (0 : Nat) = 4 from e2) (by decide)
    · rw [List.mem_singleton] at hx; rw [hx] at e2; exact absurd (show (1 : Nat) = 4 from e2) (by decide)
    · rw [List.mem_singleton] at hx; rw [hx] at e2; exact absurd (show (2 : Nat) = 4 from e2) (by decide)
    · rw [List.mem_singleton] at hx; rw [hx] at e2; exact absurd (show (3 : Nat) = 4 from e2) (by decide)
  refine lv_aload_n hx hb dX0_init_50 rfl (lv_at hl 0 rfl) ?_
  refine lv_sipush (v := 649) hx hb dX0_init_51 (by decide) ?_
  refine r_newaF (atype := .long) (a0 := (649, .inr (.inl (fun _ => 0)))) hx hb q4 rfl hW hA hF5_6 13 (hn_long hW) rfl (fun _ => rfl) (by decide) (show (649 : Int32).toNatClampNeg = 649 from by decide) (Nat.le_of_ble_eq_true rfl) (Nat.le_of_ble_eq_true rfl) (Nat.le_of_ble_eq_true rfl) dX0_init_54 (fun ad5 H hW => ?_)
  obtain ⟨G6, hG6⟩ : ∃ g, g = gAdd G5 ad5 13 649 := ⟨_, rfl⟩
  rw [← hG6] at hW
  have hX6 : Ext G5 G6 [(13, 649)] := by rw [hG6]; exact Ext.add
  have hE6 : Ext G G6 [(17, 9), (13, 649), (13, 649), (13, 649), (13, 649), (13, 649), (13, 649), (13, 649), (13, 649), (13, 649), (12, 6), (12, 6), (12, 6), (13, 649), (13, 649)] := Ext.tr hE5 hX6
  have hN6 : gN G6 = n0 + 15 := by have h9 := hE6.1; rw [hn0] at h9; exact h9
  have hQ5 : gA G6 (n0 + 14) = ad5 := by rw [hG6, show (n0 + 14) = gN G5 from by omega]; exact gAdd_As
  have hF6_6 : Fr G6 S6 := Fr.mono hF5_6 (by omega)
  have hL6_6 : ∀ L, LkS G S L → (∀ x ∈ L, x.1 ≠ k) → LkS G6 S6 ((((((L ++ (List.range 9).map (fun j => (n0, j, n0 + 1 + j))) ++ [(k, 0, n0)]) ++ [(k, 1, (n0 + 10))]) ++ [(k, 2, (n0 + 11))]) ++ [(k, 3, (n0 + 12))]) ++ [(k, 4, (n0 + 13))]) := fun L a b => (hL5_6 L a b).ext hX6
  refine r_putr (ci := 0) (C := RX0) (T := TX0) (N := 10) hx hb hts iX0 tyX0 tyX0_ok nmX0 hown hW rfl k 5 (hE6.2.1 k hk).1 (by omega) ((hE6.2.1 k hk).2.1.trans hkd) (by decide) q11 (fun _ h9 => h9) rfl (tyX0_ok 5 (by decide)) rfl rfl (rp S6 k (va_up (gp S6 k) 5 (some ad5))) (gp S6 k) (va_up (gp S6 k) 5 (some ad5)) rfl (e_ps _ _ _) rfl rfl rfl (Nat.le_of_ble_eq_true rfl) rfl c_p0 dX0_init_56 (fun H locs hW => ?_)
  obtain ⟨S7, hS7⟩ : ∃ g, g = (rp S6 k (va_up (gp S6 k) 5 (some ad5))) := ⟨_, rfl⟩
  rw [← hS7] at hW
  have hF6_7 : Fr G6 S7 := by rw [hS7]; exact Fr.rp hF6_6 (by omega)
  have hI7 : gi S7 = gi S := by rw [hS7]; exact hI6
  have hJ7 : gj S7 = gj S := by rw [hS7]; exact hJ6
  have hO7 : ∀ j, j ≠ k → j ≠ n0 → gp S7 j = gp S j := fun j x y => by rw [hS7]; exact (up_n _ _ x).trans (hO6 j x y)
  have hL6_7 : ∀ L, LkS G S L → (∀ x ∈ L, x.1 ≠ k) → LkS G6 S7 (((((((L ++ (List.range 9).map (fun j => (n0, j, n0 + 1 + j))) ++ [(k, 0, n0)]) ++ [(k, 1, (n0 + 10))]) ++ [(k, 2, (n0 + 11))]) ++ [(k, 3, (n0 + 12))]) ++ [(k, 4, (n0 + 13))]) ++ [(k, 5, (n0 + 14))]) := by
    intro L a b
    rw [hS7]
    refine LkS.put (hL6_6 L a b) (fun x hx ⟨e1, e2⟩ => ?_) (by omega) (by omega) hQ5
    simp only [List.mem_append] at hx
    rcases hx with (((((hx | hx) | hx) | hx) | hx) | hx) | hx
    · exact b x hx e1
    · obtain ⟨j9, -, h8⟩ := List.mem_map.mp hx; rw [← h8] at e1; exact absurd (show n0 = k from e1) (by omega)
    · rw [List.mem_singleton] at hx; rw [hx] at e2; exact absurd (show (0 : Nat) = 5 from e2) (by decide)
    · rw [List.mem_singleton] at hx; rw [hx] at e2; exact absurd (show (1 : Nat) = 5 from e2) (by decide)
    · rw [List.mem_singleton] at hx; rw [hx] at e2; exact absurd (show (2 : Nat) = 5 from e2) (by decide)
    · rw [List.mem_singleton] at hx; rw [hx] at e2; exact absurd (show (3 : Nat) = 5 from e2) (by decide)
    · rw [List.mem_singleton] at hx; rw [hx] at e2; exact absurd (show (4 : Nat) = 5 from e2) (by decide)
  refine W.widen (k := 15) (n := 7166) (by omega) (by omega) ?_
  refine r_vreta hx hb hr hlocks hW ?_ dX0_init_59
  exact ⟨hE6, hF6_7, hL6_7, hI7, hJ7, hO7⟩
