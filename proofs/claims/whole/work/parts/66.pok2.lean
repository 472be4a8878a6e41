theorem pChance_ok {T : Nat → Nat} {ts a e : Nat} {B B' : Nat → Nat} (h : pChance T ts B a = .inl (B', e)) (hB : Tld B) (h17 : B 17 = 0) : Tld B' ∧ B' 4 = B 4 + 1 ∧ B' 17 = 0 := by
  unfold pChance at h
  have h46 := hB.1.2.2.2.2.2.2.1
  split at h
  · cases h
  · split at h
    · cases h
    · obtain ⟨s, i1, x1, h⟩ := PB_i h
      obtain ⟨o, i2, x2, h⟩ := PB_i h
      obtain ⟨u, i3, x3, h⟩ := PB_i h
      cases h
      refine ⟨chB_ok hB (by omega) (pNum_b x1).2 (pNum_b x2).1 (pNum_b x2).2, ?_, ?_⟩
      · unfold chB; rw [if_neg (by omega), if_neg (by omega), if_pos rfl]
      · unfold chB; rw [if_neg (by omega), if_neg (by omega), if_neg (by omega)]; exact h17
theorem pChs_ok {T : Nat → Nat} {ts : Nat} : ∀ (f a e : Nat) (B B' : Nat → Nat), pChs T ts f B a = .inl (B', e) → Tld B → B 17 = 0 → Tld B' ∧ B' 17 = 0
  | 0, a, e, B, B', h, hB, h17 => by cases h; exact ⟨hB, h17⟩
  | f + 1, a, e, B, B', h, hB, h17 => by
    unfold pChs at h
    split at h
    · obtain ⟨B1, i1, x1, h⟩ := PB_i h
      have z := pChance_ok x1 hB h17
      exact pChs_ok f _ _ _ _ h z.1 z.2.2
    · cases h; exact ⟨hB, h17⟩
theorem pParty_ok {T : Nat → Nat} {ts a e : Nat} {B B' : Nat → Nat} (h : pParty T ts B a = .inl (B', e)) (hB : Tld B) : Tld B' ∧ B' 17 = B 17 + 1 := by
  unfold pParty at h
  have h17 := hB.1.2.2.2.2.2.2.2.2.1
  split at h
  · cases h
  · obtain ⟨m, i1, x1, h⟩ := PB_i h
    obtain ⟨w, i2, x2, h⟩ := PB_i h
    obtain ⟨t, i3, x3, h⟩ := PB_i h
    obtain ⟨u, i4, x4, h⟩ := PB_i h
    cases h
    refine ⟨ptB_ok hB (by omega) (pNum_b x1).1 (pNum_b x1).2 (pWay_b x2) (pNum_b x3).2, ?_⟩
    unfold ptB; rw [if_neg (by omega), if_neg (by omega), if_neg (by omega), if_pos rfl]
theorem pPts_ok {T : Nat → Nat} {ts : Nat} : ∀ (f a e : Nat) (B B' : Nat → Nat), pPts T ts f B a = .inl (B', e) → Tld B → Tld B'
  | 0, a, e, B, B', h, hB => by cases h; exact hB
  | f + 1, a, e, B, B', h, hB => by
    unfold pPts at h
    split at h
    · obtain ⟨B1, i1, x1, h⟩ := PB_i h
      exact pPts_ok f _ _ _ _ h (pParty_ok x1 hB).1
    · cases h; exact hB
theorem pPass_ok {T : Nat → Nat} {ts e : Nat} {B : Nat → Nat} (h : pPass T ts = .inl (B, e)) : Tld B := by
  unfold pPass at h
  obtain ⟨B1, i1, x1, h⟩ := PB_i h
  obtain ⟨B2, i2, x2, h⟩ := PB_i h
  obtain ⟨B3, i3, x3, h⟩ := PB_i h
  obtain ⟨u, i4, x4, h⟩ := PB_i h
  cases h
  have z1 := pHut_ok x1
  have z2 := pChs_ok _ _ _ _ _ x2 z1.1 z1.2.2
  exact pPts_ok _ _ _ _ _ x3 z2.1
