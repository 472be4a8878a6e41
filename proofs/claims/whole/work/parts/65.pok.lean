/-! what is told keeps the bounds -/
def Tld (B : Nat → Nat) : Prop := BP1 B 0 ∧ ∀ k, 66 ≤ k → k ≠ 132 → B k = 0
theorem hutB_ok {w b l n : Nat} (hw : w ≤ 500) (h1 : 1 ≤ b) (h2 : b ≤ 9) (h3 : l ≤ 2) (h4 : n ≤ 9) : Tld (hutB w b l n) := by
  have e0 : hutB w b l n 0 = w := rfl
  have e1 : hutB w b l n 1 = b := rfl
  have e2 : hutB w b l n 2 = l := rfl
  have e3 : hutB w b l n 3 = n := rfl
  have e132 : hutB w b l n 132 = 1 := rfl
  have e : ∀ k, 4 ≤ k → k ≠ 132 → hutB w b l n k = 0 := fun k a c => by unfold hutB; rw [if_neg (by omega), if_neg (by omega), if_neg (by omega), if_neg (by omega), if_neg (by omega)]
  refine ⟨⟨e132, by omega, by omega, by omega, by omega, by omega, by rw [e 4 (by omega) (by omega)]; omega, fun i hi => ?_, by rw [e 17 (by omega) (by omega)]; omega, fun i hi => ?_, by rw [e 130 (by omega) (by omega)]; omega, by rw [e 131 (by omega) (by omega)]; omega, fun i hi => ?_⟩, fun k h6 hk => e k (by omega) hk⟩
  · rw [e 4 (by omega) (by omega)] at hi; omega
  · rw [e 17 (by omega) (by omega)] at hi; omega
  · rw [e (66 + i) (by omega) (by omega), e (82 + i) (by omega) (by omega), e (98 + i) (by omega) (by omega), e (114 + i) (by omega) (by omega)]; omega
theorem chB_ok {B : Nat → Nat} {s o : Nat} (h : Tld B) (h4 : B 4 < 6) (hs : s ≤ 9) (ho1 : 1 ≤ o) (ho : o ≤ 9) : Tld (chB B s o) := by
  obtain ⟨⟨b0, b1, b2, b3, b4, b5, b6, b7, b8, b9, b10, b11, b12⟩, hz⟩ := h
  have e4 : chB B s o 4 = B 4 + 1 := by unfold chB; rw [if_neg (by omega), if_neg (by omega), if_pos rfl]
  have es : chB B s o (5 + B 4) = s := by unfold chB; rw [if_pos rfl]
  have eo : chB B s o (11 + B 4) = o := by unfold chB; rw [if_neg (by omega), if_pos rfl]
  have e : ∀ k, k ≠ 4 → k ≠ 5 + B 4 → k ≠ 11 + B 4 → chB B s o k = B k := fun k a c d => by unfold chB; rw [if_neg c, if_neg d, if_neg a]
  refine ⟨⟨by rw [e 132 (by omega) (by omega) (by omega)]; exact b0, by rw [e 0 (by omega) (by omega) (by omega)]; exact b1, by rw [e 1 (by omega) (by omega) (by omega)]; exact b2, by rw [e 1 (by omega) (by omega) (by omega)]; exact b3, by rw [e 2 (by omega) (by omega) (by omega)]; exact b4, by rw [e 3 (by omega) (by omega) (by omega)]; exact b5, by rw [e4]; omega, fun i hi => ?_, by rw [e 17 (by omega) (by omega) (by omega)]; exact b8, fun i hi => ?_, by rw [e 130 (by omega) (by omega) (by omega)]; exact b10, by rw [e 131 (by omega) (by omega) (by omega)]; exact b11, fun i hi => ?_⟩, fun k h6 hk => by rw [e k (by omega) (by omega) (by omega)]; exact hz k h6 hk⟩
  · rw [e4] at hi
    by_cases z : i = B 4
    · rw [z, es, eo]; omega
    · rw [e (5 + i) (by omega) (by omega) (by omega), e (11 + i) (by omega) (by omega) (by omega)]; exact b7 i (by omega)
  · rw [e 17 (by omega) (by omega) (by omega)] at hi
    rw [e (18 + i) (by omega) (by omega) (by omega), e (34 + i) (by omega) (by omega) (by omega), e (50 + i) (by omega) (by omega) (by omega)]; exact b9 i hi
  · rw [e (66 + i) (by omega) (by omega) (by omega), e (82 + i) (by omega) (by omega) (by omega), e (98 + i) (by omega) (by omega) (by omega), e (114 + i) (by omega) (by omega) (by omega)]; exact b12 i hi
theorem ptB_ok {B : Nat → Nat} {m w t : Nat} (h : Tld B) (h17 : B 17 < 16) (hm1 : 1 ≤ m) (hm : m ≤ 9) (hw : w ≤ 3) (ht : t ≤ 99) : Tld (ptB B m w t) := by
  obtain ⟨⟨b0, b1, b2, b3, b4, b5, b6, b7, b8, b9, b10, b11, b12⟩, hz⟩ := h
  have e17 : ptB B m w t 17 = B 17 + 1 := by unfold ptB; rw [if_neg (by omega), if_neg (by omega), if_neg (by omega), if_pos rfl]
  have e1 : ptB B m w t (18 + B 17) = m := by unfold ptB; rw [if_pos rfl]
  have e2 : ptB B m w t (34 + B 17) = w := by unfold ptB; rw [if_neg (by omega), if_pos rfl]
  have e3 : ptB B m w t (50 + B 17) = t := by unfold ptB; rw [if_neg (by omega), if_neg (by omega), if_pos rfl]
  have e : ∀ k, k ≠ 17 → k ≠ 18 + B 17 → k ≠ 34 + B 17 → k ≠ 50 + B 17 → ptB B m w t k = B k := fun k a c d f => by unfold ptB; rw [if_neg c, if_neg d, if_neg f, if_neg a]
  refine ⟨⟨by rw [e 132 (by omega) (by omega) (by omega) (by omega)]; exact b0, by rw [e 0 (by omega) (by omega) (by omega) (by omega)]; exact b1, by rw [e 1 (by omega) (by omega) (by omega) (by omega)]; exact b2, by rw [e 1 (by omega) (by omega) (by omega) (by omega)]; exact b3, by rw [e 2 (by omega) (by omega) (by omega) (by omega)]; exact b4, by rw [e 3 (by omega) (by omega) (by omega) (by omega)]; exact b5, by rw [e 4 (by omega) (by omega) (by omega) (by omega)]; exact b6, fun i hi => ?_, by rw [e17]; omega, fun i hi => ?_, by rw [e 130 (by omega) (by omega) (by omega) (by omega)]; exact b10, by rw [e 131 (by omega) (by omega) (by omega) (by omega)]; exact b11, fun i hi => ?_⟩, fun k h6 hk => by rw [e k (by omega) (by omega) (by omega) (by omega)]; exact hz k h6 hk⟩
  · rw [e 4 (by omega) (by omega) (by omega) (by omega)] at hi
    rw [e (5 + i) (by omega) (by omega) (by omega) (by omega), e (11 + i) (by omega) (by omega) (by omega) (by omega)]; exact b7 i hi
  · rw [e17] at hi
    by_cases z : i = B 17
    · rw [z, e1, e2, e3]; omega
    · rw [e (18 + i) (by omega) (by omega) (by omega) (by omega), e (34 + i) (by omega) (by omega) (by omega) (by omega), e (50 + i) (by omega) (by omega) (by omega) (by omega)]; exact b9 i (by omega)
  · rw [e (66 + i) (by omega) (by omega) (by omega) (by omega), e (82 + i) (by omega) (by omega) (by omega) (by omega), e (98 + i) (by omega) (by omega) (by omega) (by omega), e (114 + i) (by omega) (by omega) (by omega) (by omega)]; exact b12 i hi
theorem PB_i {α β : Type} {x : PRt α} {f : α → Nat → PRt β} {v : β} {e : Nat} (h : PB x f = .inl (v, e)) : ∃ a i, x = .inl (a, i) ∧ f a i = .inl (v, e) := by
  cases x with
  | inl p => exact ⟨p.1, p.2, rfl, h⟩
  | inr p => cases h
theorem pHut_ok {T : Nat → Nat} {ts a e : Nat} {B : Nat → Nat} (h : pHut T ts a = .inl (B, e)) : Tld B ∧ B 4 = 0 ∧ B 17 = 0 := by
  unfold pHut at h
  split at h
  · obtain ⟨w, i1, x1, h⟩ := PB_i h
    obtain ⟨b, i2, x2, h⟩ := PB_i h
    obtain ⟨l, i3, x3, h⟩ := PB_i h
    obtain ⟨n, i4, x4, h⟩ := PB_i h
    obtain ⟨u, i5, x5, h⟩ := PB_i h
    cases h
    exact ⟨hutB_ok (pNum_b x1).2 (pNum_b x2).1 (pNum_b x2).2 (pLaw_b x3) (pNum_b x4).2, rfl, rfl⟩
  · cases h
