/-! a night, in numbers -/
def slM (B : Nat → Nat) (p : Nat) : Nat := B (18 + p)
def slW (B : Nat → Nat) (p : Nat) : Nat := B 0 - slM B p * B 1
def slF (B : Nat → Nat) (p : Nat) : Nat := (slM B p * B 1 - B 0 + B 1 - 1) / B 1
def slD (B : Nat → Nat) (p : Nat) : Nat := dueN (B 3) (B 1) (B 2) (slM B p)
def slL (B : Nat → Nat) (p : Nat) : Nat := lvN (B (34 + p)) (B (50 + p)) (slD B p) (slW B p) (B 1)
def slB (B : Nat → Nat) (p : Nat) : Nat → Nat := fun k => if k = 0 then min 999 (slW B p + slL B p) else if k = 66 + p then B k + 1 else if k = 82 + p then B k + slF B p else if k = 98 + p then B k + slL B p else if k = 114 + p then B k + (slD B p - slL B p) else if k = 130 then B k + 1 else if k = 131 then B k + slF B p else B k
theorem due_le {t b law m : Nat} (ht : t ≤ 9) (hb : b ≤ 9) (hm : m ≤ 9) : dueN t b law m ≤ 729 := by
  unfold dueN
  split
  · exact Nat.mul_le_mul (Nat.mul_le_mul ht hm) hb
  · have h1 : t * b ≤ 9 * 9 := Nat.mul_le_mul ht hb
    split
    · omega
    · have h2 : (m - 1) * b ≤ 9 * 9 := Nat.mul_le_mul (by omega) hb
      omega
theorem lv_le {way toil due wood burn : Nat} : lvN way toil due wood burn ≤ due := by
  unfold lvN
  split
  · exact Nat.le_refl _
  · split
    · omega
    · split
      · exact Nat.le_refl _
      · exact Nat.zero_le _
theorem slF_le {B : Nat → Nat} {p : Nat} (hb : 1 ≤ B 1) (hm : B (18 + p) ≤ 9) : slF B p ≤ 9 := by
  unfold slF slM
  have h1 : B (18 + p) * B 1 - B 0 + B 1 - 1 < 10 * B 1 := by
    have h2 : B (18 + p) * B 1 ≤ 9 * B 1 := Nat.mul_le_mul_right _ hm
    omega
  have := Nat.div_lt_of_lt_mul (n := B 1) (k := 10) (m := B (18 + p) * B 1 - B 0 + B 1 - 1) (by omega)
  omega
theorem slB_ok {B : Nat → Nat} {c p : Nat} (h : BP1 B c) (hp : p < B 17) : BP1 (slB B p) (c + 1) := by
  obtain ⟨h0, h1, h2, h3, h4, h5, h6, h7, h8, h9, h10, h11, h12⟩ := h
  have hF : slF B p ≤ 9 := slF_le h2 (h9 p hp).2.1
  have hD : slD B p ≤ 729 := due_le h5 h3 (h9 p hp).2.1
  have hL : slL B p ≤ slD B p := lv_le
  have hp16 : p < 16 := by omega
  refine ⟨?_, ?_, ?_, ?_, ?_, ?_, ?_, ?_, ?_, ?_, ?_, ?_, ?_⟩
  · unfold slB; rw [if_neg (by omega), if_neg (by omega), if_neg (by omega), if_neg (by omega), if_neg (by omega), if_neg (by omega), if_neg (by omega)]; exact h0
  · unfold slB; rw [if_pos rfl]; omega
  · unfold slB; rw [if_neg (by omega), if_neg (by omega), if_neg (by omega), if_neg (by omega), if_neg (by omega), if_neg (by omega), if_neg (by omega)]; exact h2
  · unfold slB; rw [if_neg (by omega), if_neg (by omega), if_neg (by omega), if_neg (by omega), if_neg (by omega), if_neg (by omega), if_neg (by omega)]; exact h3
  · unfold slB; rw [if_neg (by omega), if_neg (by omega), if_neg (by omega), if_neg (by omega), if_neg (by omega), if_neg (by omega), if_neg (by omega)]; exact h4
  · unfold slB; rw [if_neg (by omega), if_neg (by omega), if_neg (by omega), if_neg (by omega), if_neg (by omega), if_neg (by omega), if_neg (by omega)]; exact h5
  · unfold slB; rw [if_neg (by omega), if_neg (by omega), if_neg (by omega), if_neg (by omega), if_neg (by omega), if_neg (by omega), if_neg (by omega)]; exact h6
  · have e4 : slB B p 4 = B 4 := by unfold slB; rw [if_neg (by omega), if_neg (by omega), if_neg (by omega), if_neg (by omega), if_neg (by omega), if_neg (by omega), if_neg (by omega)]
    rw [e4]
    intro i hi
    have a1 : slB B p (5 + i) = B (5 + i) := by unfold slB; rw [if_neg (by omega), if_neg (by omega), if_neg (by omega), if_neg (by omega), if_neg (by omega), if_neg (by omega), if_neg (by omega)]
    have a2 : slB B p (11 + i) = B (11 + i) := by unfold slB; rw [if_neg (by omega), if_neg (by omega), if_neg (by omega), if_neg (by omega), if_neg (by omega), if_neg (by omega), if_neg (by omega)]
    rw [a1, a2]; exact h7 i hi
  · unfold slB; rw [if_neg (by omega), if_neg (by omega), if_neg (by omega), if_neg (by omega), if_neg (by omega), if_neg (by omega), if_neg (by omega)]; exact h8
  · have e17 : slB B p 17 = B 17 := by unfold slB; rw [if_neg (by omega), if_neg (by omega), if_neg (by omega), if_neg (by omega), if_neg (by omega), if_neg (by omega), if_neg (by omega)]
    rw [e17]
    intro i hi
    have a1 : slB B p (18 + i) = B (18 + i) := by unfold slB; rw [if_neg (by omega), if_neg (by omega), if_neg (by omega), if_neg (by omega), if_neg (by omega), if_neg (by omega), if_neg (by omega)]
    have a2 : slB B p (34 + i) = B (34 + i) := by unfold slB; rw [if_neg (by omega), if_neg (by omega), if_neg (by omega), if_neg (by omega), if_neg (by omega), if_neg (by omega), if_neg (by omega)]
    have a3 : slB B p (50 + i) = B (50 + i) := by unfold slB; rw [if_neg (by omega), if_neg (by omega), if_neg (by omega), if_neg (by omega), if_neg (by omega), if_neg (by omega), if_neg (by omega)]
    rw [a1, a2, a3]; exact h9 i hi
  · unfold slB; rw [if_neg (by omega), if_neg (by omega), if_neg (by omega), if_neg (by omega), if_neg (by omega), if_pos rfl]; omega
  · unfold slB; rw [if_neg (by omega), if_neg (by omega), if_neg (by omega), if_neg (by omega), if_neg (by omega), if_neg (by omega), if_pos rfl]; omega
  · intro i hi
    obtain ⟨g1, g2, g3, g4⟩ := h12 i hi
    simp only [slB]
    refine ⟨?_, ?_, ?_, ?_⟩
    · repeat' split
      all_goals omega
    · repeat' split
      all_goals omega
    · repeat' split
      all_goals omega
    · repeat' split
      all_goals omega
theorem slB_st {B : Nat → Nat} {p k : Nat} (hp : p < 16) (h0 : k ≠ 0) (h1 : k < 66 ∨ k = 132) : slB B p k = B k := by
  unfold slB
  rw [if_neg (by omega), if_neg (by omega), if_neg (by omega), if_neg (by omega), if_neg (by omega), if_neg (by omega), if_neg (by omega)]
theorem RP_sl {G : Gg} {S S' : Sg} {h : Nat} {B : Nat → Nat} {p c : Nat} (hR : RP G S h B) (hB : BP1 B c) (hp : p < B 17) (e1 : gi S' (h + 1) = gi S (h + 1)) (e2 : gi S' (h + 2) = gi S (h + 2)) (eq : ∀ q, 75 ≤ q → gi S' q = gi S q) (ep : gp S' = gp S) (s1 : RPs S' h (slB B p)) (s2 : RPp S' h (slB B p)) : RP G S' h (slB B p) := by
  obtain ⟨-, r2, -, r4, r5⟩ := hR
  have h4 := hB.2.2.2.2.2.2.1
  have h8 := hB.2.2.2.2.2.2.2.2.1
  have hp16 : p < 16 := by omega
  refine ⟨s1, fun i hi => ?_, s2, fun i hi => ?_, fun j hj => ?_⟩
  · rw [slB_st hp16 (by omega) (by omega)] at hi
    rw [e1, e2, slB_st hp16 (by omega) (by omega), slB_st hp16 (by omega) (by omega)]
    exact r2 i hi
  · rw [slB_st hp16 (by omega) (by omega)] at hi
    obtain ⟨q, a1, a2, a3, a4⟩ := r4 i hi
    refine ⟨q, a1, a2, by rw [ep]; exact a3, ?_⟩
    unfold PtyOK
    rw [slB_st hp16 (by omega) (by omega), slB_st hp16 (by omega) (by omega), slB_st hp16 (by omega) (by omega), eq q a1]
    exact a4
  · rw [ep]; exact r5 j hj
