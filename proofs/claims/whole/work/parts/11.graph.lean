/-! THE GRAPH: roles 0 .. 64 the class's cells as its constructor makes them, 65 .. 74 the reference's, 75 on the parties. -/
def K0 : List Nat := [9, 16, 12, 12, 12, 12, 12, 12, 12, 12, 12, 12, 5, 11, 0, 17, 13, 13, 13, 13, 13, 13, 13, 13, 13, 12, 12, 12, 13, 13, 7, 12, 15, 4, 12, 12, 12, 12, 12, 12, 14, 4, 12, 12, 12, 12, 12, 12, 14, 4, 12, 12, 12, 12, 12, 12, 14, 4, 12, 12, 12, 12, 12, 12, 14, 10, 13, 12, 12, 12, 12, 12, 13, 13, 12]
def Z0 : List Nat := [0, 8, 40, 40, 40, 40, 40, 40, 40, 40, 8, 8, 0, 400, 0, 9, 649, 649, 649, 649, 649, 649, 649, 649, 649, 6, 6, 6, 649, 649, 0, 16, 2, 0, 6, 6, 16, 16, 16, 16, 16, 0, 6, 6, 16, 16, 16, 16, 16, 0, 6, 6, 16, 16, 16, 16, 16, 0, 6, 6, 16, 16, 16, 16, 16, 0, 560, 320, 8, 8, 40, 400, 1000, 1000, 16]
def lk0 : List (Nat × Nat × Nat) := [(0, 0, 1), (0, 1, 10), (0, 2, 11), (0, 3, 12), (0, 4, 14), (0, 5, 30), (0, 6, 32), (1, 0, 2), (1, 1, 3), (1, 2, 4), (1, 3, 5), (1, 4, 6), (1, 5, 7), (1, 6, 8), (1, 7, 9), (12, 0, 13), (14, 0, 15), (15, 0, 16), (15, 1, 17), (15, 2, 18), (15, 3, 19), (15, 4, 20), (15, 5, 21), (15, 6, 22), (15, 7, 23), (15, 8, 24), (14, 1, 25), (14, 2, 26), (14, 3, 27), (30, 0, 31), (32, 0, 49), (32, 1, 57), (33, 9, 34), (33, 10, 35), (33, 11, 36), (33, 12, 37), (33, 13, 38), (33, 14, 39), (33, 15, 40), (41, 9, 42), (41, 10, 43), (41, 11, 44), (41, 12, 45), (41, 13, 46), (41, 14, 47), (41, 15, 48), (49, 9, 50), (49, 10, 51), (49, 11, 52), (49, 12, 53), (49, 13, 54), (49, 14, 55), (49, 15, 56), (57, 9, 58), (57, 10, 59), (57, 11, 60), (57, 12, 61), (57, 13, 62), (57, 14, 63), (57, 15, 64), (65, 0, 66), (65, 1, 67), (65, 2, 68), (65, 3, 69), (65, 5, 70), (65, 6, 71), (65, 15, 72), (65, 16, 73), (65, 18, 74)]
def GrG (G : Gg) : Prop := 75 ≤ gN G ∧ (∀ k, k < 75 → gK G k = K0.getD k 0) ∧ (∀ k, k < 75 → gZ G k = Z0.getD k 0) ∧ ∀ k, 75 ≤ k → k < gN G → gK G k = 1 ∨ gK G k = 2 ∨ gK G k = 3 ∨ gK G k = 6 ∨ gK G k = 8
def GrP (G : Gg) (S : Sg) : Prop := ∀ q ∈ lk0, gp S q.1 q.2.1 = some (gA G q.2.2)
theorem g_lt {G : Gg} (h : GrG G) {k : Nat} (hk : k < 75) : k < gN G := Nat.lt_of_lt_of_le hk h.1
theorem g_kd {G : Gg} (h : GrG G) {k c : Nat} (hk : k < 75) (e : K0.getD k 0 = c) : gK G k = c := (h.2.1 k hk).trans e
theorem g_z {G : Gg} (h : GrG G) {k c : Nat} (hk : k < 75) (e : Z0.getD k 0 = c) : gZ G k = c := (h.2.2.1 k hk).trans e
theorem g_ix {G : Gg} (h : GrG G) {k c : Nat} {i : Int32} (hk : k < 75) (e : Z0.getD k 0 = c) (hi : vp_in i c) : vp_in i (gZ G k) := by rw [g_z h hk e]; exact hi
abbrev PassR (h : Nat) : Prop := h = 33 ∨ h = 41 ∨ h = 49 ∨ h = 57
theorem p_lt {G : Gg} (hG : GrG G) {h i : Nat} (hh : PassR h) (hi : i < 8) : h + i < gN G := by have := hG.1; omega
theorem p_kd {G : Gg} (hG : GrG G) {h : Nat} (hh : PassR h) : gK G h = 4 := by
  rcases hh with rfl | rfl | rfl | rfl <;> exact g_kd hG (by decide) rfl
theorem p_kdA {G : Gg} (hG : GrG G) {h : Nat} (hh : PassR h) (i : Nat) (h1 : 0 < i) (h7 : i < 7) : gK G (h + i) = 12 := by
  rcases hh with rfl | rfl | rfl | rfl <;> (rcases (show i = 1 ∨ i = 2 ∨ i = 3 ∨ i = 4 ∨ i = 5 ∨ i = 6 by omega) with rfl | rfl | rfl | rfl | rfl | rfl <;> exact g_kd hG (by decide) rfl)
theorem p_kdT {G : Gg} (hG : GrG G) {h : Nat} (hh : PassR h) : gK G (h + 7) = 14 := by
  rcases hh with rfl | rfl | rfl | rfl <;> exact g_kd hG (by decide) rfl
theorem p_z6 {G : Gg} (hG : GrG G) {h : Nat} (hh : PassR h) (i : Nat) (h1 : 0 < i) (h7 : i < 3) : gZ G (h + i) = 6 := by
  rcases hh with rfl | rfl | rfl | rfl <;> (rcases (show i = 1 ∨ i = 2 by omega) with rfl | rfl <;> exact g_z hG (by decide) rfl)
theorem p_z16 {G : Gg} (hG : GrG G) {h : Nat} (hh : PassR h) (i : Nat) (h1 : 2 < i) (h7 : i < 8) : gZ G (h + i) = 16 := by
  rcases hh with rfl | rfl | rfl | rfl <;> (rcases (show i = 3 ∨ i = 4 ∨ i = 5 ∨ i = 6 ∨ i = 7 by omega) with rfl | rfl | rfl | rfl | rfl <;> exact g_z hG (by decide) rfl)
theorem p_lk {G : Gg} {S : Sg} (hP : GrP G S) {h : Nat} (hh : PassR h) (i : Nat) (h7 : i < 7) : gp S h (9 + i) = some (gA G (h + (1 + i))) := by
  rcases hh with rfl | rfl | rfl | rfl <;> (rcases (show i = 0 ∨ i = 1 ∨ i = 2 ∨ i = 3 ∨ i = 4 ∨ i = 5 ∨ i = 6 by omega) with rfl | rfl | rfl | rfl | rfl | rfl | rfl <;> exact hP (_, _, _) (by decide))
theorem t_lt (a b : Int32) : a < b ↔ a.toInt < b.toInt := Int32.lt_iff_toInt_lt
theorem t_le (a b : Int32) : a ≤ b ↔ a.toInt ≤ b.toInt := Int32.le_iff_toInt_le
theorem t_eq (a b : Int32) : a = b ↔ a.toInt = b.toInt := ⟨fun h => by rw [h], fun h => Int32.toInt_inj.mp h⟩
theorem l_lt (a b : Int64) : a < b ↔ a.toInt < b.toInt := Int64.lt_iff_toInt_lt
theorem l_le (a b : Int64) : a ≤ b ↔ a.toInt ≤ b.toInt := Int64.le_iff_toInt_le
theorem l_eq (a b : Int64) : a = b ↔ a.toInt = b.toInt := ⟨fun h => by rw [h], fun h => Int64.toInt_inj.mp h⟩
theorem t_rng (a : Int32) : -2147483648 ≤ a.toInt ∧ a.toInt < 2147483648 := by
  have h1 := Int32.le_toInt a; have h2 := Int32.toInt_lt a; omega
theorem t_in {i : Int32} {n : Nat} (h0 : 0 ≤ i.toInt) (h1 : i.toInt < n) : vp_in i n := vp_in_iff.mpr ⟨h0, h1⟩
