/-! THE GRAPH: roles 0 .. 64 the class's cells as its constructor makes them, 65 .. 74 the reference's, 75 on the parties. -/
def K0 : List Nat := [9, 16, 12, 12, 12, 12, 12, 12, 12, 12, 12, 12, 5, 11, 0, 17, 13, 13, 13, 13, 13, 13, 13, 13, 13, 12, 12, 12, 13, 13, 7, 12, 15, 4, 12, 12, 12, 12, 12, 12, 14, 4, 12, 12, 12, 12, 12, 12, 14, 4, 12, 12, 12, 12, 12, 12, 14, 4, 12, 12, 12, 12, 12, 12, 14, 10, 13, 12, 12, 12, 12, 12, 13, 13, 12]
def Z0 : List Nat := [0, 8, 40, 40, 40, 40, 40, 40, 40, 40, 8, 8, 0, 400, 0, 9, 649, 649, 649, 649, 649, 649, 649, 649, 649, 6, 6, 6, 649, 649, 0, 16, 2, 0, 6, 6, 16, 16, 16, 16, 16, 0, 6, 6, 16, 16, 16, 16, 16, 0, 6, 6, 16, 16, 16, 16, 16, 0, 6, 6, 16, 16, 16, 16, 16, 0, 560, 320, 8, 8, 40, 400, 1000, 1000, 16]
def lk0 : List (Nat × Nat × Nat) := [(0, 0, 1), (0, 1, 10), (0, 2, 11), (0, 3, 12), (0, 4, 14), (0, 5, 30), (0, 6, 32), (1, 0, 2), (1, 1, 3), (1, 2, 4), (1, 3, 5), (1, 4, 6), (1, 5, 7), (1, 6, 8), (1, 7, 9), (12, 0, 13), (14, 0, 15), (15, 0, 16), (15, 1, 17), (15, 2, 18), (15, 3, 19), (15, 4, 20), (15, 5, 21), (15, 6, 22), (15, 7, 23), (15, 8, 24), (14, 1, 25), (14, 2, 26), (14, 3, 27), (30, 0, 31), (32, 0, 49), (32, 1, 57), (33, 9, 34), (33, 10, 35), (33, 11, 36), (33, 12, 37), (33, 13, 38), (33, 14, 39), (33, 15, 40), (41, 9, 42), (41, 10, 43), (41, 11, 44), (41, 12, 45), (41, 13, 46), (41, 14, 47), (41, 15, 48), (49, 9, 50), (49, 10, 51), (49, 11, 52), (49, 12, 53), (49, 13, 54), (49, 14, 55), (49, 15, 56), (57, 9, 58), (57, 10, 59), (57, 11, 60), (57, 12, 61), (57, 13, 62), (57, 14, 63), (57, 15, 64), (65, 0, 66), (65, 1, 67), (65, 2, 68), (65, 3, 69), (65, 5, 70), (65, 6, 71), (65, 15, 72), (65, 16, 73), (65, 18, 74)]
def GrG (G : Gg) : Prop := 75 ≤ gN G ∧ (∀ k, k < 75 → gK G k = K0.getD k 0) ∧ (∀ k, k < 75 → gZ G k = Z0.getD k 0) ∧ ∀ k, 75 ≤ k → k < gN G → gK G k = 1 ∨ gK G k = 2 ∨ gK G k = 3 ∨ gK G k = 6 ∨ gK G k = 8
def GrP (G : Gg) (S : Sg) : Prop := ∀ q ∈ lk0, gp S q.1 q.2.1 = some (gA G q.2.2)
theorem g_lt {G : Gg} (h : GrG G) {k : Nat} (hk : k < 75) : k < gN G := Nat.lt_of_lt_of_le hk h.1
theorem g_kd {G : Gg} (h : GrG G) {k c : Nat} (hk : k < 75) (e : K0.getD k 0 = c) : gK G k = c := (h.2.1 k hk).trans e
theorem g_z {G : Gg} (h : GrG G) {k c : Nat} (hk : k < 75) (e : Z0.getD k 0 = c) : gZ G k = c := (h.2.2.1 k hk).trans e
theorem g_ix {G : Gg} (h : GrG G) {k c : Nat} {i : Int32} (hk : k < 75) (e : Z0.getD k 0 = c) (hi : vp_in i c) : vp_in i (gZ G k) := by rw [g_z h hk e]; exact hi
abbrev PassR (h : Nat) : Prop := h = 33 ∨ h = 41 ∨ h = 49 ∨ h = 57
theorem p_lt {G : Gg} (hG : GrG G) {h i : Nat} (hh : PassR h) (hi : i < 8) : h + i < gN G := by have := hG.1; omega
theorem p_kd {G : Gg} (hG : GrG G) {h : Nat} (hh : PassR h) : gK G h = 4 := by
  rcases hh with rfl | rfl | rfl | rfl <;> exact g_kd hG (by decide) rfl
theorem p_kdA {G : Gg} (hG : GrG G) {h : Nat} (hh : PassR h) (i : Nat) (h1 : 0 < i) (h7 : i < 7) : gK G (h + i) = 12 := by
  rcases hh with rfl | rfl | rfl | rfl <;> (rcases (show i = 1 ∨ i = 2 ∨ i = 3 ∨ i = 4 ∨ i = 5 ∨ i = 6 by omega) with rfl | rfl | rfl | rfl | rfl | rfl <;> exact g_kd hG (by decide) rfl)
theorem p_kdT {G : Gg} (hG : GrG G) {h : Nat} (hh : PassR h) : gK G (h + 7) = 14 := by
  rcases hh with rfl | rfl | rfl | rfl <;> exact g_kd hG (by decide) rfl
theorem p_z6 {G : Gg} (hG : GrG G) {h : Nat} (hh : PassR h) (i : Nat) (h1 : 0 < i) (h7 : i < 3) : gZ G (h + i) = 6 := by
  rcases hh with rfl | rfl | rfl | rfl <;> (rcases (show i = 1 ∨ i = 2 by omega) with rfl | rfl <;> exact g_z hG (by decide) rfl)
theorem p_z16 {G : Gg} (hG : GrG G) {h : Nat} (hh : PassR h) (i : Nat) (h1 : 2 < i) (h7 : i < 8) : gZ G (h + i) = 16 := by
  rcases hh with rfl | rfl | rfl | rfl <;> (rcases (show i = 3 ∨ i = 4 ∨ i = 5 ∨ i = 6 ∨ i = 7 by omega) with rfl | rfl | rfl | rfl | rfl <;> exact g_z hG (by decide) rfl)
theorem p_lk {G : Gg} {S : Sg} (hP : GrP G S) {h : Nat} (hh : PassR h) (i : Nat) (h7 : i < 7) : gp S h (9 + i) = some (gA G (h + (1 + i))) := by
  rcases hh with rfl | rfl | rfl | rfl <;> (rcases (show i = 0 ∨ i = 1 ∨ i = 2 ∨ i = 3 ∨ i = 4 ∨ i = 5 ∨ i = 6 by omega) with rfl | rfl | rfl | rfl | rfl | rfl | rfl <;> exact hP (_, _, _) (by decide))
theorem t_lt (a b : Int32) : a < b ↔ a.toInt < b.toInt := Int32.lt_iff_toInt_lt
theorem t_le (a b : Int32) : a ≤ b ↔ a.toInt ≤ b.toInt := Int32.le_iff_toInt_le
theorem t_eq (a b : Int32) : a = b ↔ a.toInt = b.toInt := ⟨fun h => by rw [h], fun h => Int32.toInt_inj.mp h⟩
theorem l_lt (a b : Int64) : a < b ↔ a.toInt < b.toInt := Int64.lt_iff_toInt_lt
theorem l_le (a b : Int64) : a ≤ b ↔ a.toInt ≤ b.toInt := Int64.le_iff_toInt_le
theorem l_eq (a b : Int64) : a = b ↔ a.toInt = b.toInt := ⟨fun h => by rw [h], fun h => Int64.toInt_inj.mp h⟩
theorem t_rng (a : Int32) : -2147483648 ≤ a.toInt ∧ a.toInt < 2147483648 := by
  have h1 := Int32.le_toInt a; have h2 := Int32.toInt_lt a; omega
theorem t_in {i : Int32} {n : Nat} (h0 : 0 ≤ i.toInt) (h1 : i.toInt < n) : vp_in i n := vp_in_iff.mpr ⟨h0, h1⟩
theorem rw_lt {G : Gg} (hG : GrG G) {r : Nat} (hr : r < 8) : 2 + r < gN G := by have := hG.1; omega
theorem rw_kd {G : Gg} (hG : GrG G) {r : Nat} (hr : r < 8) : gK G (2 + r) = 12 := by
  rcases (show r = 0 ∨ r = 1 ∨ r = 2 ∨ r = 3 ∨ r = 4 ∨ r = 5 ∨ r = 6 ∨ r = 7 by omega) with rfl | rfl | rfl | rfl | rfl | rfl | rfl | rfl <;> exact g_kd hG (by decide) rfl
theorem rw_z {G : Gg} (hG : GrG G) {r : Nat} (hr : r < 8) : gZ G (2 + r) = 40 := by
  rcases (show r = 0 ∨ r = 1 ∨ r = 2 ∨ r = 3 ∨ r = 4 ∨ r = 5 ∨ r = 6 ∨ r = 7 by omega) with rfl | rfl | rfl | rfl | rfl | rfl | rfl | rfl <;> exact g_z hG (by decide) rfl
theorem rw_lk {G : Gg} {S : Sg} (hP : GrP G S) {r : Nat} (hr : r < 8) : gp S 1 r = some (gA G (2 + r)) := by
  rcases (show r = 0 ∨ r = 1 ∨ r = 2 ∨ r = 3 ∨ r = 4 ∨ r = 5 ∨ r = 6 ∨ r = 7 by omega) with rfl | rfl | rfl | rfl | rfl | rfl | rfl | rfl <;> exact hP (_, _, _) (by decide)
theorem wf_kd {G : Gg} (hG : GrG G) {r : Nat} (hr : r < 9) : gK G (16 + r) = 13 := by
  rcases (show r = 0 ∨ r = 1 ∨ r = 2 ∨ r = 3 ∨ r = 4 ∨ r = 5 ∨ r = 6 ∨ r = 7 ∨ r = 8 by omega) with rfl | rfl | rfl | rfl | rfl | rfl | rfl | rfl | rfl <;> exact g_kd hG (by decide) rfl
theorem wf_z {G : Gg} (hG : GrG G) {r : Nat} (hr : r < 9) : gZ G (16 + r) = 649 := by
  rcases (show r = 0 ∨ r = 1 ∨ r = 2 ∨ r = 3 ∨ r = 4 ∨ r = 5 ∨ r = 6 ∨ r = 7 ∨ r = 8 by omega) with rfl | rfl | rfl | rfl | rfl | rfl | rfl | rfl | rfl <;> exact g_z hG (by decide) rfl
theorem wf_lt {G : Gg} (hG : GrG G) {r : Nat} (hr : r < 9) : 16 + r < gN G := by have := hG.1; omega
theorem wf_lk {G : Gg} {S : Sg} (hP : GrP G S) {r : Nat} (hr : r < 9) : gp S 15 r = some (gA G (16 + r)) := by
  rcases (show r = 0 ∨ r = 1 ∨ r = 2 ∨ r = 3 ∨ r = 4 ∨ r = 5 ∨ r = 6 ∨ r = 7 ∨ r = 8 by omega) with rfl | rfl | rfl | rfl | rfl | rfl | rfl | rfl | rfl <;> exact hP (_, _, _) (by decide)
theorem lc_cases (x y : Int64) : (x.toInt < y.toInt ∧ lg_cmp x y = -1) ∨ (x.toInt = y.toInt ∧ lg_cmp x y = 0) ∨ (y.toInt < x.toInt ∧ lg_cmp x y = 1) := by
  unfold lg_cmp
  simp only [gt_iff_lt, l_lt, l_eq]
  split
  · exact Or.inr (Or.inr ⟨by assumption, rfl⟩)
  · split
    · exact Or.inr (Or.inl ⟨by assumption, rfl⟩)
    · exact Or.inl ⟨by omega, rfl⟩
theorem lc_lt (x y : Int64) : lg_cmp x y < 0 ↔ x.toInt < y.toInt := by
  rcases lc_cases x y with ⟨h, e⟩ | ⟨h, e⟩ | ⟨h, e⟩ <;> rw [e] <;> simp <;> omega
theorem lc_ge (x y : Int64) : 0 ≤ lg_cmp x y ↔ y.toInt ≤ x.toInt := by
  rcases lc_cases x y with ⟨h, e⟩ | ⟨h, e⟩ | ⟨h, e⟩ <;> rw [e] <;> simp <;> omega
theorem lc_gt (x y : Int64) : 0 < lg_cmp x y ↔ y.toInt < x.toInt := by
  rcases lc_cases x y with ⟨h, e⟩ | ⟨h, e⟩ | ⟨h, e⟩ <;> rw [e] <;> simp <;> omega
theorem lc_le (x y : Int64) : lg_cmp x y ≤ 0 ↔ x.toInt ≤ y.toInt := by
  rcases lc_cases x y with ⟨h, e⟩ | ⟨h, e⟩ | ⟨h, e⟩ <;> rw [e] <;> simp <;> omega
theorem lc_eq (x y : Int64) : lg_cmp x y = 0 ↔ x.toInt = y.toInt := by
  rcases lc_cases x y with ⟨h, e⟩ | ⟨h, e⟩ | ⟨h, e⟩ <;> rw [e] <;> simp <;> omega
theorem lc_ne (x y : Int64) : lg_cmp x y = 0 ↔ x.toInt = y.toInt := lc_eq x y
theorem n_nat {x : Int32} (h : 0 ≤ x.toInt) : (x.toNatClampNeg : Int) = x.toInt := by
  obtain ⟨j, hj, e⟩ := nI_of (x := x) (by rw [t_lt]; simpa using h)
  rw [e, nI_clamp hj, nI_toInt hj]
theorem n_nI {x : Int32} (h : 0 ≤ x.toInt) : x = nI x.toNatClampNeg := by
  obtain ⟨j, hj, e⟩ := nI_of (x := x) (by rw [t_lt]; simpa using h)
  rw [e, nI_clamp hj]
theorem t_sub {x y : Int32} (h1 : -2147483648 ≤ x.toInt - y.toInt) (h2 : x.toInt - y.toInt < 2147483648) : (x - y).toInt = x.toInt - y.toInt := by
  rw [Int32.toInt_sub]; exact Int.bmod_eq_of_le (by simpa using h1) (by simpa using h2)
theorem t_add {x y : Int32} (h1 : -2147483648 ≤ x.toInt + y.toInt) (h2 : x.toInt + y.toInt < 2147483648) : (x + y).toInt = x.toInt + y.toInt := by
  rw [Int32.toInt_add]; exact Int.bmod_eq_of_le (by simpa using h1) (by simpa using h2)
theorem l_add {x y : Int64} (h1 : -9223372036854775808 ≤ x.toInt + y.toInt) (h2 : x.toInt + y.toInt < 9223372036854775808) : (x + y).toInt = x.toInt + y.toInt := by
  rw [Int64.toInt_add]; exact Int.bmod_eq_of_le (by simpa using h1) (by simpa using h2)
/-! the rows of a run, and the class's -/
def RowsX (S : Sg) (it : Nat → Nat → Int32) (la le : Nat → Int32) : Prop := ∀ r, r < 8 → gi S 10 r = la r ∧ gi S 11 r = le r ∧ ∀ j, j < 40 → gi S (2 + r) j = it r j
def LeOK (le : Nat → Int32) : Prop := ∀ r, r < 8 → (le r).toInt = -1 ∨ (0 ≤ (le r).toInt ∧ (le r).toInt ≤ 40)
/-- nothing changed but at the roles of P -/
def Ch (P : Nat → Prop) (S S' : Sg) : Prop := gp S' = gp S ∧ ∀ k, ¬ P k → gi S' k = gi S k ∧ gj S' k = gj S k
theorem Ch.rf {P : Nat → Prop} {S : Sg} : Ch P S S := ⟨rfl, fun _ _ => ⟨rfl, rfl⟩⟩
theorem Ch.tr {P : Nat → Prop} {S T U : Sg} (h : Ch P S T) (h2 : Ch P T U) : Ch P S U := ⟨h2.1.trans h.1, fun k hk => ⟨(h2.2 k hk).1.trans (h.2 k hk).1, (h2.2 k hk).2.trans (h.2 k hk).2⟩⟩
theorem Ch.ri {P : Nat → Prop} {S T : Sg} {k : Nat} {r : Nat → Int32} (h : Ch P S T) (hk : P k) : Ch P S (ri T k r) := ⟨h.1, fun j hj => ⟨(up_n _ _ (fun e : j = k => hj (by rw [e]; exact hk))).trans (h.2 j hj).1, (h.2 j hj).2⟩⟩
theorem Ch.rj {P : Nat → Prop} {S T : Sg} {k : Nat} {r : Nat → Int64} (h : Ch P S T) (hk : P k) : Ch P S (rj T k r) := ⟨h.1, fun j hj => ⟨(h.2 j hj).1, (up_n _ _ (fun e : j = k => hj (by rw [e]; exact hk))).trans (h.2 j hj).2⟩⟩
def fos (z i n : Int32) : Int32 := if z.toInt = -1 then 1 else if 0 ≤ i.toInt ∧ 0 ≤ n.toInt ∧ i.toInt + n.toInt ≤ z.toInt then 0 else 2
def lowB (l v : Int32) : Int32 := if l.toInt = 0 then v.toInt8.toInt32 else if l.toInt = 1 then v.toInt16.toInt32 else v
def BADL : Int64 := -9000000000000000001
def STATEL : Int64 := -9000000000000000002
def FULLL : Int64 := -9000000000000000003
def FND (k : Int32) : Int64 := -9000000000000000010 - k.toInt64
def fRow (it : Nat → Nat → Int32) (la le : Nat → Int32) (st r l n : Int32) : Int64 × (Nat → Nat → Int32) × (Nat → Int32) × (Nat → Int32) × Int32 :=
  if (0 ≤ r.toInt ∧ r.toInt < 8) ∧ (0 ≤ l.toInt ∧ l.toInt ≤ 2) ∧ n.toInt ≤ 40 then
    if n.toInt < 0 then (FND 4, it, la, le, 4) else (n.toInt64, va_up it r.toNatClampNeg (fun _ => 0), va_up la r.toNatClampNeg l, va_up le r.toNatClampNeg n, 0)
  else (BADL, it, la, le, st)
def fSet (it : Nat → Nat → Int32) (la le : Nat → Int32) (st r i v : Int32) : Int64 × (Nat → Nat → Int32) × Int32 :=
  if 0 ≤ r.toInt ∧ r.toInt < 8 then
    if fos (le r.toNatClampNeg) i 1 = 0 then ((lowB (la r.toNatClampNeg) v).toInt64, va_up it r.toNatClampNeg (va_up (it r.toNatClampNeg) i.toNatClampNeg (lowB (la r.toNatClampNeg) v)), 0) else (FND (fos (le r.toNatClampNeg) i 1), it, fos (le r.toNatClampNeg) i 1)
  else (BADL, it, st)
def fCopy (it : Nat → Nat → Int32) (la le : Nat → Int32) (st a i b j n : Int32) : Int64 × (Nat → Nat → Int32) × Int32 :=
  if (0 ≤ a.toInt ∧ a.toInt < 8) ∧ (0 ≤ b.toInt ∧ b.toInt < 8) then
    if (le a.toNatClampNeg).toInt = -1 ∨ (le b.toNatClampNeg).toInt = -1 then (FND 1, it, 1)
    else if ¬ la a.toNatClampNeg = la b.toNatClampNeg then (FND 5, it, 5)
    else if 0 ≤ n.toInt ∧ (0 ≤ i.toInt ∧ i.toInt + n.toInt ≤ (le a.toNatClampNeg).toInt) ∧ (0 ≤ j.toInt ∧ j.toInt + n.toInt ≤ (le b.toNatClampNeg).toInt) then
      (n.toInt64, va_up it b.toNatClampNeg (va_cpy (it a.toNatClampNeg) (it b.toNatClampNeg) i.toNatClampNeg j.toNatClampNeg n.toNatClampNeg), 0)
    else (FND 2, it, 2)
  else (BADL, it, st)
def fDrop (le : Nat → Int32) (st r : Int32) : Int64 × (Nat → Int32) × Int32 :=
  if 0 ≤ r.toInt ∧ r.toInt < 8 then
    if (le r.toNatClampNeg).toInt = -1 then (FND 1, le, 1) else ((le r.toNatClampNeg).toInt64, va_up le r.toNatClampNeg (-1), 0)
  else (BADL, le, st)
