/-! the tape: T its bytes (0 .. 255), as the class and as the reference hold them -/
def sb (n : Nat) : Int32 := (nI n).toInt8.toInt32
theorem nar_b (x : Int32) : vp_nar .byte x.toInt8.toInt32 = x.toInt8.toInt32 := by
  show ((x.toInt8.toInt32).toInt8).toInt32 = _
  rw [Int8.toInt8_toInt32]
theorem and255 (y : Int64) : 0 ≤ (y &&& 255).toInt ∧ (y &&& 255).toInt ≤ 255 := by
  have h1 : (y &&& 255).toBitVec.toNat ≤ 255 := by
    rw [Int64.toBitVec_and, BitVec.toNat_and]
    exact Nat.and_le_right
  have h2 : (y &&& 255).toInt = ((y &&& 255).toBitVec.toNat : Int) := by
    show (y &&& 255).toBitVec.toInt = _
    rw [BitVec.toInt_eq_toNat_of_lt]
    omega
  omega
theorem l_nat {z : Int64} (h0 : 0 ≤ z.toInt) (h1 : z.toInt < 2147483648) : z = lN z.toInt.toNat := by
  apply Int64.toInt_inj.mp
  rw [lN_int (by omega)]; omega
def byt (v : Int64) (k : Nat) : Nat := ((v >>> (Int32.toInt64 (nI (8 * k)) &&& 63)) &&& 255).toInt.toNat
theorem byt_le (v : Int64) (k : Nat) : byt v k ≤ 255 := by
  have := and255 (v >>> (Int32.toInt64 (nI (8 * k)) &&& 63))
  unfold byt; omega
theorem byt_m (v : Int64) (k : Nat) : ((v >>> (Int32.toInt64 (nI (8 * k)) &&& 63)) &&& 255).toInt32 = nI (byt v k) := by
  have h := and255 (v >>> (Int32.toInt64 (nI (8 * k)) &&& 63))
  unfold byt
  conv => lhs; rw [l_nat (z := (v >>> (Int32.toInt64 (nI (8 * k)) &&& 63)) &&& 255) (by omega) (by omega)]
  exact lN_i _
theorem trunc8 (y : Int64) : y.toInt32.toInt8 = (y &&& 255).toInt32.toInt8 := by
  apply Int8.toBitVec_inj.mp
  show (y.toBitVec.signExtend 32).signExtend 8 = ((y.toBitVec &&& 255#64).signExtend 32).signExtend 8
  ext i hi
  have h8 : i < 8 := hi
  simp [BitVec.getElem_signExtend, show i < 32 by omega, show i < 64 by omega]
  rcases (show i = 0 ∨ i = 1 ∨ i = 2 ∨ i = 3 ∨ i = 4 ∨ i = 5 ∨ i = 6 ∨ i = 7 by omega) with rfl | rfl | rfl | rfl | rfl | rfl | rfl | rfl <;> simp
theorem byt_x (v : Int64) (k : Nat) : (v >>> (Int32.toInt64 (nI (8 * k)) &&& 63)).toInt32.toInt8.toInt32 = sb (byt v k) := by
  rw [trunc8, byt_m]; rfl
/-- blanks, classes of bytes, runs -/
def blk (b : Nat) : Bool := b == 32 || b == 10
def cls (b : Nat) : Nat := if 97 ≤ b ∧ b ≤ 122 then 1 else if 48 ≤ b ∧ b ≤ 57 then 2 else if b = 59 then 3 else 4
def skp (T : Nat → Nat) : Nat → Nat → Nat
  | 0, a => a
  | f + 1, a => if blk (T a) then skp T f (a + 1) else a
def SK (T : Nat → Nat) (ts a : Nat) : Nat := skp T (ts - a) a
def rnp (T : Nat → Nat) (k : Nat) : Nat → Nat → Nat
  | 0, a => a
  | f + 1, a => if cls (T a) = k then rnp T k f (a + 1) else a
def RN (T : Nat → Nat) (ts k a : Nat) : Nat := rnp T k (ts - a) a
theorem SK_b {T : Nat → Nat} {ts a : Nat} (h : a < ts) (hb : blk (T a) = true) : SK T ts a = SK T ts (a + 1) := by
  unfold SK
  rw [show ts - a = (ts - (a + 1)) + 1 by omega]
  show (if blk (T a) = true then _ else _) = _
  rw [if_pos hb]
theorem SK_e {T : Nat → Nat} {ts a : Nat} (h : ts ≤ a ∨ blk (T a) = false) : SK T ts a = a := by
  unfold SK
  by_cases e : ts ≤ a
  · rw [show ts - a = 0 by omega]; rfl
  · rw [show ts - a = (ts - (a + 1)) + 1 by omega]
    show (if blk (T a) = true then _ else _) = _
    rw [if_neg (by rw [h.resolve_left e]; decide)]
theorem RN_b {T : Nat → Nat} {ts k a : Nat} (h : a < ts) (hb : cls (T a) = k) : RN T ts k a = RN T ts k (a + 1) := by
  unfold RN
  rw [show ts - a = (ts - (a + 1)) + 1 by omega]
  show (if cls (T a) = k then _ else _) = _
  rw [if_pos hb]
theorem RN_e {T : Nat → Nat} {ts k a : Nat} (h : ts ≤ a ∨ cls (T a) ≠ k) : RN T ts k a = a := by
  unfold RN
  by_cases e : ts ≤ a
  · rw [show ts - a = 0 by omega]; rfl
  · rw [show ts - a = (ts - (a + 1)) + 1 by omega]
    show (if cls (T a) = k then _ else _) = _
    rw [if_neg (h.resolve_left e)]
theorem skp_le (T : Nat → Nat) : ∀ f a, a ≤ skp T f a ∧ skp T f a ≤ a + f
  | 0, a => ⟨Nat.le_refl _, Nat.le_refl _⟩
  | f + 1, a => by
    have := skp_le T f (a + 1)
    unfold skp
    split <;> omega
theorem rnp_le (T : Nat → Nat) (k : Nat) : ∀ f a, a ≤ rnp T k f a ∧ rnp T k f a ≤ a + f
  | 0, a => ⟨Nat.le_refl _, Nat.le_refl _⟩
  | f + 1, a => by
    have := rnp_le T k f (a + 1)
    unfold rnp
    split <;> omega
theorem SK_le {T : Nat → Nat} {ts a : Nat} (h : a ≤ ts) : a ≤ SK T ts a ∧ SK T ts a ≤ ts := by have := skp_le T (ts - a) a; unfold SK; omega
theorem RN_le {T : Nat → Nat} {ts k a : Nat} (h : a ≤ ts) : a ≤ RN T ts k a ∧ RN T ts k a ≤ ts := by have := rnp_le T k (ts - a) a; unfold RN; omega
/-- the number of figures from s on -/
def nv (T : Nat → Nat) (s : Nat) : Nat → Nat
  | 0 => 0
  | n + 1 => 10 * nv T s n + (T (s + n) - 48)
/-- the token from a on: its sort, where it begins, where it ends, its number -/
def tS (T : Nat → Nat) (ts a : Nat) : Nat := if SK T ts a < ts then (if cls (T (SK T ts a)) = 2 ∧ 3 < RN T ts 2 (SK T ts a) - SK T ts a then 4 else cls (T (SK T ts a))) else 0
def tE (T : Nat → Nat) (ts a : Nat) : Nat := if SK T ts a < ts then (if cls (T (SK T ts a)) = 1 then RN T ts 1 (SK T ts a) else if cls (T (SK T ts a)) = 2 then RN T ts 2 (SK T ts a) else if cls (T (SK T ts a)) = 3 then SK T ts a + 1 else SK T ts a) else SK T ts a
def tV (T : Nat → Nat) (ts a : Nat) : Nat := nv T (SK T ts a) (tE T ts a - SK T ts a)
def fdT (T : Nat → Nat) (ts : Nat) (v : Int64) (n : Nat) : Nat → Nat := fun i => if ts ≤ i ∧ i < ts + n then byt v (n - 1 - (i - ts)) else T i
/-- feed -/
def fFeed (T : Nat → Nat) (ts : Nat) (v : Int64) (n : Int32) : Int64 × (Nat → Nat) × Nat :=
  if 1 ≤ n.toInt ∧ n.toInt ≤ 8 then (if ts + n.toNatClampNeg ≤ 400 then (lN (ts + n.toNatClampNeg), fdT T ts v n.toNatClampNeg, ts + n.toNatClampNeg) else (FULLL, T, ts)) else (BADL, T, ts)
