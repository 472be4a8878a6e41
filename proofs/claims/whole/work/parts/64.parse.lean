/-! reading a pass, over positions of the tape -/
def PB {α β : Type} (x : PRt α) (f : α → Nat → PRt β) : PRt β := match x with
  | .inl (v, e) => f v e
  | .inr e => .inr e
theorem PB_l {α β : Type} {x : PRt α} {f : α → Nat → PRt β} {v : α} {e : Nat} (h : x = .inl (v, e)) : PB x f = f v e := by rw [h]; rfl
theorem PB_r {α β : Type} {x : PRt α} {f : α → Nat → PRt β} {p : Nat × Nat} (h : x = .inr p) : PB x f = .inr p := by rw [h]; rfl
def hutB (w b l n : Nat) : Nat → Nat := fun k => if k = 0 then w else if k = 1 then b else if k = 2 then l else if k = 3 then n else if k = 132 then 1 else 0
def chB (B : Nat → Nat) (s o : Nat) : Nat → Nat := fun k => if k = 5 + B 4 then s else if k = 11 + B 4 then o else if k = 4 then B 4 + 1 else B k
def ptB (B : Nat → Nat) (m w t : Nat) : Nat → Nat := fun k => if k = 18 + B 17 then m else if k = 34 + B 17 then w else if k = 50 + B 17 then t else if k = 17 then B 17 + 1 else B k
def pHut (T : Nat → Nat) (ts a : Nat) : PRt (Nat → Nat) := if isW T ts a 0 then
    PB (pNum T ts 0 500 (tE T ts a)) fun w a1 => PB (pNum T ts 1 9 a1) fun b a2 => PB (pLaw T ts a2) fun l a3 => PB (pNum T ts 0 9 a3) fun n a4 => PB (pSign T ts a4) fun _ a5 => .inl (hutB w b l n, a5)
  else .inr (1, SK T ts a)
def agn (B : Nat → Nat) (v : Nat) : Nat → Bool
  | 0 => false
  | k + 1 => agn B v k || B (5 + k) == v
theorem agn_i {B : Nat → Nat} {v : Nat} : ∀ k, agn B v k = true ↔ ∃ i, i < k ∧ B (5 + i) = v
  | 0 => ⟨fun h => (by cases h), fun ⟨i, h, _⟩ => absurd h (Nat.not_lt_zero _)⟩
  | k + 1 => by
    show (agn B v k || B (5 + k) == v) = true ↔ _
    rw [Bool.or_eq_true, agn_i k, beq_iff_eq]
    constructor
    · rintro (⟨i, h, e⟩ | e)
      · exact ⟨i, by omega, e⟩
      · exact ⟨k, by omega, e⟩
    · rintro ⟨i, h, e⟩
      by_cases z : i = k
      · subst z; exact Or.inr e
      · exact Or.inl ⟨i, by omega, e⟩
/-- a chance; its word's token is the one from a -/
def pChance (T : Nat → Nat) (ts : Nat) (B : Nat → Nat) (a : Nat) : PRt (Nat → Nat) := if B 4 = 6 then .inr (3, SK T ts a)
  else if tS T ts (tE T ts a) = 2 ∧ agn B (tV T ts (tE T ts a)) (B 4) = true then .inr (2, SK T ts (tE T ts a))
  else PB (pNum T ts 0 9 (tE T ts a)) fun s a2 => PB (pNum T ts 1 9 a2) fun o a3 => PB (pSign T ts a3) fun _ a4 => .inl (chB B s o, a4)
def pChs (T : Nat → Nat) (ts : Nat) : Nat → (Nat → Nat) → Nat → PRt (Nat → Nat)
  | 0, B, a => .inl (B, a)
  | f + 1, B, a => if isW T ts a 1 then PB (pChance T ts B a) (fun B' a' => pChs T ts f B' a') else .inl (B, a)
def pParty (T : Nat → Nat) (ts : Nat) (B : Nat → Nat) (a : Nat) : PRt (Nat → Nat) := if B 17 = 16 then .inr (3, SK T ts a)
  else PB (pNum T ts 1 9 (tE T ts a)) fun m a2 => PB (pWay T ts a2) fun w a3 => PB (pNum T ts 0 99 a3) fun t a4 => PB (pSign T ts a4) fun _ a5 => .inl (ptB B m w t, a5)
def pPts (T : Nat → Nat) (ts : Nat) : Nat → (Nat → Nat) → Nat → PRt (Nat → Nat)
  | 0, B, a => .inl (B, a)
  | f + 1, B, a => if isW T ts a 2 then PB (pParty T ts B a) (fun B' a' => pPts T ts f B' a') else .inl (B, a)
def pPass (T : Nat → Nat) (ts : Nat) : PRt (Nat → Nat) := PB (pHut T ts 0) fun B a => PB (pChs T ts 7 B a) fun B a => PB (pPts T ts 17 B a) fun B a => PB (pEnd T ts a) fun _ a => .inl (B, a)
/-- pass: the answer, the pass, the latest fault -/
def fPass (T : Nat → Nat) (ts : Nat) (B : Nat → Nat) (lf : Nat) : Int64 × (Nat → Nat) × Nat := match pPass T ts with
  | .inl (B', _) => (lN (B' 17), B', lf)
  | .inr (f, p) => (-9000000000000000100 - lN p, B, f)
theorem pNum_b {T : Nat → Nat} {ts lo hi a v e : Nat} (h : pNum T ts lo hi a = .inl (v, e)) : lo ≤ v ∧ v ≤ hi := by
  unfold pNum at h
  by_cases h1 : tS T ts a = 2
  · rw [if_pos h1] at h
    by_cases h2 : lo ≤ tV T ts a ∧ tV T ts a ≤ hi
    · rw [if_pos h2] at h; cases h; exact h2
    · rw [if_neg h2] at h; cases h
  · rw [if_neg h1] at h; cases h
theorem pLaw_b {T : Nat → Nat} {ts a v e : Nat} (h : pLaw T ts a = .inl (v, e)) : v ≤ 2 := by
  unfold pLaw at h
  split at h
  · cases h; omega
  · split at h
    · cases h; omega
    · split at h
      · cases h; omega
      · cases h
theorem pWay_b {T : Nat → Nat} {ts a v e : Nat} (h : pWay T ts a = .inl (v, e)) : v ≤ 3 := by
  unfold pWay at h
  split at h
  · cases h; omega
  · split at h
    · cases h; omega
    · split at h
      · cases h; omega
      · split at h
        · cases h; omega
        · cases h
