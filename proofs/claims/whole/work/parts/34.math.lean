/-! what is foretold, in numbers: Q is (how many chances, wood each burns, wood each leaves, odds of each) -/
def sT (n : Nat) (g : Nat → Nat) : Nat := match n with
  | 0 => 0
  | n + 1 => sT n g + g n
theorem sT_cg {g h : Nat → Nat} : ∀ n, (∀ i, i < n → g i = h i) → sT n g = sT n h
  | 0, _ => rfl
  | n + 1, e => by show sT n g + g n = sT n h + h n; rw [sT_cg n (fun i hi => e i (by omega)), e n (by omega)]
theorem sT_le {g h : Nat → Nat} : ∀ n, (∀ i, i < n → g i ≤ h i) → sT n g ≤ sT n h
  | 0, _ => Nat.le_refl _
  | n + 1, e => by
    have a := sT_le n (fun i hi => e i (by omega))
    have b := e n (by omega)
    show sT n g + g n ≤ sT n h + h n
    omega
theorem sT_mul {g : Nat → Nat} (v : Nat) : ∀ n, sT n (fun i => g i * v) = sT n g * v
  | 0 => (Nat.zero_mul _).symm
  | n + 1 => by show sT n (fun i => g i * v) + g n * v = (sT n g + g n) * v; rw [sT_mul v n, Nat.add_mul]
theorem sT_mulL {g : Nat → Nat} (v : Nat) : ∀ n, sT n (fun i => v * g i) = v * sT n g
  | 0 => (Nat.mul_zero _).symm
  | n + 1 => by show sT n (fun i => v * g i) + v * g n = v * (sT n g + g n); rw [sT_mulL v n, Nat.mul_add]
theorem sT_add {g h : Nat → Nat} : ∀ n, sT n (fun i => g i + h i) = sT n g + sT n h
  | 0 => rfl
  | n + 1 => by show sT n (fun i => g i + h i) + (g n + h n) = (sT n g + g n) + (sT n h + h n); rw [sT_add n]; omega
theorem sT_0 : ∀ n, sT n (fun _ => 0) = 0
  | 0 => rfl
  | n + 1 => by show sT n (fun _ => 0) + 0 = 0; rw [sT_0 n]
theorem sT_one {g : Nat → Nat} {n i : Nat} (hi : i < n) : g i ≤ sT n g := by
  induction n with
  | zero => omega
  | succ n ih =>
    show g i ≤ sT n g + g n
    by_cases h : i = n
    · subst h; omega
    · have := ih (by omega); omega
theorem sT_up {r g : Nat → Nat} {x t : Nat} : ∀ n, t < n → sT n (fun v => (if v = t then r v + x else r v) * g v) = sT n (fun v => r v * g v) + x * g t
  | 0, h => absurd h (Nat.not_lt_zero _)
  | n + 1, h => by
    show sT n (fun v => (if v = t then r v + x else r v) * g v) + (if n = t then r n + x else r n) * g n = sT n (fun v => r v * g v) + r n * g n + x * g t
    by_cases e : n = t
    · subst e
      rw [if_pos rfl, sT_cg (h := fun v => r v * g v) n (fun i hi => by rw [if_neg (by omega)]), Nat.add_mul]; omega
    · rw [if_neg e, sT_up n (by omega)]; omega
abbrev Qt : Type := Nat × (Nat → Nat) × (Nat → Nat) × (Nat → Nat)
def qn (Q : Qt) : Nat := Q.1
def qb (Q : Qt) : Nat → Nat := Q.2.1
def ql (Q : Qt) : Nat → Nat := Q.2.2.1
def qo (Q : Qt) : Nat → Nat := Q.2.2.2
def prt (Q : Qt) (C : Nat) (g : Nat → Nat) (k w : Nat) : Nat := sT k (fun i => if qb Q i ≤ w then qo Q i * g (min C (w - qb Q i + ql Q i)) else 0)
def stp (Q : Qt) (C : Nat) (g : Nat → Nat) (w : Nat) : Nat := prt Q C g (qn Q) w
def NN (Q : Qt) (C : Nat) (f : Nat → Nat) : Nat → Nat → Nat
  | 0 => f
  | k + 1 => stp Q C (NN Q C f k)
def tot (Q : Qt) : Nat := sT (qn Q) (qo Q)
theorem NN_shift (Q : Qt) (C : Nat) (f : Nat → Nat) : ∀ k, NN Q C (stp Q C f) k = NN Q C f (k + 1)
  | 0 => rfl
  | k + 1 => by show stp Q C (NN Q C (stp Q C f) k) = stp Q C (NN Q C f (k + 1)); rw [NN_shift Q C f k]
theorem NN_add (Q : Qt) (C : Nat) (f : Nat → Nat) (j : Nat) : ∀ k, NN Q C (NN Q C f j) k = NN Q C f (j + k)
  | 0 => rfl
  | k + 1 => by show stp Q C (NN Q C (NN Q C f j) k) = stp Q C (NN Q C f (j + k)); rw [NN_add Q C f j k]
theorem NN_le {Q : Qt} {C v : Nat} {f : Nat → Nat} (h : ∀ w, f w ≤ v) : ∀ k w, NN Q C f k w ≤ tot Q ^ k * v
  | 0, w => by rw [Nat.pow_zero, Nat.one_mul]; exact h w
  | k + 1, w => by
    have ih := NN_le h k (Q := Q) (C := C)
    show sT (qn Q) _ ≤ _
    refine Nat.le_trans (sT_le (h := fun i => qo Q i * (tot Q ^ k * v)) (qn Q) (fun i _ => ?_)) ?_
    · split
      · exact Nat.mul_le_mul_left _ (ih _)
      · exact Nat.zero_le _
    · rw [sT_mul]; show tot Q * _ ≤ _; rw [Nat.pow_succ, Nat.mul_comm (tot Q ^ k) (tot Q), Nat.mul_assoc]; exact Nat.le_refl _
theorem NN_sat {Q : Qt} {C mo s v : Nat} {f : Nat → Nat} (hmo : ∀ i, i < qn Q → qb Q i ≤ mo) (h : ∀ w, s ≤ w → f w = v) : ∀ k, s + k * mo ≤ C → ∀ w, s + k * mo ≤ w → NN Q C f k w = tot Q ^ k * v
  | 0, _, w, hw => by rw [Nat.pow_zero, Nat.one_mul]; exact h w (by omega)
  | k + 1, hC, w, hw => by
    rw [Nat.add_mul, Nat.one_mul] at hC hw
    have ih := NN_sat hmo h k (by omega : s + k * mo ≤ C)
    show sT (qn Q) _ = _
    rw [sT_cg (h := fun i => qo Q i * (tot Q ^ k * v)) (qn Q) (fun i hi => by
      have hb := hmo i hi
      rw [if_pos (by omega), ih _ (by omega)])]
    rw [sT_mul]; show tot Q * _ = _; rw [Nat.pow_succ, Nat.mul_comm (tot Q ^ k) (tot Q), Nat.mul_assoc]
theorem NN_cap {Q : Qt} {C C' mo s v : Nat} {f f' : Nat → Nat} (hmo : ∀ i, i < qn Q → qb Q i ≤ mo) (h : ∀ w, s ≤ w → f w = v) (h' : ∀ w, s ≤ w → f' w = v) (hf : ∀ w, f (min C w) = f' (min C' w)) : ∀ k, s + k * mo ≤ C → s + k * mo ≤ C' → ∀ w, NN Q C f k (min C w) = NN Q C' f' k (min C' w)
  | 0, _, _, w => hf w
  | k + 1, hC, hC', w => by
    by_cases hw : s + (k + 1) * mo ≤ w
    · rw [NN_sat hmo h (k + 1) hC _ (by omega), NN_sat hmo h' (k + 1) hC' _ (by omega)]
    · rw [Nat.min_eq_right (by omega), Nat.min_eq_right (by omega)]
      rw [Nat.add_mul, Nat.one_mul] at hC hC'
      show sT (qn Q) _ = sT (qn Q) _
      exact sT_cg _ (fun i _ => by rw [NN_cap hmo h h' hf k (by omega) (by omega)])
/-- forward, by what it is worth behind -/
def dot (n : Nat) (r g : Nat → Nat) : Nat := sT n (fun v => r v * g v)
theorem dot_up {r g : Nat → Nat} {x t n : Nat} (h : t < n) : dot n (fun v => if v = t then r v + x else r v) g = dot n r g + x * g t := sT_up n h
theorem dot_prt {Q : Qt} {C n : Nat} {W g : Nat → Nat} (k : Nat) : dot n W (prt Q C g (k + 1)) = dot n W (prt Q C g k) + sT n (fun u => if qb Q k ≤ u then W u * (qo Q k * g (min C (u - qb Q k + ql Q k))) else 0) := by
  unfold dot
  rw [← sT_add]
  refine sT_cg n (fun u _ => ?_)
  show W u * (prt Q C g k u + (if qb Q k ≤ u then qo Q k * g (min C (u - qb Q k + ql Q k)) else 0)) = _
  rw [Nat.mul_add]
  congr 1
  split
  · rfl
  · exact Nat.mul_zero _
/-- the chances of a pass, by a law -/
def Qc (B : Nat → Nat) (law : Nat) : Qt := (B 4, fun i => B (5 + i) * B 1, fun i => if B (5 + i) = 0 then 0 else dueN (B 3) (B 1) law (B (5 + i)), fun i => B (11 + i))
def moT (n : Nat) (b : Nat → Nat) : Nat := match n with
  | 0 => 0
  | n + 1 => max (moT n b) (b n)
theorem moT_ge {b : Nat → Nat} : ∀ n i, i < n → b i ≤ moT n b
  | 0, i, h => absurd h (Nat.not_lt_zero _)
  | n + 1, i, h => by
    show b i ≤ max (moT n b) (b n)
    by_cases e : i = n
    · subst e; omega
    · have := moT_ge n i (by omega) (b := b); omega
theorem moT_le {b : Nat → Nat} {v : Nat} : ∀ n, (∀ i, i < n → b i ≤ v) → moT n b ≤ v
  | 0, _ => Nat.zero_le _
  | n + 1, h => by
    have a := moT_le n (fun i hi => h i (by omega))
    have c := h n (by omega)
    show max (moT n b) (b n) ≤ v
    omega
def enF (B : Nat → Nat) (law n : Nat) : Nat := n * moT (B 4) (qb (Qc B law))
theorem Qc_b {B : Nat → Nat} {c law : Nat} (h : BP1 B c) (hl : law ≤ 2) : ∀ i, i < B 4 → qb (Qc B law) i ≤ 81 ∧ ql (Qc B law) i ≤ 729 ∧ 1 ≤ qo (Qc B law) i ∧ qo (Qc B law) i ≤ 9 ∧ B (5 + i) ≤ 9 := by
  obtain ⟨h0, h1, h2, h3, h4, h5, h6, h7, -⟩ := h
  intro i hi
  obtain h7i := h7 i hi
  refine ⟨?_, ?_, ?_, ?_, ?_⟩
  · exact Nat.mul_le_mul (by omega : B (5 + i) ≤ 9) h3
  · show (if B (5 + i) = 0 then 0 else dueN (B 3) (B 1) law (B (5 + i))) ≤ 729
    split
    · omega
    · exact due_le h5 h3 (by omega)
  · show 1 ≤ B (11 + i); omega
  · show B (11 + i) ≤ 9; omega
  · omega
theorem enF_le {B : Nat → Nat} {c law n : Nat} (h : BP1 B c) (hl : law ≤ 2) (hn : n ≤ 8) : moT (B 4) (qb (Qc B law)) ≤ 81 ∧ enF B law n ≤ 648 := by
  have a : moT (B 4) (qb (Qc B law)) ≤ 81 := moT_le _ (fun i hi => (Qc_b h hl i hi).1)
  refine ⟨a, ?_⟩
  exact Nat.mul_le_mul hn a
theorem tot_le {B : Nat → Nat} {c law : Nat} (h : BP1 B c) (hl : law ≤ 2) : tot (Qc B law) ≤ 54 := by
  have h6 := h.2.2.2.2.2.2.1
  refine Nat.le_trans (sT_le (h := fun _ => 9) (B 4) (fun i hi => (Qc_b h hl i hi).2.2.2.1)) ?_
  have e : ∀ n, sT n (fun _ => 9) = n * 9 := fun n => by
    induction n with
    | zero => rfl
    | succ n ih => show sT n (fun _ => 9) + 9 = (n + 1) * 9; rw [ih]; omega
  rw [e]; omega
theorem tot_ge {B : Nat → Nat} {c law : Nat} (h : BP1 B c) (hl : law ≤ 2) (h4 : 1 ≤ B 4) : 1 ≤ tot (Qc B law) := by
  have a := sT_one (g := qo (Qc B law)) (n := B 4) (i := 0) (by omega)
  have b := (Qc_b h hl 0 (by omega)).2.2.1
  exact Nat.le_trans b a
theorem pow_54 {t k : Nat} (ht : t ≤ 54) (hk : k ≤ 8) : t ^ k ≤ 72301961339136 := by
  refine Nat.le_trans (Nat.pow_le_pow_left ht k) ?_
  exact Nat.le_trans (Nat.pow_le_pow_right (by omega) hk) (by decide)
/-- ways without frost from wood w, n nights by a law -/
def fW (B : Nat → Nat) (law n w : Nat) : Nat := NN (Qc B law) 999 (fun _ => 1) n w
theorem fW_le {B : Nat → Nat} {c law n w : Nat} (h : BP1 B c) (hl : law ≤ 2) (hn : n ≤ 8) : fW B law n w ≤ tot (Qc B law) ^ n ∧ tot (Qc B law) ^ n ≤ 72301961339136 := by
  refine ⟨?_, pow_54 (tot_le h hl) hn⟩
  have := NN_le (Q := Qc B law) (C := 999) (v := 1) (f := fun _ => 1) (fun _ => Nat.le_refl _) n w
  rw [Nat.mul_one] at this; exact this
/-- a smaller cap counts the same -/
theorem fW_cap {B : Nat → Nat} {c law n k w : Nat} (h : BP1 B c) (hl : law ≤ 2) (hn : n ≤ 8) (hk : k ≤ n) : NN (Qc B law) (enF B law n) (fun _ => 1) k (min (enF B law n) w) = NN (Qc B law) 999 (fun _ => 1) k (min 999 w) := by
  have a := enF_le h hl hn
  have b : k * moT (B 4) (qb (Qc B law)) ≤ enF B law n := Nat.mul_le_mul_right _ hk
  exact NN_cap (Q := Qc B law) (mo := moT (B 4) (qb (Qc B law))) (s := 0) (v := 1) (fun i hi => moT_ge _ i hi) (fun _ _ => rfl) (fun _ _ => rfl) (fun _ => rfl) k (by omega) (by omega) w
/-- with x logs cut ahead of night j + 1 -/
def fCut (B : Nat → Nat) (law n x j w : Nat) : Nat := NN (Qc B law) 999 (fun v => NN (Qc B law) 999 (fun _ => 1) (n - j) (min 999 (v + x))) j w
theorem fCut_le {B : Nat → Nat} {c law n x j w : Nat} (h : BP1 B c) (hl : law ≤ 2) (hn : n ≤ 8) (hj : j ≤ n) : fCut B law n x j w ≤ 72301961339136 := by
  have a := NN_le (Q := Qc B law) (C := 999) (v := tot (Qc B law) ^ (n - j)) (f := fun v => NN (Qc B law) 999 (fun _ => 1) (n - j) (min 999 (v + x))) (fun v => by
    have := NN_le (Q := Qc B law) (C := 999) (v := 1) (f := fun _ => 1) (fun _ => Nat.le_refl _) (n - j) (min 999 (v + x))
    rw [Nat.mul_one] at this; exact this) j w
  rw [← Nat.pow_add, show j + (n - j) = n by omega] at a
  exact Nat.le_trans a (pow_54 (tot_le h hl) hn)
theorem fCut_cap {B : Nat → Nat} {c law n x j w : Nat} (h : BP1 B c) (hl : law ≤ 2) (hn : n ≤ 8) (hj : j ≤ n) (hw : w ≤ 999) : NN (Qc B law) (enF B law n) (fun v => NN (Qc B law) (enF B law n) (fun _ => 1) (n - j) (min (enF B law n) (v + x))) j (min (enF B law n) w) = fCut B law n x j w := by
  have a := enF_le h hl hn
  have e : (n - j) * moT (B 4) (qb (Qc B law)) + j * moT (B 4) (qb (Qc B law)) = enF B law n := by rw [← Nat.add_mul, show n - j + j = n by omega]; rfl
  have b : (n - j) * moT (B 4) (qb (Qc B law)) ≤ enF B law n := by omega
  have sat : ∀ C, enF B law n ≤ C → ∀ v, (n - j) * moT (B 4) (qb (Qc B law)) ≤ v → NN (Qc B law) C (fun _ => 1) (n - j) (min C (v + x)) = tot (Qc B law) ^ (n - j) := fun C hC v hv => by
    have := NN_sat (Q := Qc B law) (C := C) (mo := moT (B 4) (qb (Qc B law))) (s := 0) (v := 1) (f := fun _ => 1) (fun i hi => moT_ge _ i hi) (fun _ _ => rfl) (n - j) (by omega) (min C (v + x)) (by omega)
    rw [Nat.mul_one] at this; exact this
  have := NN_cap (Q := Qc B law) (C := enF B law n) (C' := 999) (mo := moT (B 4) (qb (Qc B law))) (s := (n - j) * moT (B 4) (qb (Qc B law))) (v := tot (Qc B law) ^ (n - j)) (f := fun v => NN (Qc B law) (enF B law n) (fun _ => 1) (n - j) (min (enF B law n) (v + x))) (f' := fun v => NN (Qc B law) 999 (fun _ => 1) (n - j) (min 999 (v + x))) (fun i hi => moT_ge _ i hi) (sat _ (Nat.le_refl _)) (sat _ (by omega)) (fun v => by
    show NN _ _ _ _ (min _ (min _ v + x)) = NN _ _ _ _ (min _ (min _ v + x))
    rw [show min (enF B law n) (min (enF B law n) v + x) = min (enF B law n) (v + x) by omega, show min 999 (min 999 v + x) = min 999 (v + x) by omega]
    exact fW_cap h hl hn (by omega)) j (by omega) (by omega) w
  rw [this, show min 999 w = w by omega]; rfl
/-- the first of the most -/
def amx (f : Nat → Nat) : Nat → Nat × Int
  | 0 => (0, -1)
  | k + 1 => if (amx f k).2 < (f k : Int) then (k, (f k : Int)) else amx f k
/-- the first that is enough -/
def fst (f : Nat → Bool) : Nat → Option Nat
  | 0 => none
  | k + 1 => match fst f k with
    | some i => some i
    | none => if f k then some k else none
/-! long numbers -/
theorem lN_int {n : Nat} (h : n < 9223372036854775808) : (lN n).toInt = (n : Int) := lg_ofNat_toInt (by omega)
theorem lN_div {a b : Nat} (ha : a < 9223372036854775808) (hb : b < 9223372036854775808) : lN a / lN b = lN (a / b) := by
  apply Int64.toInt_inj.mp
  have hq : a / b ≤ a := Nat.div_le_self a b
  rw [Int64.toInt_div, lN_int ha, lN_int hb, lN_int (by omega), Int.tdiv_eq_ediv_of_nonneg (by omega)]
  rw [Int.bmod_eq_of_le (by have : (0:Int) ≤ (a:Int) / (b:Int) := Int.ediv_nonneg (by omega) (by omega); omega) (by have : ((a / b : Nat) : Int) = (a:Int) / (b:Int) := Int.natCast_ediv a b; omega)]
  exact (Int.natCast_ediv a b).symm
theorem lN_rem {a b : Nat} (ha : a < 9223372036854775808) (hb : b < 9223372036854775808) : lN a - lN a / lN b * lN b = lN (a % b) := by
  have h : a / b * b ≤ a := Nat.div_mul_le_self a b
  rw [lN_div ha hb, lN_mul, lN_sub h]
  congr 1
  have := Nat.div_add_mod a b
  rw [Nat.mul_comm] at this
  omega
