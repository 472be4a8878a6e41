/-! more rows by roles: reference stores, arraycopy; numbers; what a pass is -/
section RW2
variable {p : Program} {l : Launch} {e : Env} {R : Room} {s : State} {m : MethodId} {args : Array Value} {below : List Frame} {meth : Method} {c : Code} {H : Heap} {locs : List Loc} {cells slots : Nat} {Q : State → Prop}
variable {cc : ByteArray} {pc : Nat} {ls : Array Slot} {rest : List Value} {D : Dc} {A : Nat → Prop} {a : Nat} {G : Gg} {S : Sg}
theorem nw_cast {C T : String} {s : State} (h : va_Nw (.castable C T) s) : ∀ comp c0 : ClassId, s.vm.findClass T = some comp → s.vm.findClass C = some c0 → s.vm.assignable c0 comp = true := by
  intro comp c0 h1 h2
  obtain ⟨c', t', q1, q2, q3⟩ := Cond.castable_spec h
  cases q1.symm.trans h2
  cases q2.symm.trans h1
  exact q3
theorem r_any (hW : Wd D A s G S H locs) {k ci : Nat} {C : String} {T : u_T} {N : Nat} {fs : List Value} (hk : k < gN G) (hkd : gK G k = ci) (hc : vwCl[ci]? = some (C, T, N)) (hg : gE D.2.1 (gZ G k) ci (gi S k) (gj S k) (gp S k) = .inr (ci, fs)) (hcast : va_Nw (.castable C "WoodForTwo$Party") s) : va_Any "WoodForTwo$Party" s H (gA G k) :=
  va_rAny hW.1 hW.2.1 (q0 := k) (fs := fs) (by rw [wS_get hk, gC, hkd, hg]) hc (nw_cast hcast)
theorem r_anyP (hG1 : ∀ k, 75 ≤ k → k < gN G → gK G k = 1 ∨ gK G k = 2 ∨ gK G k = 3 ∨ gK G k = 6 ∨ gK G k = 8) (hW : Wd D A s G S H locs) {k : Nat} (h75 : 75 ≤ k) (hk : k < gN G) : va_Any "WoodForTwo$Party" s H (gA G k) := by
  have hN := hW.2.2.2.2.2.2.2.2.2.2.1
  rcases hG1 k h75 hk with h | h | h | h | h
  · exact r_any hW hk h (C := RX1) (T := TX1) (N := 3) rfl rfl (hN ("WoodForTwo$Half", "WoodForTwo$Party") (by decide))
  · exact r_any hW hk h (C := RX2) (T := TX2) (N := 3) rfl rfl (hN ("WoodForTwo$Keeper", "WoodForTwo$Party") (by decide))
  · exact r_any hW hk h (C := RX3) (T := TX3) (N := 3) rfl rfl (hN ("WoodForTwo$Lone", "WoodForTwo$Party") (by decide))
  · exact r_any hW hk h (C := RX7) (T := TX7) (N := 3) rfl rfl (hN ("WoodForTwo$Taker", "WoodForTwo$Party") (by decide))
  · exact r_any hW hk h (C := RX9) (T := TX9) (N := 3) rfl rfl (hN ("WoodForTwo$Weigher", "WoodForTwo$Party") (by decide))
/-- a party, or null, into a row of parties -/
theorem r_aast (hexec : p.tables.exec = Jvm.exec) (hb : c.code = cc) (hW : Wd D A s G S H locs) (k : Nat) (ha : gA G k = a) (hk : k < gN G) (hkd : gK G k = 14) {i : Int32} {x : Option Nat} (hx : ∀ v, x = some v → va_Any "WoodForTwo$Party" s H v) (hin : vp_in i (gZ G k)) (S' : Sg) (r : Nat → Option Nat) (e0 : gp S k = r) (e1 : gp S' k = va_up r i.toNatClampNeg x) (e2 : gi S' k = gi S k) (e3 : gj S' k = gj S k) (ho : Oth k S' S) (hdg : decode cc pc = .ok (.aastore, 1))
    (kk : ∀ (H1 : Heap) (locs1 : List Loc), Wd D A s G S' H1 locs1 → W p l e R s m args below meth c H1 locs1 cells slots Q (F0 m (pc + 1) ls rest)) : W p l e R s m args below meth c H locs cells slots Q (F0 m pc ls (va_rf x :: .int i :: .ref a :: rest)) := by
  subst ha
  subst e0
  have he : (wS D.2.1 G S)[k]? = some (gA G k, .inl (D.2.1 14, gZ G k, .inr (.inr (.inr (.inr (gp S k)))))) := by rw [wS_get hk, gC, hkd]; rfl
  cases x with
  | none => exact va_astqN hexec hb hW.1 hW.2.1 hW.2.2.1 hW.2.2.2.1 k 3 he rfl hin hdg fun H1 locs1 hP hD hS => kk H1 locs1 (Wd.put hW.1 hW.2.2.2.2 hk (by rw [gC, hkd, e1, e2, e3]; rfl) ho hP hD hS)
  | some v => exact va_astqM hexec hb hW.1 hW.2.1 hW.2.2.1 hW.2.2.2.1 k 3 he rfl (hx v rfl) hin hdg fun H1 locs1 hP hD hS => kk H1 locs1 (Wd.put hW.1 hW.2.2.2.2 hk (by rw [gC, hkd, e1, e2, e3]; rfl) ho hP hD hS)
/-- System.arraycopy of ints -/
theorem r_copyi (hexec : p.tables.exec = Jvm.exec) (hb : c.code = cc) (hml : c.maxLocals = ls.size) {own : String} {index : Nat} (hown : s.vm.findClass own = some m.cls) (hlink : (Cond.methodLink own index arraycopyName).before args s = true) (hnat : (Cond.native arraycopyName).before args s = true) (hstat : (Cond.static arraycopyName).before args s = true) (hini : (Cond.initialized "java/lang/System").before args s = true) (hW : Wd D A s G S H locs) (k0 k1 : Nat) {a0 : Nat} (ha0 : gA G k0 = a0) (ha : gA G k1 = a) (hk0 : k0 < gN G) (hk1 : k1 < gN G) (hkd0 : gK G k0 = 12) (hkd1 : gK G k1 = 12) {sp dp n : Int32} (h1 : ¬ sp < 0) (h2 : ¬ dp < 0) (h3 : ¬ n < 0) (h4 : sp.toNatClampNeg + n.toNatClampNeg ≤ gZ G k0) (h5 : dp.toNatClampNeg + n.toNatClampNeg ≤ gZ G k1) (hframes : 1 ≤ R.frames) (hlocals : (rest.map fun v => v.category).sum + (nativeFrameWords "java/lang/System" "arraycopy" 5 + 11) ≤ R.locals)
    (S' : Sg) (r q : Nat → Int32) (e0 : gi S k1 = r) (eq : gi S k0 = q) (e1 : gi S' k1 = va_cpy q r sp.toNatClampNeg dp.toNatClampNeg n.toNatClampNeg) (e2 : gj S' k1 = gj S k1) (e3 : gp S' k1 = gp S k1) (ho : Oth k1 S' S) (hdg : decode cc pc = .ok (.invokestatic index, 3))
    (kk : ∀ (H1 : Heap) (locs1 : List Loc), Wd D A s G S' H1 locs1 → W p l e R s m args below meth c H1 locs1 cells slots Q (F0 m (pc + 3) ls rest)) : W p l e R s m args below meth c H locs cells slots Q (F0 m pc ls (.int n :: .int dp :: .ref a :: .int sp :: .ref a0 :: rest)) := by
  subst ha
  subst ha0
  subst e0
  subst eq
  exact va_copyi hexec hb hml hown hlink hnat hstat hini hW.1 hW.2.1 hW.2.2.1 hW.2.2.2.1 k0 k1 1 1 (c0 := D.2.1 12) (c1 := D.2.1 12) (n0 := gZ G k0) (n1 := gZ G k1) (f := gi S k0) (g := gi S k1) (ty := .int) (by rw [wS_get hk0, gC, hkd0]; rfl) (by rw [wS_get hk1, gC, hkd1]; rfl) rfl rfl rfl h1 h2 h3 h4 h5 (fun _ _ => rfl) hframes hlocals hdg fun H1 locs1 hP hD hS => kk H1 locs1 (Wd.put hW.1 hW.2.2.2.2 hk1 (by rw [gC, hkd1, e1, e2, e3]; rfl) ho hP hD hS)
theorem r_alen (hexec : p.tables.exec = Jvm.exec) (hb : c.code = cc) (hW : Wd D A s G S H locs) (k : Nat) (ha : gA G k = a) (hk : k < gN G) (kd t0 : Nat) (hkd : gK G k = kd) {ty : FieldType} (ht : (tyl D.2.1)[t0]? = some (D.2.1 kd, ty)) {x : vp_A} (hg : gE D.2.1 (gZ G k) kd (gi S k) (gj S k) (gp S k) = .inl (D.2.1 kd, x)) (hz : x.1 = gZ G k) (v : Int32) (hv : nI (gZ G k) = v) (hdg : decode cc pc = .ok (.arraylength, 1))
    (kk : W p l e R s m args below meth c H locs cells slots Q (F0 m (pc + 1) ls (.int v :: rest))) : W p l e R s m args below meth c H locs cells slots Q (F0 m pc ls (.ref a :: rest)) := by
  subst ha
  have he : (wS D.2.1 G S)[k]? = some (gA G k, .inl (D.2.1 kd, x)) := by rw [wS_get hk, gC, hkd, hg]
  exact va_alen hexec hb hW.1 hW.2.1 k t0 he ht (by rw [hz]; exact hv) hdg kk
theorem r_aret {post : Option Nat → Sg → Prop} {x : Option Nat} {rt : FieldType} (hexec : p.tables.exec = Jvm.exec) (hb : c.code = cc) (hr : meth.sig.returnType = some rt) (hrt : (∃ n, rt = .object n) ∨ ∃ t, rt = .array t) (hlocks : meth.locks = false) (hW : Wd D (AW G s.heap.size) s G S H locs) (hp : post x S) (hdg : decode cc pc = .ok (.areturn, 1)) :
    W p l e R s m args below meth c H locs 0 0 (MQ below (va_Qq post (PostW D G (AW G s.heap.size)) (AW G s.heap.size)) args s 0 0 (AW G s.heap.size)) (F0 m pc ls [va_rf x]) :=
  W.aret hexec hb hr hrt (va_rf_or x) (fun t ht hV => ⟨⟨x, S, rfl, hp, hW.post ht hV⟩, hW.2.2.2.1.F ht⟩) hW.2.2.2.1.2.2 hdg hlocks
end RW2
/-- the first n places hold v -/
def flR {α : Type} (r : Nat → α) (n : Nat) (v : α) : Nat → α := fun j => if j < n then v else r j
theorem flR_0 {α : Type} (r : Nat → α) (v : α) : flR r 0 v = r := by funext j; simp [flR]
theorem flR_s {α : Type} (r : Nat → α) (n : Nat) (v : α) : va_up (flR r n v) n v = flR r (n + 1) v := by
  funext j
  unfold va_up flR
  by_cases h : j = n
  · subst h; simp
  · by_cases h2 : j < n
    · rw [if_neg h, if_pos h2, if_pos (by omega)]
    · rw [if_neg h, if_neg h2, if_neg (by omega)]
/-! numbers -/
theorem n_0 : (0 : Int32) = nI 0 := by decide
theorem n_1 : (1 : Int32) = nI 1 := by decide
theorem n_clamp {n : Nat} (h : n < 2147483648) : (nI n).toNatClampNeg = n := nI_clamp h
theorem n_toInt {n : Nat} (h : n < 2147483648) : (nI n).toInt = n := nI_toInt h
theorem n_min {a b : Nat} (ha : a < 2147483648) (hb : b < 2147483648) : (if nI b < nI a then nI b else nI a) = nI (min a b) := by
  by_cases h : b < a
  · rw [if_pos (nI_lt h ha), Nat.min_eq_right (by omega)]
  · rw [if_neg (nI_nlt (by omega) hb), Nat.min_eq_left (by omega)]
theorem n_max {a b : Nat} (ha : a < 2147483648) (hb : b < 2147483648) : (if nI a < nI b then nI b else nI a) = nI (max a b) := by
  by_cases h : a < b
  · rw [if_pos (nI_lt h hb), Nat.max_eq_right (by omega)]
  · rw [if_neg (nI_nlt (by omega) ha), Nat.max_eq_left (by omega)]
theorem n_le {a b : Nat} (ha : a < 2147483648) (hb : b < 2147483648) : nI a ≤ nI b ↔ a ≤ b := nI_leI ha hb
theorem n_lt {a b : Nat} (ha : a < 2147483648) (hb : b < 2147483648) : nI a < nI b ↔ a < b := nI_ltI ha hb
theorem n_eq {a b : Nat} (ha : a < 2147483648) (hb : b < 2147483648) : nI a = nI b ↔ a = b := nI_eq ha hb
theorem n_add (a b : Nat) : nI a + nI b = nI (a + b) := nI_add a b
theorem n_mul (a b : Nat) : nI a * nI b = nI (a * b) := pk_mul a b
theorem n_sub {a b : Nat} (h : b ≤ a) : nI a - nI b = nI (a - b) := pk_sub h
theorem n_div {a d : Nat} (ha : a < 2147483648) (h0 : 0 < d) (hd : d < 2147483648) : nI a / nI d = nI (a / d) := pk_div ha h0 hd
theorem n_inI {n N : Nat} (h : n < N) (hN : N < 2147483648) : vp_in (nI n) N := vp_in_nI h hN
theorem n_of {x : Int32} (h : 0 ≤ x.toInt) : ∃ n : Nat, n < 2147483648 ∧ x = nI n ∧ x.toInt = n := by
  obtain ⟨j, hj, e⟩ := nI_of (x := x) (by rw [t_lt]; simpa using h)
  exact ⟨j, hj, e, by rw [e, nI_toInt hj]⟩
/-! what a pass is: B holds the numbers as the reference lays them -/
def dueN (t b law m : Nat) : Nat := if law = 0 then t * m * b else if law = 1 then t * b else t * b + (m - 1) * b / 2
def lvN (way toil due wood burn : Nat) : Nat := if way = 0 then due else if way = 1 then due / 2 else if way = 3 ∧ (toil * due ≤ 100 ∨ (toil * due ≤ 1000 ∧ wood < 2 * burn)) then due else 0
def kdF (way heads : Nat) : Nat := if way = 0 then (if heads = 1 then 3 else 2) else if way = 1 then 1 else if way = 2 then 6 else 8
def PtyOK (G : Gg) (S : Sg) (q : Nat) (B : Nat → Nat) (p : Nat) : Prop := gK G q = kdF (B (34 + p)) (B (18 + p)) ∧ gi S q 0 = nI p ∧ gi S q 1 = nI (B (18 + p)) ∧ gi S q 2 = nI (B (50 + p))
def TdOK (G : Gg) (S : Sg) (h : Nat) : Prop := ∀ j, j < 16 → gp S (h + 7) j = none ∨ ∃ q, 75 ≤ q ∧ q < gN G ∧ gp S (h + 7) j = some (gA G q)
def RPs (S : Sg) (h : Nat) (B : Nat → Nat) : Prop := gi S h 0 = nI (B 132) ∧ gi S h 1 = nI (B 0) ∧ gi S h 2 = nI (B 1) ∧ gi S h 3 = nI (B 2) ∧ gi S h 4 = nI (B 3) ∧ gi S h 5 = nI (B 4) ∧ gi S h 6 = nI (B 17) ∧ gi S h 7 = nI (B 130) ∧ gi S h 8 = nI (B 131)
def RPc (S : Sg) (h : Nat) (B : Nat → Nat) : Prop := ∀ i, i < B 4 → gi S (h + 1) i = nI (B (5 + i)) ∧ gi S (h + 2) i = nI (B (11 + i))
def RPp (S : Sg) (h : Nat) (B : Nat → Nat) : Prop := ∀ i, i < 16 → gi S (h + 3) i = nI (B (66 + i)) ∧ gi S (h + 4) i = nI (B (82 + i)) ∧ gi S (h + 5) i = nI (B (98 + i)) ∧ gi S (h + 6) i = nI (B (114 + i))
def RPt (G : Gg) (S : Sg) (h : Nat) (B : Nat → Nat) : Prop := ∀ i, i < B 17 → ∃ q, 75 ≤ q ∧ q < gN G ∧ gp S (h + 7) i = some (gA G q) ∧ PtyOK G S q B i
def RP (G : Gg) (S : Sg) (h : Nat) (B : Nat → Nat) : Prop := RPs S h B ∧ RPc S h B ∧ RPp S h B ∧ RPt G S h B ∧ TdOK G S h
def BP1 (B : Nat → Nat) (c : Nat) : Prop := B 132 = 1 ∧ B 0 ≤ 999 ∧ 1 ≤ B 1 ∧ B 1 ≤ 9 ∧ B 2 ≤ 2 ∧ B 3 ≤ 9 ∧ B 4 ≤ 6 ∧ (∀ i, i < B 4 → B (5 + i) ≤ 9 ∧ 1 ≤ B (11 + i) ∧ B (11 + i) ≤ 9) ∧ B 17 ≤ 16 ∧ (∀ i, i < B 17 → 1 ≤ B (18 + i) ∧ B (18 + i) ≤ 9 ∧ B (34 + i) ≤ 3 ∧ B (50 + i) ≤ 99) ∧ B 130 ≤ c ∧ B 131 ≤ 9 * c ∧ ∀ i, i < 16 → B (66 + i) ≤ c ∧ B (82 + i) ≤ 9 * c ∧ B (98 + i) ≤ 729 * c ∧ B (114 + i) ≤ 729 * c
def BP (B : Nat → Nat) (c : Nat) : Prop := (B 132 = 0 ∧ ∀ k, B k = 0) ∨ BP1 B c
section RW3
variable {p : Program} {l : Launch} {e : Env} {R : Room} {s : State} {m : MethodId} {args : Array Value} {below : List Frame} {meth : Method} {c : Code} {H : Heap} {locs : List Loc} {cells slots : Nat} {Q : State → Prop}
variable {cc : ByteArray} {pc : Nat} {ls : Array Slot} {rest : List Value} {D : Dc} {A : Nat → Prop} {a : Nat} {G : Gg} {S : Sg}
def KdP (G : Gg) (k : Nat) : Prop := gK G k = 1 ∨ gK G k = 2 ∨ gK G k = 3 ∨ gK G k = 6 ∨ gK G k = 8
/-- heads, toil of a party of any kind -/
theorem r_getP1 (hexec : p.tables.exec = Jvm.exec) (hb : c.code = cc) {own : String} {index : Nat} {Ts : List Cond} (hts : ∀ w ∈ Ts, w.before args s = true) (h1 : ∀ w ∈ wsX10, w ∈ Ts) (h2 : ∀ w ∈ wsX20, w ∈ Ts) (h3 : ∀ w ∈ wsX30, w ∈ Ts) (h7 : ∀ w ∈ wsX70, w ∈ Ts) (h9 : ∀ w ∈ wsX90, w ∈ Ts) (hown : s.vm.findClass own = some m.cls) (hW : Wd D A s G S H locs) (k : Nat) (ha : gA G k = a) (hk : k < gN G) (hkd : KdP G k) (hlink : (Cond.fieldLink own index "WoodForTwo$Party" "heads" "I").before args s = true) (x : Int32) (ex : gi S k 1 = x) (hdg : decode cc pc = .ok (.getfield index, 3))
    (kk : W p l e R s m args below meth c H locs cells slots Q (F0 m (pc + 3) ls (.int x :: rest))) : W p l e R s m args below meth c H locs cells slots Q (F0 m pc ls (.ref a :: rest)) := by
  rcases hkd with h | h | h | h | h
  · exact r_geti (ci := 1) (C := RX1) (T := TX1) (N := 3) hexec hb hts h1 hown hW rfl k 1 ha hk h (by decide) hlink (fun _ h => h) x ex rfl rfl hdg kk
  · exact r_geti (ci := 2) (C := RX2) (T := TX2) (N := 3) hexec hb hts h2 hown hW rfl k 1 ha hk h (by decide) hlink (fun _ h => h) x ex rfl rfl hdg kk
  · exact r_geti (ci := 3) (C := RX3) (T := TX3) (N := 3) hexec hb hts h3 hown hW rfl k 1 ha hk h (by decide) hlink (fun _ h => h) x ex rfl rfl hdg kk
  · exact r_geti (ci := 6) (C := RX7) (T := TX7) (N := 3) hexec hb hts h7 hown hW rfl k 1 ha hk h (by decide) hlink (fun _ h => h) x ex rfl rfl hdg kk
  · exact r_geti (ci := 8) (C := RX9) (T := TX9) (N := 3) hexec hb hts h9 hown hW rfl k 1 ha hk h (by decide) hlink (fun _ h => h) x ex rfl rfl hdg kk
theorem r_getP2 (hexec : p.tables.exec = Jvm.exec) (hb : c.code = cc) {own : String} {index : Nat} {Ts : List Cond} (hts : ∀ w ∈ Ts, w.before args s = true) (h1 : ∀ w ∈ wsX10, w ∈ Ts) (h2 : ∀ w ∈ wsX20, w ∈ Ts) (h3 : ∀ w ∈ wsX30, w ∈ Ts) (h7 : ∀ w ∈ wsX70, w ∈ Ts) (h9 : ∀ w ∈ wsX90, w ∈ Ts) (hown : s.vm.findClass own = some m.cls) (hW : Wd D A s G S H locs) (k : Nat) (ha : gA G k = a) (hk : k < gN G) (hkd : KdP G k) (hlink : (Cond.fieldLink own index "WoodForTwo$Party" "toil" "I").before args s = true) (x : Int32) (ex : gi S k 2 = x) (hdg : decode cc pc = .ok (.getfield index, 3))
    (kk : W p l e R s m args below meth c H locs cells slots Q (F0 m (pc + 3) ls (.int x :: rest))) : W p l e R s m args below meth c H locs cells slots Q (F0 m pc ls (.ref a :: rest)) := by
  rcases hkd with h | h | h | h | h
  · exact r_geti (ci := 1) (C := RX1) (T := TX1) (N := 3) hexec hb hts h1 hown hW rfl k 2 ha hk h (by decide) hlink (fun _ h => h) x ex rfl rfl hdg kk
  · exact r_geti (ci := 2) (C := RX2) (T := TX2) (N := 3) hexec hb hts h2 hown hW rfl k 2 ha hk h (by decide) hlink (fun _ h => h) x ex rfl rfl hdg kk
  · exact r_geti (ci := 3) (C := RX3) (T := TX3) (N := 3) hexec hb hts h3 hown hW rfl k 2 ha hk h (by decide) hlink (fun _ h => h) x ex rfl rfl hdg kk
  · exact r_geti (ci := 6) (C := RX7) (T := TX7) (N := 3) hexec hb hts h7 hown hW rfl k 2 ha hk h (by decide) hlink (fun _ h => h) x ex rfl rfl hdg kk
  · exact r_geti (ci := 8) (C := RX9) (T := TX9) (N := 3) hexec hb hts h9 hown hW rfl k 2 ha hk h (by decide) hlink (fun _ h => h) x ex rfl rfl hdg kk
end RW3
theorem kdF_P {G : Gg} {q w m : Nat} (h : gK G q = kdF w m) : KdP G q := by
  unfold KdP
  rw [h]
  unfold kdF
  split
  · split <;> simp
  · split
    · simp
    · split <;> simp
