/-! ROWS OF MY OWN: the whole world as one list by roles. G: how many cells, their addresses, kinds, lengths (changes only when a cell is made); S: what they hold (ints, longs, references). -/
abbrev Gg : Type := Nat × (Nat → Nat) × (Nat → Nat) × (Nat → Nat)
abbrev Sg : Type := (Nat → Nat → Int32) × (Nat → Nat → Int64) × (Nat → Nat → Option Nat)
def gN (G : Gg) : Nat := G.1
def gA (G : Gg) : Nat → Nat := G.2.1
def gK (G : Gg) : Nat → Nat := G.2.2.1
def gZ (G : Gg) : Nat → Nat := G.2.2.2
def gi (S : Sg) : Nat → Nat → Int32 := S.1
def gj (S : Sg) : Nat → Nat → Int64 := S.2.1
def gp (S : Sg) : Nat → Nat → Option Nat := S.2.2
def ri (S : Sg) (k : Nat) (r : Nat → Int32) : Sg := (va_up (gi S) k r, gj S, gp S)
def rj (S : Sg) (k : Nat) (r : Nat → Int64) : Sg := (gi S, va_up (gj S) k r, gp S)
def rp (S : Sg) (k : Nat) (r : Nat → Option Nat) : Sg := (gi S, gj S, va_up (gp S) k r)
theorem gi_ri (S : Sg) (k : Nat) (r : Nat → Int32) : gi (ri S k r) = va_up (gi S) k r := rfl
theorem gj_ri (S : Sg) (k : Nat) (r : Nat → Int32) : gj (ri S k r) = gj S := rfl
theorem gp_ri (S : Sg) (k : Nat) (r : Nat → Int32) : gp (ri S k r) = gp S := rfl
theorem gi_rj (S : Sg) (k : Nat) (r : Nat → Int64) : gi (rj S k r) = gi S := rfl
theorem gj_rj (S : Sg) (k : Nat) (r : Nat → Int64) : gj (rj S k r) = va_up (gj S) k r := rfl
theorem gp_rj (S : Sg) (k : Nat) (r : Nat → Int64) : gp (rj S k r) = gp S := rfl
theorem gi_rp (S : Sg) (k : Nat) (r : Nat → Option Nat) : gi (rp S k r) = gi S := rfl
theorem gj_rp (S : Sg) (k : Nat) (r : Nat → Option Nat) : gj (rp S k r) = gj S := rfl
theorem gp_rp (S : Sg) (k : Nat) (r : Nat → Option Nat) : gp (rp S k r) = va_up (gp S) k r := rfl
theorem up_s {α : Type} (f : Nat → α) (k : Nat) (v : α) : va_up f k v k = v := va_up_self f k v
theorem up_n {α : Type} (f : Nat → α) {k j : Nat} (v : α) (h : j ≠ k) : va_up f k v j = f j := va_up_ne f v h
theorem up_up {α : Type} (f : Nat → α) (k : Nat) (v w : α) : va_up (va_up f k v) k w = va_up f k w := bx_uu f k v w
theorem up_id {α : Type} (f : Nat → α) (k : Nat) : va_up f k (f k) = f := by
  funext j
  by_cases h : j = k
  · subst h; simp [va_up]
  · simp [va_up, h]
theorem up_sw {α : Type} (f : Nat → α) {k j : Nat} (h : k ≠ j) (v w : α) : va_up (va_up f k v) j w = va_up (va_up f j w) k v := by
  funext i
  by_cases h1 : i = k
  · subst h1; simp [va_up, h]
  · simp [va_up, h1]
theorem upd_up (f : Nat → Int32) (k : Nat) (x : Int32) : upd f k x = va_up f k x := rfl
theorem updL_up (f : Nat → Int64) (k : Nat) (x : Int64) : vp_updL f k x = va_up f k x := rfl
theorem ri_ri (S : Sg) (k : Nat) (r q : Nat → Int32) : ri (ri S k r) k q = ri S k q := by simp only [ri, gi, gj, gp, up_up]
theorem rj_rj (S : Sg) (k : Nat) (r q : Nat → Int64) : rj (rj S k r) k q = rj S k q := by simp only [rj, gi, gj, gp, up_up]
theorem rp_rp (S : Sg) (k : Nat) (r q : Nat → Option Nat) : rp (rp S k r) k q = rp S k q := by simp only [rp, gi, gj, gp, up_up]
theorem ri_id (S : Sg) (k : Nat) : ri S k (gi S k) = S := by simp only [ri, gi, gj, gp, up_id]
theorem rj_id (S : Sg) (k : Nat) : rj S k (gj S k) = S := by simp only [rj, gi, gj, gp, up_id]
theorem ri_sw (S : Sg) {k j : Nat} (h : k ≠ j) (r q : Nat → Int32) : ri (ri S k r) j q = ri (ri S j q) k r := by simp only [ri, gi, gj, gp, up_sw _ h]
theorem ri_rj (S : Sg) (k j : Nat) (r : Nat → Int64) (q : Nat → Int32) : ri (rj S k r) j q = rj (ri S j q) k r := rfl
/-- what a cell of a kind is -/
def gE (cy : Nat → ClassId) (z kd : Nat) (i : Nat → Int32) (j : Nat → Int64) (p : Nat → Option Nat) : va_E := match kd with
  | 0 => .inr (0, [va_rf (p 0), va_rf (p 1), va_rf (p 2), va_rf (p 3), va_rf (p 4), va_rf (p 5), .int (i 6), .int (i 7), .int (i 8), .long (j 9)])
  | 1 => .inr (1, [.int (i 0), .int (i 1), .int (i 2)])
  | 2 => .inr (2, [.int (i 0), .int (i 1), .int (i 2)])
  | 3 => .inr (3, [.int (i 0), .int (i 1), .int (i 2)])
  | 4 => .inr (4, [.int (i 0), .int (i 1), .int (i 2), .int (i 3), .int (i 4), .int (i 5), .int (i 6), .int (i 7), .int (i 8), va_rf (p 9), va_rf (p 10), va_rf (p 11), va_rf (p 12), va_rf (p 13), va_rf (p 14), va_rf (p 15)])
  | 5 => .inr (5, [va_rf (p 0), .int (i 1), .int (i 2), .int (i 3), .int (i 4), .int (i 5), .int (i 6), .int (i 7)])
  | 6 => .inr (6, [.int (i 0), .int (i 1), .int (i 2)])
  | 7 => .inr (7, [va_rf (p 0), .int (i 1)])
  | 8 => .inr (8, [.int (i 0), .int (i 1), .int (i 2)])
  | 9 => .inr (9, [va_rf (p 0), va_rf (p 1), va_rf (p 2), va_rf (p 3), va_rf (p 4), va_rf (p 5), va_rf (p 6), va_rf (p 7), va_rf (p 8), .int (i 9)])
  | 10 => .inr (10, [va_rf (p 0), va_rf (p 1), va_rf (p 2), va_rf (p 3), .int (i 4), va_rf (p 5), va_rf (p 6), .int (i 7), .int (i 8), .int (i 9), .int (i 10), .int (i 11), .int (i 12), .int (i 13), .int (i 14), va_rf (p 15), va_rf (p 16), .long (j 17), va_rf (p 18), .int (i 19)])
  | 11 => .inl (cy 11, z, .inl i)
  | 12 => .inl (cy 12, z, .inl i)
  | 13 => .inl (cy 13, z, .inr (.inl j))
  | kd => .inl (cy kd, z, .inr (.inr (.inr (.inr p))))
def tyl (cy : Nat → ClassId) : List (ClassId × FieldType) := [(cy 11, .byte), (cy 12, .int), (cy 13, .long), (cy 14, .object "WoodForTwo$Party"), (cy 15, .object "WoodForTwo$Pass"), (cy 16, .array .int), (cy 17, .array .long)]
def gC (cy : Nat → ClassId) (G : Gg) (S : Sg) (k : Nat) : va_E := gE cy (gZ G k) (gK G k) (gi S k) (gj S k) (gp S k)
def wS (cy : Nat → ClassId) (G : Gg) (S : Sg) : va_W := (List.range (gN G)).map (fun k => (gA G k, gC cy G S k))
theorem wS_get {cy : Nat → ClassId} {G : Gg} {S : Sg} {k : Nat} (h : k < gN G) : (wS cy G S)[k]? = some (gA G k, gC cy G S k) := by
  unfold wS
  rw [List.getElem?_map, List.getElem?_range h]; rfl
theorem wS_of {cy : Nat → ClassId} {G : Gg} {S : Sg} {k : Nat} {q : Nat × va_E} (h : (wS cy G S)[k]? = some q) : k < gN G ∧ q = (gA G k, gC cy G S k) := by
  unfold wS at h
  by_cases hk : k < gN G
  · rw [List.getElem?_map, List.getElem?_range hk] at h
    exact ⟨hk, (Option.some.inj h).symm⟩
  · rw [List.getElem?_map, List.getElem?_eq_none (by rw [List.length_range]; omega)] at h
    cases h
theorem wS_len {cy : Nat → ClassId} {G : Gg} {S : Sg} : (wS cy G S).length = gN G := by unfold wS; rw [List.length_map, List.length_range]
theorem wS_set {cy : Nat → ClassId} {G : Gg} {S S' : Sg} {k : Nat} {e : va_E} (hk : k < gN G) (he : gC cy G S' k = e) (ho : ∀ j, j ≠ k → gC cy G S' j = gC cy G S j) : (wS cy G S).set k (gA G k, e) = wS cy G S' := by
  apply List.ext_getElem?
  intro j
  by_cases hj : j = k
  · subst hj
    rw [List.getElem?_set_self (by rw [wS_len]; exact hk), wS_get hk, he]
  · rw [List.getElem?_set_ne (Ne.symm hj)]
    by_cases hl : j < gN G
    · rw [wS_get hl, wS_get hl, ho j hj]
    · rw [List.getElem?_eq_none (by rw [wS_len]; omega), List.getElem?_eq_none (by rw [wS_len]; omega)]
theorem gC_ri {cy : Nat → ClassId} {G : Gg} {S : Sg} {k : Nat} {r : Nat → Int32} {j : Nat} (h : j ≠ k) : gC cy G (ri S k r) j = gC cy G S j := by simp only [gC, gi_ri, gj_ri, gp_ri, up_n _ _ h]
theorem gC_rj {cy : Nat → ClassId} {G : Gg} {S : Sg} {k : Nat} {r : Nat → Int64} {j : Nat} (h : j ≠ k) : gC cy G (rj S k r) j = gC cy G S j := by simp only [gC, gi_rj, gj_rj, gp_rj, up_n _ _ h]
theorem gC_rp {cy : Nat → ClassId} {G : Gg} {S : Sg} {k : Nat} {r : Nat → Option Nat} {j : Nat} (h : j ≠ k) : gC cy G (rp S k r) j = gC cy G S j := by simp only [gC, gi_rp, gj_rp, gp_rp, up_n _ _ h]
theorem e_is (S : Sg) (k : Nat) (r : Nat → Int32) : gi (ri S k r) k = r := up_s _ _ _
theorem e_in {S : Sg} {k j : Nat} {r q : Nat → Int32} (h : k ≠ j) (e : gi S k = q) : gi (ri S j r) k = q := (up_n _ _ h).trans e
theorem e_ip {S : Sg} {k j : Nat} {r : Nat → Option Nat} {q : Nat → Int32} (e : gi S k = q) : gi (rp S j r) k = q := e
theorem e_ij {S : Sg} {k j : Nat} {r : Nat → Int64} {q : Nat → Int32} (e : gi S k = q) : gi (rj S j r) k = q := e
theorem e_ji {S : Sg} {k j : Nat} {r : Nat → Int32} {q : Nat → Int64} (e : gj S k = q) : gj (ri S j r) k = q := e
theorem e_jp {S : Sg} {k j : Nat} {r : Nat → Option Nat} {q : Nat → Int64} (e : gj S k = q) : gj (rp S j r) k = q := e
theorem e_pi {S : Sg} {k j : Nat} {r : Nat → Int32} {q : Nat → Option Nat} (e : gp S k = q) : gp (ri S j r) k = q := e
theorem e_pj {S : Sg} {k j : Nat} {r : Nat → Int64} {q : Nat → Option Nat} (e : gp S k = q) : gp (rj S j r) k = q := e
theorem rp_id (S : Sg) (k : Nat) : rp S k (gp S k) = S := by simp only [rp, gi, gj, gp, up_id]
theorem rp_sw (S : Sg) {k j : Nat} (h : k ≠ j) (r q : Nat → Option Nat) : rp (rp S k r) j q = rp (rp S j q) k r := by simp only [rp, gi, gj, gp, up_sw _ h]
theorem rj_sw (S : Sg) {k j : Nat} (h : k ≠ j) (r q : Nat → Int64) : rj (rj S k r) j q = rj (rj S j q) k r := by simp only [rj, gi, gj, gp, up_sw _ h]
theorem e_js (S : Sg) (k : Nat) (r : Nat → Int64) : gj (rj S k r) k = r := up_s _ _ _
theorem e_jn {S : Sg} {k j : Nat} {r q : Nat → Int64} (h : k ≠ j) (e : gj S k = q) : gj (rj S j r) k = q := (up_n _ _ h).trans e
theorem e_ps (S : Sg) (k : Nat) (r : Nat → Option Nat) : gp (rp S k r) k = r := up_s _ _ _
theorem e_pn {S : Sg} {k j : Nat} {r q : Nat → Option Nat} (h : k ≠ j) (e : gp S k = q) : gp (rp S j r) k = q := (up_n _ _ h).trans e
/-- but at one role, two states hold the same -/
def Oth (k : Nat) (S T : Sg) : Prop := ∀ j, j ≠ k → gi S j = gi T j ∧ gj S j = gj T j ∧ gp S j = gp T j
theorem Oth.gC {cy : Nat → ClassId} {G : Gg} {S T : Sg} {k : Nat} (h : Oth k S T) : ∀ j, j ≠ k → gC cy G S j = gC cy G T j := fun j hj => by
  obtain ⟨h1, h2, h3⟩ := h j hj
  show gE cy (gZ G j) (gK G j) (gi S j) (gj S j) (gp S j) = gE cy (gZ G j) (gK G j) (gi T j) (gj T j) (gp T j)
  rw [h1, h2, h3]
theorem c_i {S : Sg} {k : Nat} {r q : Nat → Int32} : Oth k (ri S k r) (ri S k q) := fun _ h => ⟨(up_n _ _ h).trans (up_n _ _ h).symm, rfl, rfl⟩
theorem c_j {S : Sg} {k : Nat} {r q : Nat → Int64} : Oth k (rj S k r) (rj S k q) := fun _ h => ⟨rfl, (up_n _ _ h).trans (up_n _ _ h).symm, rfl⟩
theorem c_p {S : Sg} {k : Nat} {r q : Nat → Option Nat} : Oth k (rp S k r) (rp S k q) := fun _ h => ⟨rfl, rfl, (up_n _ _ h).trans (up_n _ _ h).symm⟩
theorem c_i0 {S : Sg} {k : Nat} {r : Nat → Int32} : Oth k (ri S k r) S := fun _ h => ⟨up_n _ _ h, rfl, rfl⟩
theorem c_j0 {S : Sg} {k : Nat} {r : Nat → Int64} : Oth k (rj S k r) S := fun _ h => ⟨rfl, up_n _ _ h, rfl⟩
theorem c_p0 {S : Sg} {k : Nat} {r : Nat → Option Nat} : Oth k (rp S k r) S := fun _ h => ⟨rfl, rfl, up_n _ _ h⟩
theorem up_cg {α : Type} {f g : Nat → α} {j : Nat} (n : Nat) (v : α) (h : f j = g j) : va_up f n v j = va_up g n v j := by
  by_cases e : j = n
  · subst e; rw [up_s, up_s]
  · rw [up_n _ _ e, up_n _ _ e, h]
theorem c_ui {S T : Sg} {k n : Nat} {r : Nat → Int32} (h : Oth k S T) : Oth k (ri S n r) (ri T n r) := fun j hj => ⟨up_cg _ _ (h j hj).1, (h j hj).2⟩
theorem c_uj {S T : Sg} {k n : Nat} {r : Nat → Int64} (h : Oth k S T) : Oth k (rj S n r) (rj T n r) := fun j hj => ⟨(h j hj).1, up_cg _ _ (h j hj).2.1, (h j hj).2.2⟩
theorem c_up {S T : Sg} {k n : Nat} {r : Nat → Option Nat} (h : Oth k S T) : Oth k (rp S n r) (rp T n r) := fun j hj => ⟨(h j hj).1, (h j hj).2.1, up_cg _ _ (h j hj).2.2⟩
/-- the String constants of the reader, and the JDK's statics that its texts need -/
abbrev Dc : Type := va_G × (Nat → ClassId) × (Nat → Nat) × (Nat → Nat)
def sTxt : List String := ["hut", "chance", "party", "head", "flat", "less", "keeps", "half", "none", "weighs"]
def sIdx : List Nat := [39, 74, 89, 123, 125, 127, 133, 135, 137, 139]
def sByt : List (List Int32) := [[104, 117, 116], [99, 104, 97, 110, 99, 101], [112, 97, 114, 116, 121], [104, 101, 97, 100], [102, 108, 97, 116], [108, 101, 115, 115], [107, 101, 101, 112, 115], [104, 97, 108, 102], [110, 111, 110, 101], [119, 101, 105, 103, 104, 115]]
def sLen : List Nat := [3, 6, 5, 4, 4, 4, 5, 4, 4, 6]
/-- words that no list of a method's words can hold: private members of nest mates, casts, what declares, arrays over -/
def nwF : List (Nat × String × String × String) := [(248, "WoodForTwo$Reader", "length", "I"), (123, "WoodForTwo$Reader", "latestFault", "I"), (112, "WoodForTwo$Reader", "place", "I"), (187, "WoodForTwo$Foretelling", "allWays", "J")]
def nwM : List (Nat × String) := [(23, "WoodForTwo$Reader"), (30, "WoodForTwo$Foretelling"), (37, "WoodForTwo$Trace"), (48, "WoodForTwo$Pass")]
def nwC : List (String × String) := [("WoodForTwo$Half", "WoodForTwo$Keeper"), ("WoodForTwo$Lone", "WoodForTwo$Keeper"), ("WoodForTwo$Lone", "WoodForTwo$Party"), ("WoodForTwo$Keeper", "WoodForTwo$Party"), ("WoodForTwo$Half", "WoodForTwo$Party"), ("WoodForTwo$Weigher", "WoodForTwo$Party"), ("WoodForTwo$Taker", "WoodForTwo$Party")]
def nwN : List (String × String) := [("WoodForTwo$Weigher", "WoodForTwo$Keeper"), ("WoodForTwo$Taker", "WoodForTwo$Keeper"), ("WoodForTwo$Lone", "WoodForTwo$Half"), ("WoodForTwo$Keeper", "WoodForTwo$Half"), ("WoodForTwo$Weigher", "WoodForTwo$Half"), ("WoodForTwo$Taker", "WoodForTwo$Half"), ("WoodForTwo$Lone", "WoodForTwo$Taker"), ("WoodForTwo$Keeper", "WoodForTwo$Taker"), ("WoodForTwo$Half", "WoodForTwo$Taker"), ("WoodForTwo$Weigher", "WoodForTwo$Taker"), ("WoodForTwo$Lone", "WoodForTwo$Weigher"), ("WoodForTwo$Keeper", "WoodForTwo$Weigher"), ("WoodForTwo$Half", "WoodForTwo$Weigher"), ("WoodForTwo$Taker", "WoodForTwo$Weigher"), ("WoodForTwo$Keeper", "WoodForTwo$Lone"), ("WoodForTwo$Half", "WoodForTwo$Lone"), ("WoodForTwo$Weigher", "WoodForTwo$Lone"), ("WoodForTwo$Taker", "WoodForTwo$Lone")]
def nwD : List MethodName := [⟨"WoodForTwo$Party", "kindTold", "()I"⟩, ⟨"WoodForTwo$Party", "leaves", "(III)I"⟩]
def nwA (t : FieldType) (U : State) : Prop := (Cond.arrayOver (.array t)).before #[] U = true
def NwOK (s : State) : Prop := (∀ q ∈ nwF, va_Nw (.fieldLinkNest "WoodForTwo" q.1 q.2.1 q.2.2.1 q.2.2.2 "WoodForTwo") s) ∧ (∀ q ∈ nwM, va_Nw (.methodLinkNest "WoodForTwo" q.1 ⟨q.2, "<init>", "()V"⟩ "WoodForTwo") s) ∧ (∀ q ∈ nwC, va_Nw (.castable q.1 q.2) s) ∧ (∀ q ∈ nwN, va_Nc q.1 q.2 s) ∧ (∀ x ∈ nwD, va_Nw (.declares x) s) ∧ va_AO "WoodForTwo$Pass" s ∧ va_AO "WoodForTwo$Party" s ∧ nwA .int s ∧ nwA .long s
theorem NwOK.warm {s U : State} (h : NwOK s) (hW : s.WarmedH U.vm) : NwOK U := by
  obtain ⟨h1, h2, h3, h4, h5, h6, h7, h8, h9⟩ := h
  exact ⟨fun q hq => va_Nw.warmF hW (h1 q hq), fun q hq => va_Nw.warmM hW (h2 q hq), fun q hq => va_Nw.warmC hW (h3 q hq), fun q hq => (h4 q hq).moved hW.alike, fun x hx => va_Nw.warmD hW (h5 x hx), h6.moved hW.alike, h7.moved hW.alike, over_moved hW.alike h8, over_moved hW.alike h9⟩
theorem NwOK.same {s U : State} (h : NwOK s) (hv : U.vm = s.vm) : NwOK U := by
  obtain ⟨h1, h2, h3, h4, h5, h6, h7, h8, h9⟩ := h
  have al : s.vm.Alike U.vm := by rw [hv]; exact Vm.Alike.refl _
  exact ⟨fun q hq => va_Nw.same rfl hv.symm (h1 q hq), fun q hq => va_Nw.same rfl hv.symm (h2 q hq), fun q hq => va_Nw.same rfl hv.symm (h3 q hq), fun q hq => (h4 q hq).moved al, fun x hx => va_Nw.same rfl hv.symm (h5 x hx), h6.moved al, h7.moved al, over_moved al h8, over_moved al h9⟩
def StrOK (D : Dc) (A : Nat → Prop) (s : State) (H : Heap) : Prop := vk_S 10 sLen sByt D.2.2.1 D.2.2.2 A s H ∧ (∀ i, i < 10 → vk_R "WoodForTwo$Reader" (sIdx.getD i 0) (sTxt.getD i "") (D.2.2.1 i) s) ∧ va_Z "java/lang/String" "COMPACT_STRINGS" "Z" (.int 1) A s H ∧ va_Zq "jdk/internal/util/Preconditions" "SIOOBE_FORMATTER" "Ljava/util/function/BiFunction;" A s H ∧ NwOK s
theorem StrOK.warm {D : Dc} {A : Nat → Prop} {s U : State} {H : Heap} (h : StrOK D A s H) (hW : s.WarmedH U.vm) : StrOK D A U H :=
  ⟨h.1.moved hW.alike, fun i hi => (h.2.1 i hi).warm hW, va_Z.moved hW.alike h.2.2.1, va_Zq.moved hW.alike h.2.2.2.1, h.2.2.2.2.warm hW⟩
theorem StrOK.same {D : Dc} {A : Nat → Prop} {s U : State} {H : Heap} (h : StrOK D A s H) (hv : U.vm = s.vm) : StrOK D A U H :=
  ⟨h.1.moved (by rw [hv]; exact Vm.Alike.refl _), fun i hi => (h.2.1 i hi).same hv, va_Z.moved (by rw [hv]; exact Vm.Alike.refl _) h.2.2.1, va_Zq.moved (by rw [hv]; exact Vm.Alike.refl _) h.2.2.2.1, h.2.2.2.2.same hv⟩
theorem StrOK.kept {D : Dc} {A : Nat → Prop} {s : State} {H H1 : Heap} (h : StrOK D A s H) (hq : ∀ a : Nat, a < H.size → ¬ A a → H1[a]? = H[a]?) : StrOK D A s H1 :=
  ⟨h.1.kept hq, h.2.1, h.2.2.1.kept hq, h.2.2.2.1.kept hq, h.2.2.2.2⟩
theorem StrOK.narrow {D : Dc} {A B : Nat → Prop} {s : State} {H : Heap} (h : StrOK D A s H) (hAB : ∀ q, B q → A q) : StrOK D B s H :=
  ⟨h.1.narrow hAB, h.2.1, h.2.2.1.narrow hAB, h.2.2.2.1.narrow hAB, h.2.2.2.2⟩
/-- the world stands in a heap -/
def Wd (D : Dc) (A : Nat → Prop) (s : State) (G : Gg) (S : Sg) (H : Heap) (locs : List Loc) : Prop :=
  va_K D.1 vwCl (tyl D.2.1) s ∧ va_P D.1 vwCl (wS D.2.1 G S) H ∧ va_D A (wS D.2.1 G S) ∧ va_S A s.heap H locs ∧ StrOK D A s s.heap
/-- a contract's start and end -/
def AW (G : Gg) (z : Nat) : Nat → Prop := fun q => (∃ k, k < gN G ∧ q = gA G k) ∨ z ≤ q
def PreW (D : Dc) (G : Gg) (S : Sg) (z : Nat) : State → Prop := fun U => U.heap.size = z ∧ va_P D.1 vwCl (wS D.2.1 G S) U.heap ∧ va_K D.1 vwCl (tyl D.2.1) U ∧ va_D (fun _ => True) (wS D.2.1 G S) ∧ StrOK D (AW G z) U U.heap
def PostW (D : Dc) (G : Gg) (A : Nat → Prop) : Sg → State → Prop := fun S t => va_P D.1 vwCl (wS D.2.1 G S) t.heap ∧ va_K D.1 vwCl (tyl D.2.1) t ∧ va_D A (wS D.2.1 G S)
def MI (l : Launch) (y : MethodName) (ws : List Cond) (rm : Room) (D : Dc) (G : Gg) (S : Sg) (z : Nat) (av : List Value) (post : Int32 → Sg → Prop) : Prop :=
  Met l y ws rm (va_Pc av (PreW D G S z)) (va_Qi post (PostW D G (AW G z)) (AW G z)) 0 0 (AW G z)
def ML (l : Launch) (y : MethodName) (ws : List Cond) (rm : Room) (D : Dc) (G : Gg) (S : Sg) (z : Nat) (av : List Value) (post : Int64 → Sg → Prop) : Prop :=
  Met l y ws rm (va_Pc av (PreW D G S z)) (va_Ql post (PostW D G (AW G z)) (AW G z)) 0 0 (AW G z)
def MV (l : Launch) (y : MethodName) (ws : List Cond) (rm : Room) (D : Dc) (G : Gg) (S : Sg) (z : Nat) (av : List Value) (post : Sg → Prop) : Prop :=
  Met l y ws rm (va_Pc av (PreW D G S z)) (va_Qv post (PostW D G (AW G z)) (AW G z)) 0 0 (AW G z)
def MQ_ (l : Launch) (y : MethodName) (ws : List Cond) (rm : Room) (D : Dc) (G : Gg) (S : Sg) (z : Nat) (av : List Value) (post : Option Nat → Sg → Prop) : Prop :=
  Met l y ws rm (va_Pc av (PreW D G S z)) (va_Qq post (PostW D G (AW G z)) (AW G z)) 0 0 (AW G z)
/-- a contract of a method that makes cells: the G behind it comes with the end -/
def MIa (l : Launch) (y : MethodName) (ws : List Cond) (rm : Room) (D : Dc) (G : Gg) (S : Sg) (z : Nat) (av : List Value) (mc ms : Nat) (post : Int32 → Gg × Sg → Prop) : Prop :=
  Met l y ws rm (va_Pc av (PreW D G S z)) (va_Qi post (fun u => PostW D u.1 (AW G z) u.2) (AW G z)) mc ms (AW G z)
def MLa (l : Launch) (y : MethodName) (ws : List Cond) (rm : Room) (D : Dc) (G : Gg) (S : Sg) (z : Nat) (av : List Value) (mc ms : Nat) (post : Int64 → Gg × Sg → Prop) : Prop :=
  Met l y ws rm (va_Pc av (PreW D G S z)) (va_Ql post (fun u => PostW D u.1 (AW G z) u.2) (AW G z)) mc ms (AW G z)
def MVa (l : Launch) (y : MethodName) (ws : List Cond) (rm : Room) (D : Dc) (G : Gg) (S : Sg) (z : Nat) (av : List Value) (mc ms : Nat) (post : Gg × Sg → Prop) : Prop :=
  Met l y ws rm (va_Pc av (PreW D G S z)) (va_Qv post (fun u => PostW D u.1 (AW G z) u.2) (AW G z)) mc ms (AW G z)
def MQa (l : Launch) (y : MethodName) (ws : List Cond) (rm : Room) (D : Dc) (G : Gg) (S : Sg) (z : Nat) (av : List Value) (mc ms : Nat) (post : Option Nat → Gg × Sg → Prop) : Prop :=
  Met l y ws rm (va_Pc av (PreW D G S z)) (va_Qq post (fun u => PostW D u.1 (AW G z) u.2) (AW G z)) mc ms (AW G z)
theorem va_A_wS {cy : Nat → ClassId} {G : Gg} {S : Sg} {z q : Nat} : va_A (wS cy G S) z q ↔ AW G z q := by
  constructor
  · rintro (⟨k, e, h⟩ | h)
    · obtain ⟨hk, e1⟩ := wS_of h
      cases e1
      exact Or.inl ⟨k, hk, rfl⟩
    · exact Or.inr h
  · rintro (⟨k, hk, rfl⟩ | h)
    · exact Or.inl ⟨k, _, wS_get hk⟩
    · exact Or.inr h
theorem PreW.blind {D : Dc} {G : Gg} {S : Sg} {z : Nat} {av : List Value} : FrameBlind (va_Pc av (PreW D G S z)) :=
  fun a U g mk q => by
    obtain ⟨q0, q1, qP, qK, qD, qX⟩ := q
    exact ⟨q0, q1, qP, va_K.moved (u := U) (U := U.calling g mk a) (Vm.Alike.refl U.vm) qK, qD, qX.same rfl⟩
/-- the start of a walk -/
theorem Wd.start {D : Dc} {G : Gg} {S : Sg} {s : State} (h : PreW D G S s.heap.size s) : Wd D (AW G s.heap.size) s G S s.heap [] := by
  obtain ⟨-, hP, hK, hD, hX⟩ := h
  exact ⟨hK, hP, ⟨hD.1, fun k q hq => va_A_wS.mp (va_A.in hq)⟩, va_S.rf, hX⟩
section RW
variable {p : Program} {l : Launch} {e : Env} {R : Room} {s : State} {m : MethodId} {args : Array Value} {below : List Frame} {meth : Method} {c : Code} {H : Heap} {locs : List Loc} {cells slots : Nat} {Q : State → Prop}
variable {cc : ByteArray} {pc : Nat} {ls : Array Slot} {rest : List Value} {D : Dc} {A : Nat → Prop} {a : Nat} {G : Gg} {S : Sg}
/-- getfield of a cell by its role -/
theorem r_geti (hexec : p.tables.exec = Jvm.exec) (hb : c.code = cc) {own ref C : String} {T : u_T} {N ci index : Nat} {Ts : List Cond} (hts : ∀ w ∈ Ts, w.before args s = true) (hin : ∀ w ∈ u_ws C T N, w ∈ Ts) (hown : s.vm.findClass own = some m.cls) (hW : Wd D A s G S H locs) (hc : vwCl[ci]? = some (C, T, N)) (k f : Nat) (ha : gA G k = a) (hk : k < gN G) (hkd : gK G k = ci) (hf : f < N) (hlink : (Cond.fieldLink own index ref (T f).2.1 (T f).2.2.1).before args s = true) (hsame : ∀ x, s.fieldFound? (T f).1 (T f).2.1 (T f).2.2.1 = some x → s.fieldFound? ref (T f).2.1 (T f).2.2.1 = some x) (x : Int32) (ex : gi S k f = x) {fs : List Value} (hg : gE D.2.1 (gZ G k) ci (gi S k) (gj S k) (gp S k) = .inr (ci, fs)) (hv : fs[f]? = some (.int (gi S k f))) (hdg : decode cc pc = .ok (.getfield index, 3))
    (kk : W p l e R s m args below meth c H locs cells slots Q (F0 m (pc + 3) ls (.int x :: rest))) : W p l e R s m args below meth c H locs cells slots Q (F0 m pc ls (.ref a :: rest)) := by
  subst ha
  subst ex
  have he : (wS D.2.1 G S)[k]? = some (gA G k, .inr (ci, fs)) := by rw [wS_get hk, gC, hkd, hg]
  exact va_get hexec hb hts hin hown hW.1 hW.2.1 k he hc f hf hlink hsame hv hdg kk
theorem r_getl (hexec : p.tables.exec = Jvm.exec) (hb : c.code = cc) {own ref C : String} {T : u_T} {N ci index : Nat} {Ts : List Cond} (hts : ∀ w ∈ Ts, w.before args s = true) (hin : ∀ w ∈ u_ws C T N, w ∈ Ts) (hown : s.vm.findClass own = some m.cls) (hW : Wd D A s G S H locs) (hc : vwCl[ci]? = some (C, T, N)) (k f : Nat) (ha : gA G k = a) (hk : k < gN G) (hkd : gK G k = ci) (hf : f < N) (hlink : (Cond.fieldLink own index ref (T f).2.1 (T f).2.2.1).before args s = true) (hsame : ∀ x, s.fieldFound? (T f).1 (T f).2.1 (T f).2.2.1 = some x → s.fieldFound? ref (T f).2.1 (T f).2.2.1 = some x) (x : Int64) (ex : gj S k f = x) {fs : List Value} (hg : gE D.2.1 (gZ G k) ci (gi S k) (gj S k) (gp S k) = .inr (ci, fs)) (hv : fs[f]? = some (.long (gj S k f))) (hdg : decode cc pc = .ok (.getfield index, 3))
    (kk : W p l e R s m args below meth c H locs cells slots Q (F0 m (pc + 3) ls (.long x :: rest))) : W p l e R s m args below meth c H locs cells slots Q (F0 m pc ls (.ref a :: rest)) := by
  subst ha
  subst ex
  have he : (wS D.2.1 G S)[k]? = some (gA G k, .inr (ci, fs)) := by rw [wS_get hk, gC, hkd, hg]
  exact va_get hexec hb hts hin hown hW.1 hW.2.1 k he hc f hf hlink hsame hv hdg kk
theorem r_getr (hexec : p.tables.exec = Jvm.exec) (hb : c.code = cc) {own ref C : String} {T : u_T} {N ci index : Nat} {Ts : List Cond} (hts : ∀ w ∈ Ts, w.before args s = true) (hin : ∀ w ∈ u_ws C T N, w ∈ Ts) (hown : s.vm.findClass own = some m.cls) (hW : Wd D A s G S H locs) (hc : vwCl[ci]? = some (C, T, N)) (k f : Nat) (ha : gA G k = a) (hk : k < gN G) (hkd : gK G k = ci) (hf : f < N) (hlink : (Cond.fieldLink own index ref (T f).2.1 (T f).2.2.1).before args s = true) (hsame : ∀ x, s.fieldFound? (T f).1 (T f).2.1 (T f).2.2.1 = some x → s.fieldFound? ref (T f).2.1 (T f).2.2.1 = some x) {x : Nat} (ex : gp S k f = some x) {fs : List Value} (hg : gE D.2.1 (gZ G k) ci (gi S k) (gj S k) (gp S k) = .inr (ci, fs)) (hv : fs[f]? = some (va_rf (gp S k f))) (hdg : decode cc pc = .ok (.getfield index, 3))
    (kk : W p l e R s m args below meth c H locs cells slots Q (F0 m (pc + 3) ls (.ref x :: rest))) : W p l e R s m args below meth c H locs cells slots Q (F0 m pc ls (.ref a :: rest)) := by
  subst ha
  rw [ex] at hv
  have he : (wS D.2.1 G S)[k]? = some (gA G k, .inr (ci, fs)) := by rw [wS_get hk, gC, hkd, hg]
  exact va_get hexec hb hts hin hown hW.1 hW.2.1 k he hc f hf hlink hsame hv hdg kk
theorem r_getq (hexec : p.tables.exec = Jvm.exec) (hb : c.code = cc) {own ref C : String} {T : u_T} {N ci index : Nat} {Ts : List Cond} (hts : ∀ w ∈ Ts, w.before args s = true) (hin : ∀ w ∈ u_ws C T N, w ∈ Ts) (hown : s.vm.findClass own = some m.cls) (hW : Wd D A s G S H locs) (hc : vwCl[ci]? = some (C, T, N)) (k f : Nat) (ha : gA G k = a) (hk : k < gN G) (hkd : gK G k = ci) (hf : f < N) (hlink : (Cond.fieldLink own index ref (T f).2.1 (T f).2.2.1).before args s = true) (hsame : ∀ x, s.fieldFound? (T f).1 (T f).2.1 (T f).2.2.1 = some x → s.fieldFound? ref (T f).2.1 (T f).2.2.1 = some x) (x : Option Nat) (ex : gp S k f = x) {fs : List Value} (hg : gE D.2.1 (gZ G k) ci (gi S k) (gj S k) (gp S k) = .inr (ci, fs)) (hv : fs[f]? = some (va_rf (gp S k f))) (hdg : decode cc pc = .ok (.getfield index, 3))
    (kk : W p l e R s m args below meth c H locs cells slots Q (F0 m (pc + 3) ls (va_rf x :: rest))) : W p l e R s m args below meth c H locs cells slots Q (F0 m pc ls (.ref a :: rest)) := by
  subst ha
  rw [ex] at hv
  have he : (wS D.2.1 G S)[k]? = some (gA G k, .inr (ci, fs)) := by rw [wS_get hk, gC, hkd, hg]
  exact va_get hexec hb hts hin hown hW.1 hW.2.1 k he hc f hf hlink hsame hv hdg kk
theorem r_getiN (hexec : p.tables.exec = Jvm.exec) (hb : c.code = cc) {own ref C host : String} {T : u_T} {N ci index : Nat} {Ts : List Cond} (hts : ∀ w ∈ Ts, w.before args s = true) (hin : ∀ w ∈ u_ws C T N, w ∈ Ts) (hown : s.vm.findClass own = some m.cls) (hW : Wd D A s G S H locs) (hc : vwCl[ci]? = some (C, T, N)) (k f : Nat) (ha : gA G k = a) (hk : k < gN G) (hkd : gK G k = ci) (hf : f < N) (hlink : (Cond.fieldLinkNest own index ref (T f).2.1 (T f).2.2.1 host).before args s = true) (hsame : ∀ x, s.fieldFound? (T f).1 (T f).2.1 (T f).2.2.1 = some x → s.fieldFound? ref (T f).2.1 (T f).2.2.1 = some x) (x : Int32) (ex : gi S k f = x) {fs : List Value} (hg : gE D.2.1 (gZ G k) ci (gi S k) (gj S k) (gp S k) = .inr (ci, fs)) (hv : fs[f]? = some (.int (gi S k f))) (hdg : decode cc pc = .ok (.getfield index, 3))
    (kk : W p l e R s m args below meth c H locs cells slots Q (F0 m (pc + 3) ls (.int x :: rest))) : W p l e R s m args below meth c H locs cells slots Q (F0 m pc ls (.ref a :: rest)) := by
  subst ha
  subst ex
  have he : (wS D.2.1 G S)[k]? = some (gA G k, .inr (ci, fs)) := by rw [wS_get hk, gC, hkd, hg]
  exact va_getN hexec hb hts hin hown hW.1 hW.2.1 k he hc f hf hlink hsame hv hdg kk
theorem r_getlN (hexec : p.tables.exec = Jvm.exec) (hb : c.code = cc) {own ref C host : String} {T : u_T} {N ci index : Nat} {Ts : List Cond} (hts : ∀ w ∈ Ts, w.before args s = true) (hin : ∀ w ∈ u_ws C T N, w ∈ Ts) (hown : s.vm.findClass own = some m.cls) (hW : Wd D A s G S H locs) (hc : vwCl[ci]? = some (C, T, N)) (k f : Nat) (ha : gA G k = a) (hk : k < gN G) (hkd : gK G k = ci) (hf : f < N) (hlink : (Cond.fieldLinkNest own index ref (T f).2.1 (T f).2.2.1 host).before args s = true) (hsame : ∀ x, s.fieldFound? (T f).1 (T f).2.1 (T f).2.2.1 = some x → s.fieldFound? ref (T f).2.1 (T f).2.2.1 = some x) (x : Int64) (ex : gj S k f = x) {fs : List Value} (hg : gE D.2.1 (gZ G k) ci (gi S k) (gj S k) (gp S k) = .inr (ci, fs)) (hv : fs[f]? = some (.long (gj S k f))) (hdg : decode cc pc = .ok (.getfield index, 3))
    (kk : W p l e R s m args below meth c H locs cells slots Q (F0 m (pc + 3) ls (.long x :: rest))) : W p l e R s m args below meth c H locs cells slots Q (F0 m pc ls (.ref a :: rest)) := by
  subst ha
  subst ex
  have he : (wS D.2.1 G S)[k]? = some (gA G k, .inr (ci, fs)) := by rw [wS_get hk, gC, hkd, hg]
  exact va_getN hexec hb hts hin hown hW.1 hW.2.1 k he hc f hf hlink hsame hv hdg kk
theorem r_getrN (hexec : p.tables.exec = Jvm.exec) (hb : c.code = cc) {own ref C host : String} {T : u_T} {N ci index : Nat} {Ts : List Cond} (hts : ∀ w ∈ Ts, w.before args s = true) (hin : ∀ w ∈ u_ws C T N, w ∈ Ts) (hown : s.vm.findClass own = some m.cls) (hW : Wd D A s G S H locs) (hc : vwCl[ci]? = some (C, T, N)) (k f : Nat) (ha : gA G k = a) (hk : k < gN G) (hkd : gK G k = ci) (hf : f < N) (hlink : (Cond.fieldLinkNest own index ref (T f).2.1 (T f).2.2.1 host).before args s = true) (hsame : ∀ x, s.fieldFound? (T f).1 (T f).2.1 (T f).2.2.1 = some x → s.fieldFound? ref (T f).2.1 (T f).2.2.1 = some x) {x : Nat} (ex : gp S k f = some x) {fs : List Value} (hg : gE D.2.1 (gZ G k) ci (gi S k) (gj S k) (gp S k) = .inr (ci, fs)) (hv : fs[f]? = some (va_rf (gp S k f))) (hdg : decode cc pc = .ok (.getfield index, 3))
    (kk : W p l e R s m args below meth c H locs cells slots Q (F0 m (pc + 3) ls (.ref x :: rest))) : W p l e R s m args below meth c H locs cells slots Q (F0 m pc ls (.ref a :: rest)) := by
  subst ha
  rw [ex] at hv
  have he : (wS D.2.1 G S)[k]? = some (gA G k, .inr (ci, fs)) := by rw [wS_get hk, gC, hkd, hg]
  exact va_getN hexec hb hts hin hown hW.1 hW.2.1 k he hc f hf hlink hsame hv hdg kk
theorem r_getqN (hexec : p.tables.exec = Jvm.exec) (hb : c.code = cc) {own ref C host : String} {T : u_T} {N ci index : Nat} {Ts : List Cond} (hts : ∀ w ∈ Ts, w.before args s = true) (hin : ∀ w ∈ u_ws C T N, w ∈ Ts) (hown : s.vm.findClass own = some m.cls) (hW : Wd D A s G S H locs) (hc : vwCl[ci]? = some (C, T, N)) (k f : Nat) (ha : gA G k = a) (hk : k < gN G) (hkd : gK G k = ci) (hf : f < N) (hlink : (Cond.fieldLinkNest own index ref (T f).2.1 (T f).2.2.1 host).before args s = true) (hsame : ∀ x, s.fieldFound? (T f).1 (T f).2.1 (T f).2.2.1 = some x → s.fieldFound? ref (T f).2.1 (T f).2.2.1 = some x) (x : Option Nat) (ex : gp S k f = x) {fs : List Value} (hg : gE D.2.1 (gZ G k) ci (gi S k) (gj S k) (gp S k) = .inr (ci, fs)) (hv : fs[f]? = some (va_rf (gp S k f))) (hdg : decode cc pc = .ok (.getfield index, 3))
    (kk : W p l e R s m args below meth c H locs cells slots Q (F0 m (pc + 3) ls (va_rf x :: rest))) : W p l e R s m args below meth c H locs cells slots Q (F0 m pc ls (.ref a :: rest)) := by
  subst ha
  rw [ex] at hv
  have he : (wS D.2.1 G S)[k]? = some (gA G k, .inr (ci, fs)) := by rw [wS_get hk, gC, hkd, hg]
  exact va_getN hexec hb hts hin hown hW.1 hW.2.1 k he hc f hf hlink hsame hv hdg kk
theorem Wd.put {S' : Sg} {k : Nat} {e' : va_E} {H1 : Heap} {locs1 : List Loc} (hK : va_K D.1 vwCl (tyl D.2.1) s) (hX : StrOK D A s s.heap) (hk : k < gN G) (he : gC D.2.1 G S' k = e') (ho : Oth k S' S) (hP : va_P D.1 vwCl ((wS D.2.1 G S).set k (gA G k, e')) H1) (hD : va_D A ((wS D.2.1 G S).set k (gA G k, e'))) (hS : va_S A s.heap H1 locs1) : Wd D A s G S' H1 locs1 := by
  rw [wS_set hk he ho.gC] at hP hD
  exact ⟨hK, hP, hD, hS, hX⟩
theorem r_puti (hexec : p.tables.exec = Jvm.exec) (hb : c.code = cc) {own ref C : String} {T : u_T} {N ci index : Nat} {Ts : List Cond} (hts : ∀ w ∈ Ts, w.before args s = true) (hin : ∀ w ∈ u_ws C T N, w ∈ Ts) (ty0 : Nat → FieldType) (hty : ∀ k, k < N → parseFieldDescriptor (T k).2.2.1 = some (ty0 k)) (hnm : ∀ a, a < N → ∀ b, b < N → a ≠ b → (T a).2.1 ≠ (T b).2.1) (hown : s.vm.findClass own = some m.cls) (hW : Wd D A s G S H locs) (hc : vwCl[ci]? = some (C, T, N)) (k f : Nat) (ha : gA G k = a) (hk : k < gN G) (hkd : gK G k = ci) (hf : f < N) (hlink : (Cond.fieldLink own index ref (T f).2.1 (T f).2.2.1).before args s = true) (hsame : ∀ x, s.fieldFound? (T f).1 (T f).2.1 (T f).2.2.1 = some x → s.fieldFound? ref (T f).2.1 (T f).2.2.1 = some x) (hfin : (T f).2.2.2 = false) {fs : List Value} {v : Int32} {ty : FieldType} (hd : parseFieldDescriptor (T f).2.2.1 = some ty) (hn : narrow ty (.int v) = .int v) (hfit : fits ty (.int v) = true) (S' : Sg) (i i' : Nat → Int32) (e0 : gi S k = i) (e1 : gi S' k = i') (e2 : gj S' k = gj S k) (e3 : gp S' k = gp S k) (hg : gE D.2.1 (gZ G k) ci i (gj S k) (gp S k) = .inr (ci, fs)) (hl : f < fs.length) (hg' : gE D.2.1 (gZ G k) ci i' (gj S k) (gp S k) = .inr (ci, fs.set f (.int v))) (ho : Oth k S' S)
    (hdg : decode cc pc = .ok (.putfield index, 3)) (kk : ∀ (H1 : Heap) (locs1 : List Loc), Wd D A s G S' H1 locs1 → W p l e R s m args below meth c H1 locs1 cells slots Q (F0 m (pc + 3) ls rest)) : W p l e R s m args below meth c H locs cells slots Q (F0 m pc ls (.int v :: .ref a :: rest)) := by
  subst ha
  have he : (wS D.2.1 G S)[k]? = some (gA G k, .inr (ci, fs)) := by rw [wS_get hk, gC, hkd]; exact congrArg (fun z => some (gA G k, z)) (by rw [e0]; exact hg)
  exact va_put hexec hb hts hin ty0 hty hnm hown hW.1 hW.2.1 hW.2.2.1 hW.2.2.2.1 k he hc f hf hlink hsame hfin hd hn hfit hl hdg fun H1 locs1 hP hD hS => kk H1 locs1 (Wd.put hW.1 hW.2.2.2.2 hk (by rw [gC, hkd]; rw [e1, e2, e3]; exact hg') ho hP hD hS)
theorem r_putiF (hexec : p.tables.exec = Jvm.exec) (hb : c.code = cc) {own ref C : String} {T : u_T} {N ci index : Nat} {Ts : List Cond} (hts : ∀ w ∈ Ts, w.before args s = true) (hin : ∀ w ∈ u_ws C T N, w ∈ Ts) (ty0 : Nat → FieldType) (hty : ∀ k, k < N → parseFieldDescriptor (T k).2.2.1 = some (ty0 k)) (hnm : ∀ a, a < N → ∀ b, b < N → a ≠ b → (T a).2.1 ≠ (T b).2.1) (hown : s.vm.findClass own = some m.cls) (hW : Wd D A s G S H locs) (hc : vwCl[ci]? = some (C, T, N)) (k f : Nat) (ha : gA G k = a) (hk : k < gN G) (hkd : gK G k = ci) (hf : f < N) (hlink : (Cond.fieldLink own index ref (T f).2.1 (T f).2.2.1).before args s = true) (hsame : ∀ x, s.fieldFound? (T f).1 (T f).2.1 (T f).2.2.1 = some x → s.fieldFound? ref (T f).2.1 (T f).2.2.1 = some x) (hfin : (T f).2.2.2 = true) (hin2 : meth.name = "<init>") (hdecl : (T f).1 = own) {fs : List Value} {v : Int32} {ty : FieldType} (hd : parseFieldDescriptor (T f).2.2.1 = some ty) (hn : narrow ty (.int v) = .int v) (hfit : fits ty (.int v) = true) (S' : Sg) (i i' : Nat → Int32) (e0 : gi S k = i) (e1 : gi S' k = i') (e2 : gj S' k = gj S k) (e3 : gp S' k = gp S k) (hg : gE D.2.1 (gZ G k) ci i (gj S k) (gp S k) = .inr (ci, fs)) (hl : f < fs.length) (hg' : gE D.2.1 (gZ G k) ci i' (gj S k) (gp S k) = .inr (ci, fs.set f (.int v))) (ho : Oth k S' S)
    (hdg : decode cc pc = .ok (.putfield index, 3)) (kk : ∀ (H1 : Heap) (locs1 : List Loc), Wd D A s G S' H1 locs1 → W p l e R s m args below meth c H1 locs1 cells slots Q (F0 m (pc + 3) ls rest)) : W p l e R s m args below meth c H locs cells slots Q (F0 m pc ls (.int v :: .ref a :: rest)) := by
  subst ha
  have he : (wS D.2.1 G S)[k]? = some (gA G k, .inr (ci, fs)) := by rw [wS_get hk, gC, hkd]; exact congrArg (fun z => some (gA G k, z)) (by rw [e0]; exact hg)
  exact va_putF hexec hb hts hin ty0 hty hnm hown hW.1 hW.2.1 hW.2.2.1 hW.2.2.2.1 k he hc f hf hlink hsame hfin hin2 hdecl hd hn hfit hl hdg fun H1 locs1 hP hD hS => kk H1 locs1 (Wd.put hW.1 hW.2.2.2.2 hk (by rw [gC, hkd]; rw [e1, e2, e3]; exact hg') ho hP hD hS)
theorem r_putl (hexec : p.tables.exec = Jvm.exec) (hb : c.code = cc) {own ref C : String} {T : u_T} {N ci index : Nat} {Ts : List Cond} (hts : ∀ w ∈ Ts, w.before args s = true) (hin : ∀ w ∈ u_ws C T N, w ∈ Ts) (ty0 : Nat → FieldType) (hty : ∀ k, k < N → parseFieldDescriptor (T k).2.2.1 = some (ty0 k)) (hnm : ∀ a, a < N → ∀ b, b < N → a ≠ b → (T a).2.1 ≠ (T b).2.1) (hown : s.vm.findClass own = some m.cls) (hW : Wd D A s G S H locs) (hc : vwCl[ci]? = some (C, T, N)) (k f : Nat) (ha : gA G k = a) (hk : k < gN G) (hkd : gK G k = ci) (hf : f < N) (hlink : (Cond.fieldLink own index ref (T f).2.1 (T f).2.2.1).before args s = true) (hsame : ∀ x, s.fieldFound? (T f).1 (T f).2.1 (T f).2.2.1 = some x → s.fieldFound? ref (T f).2.1 (T f).2.2.1 = some x) (hfin : (T f).2.2.2 = false) {fs : List Value} {v : Int64} {ty : FieldType} (hd : parseFieldDescriptor (T f).2.2.1 = some ty) (hn : narrow ty (.long v) = .long v) (hfit : fits ty (.long v) = true) (S' : Sg) (i i' : Nat → Int64) (e0 : gj S k = i) (e1 : gj S' k = i') (e2 : gi S' k = gi S k) (e3 : gp S' k = gp S k) (hg : gE D.2.1 (gZ G k) ci (gi S k) i (gp S k) = .inr (ci, fs)) (hl : f < fs.length) (hg' : gE D.2.1 (gZ G k) ci (gi S k) i' (gp S k) = .inr (ci, fs.set f (.long v))) (ho : Oth k S' S)
    (hdg : decode cc pc = .ok (.putfield index, 3)) (kk : ∀ (H1 : Heap) (locs1 : List Loc), Wd D A s G S' H1 locs1 → W p l e R s m args below meth c H1 locs1 cells slots Q (F0 m (pc + 3) ls rest)) : W p l e R s m args below meth c H locs cells slots Q (F0 m pc ls (.long v :: .ref a :: rest)) := by
  subst ha
  have he : (wS D.2.1 G S)[k]? = some (gA G k, .inr (ci, fs)) := by rw [wS_get hk, gC, hkd]; exact congrArg (fun z => some (gA G k, z)) (by rw [e0]; exact hg)
  exact va_put hexec hb hts hin ty0 hty hnm hown hW.1 hW.2.1 hW.2.2.1 hW.2.2.2.1 k he hc f hf hlink hsame hfin hd hn hfit hl hdg fun H1 locs1 hP hD hS => kk H1 locs1 (Wd.put hW.1 hW.2.2.2.2 hk (by rw [gC, hkd]; rw [e1, e2, e3]; exact hg') ho hP hD hS)
theorem r_putlF (hexec : p.tables.exec = Jvm.exec) (hb : c.code = cc) {own ref C : String} {T : u_T} {N ci index : Nat} {Ts : List Cond} (hts : ∀ w ∈ Ts, w.before args s = true) (hin : ∀ w ∈ u_ws C T N, w ∈ Ts) (ty0 : Nat → FieldType) (hty : ∀ k, k < N → parseFieldDescriptor (T k).2.2.1 = some (ty0 k)) (hnm : ∀ a, a < N → ∀ b, b < N → a ≠ b → (T a).2.1 ≠ (T b).2.1) (hown : s.vm.findClass own = some m.cls) (hW : Wd D A s G S H locs) (hc : vwCl[ci]? = some (C, T, N)) (k f : Nat) (ha : gA G k = a) (hk : k < gN G) (hkd : gK G k = ci) (hf : f < N) (hlink : (Cond.fieldLink own index ref (T f).2.1 (T f).2.2.1).before args s = true) (hsame : ∀ x, s.fieldFound? (T f).1 (T f).2.1 (T f).2.2.1 = some x → s.fieldFound? ref (T f).2.1 (T f).2.2.1 = some x) (hfin : (T f).2.2.2 = true) (hin2 : meth.name = "<init>") (hdecl : (T f).1 = own) {fs : List Value} {v : Int64} {ty : FieldType} (hd : parseFieldDescriptor (T f).2.2.1 = some ty) (hn : narrow ty (.long v) = .long v) (hfit : fits ty (.long v) = true) (S' : Sg) (i i' : Nat → Int64) (e0 : gj S k = i) (e1 : gj S' k = i') (e2 : gi S' k = gi S k) (e3 : gp S' k = gp S k) (hg : gE D.2.1 (gZ G k) ci (gi S k) i (gp S k) = .inr (ci, fs)) (hl : f < fs.length) (hg' : gE D.2.1 (gZ G k) ci (gi S k) i' (gp S k) = .inr (ci, fs.set f (.long v))) (ho : Oth k S' S)
    (hdg : decode cc pc = .ok (.putfield index, 3)) (kk : ∀ (H1 : Heap) (locs1 : List Loc), Wd D A s G S' H1 locs1 → W p l e R s m args below meth c H1 locs1 cells slots Q (F0 m (pc + 3) ls rest)) : W p l e R s m args below meth c H locs cells slots Q (F0 m pc ls (.long v :: .ref a :: rest)) := by
  subst ha
  have he : (wS D.2.1 G S)[k]? = some (gA G k, .inr (ci, fs)) := by rw [wS_get hk, gC, hkd]; exact congrArg (fun z => some (gA G k, z)) (by rw [e0]; exact hg)
  exact va_putF hexec hb hts hin ty0 hty hnm hown hW.1 hW.2.1 hW.2.2.1 hW.2.2.2.1 k he hc f hf hlink hsame hfin hin2 hdecl hd hn hfit hl hdg fun H1 locs1 hP hD hS => kk H1 locs1 (Wd.put hW.1 hW.2.2.2.2 hk (by rw [gC, hkd]; rw [e1, e2, e3]; exact hg') ho hP hD hS)
theorem r_putr (hexec : p.tables.exec = Jvm.exec) (hb : c.code = cc) {own ref C : String} {T : u_T} {N ci index : Nat} {Ts : List Cond} (hts : ∀ w ∈ Ts, w.before args s = true) (hin : ∀ w ∈ u_ws C T N, w ∈ Ts) (ty0 : Nat → FieldType) (hty : ∀ k, k < N → parseFieldDescriptor (T k).2.2.1 = some (ty0 k)) (hnm : ∀ a, a < N → ∀ b, b < N → a ≠ b → (T a).2.1 ≠ (T b).2.1) (hown : s.vm.findClass own = some m.cls) (hW : Wd D A s G S H locs) (hc : vwCl[ci]? = some (C, T, N)) (k f : Nat) (ha : gA G k = a) (hk : k < gN G) (hkd : gK G k = ci) (hf : f < N) (hlink : (Cond.fieldLink own index ref (T f).2.1 (T f).2.2.1).before args s = true) (hsame : ∀ x, s.fieldFound? (T f).1 (T f).2.1 (T f).2.2.1 = some x → s.fieldFound? ref (T f).2.1 (T f).2.2.1 = some x) (hfin : (T f).2.2.2 = false) {fs : List Value} {v : Nat} {ty : FieldType} (hd : parseFieldDescriptor (T f).2.2.1 = some ty) (hn : narrow ty (.ref v) = .ref v) (hfit : fits ty (.ref v) = true) (S' : Sg) (i i' : Nat → Option Nat) (e0 : gp S k = i) (e1 : gp S' k = i') (e2 : gi S' k = gi S k) (e3 : gj S' k = gj S k) (hg : gE D.2.1 (gZ G k) ci (gi S k) (gj S k) i = .inr (ci, fs)) (hl : f < fs.length) (hg' : gE D.2.1 (gZ G k) ci (gi S k) (gj S k) i' = .inr (ci, fs.set f (.ref v))) (ho : Oth k S' S)
    (hdg : decode cc pc = .ok (.putfield index, 3)) (kk : ∀ (H1 : Heap) (locs1 : List Loc), Wd D A s G S' H1 locs1 → W p l e R s m args below meth c H1 locs1 cells slots Q (F0 m (pc + 3) ls rest)) : W p l e R s m args below meth c H locs cells slots Q (F0 m pc ls (.ref v :: .ref a :: rest)) := by
  subst ha
  have he : (wS D.2.1 G S)[k]? = some (gA G k, .inr (ci, fs)) := by rw [wS_get hk, gC, hkd]; exact congrArg (fun z => some (gA G k, z)) (by rw [e0]; exact hg)
  exact va_put hexec hb hts hin ty0 hty hnm hown hW.1 hW.2.1 hW.2.2.1 hW.2.2.2.1 k he hc f hf hlink hsame hfin hd hn hfit hl hdg fun H1 locs1 hP hD hS => kk H1 locs1 (Wd.put hW.1 hW.2.2.2.2 hk (by rw [gC, hkd]; rw [e1, e2, e3]; exact hg') ho hP hD hS)
theorem r_putrF (hexec : p.tables.exec = Jvm.exec) (hb : c.code = cc) {own ref C : String} {T : u_T} {N ci index : Nat} {Ts : List Cond} (hts : ∀ w ∈ Ts, w.before args s = true) (hin : ∀ w ∈ u_ws C T N, w ∈ Ts) (ty0 : Nat → FieldType) (hty : ∀ k, k < N → parseFieldDescriptor (T k).2.2.1 = some (ty0 k)) (hnm : ∀ a, a < N → ∀ b, b < N → a ≠ b → (T a).2.1 ≠ (T b).2.1) (hown : s.vm.findClass own = some m.cls) (hW : Wd D A s G S H locs) (hc : vwCl[ci]? = some (C, T, N)) (k f : Nat) (ha : gA G k = a) (hk : k < gN G) (hkd : gK G k = ci) (hf : f < N) (hlink : (Cond.fieldLink own index ref (T f).2.1 (T f).2.2.1).before args s = true) (hsame : ∀ x, s.fieldFound? (T f).1 (T f).2.1 (T f).2.2.1 = some x → s.fieldFound? ref (T f).2.1 (T f).2.2.1 = some x) (hfin : (T f).2.2.2 = true) (hin2 : meth.name = "<init>") (hdecl : (T f).1 = own) {fs : List Value} {v : Nat} {ty : FieldType} (hd : parseFieldDescriptor (T f).2.2.1 = some ty) (hn : narrow ty (.ref v) = .ref v) (hfit : fits ty (.ref v) = true) (S' : Sg) (i i' : Nat → Option Nat) (e0 : gp S k = i) (e1 : gp S' k = i') (e2 : gi S' k = gi S k) (e3 : gj S' k = gj S k) (hg : gE D.2.1 (gZ G k) ci (gi S k) (gj S k) i = .inr (ci, fs)) (hl : f < fs.length) (hg' : gE D.2.1 (gZ G k) ci (gi S k) (gj S k) i' = .inr (ci, fs.set f (.ref v))) (ho : Oth k S' S)
    (hdg : decode cc pc = .ok (.putfield index, 3)) (kk : ∀ (H1 : Heap) (locs1 : List Loc), Wd D A s G S' H1 locs1 → W p l e R s m args below meth c H1 locs1 cells slots Q (F0 m (pc + 3) ls rest)) : W p l e R s m args below meth c H locs cells slots Q (F0 m pc ls (.ref v :: .ref a :: rest)) := by
  subst ha
  have he : (wS D.2.1 G S)[k]? = some (gA G k, .inr (ci, fs)) := by rw [wS_get hk, gC, hkd]; exact congrArg (fun z => some (gA G k, z)) (by rw [e0]; exact hg)
  exact va_putF hexec hb hts hin ty0 hty hnm hown hW.1 hW.2.1 hW.2.2.1 hW.2.2.2.1 k he hc f hf hlink hsame hfin hin2 hdecl hd hn hfit hl hdg fun H1 locs1 hP hD hS => kk H1 locs1 (Wd.put hW.1 hW.2.2.2.2 hk (by rw [gC, hkd]; rw [e1, e2, e3]; exact hg') ho hP hD hS)
/-- arrays by their roles -/
theorem r_iald (hexec : p.tables.exec = Jvm.exec) (hb : c.code = cc) (hW : Wd D A s G S H locs) (k : Nat) (ha : gA G k = a) (hk : k < gN G) (hkd : gK G k = 12) {i : Int32} (hin : vp_in i (gZ G k)) (x : Int32) (ex : gi S k i.toNatClampNeg = x) (hdg : decode cc pc = .ok (.iaload, 1))
    (kk : W p l e R s m args below meth c H locs cells slots Q (F0 m (pc + 1) ls (.int x :: rest))) : W p l e R s m args below meth c H locs cells slots Q (F0 m pc ls (.int i :: .ref a :: rest)) := by
  subst ha
  subst ex
  exact va_iald hexec hb hW.1 hW.2.1 k 1 (cA := D.2.1 12) (n := gZ G k) (f := gi S k) (by rw [wS_get hk, gC, hkd]; rfl) rfl hin hdg kk
theorem r_bald (hexec : p.tables.exec = Jvm.exec) (hb : c.code = cc) (hW : Wd D A s G S H locs) (k : Nat) (ha : gA G k = a) (hk : k < gN G) (hkd : gK G k = 11) {i : Int32} (hin : vp_in i (gZ G k)) (x : Int32) (ex : gi S k i.toNatClampNeg = x) (hdg : decode cc pc = .ok (.baload, 1))
    (kk : W p l e R s m args below meth c H locs cells slots Q (F0 m (pc + 1) ls (.int x :: rest))) : W p l e R s m args below meth c H locs cells slots Q (F0 m pc ls (.int i :: .ref a :: rest)) := by
  subst ha
  subst ex
  exact va_bald hexec hb hW.1 hW.2.1 k 0 (cA := D.2.1 11) (n := gZ G k) (f := gi S k) (by rw [wS_get hk, gC, hkd]; rfl) rfl hin hdg kk
theorem r_lald (hexec : p.tables.exec = Jvm.exec) (hb : c.code = cc) (hW : Wd D A s G S H locs) (k : Nat) (ha : gA G k = a) (hk : k < gN G) (hkd : gK G k = 13) {i : Int32} (hin : vp_in i (gZ G k)) (x : Int64) (ex : gj S k i.toNatClampNeg = x) (hdg : decode cc pc = .ok (.laload, 1))
    (kk : W p l e R s m args below meth c H locs cells slots Q (F0 m (pc + 1) ls (.long x :: rest))) : W p l e R s m args below meth c H locs cells slots Q (F0 m pc ls (.int i :: .ref a :: rest)) := by
  subst ha
  subst ex
  exact va_lald hexec hb hW.1 hW.2.1 k 2 (cA := D.2.1 13) (n := gZ G k) (f := gj S k) (by rw [wS_get hk, gC, hkd]; rfl) rfl hin hdg kk
theorem r_iast (hexec : p.tables.exec = Jvm.exec) (hb : c.code = cc) (hW : Wd D A s G S H locs) (k : Nat) (ha : gA G k = a) (hk : k < gN G) (hkd : gK G k = 12) {i : Int32} {x : Int32} (hin : vp_in i (gZ G k)) (S' : Sg) (r : Nat → Int32) (e0 : gi S k = r) (e1 : gi S' k = va_up r i.toNatClampNeg x) (e2 : gj S' k = gj S k) (e3 : gp S' k = gp S k) (ho : Oth k S' S) (hdg : decode cc pc = .ok (.iastore, 1))
    (kk : ∀ (H1 : Heap) (locs1 : List Loc), Wd D A s G S' H1 locs1 → W p l e R s m args below meth c H1 locs1 cells slots Q (F0 m (pc + 1) ls rest)) : W p l e R s m args below meth c H locs cells slots Q (F0 m pc ls (.int x :: .int i :: .ref a :: rest)) := by
  subst ha
  subst e0
  exact va_iast hexec hb hW.1 hW.2.1 hW.2.2.1 hW.2.2.2.1 k 1 (cA := D.2.1 12) (n := gZ G k) (f := gi S k) (by rw [wS_get hk, gC, hkd]; rfl) rfl hin hdg fun H1 locs1 hP hD hS => kk H1 locs1 (Wd.put hW.1 hW.2.2.2.2 hk (by rw [gC, hkd, e1, e2, e3]; rfl) ho hP hD hS)
theorem r_bast (hexec : p.tables.exec = Jvm.exec) (hb : c.code = cc) (hW : Wd D A s G S H locs) (k : Nat) (ha : gA G k = a) (hk : k < gN G) (hkd : gK G k = 11) {i : Int32} {x : Int32} (hin : vp_in i (gZ G k)) (S' : Sg) (r : Nat → Int32) (e0 : gi S k = r) (e1 : gi S' k = va_up r i.toNatClampNeg (vp_nar .byte x)) (e2 : gj S' k = gj S k) (e3 : gp S' k = gp S k) (ho : Oth k S' S) (hdg : decode cc pc = .ok (.bastore, 1))
    (kk : ∀ (H1 : Heap) (locs1 : List Loc), Wd D A s G S' H1 locs1 → W p l e R s m args below meth c H1 locs1 cells slots Q (F0 m (pc + 1) ls rest)) : W p l e R s m args below meth c H locs cells slots Q (F0 m pc ls (.int x :: .int i :: .ref a :: rest)) := by
  subst ha
  subst e0
  exact va_bast hexec hb hW.1 hW.2.1 hW.2.2.1 hW.2.2.2.1 k 0 (cA := D.2.1 11) (n := gZ G k) (f := gi S k) (by rw [wS_get hk, gC, hkd]; rfl) rfl hin hdg fun H1 locs1 hP hD hS => kk H1 locs1 (Wd.put hW.1 hW.2.2.2.2 hk (by rw [gC, hkd, e1, e2, e3]; rfl) ho hP hD hS)
theorem r_last (hexec : p.tables.exec = Jvm.exec) (hb : c.code = cc) (hW : Wd D A s G S H locs) (k : Nat) (ha : gA G k = a) (hk : k < gN G) (hkd : gK G k = 13) {i : Int32} {x : Int64} (hin : vp_in i (gZ G k)) (S' : Sg) (r : Nat → Int64) (e0 : gj S k = r) (e1 : gj S' k = va_up r i.toNatClampNeg x) (e2 : gi S' k = gi S k) (e3 : gp S' k = gp S k) (ho : Oth k S' S) (hdg : decode cc pc = .ok (.lastore, 1))
    (kk : ∀ (H1 : Heap) (locs1 : List Loc), Wd D A s G S' H1 locs1 → W p l e R s m args below meth c H1 locs1 cells slots Q (F0 m (pc + 1) ls rest)) : W p l e R s m args below meth c H locs cells slots Q (F0 m pc ls (.long x :: .int i :: .ref a :: rest)) := by
  subst ha
  subst e0
  exact va_last hexec hb hW.1 hW.2.1 hW.2.2.1 hW.2.2.2.1 k 2 (cA := D.2.1 13) (n := gZ G k) (f := gj S k) (by rw [wS_get hk, gC, hkd]; rfl) rfl hin hdg fun H1 locs1 hP hD hS => kk H1 locs1 (Wd.put hW.1 hW.2.2.2.2 hk (by rw [gC, hkd, e1, e2, e3]; rfl) ho hP hD hS)
theorem r_aald (hexec : p.tables.exec = Jvm.exec) (hb : c.code = cc) (hW : Wd D A s G S H locs) (k : Nat) (ha : gA G k = a) (hk : k < gN G) (kd t0 : Nat) (hkd : gK G k = kd) {ty : FieldType} (ht : (tyl D.2.1)[t0]? = some (D.2.1 kd, ty)) (hrt : ty.isReference = true) (hg : ∀ z i j q, gE D.2.1 z kd i j q = .inl (D.2.1 kd, z, .inr (.inr (.inr (.inr q))))) {i : Int32} (hin : vp_in i (gZ G k)) (x : Option Nat) (ex : gp S k i.toNatClampNeg = x) (hdg : decode cc pc = .ok (.aaload, 1))
    (kk : W p l e R s m args below meth c H locs cells slots Q (F0 m (pc + 1) ls (va_rf x :: rest))) : W p l e R s m args below meth c H locs cells slots Q (F0 m pc ls (.int i :: .ref a :: rest)) := by
  subst ha
  subst ex
  have hlt : i.toNatClampNeg < gZ G k := Nat.not_le.mp fun q => hin (Or.inr q)
  have he : (wS D.2.1 G S)[k]? = some (gA G k, .inl (D.2.1 kd, gZ G k, .inr (.inr (.inr (.inr (gp S k)))))) := by rw [wS_get hk, gC, hkd, hg]
  exact W.aald (v := va_rf (gp S k i.toNatClampNeg)) (ty := ty) hexec hb (hW.2.1 k _ he) ((hW.1.2 t0 _ ht).1 (gZ G k) (fun j => va_rf (gp S k j))) hrt (fun q => by cases q) (by show ¬ (i < 0 ∨ (arrV _ _ _).slots.size ≤ _); rw [arrV_size]; exact hin) (by show (arrV _ _ _).slots[_]? = _; rw [arrV_read _ _ hlt]) rfl rfl hdg kk
/-- calls -/
theorem Wd.behind {G' : Gg} {S' : Sg} {z : Nat} {t : State} {H1 : Heap} {locs1 : List Loc} (hW : Wd D A s G S H locs) (hB : PostW D G' (AW G H.size) S' t) (hA : ∀ q, s.heap.size ≤ q → A q) (ht : t.heap = H1) (hS : va_S A s.heap H1 locs1) : Wd D A s G' S' H1 locs1 := by
  obtain ⟨hP1, -, hD1⟩ := hB
  rw [ht] at hP1
  refine ⟨hW.1, hP1, ⟨hD1.1, fun k q hq => ?_⟩, hS, hW.2.2.2.2⟩
  rcases hD1.2 k q hq with ⟨j, hj, e⟩ | h
  · rw [e]; exact hW.2.2.1.2 j _ (wS_get hj)
  · exact hA _ (Nat.le_trans hW.2.2.2.1.1 h)
theorem Wd.free (hW : Wd D A s G S H locs) (hA : ∀ q, s.heap.size ≤ q → A q) : ∀ q, AW G H.size q → A q := by
  rintro q (⟨j, hj, rfl⟩ | h)
  · exact hW.2.2.1.2 j _ (wS_get hj)
  · exact hA _ (Nat.le_trans hW.2.2.2.1.1 h)
theorem r_preV (hA : ∀ q, s.heap.size ≤ q → A q) {C : String} {T : u_T} {N ci k b : Nat} {fs : List Value} {As av : List Value} (hW : Wd D A s G S H locs) (hc : vwCl[ci]? = some (C, T, N)) (hb : gA G k = b) (hk : k < gN G) (hkd : gK G k = ci) (hg : gE D.2.1 (gZ G k) ci (gi S k) (gj S k) (gp S k) = .inr (ci, fs)) (hav : av = .ref b :: As) : PreV s H C b (va_Pc av (PreW D G S H.size)) As := by
  subst hb
  refine ⟨PreW.blind, va_recv hW.1 hW.2.1 hc (q0 := k) (fs := fs) (by rw [wS_get hk, gC, hkd, hg]), fun U hU hV => ⟨by rw [hav], by rw [hU], by rw [hU]; exact hW.2.1, va_K.moved hV.alike hW.1, ⟨hW.2.2.1.1, fun _ _ _ => trivial⟩, ((hW.2.2.2.2.kept (fun a h1 h2 => by rw [hU]; exact hW.2.2.2.1.2.1 a h1 h2)).narrow (hW.free hA)).warm hV⟩⟩
theorem r_preS (hA : ∀ q, s.heap.size ≤ q → A q) {As : List Value} (hW : Wd D A s G S H locs) : PreS s H (va_Pc As (PreW D G S H.size)) As :=
  ⟨PreW.blind, fun U hU hV => ⟨rfl, by rw [hU], by rw [hU]; exact hW.2.1, va_K.moved hV.alike hW.1, ⟨hW.2.2.1.1, fun _ _ _ => trivial⟩, ((hW.2.2.2.2.kept (fun a h1 h2 => by rw [hU]; exact hW.2.2.2.1.2.1 a h1 h2)).narrow (hW.free hA)).warm hV⟩⟩
theorem r_calli {st0 : List Value} {av : Array Value} {post : Int32 → Sg → Prop} (hW : Wd D A s G S H locs) (hA : ∀ q, s.heap.size ≤ q → A q) (hr : va_Run p l e R s m args below meth c H locs cells slots 0 0 (F0 m pc ls st0) rest (va_Qi post (PostW D G (AW G H.size)) (AW G H.size) av) (AW G H.size))
    (kk : ∀ (r : Int32) (S' : Sg) (H1 : Heap) (locs1 : List Loc), post r S' → Wd D A s G S' H1 locs1 → W p l e R s m args below meth c H1 locs1 cells slots Q (F0 m (pc + 3) ls (.int r :: rest))) : W p l e R s m args below meth c H locs cells slots Q (F0 m pc ls st0) :=
  va_calli hr hW.2.2.2.1 (fun q _ h => hW.free hA q h) (hW.free hA) (fun r u t H1 locs1 ht _ hp hB _ _ hS => kk r u H1 locs1 hp (hW.behind (z := 0) hB hA ht hS))
theorem r_calll {st0 : List Value} {av : Array Value} {post : Int64 → Sg → Prop} (hW : Wd D A s G S H locs) (hA : ∀ q, s.heap.size ≤ q → A q) (hr : va_Run p l e R s m args below meth c H locs cells slots 0 0 (F0 m pc ls st0) rest (va_Ql post (PostW D G (AW G H.size)) (AW G H.size) av) (AW G H.size))
    (kk : ∀ (r : Int64) (S' : Sg) (H1 : Heap) (locs1 : List Loc), post r S' → Wd D A s G S' H1 locs1 → W p l e R s m args below meth c H1 locs1 cells slots Q (F0 m (pc + 3) ls (.long r :: rest))) : W p l e R s m args below meth c H locs cells slots Q (F0 m pc ls st0) :=
  va_calll hr hW.2.2.2.1 (fun q _ h => hW.free hA q h) (hW.free hA) (fun r u t H1 locs1 ht _ hp hB _ _ hS => kk r u H1 locs1 hp (hW.behind (z := 0) hB hA ht hS))
theorem r_callv {st0 : List Value} {av : Array Value} {post : Sg → Prop} (hW : Wd D A s G S H locs) (hA : ∀ q, s.heap.size ≤ q → A q) (hr : va_Run p l e R s m args below meth c H locs cells slots 0 0 (F0 m pc ls st0) rest (va_Qv post (PostW D G (AW G H.size)) (AW G H.size) av) (AW G H.size))
    (kk : ∀ (S' : Sg) (H1 : Heap) (locs1 : List Loc), post S' → Wd D A s G S' H1 locs1 → W p l e R s m args below meth c H1 locs1 cells slots Q (F0 m (pc + 3) ls rest)) : W p l e R s m args below meth c H locs cells slots Q (F0 m pc ls st0) :=
  va_callv hr hW.2.2.2.1 (fun q _ h => hW.free hA q h) (hW.free hA) (fun u t H1 locs1 ht _ hp hB _ _ hS => kk u H1 locs1 hp (hW.behind (z := 0) hB hA ht hS))
theorem r_callq {st0 : List Value} {av : Array Value} {post : Option Nat → Sg → Prop} (hW : Wd D A s G S H locs) (hA : ∀ q, s.heap.size ≤ q → A q) (hr : va_Run p l e R s m args below meth c H locs cells slots 0 0 (F0 m pc ls st0) rest (va_Qq post (PostW D G (AW G H.size)) (AW G H.size) av) (AW G H.size))
    (kk : ∀ (r : Option Nat) (S' : Sg) (H1 : Heap) (locs1 : List Loc), post r S' → Wd D A s G S' H1 locs1 → W p l e R s m args below meth c H1 locs1 cells slots Q (F0 m (pc + 3) ls (va_rf r :: rest))) : W p l e R s m args below meth c H locs cells slots Q (F0 m pc ls st0) :=
  va_callq hr hW.2.2.2.1 (fun q _ h => hW.free hA q h) (hW.free hA) (fun r u t H1 locs1 ht _ hp hB _ _ hS => kk r u H1 locs1 hp (hW.behind (z := 0) hB hA ht hS))
/-- ends -/
theorem Wd.post {z : Nat} (hW : Wd D (AW G z) s G S H locs) {t : State} (ht : t.heap = H) (hV : s.WarmedH t.vm) : PostW D G (AW G z) S t := ⟨by rw [ht]; exact hW.2.1, va_K.moved hV.alike hW.1, hW.2.2.1⟩
theorem r_iret {post : Int32 → Sg → Prop} {v : Int32} (hexec : p.tables.exec = Jvm.exec) (hb : c.code = cc) (hr : meth.sig.returnType = some .int) (hlocks : meth.locks = false) (hW : Wd D (AW G s.heap.size) s G S H locs) (hp : post v S) (hdg : decode cc pc = .ok (.ireturn, 1)) :
    W p l e R s m args below meth c H locs 0 0 (MQ below (va_Qi post (PostW D G (AW G s.heap.size)) (AW G s.heap.size)) args s 0 0 (AW G s.heap.size)) (F0 m pc ls [.int v]) :=
  W.iret hexec hb hr (fun t ht hV => ⟨⟨v, S, rfl, hp, hW.post ht hV⟩, hW.2.2.2.1.F ht⟩) hW.2.2.2.1.2.2 hdg hlocks
theorem r_zret {post : Int32 → Sg → Prop} {v : Int32} (hexec : p.tables.exec = Jvm.exec) (hb : c.code = cc) (hr : meth.sig.returnType = some .boolean) (hlocks : meth.locks = false) (hW : Wd D (AW G s.heap.size) s G S H locs) (hv : v = 0 ∨ v = 1) (hp : post v S) (hdg : decode cc pc = .ok (.ireturn, 1)) :
    W p l e R s m args below meth c H locs 0 0 (MQ below (va_Qi post (PostW D G (AW G s.heap.size)) (AW G s.heap.size)) args s 0 0 (AW G s.heap.size)) (F0 m pc ls [.int v]) :=
  W.zret hexec hb hr (by rcases hv with rfl | rfl <;> rfl) (fun t ht hV => ⟨⟨v, S, rfl, hp, hW.post ht hV⟩, hW.2.2.2.1.F ht⟩) hW.2.2.2.1.2.2 hdg hlocks
theorem r_lret {post : Int64 → Sg → Prop} {v : Int64} (hexec : p.tables.exec = Jvm.exec) (hb : c.code = cc) (hr : meth.sig.returnType = some .long) (hlocks : meth.locks = false) (hW : Wd D (AW G s.heap.size) s G S H locs) (hp : post v S) (hdg : decode cc pc = .ok (.lreturn, 1)) :
    W p l e R s m args below meth c H locs 0 0 (MQ below (va_Ql post (PostW D G (AW G s.heap.size)) (AW G s.heap.size)) args s 0 0 (AW G s.heap.size)) (F0 m pc ls [.long v]) :=
  W.lret hexec hb hr (fun t ht hV => ⟨⟨v, S, rfl, hp, hW.post ht hV⟩, hW.2.2.2.1.F ht⟩) hW.2.2.2.1.2.2 hdg hlocks
theorem r_vret {post : Sg → Prop} (hexec : p.tables.exec = Jvm.exec) (hb : c.code = cc) (hr : meth.sig.returnType = none) (hlocks : meth.locks = false) (hW : Wd D (AW G s.heap.size) s G S H locs) (hp : post S) (hdg : decode cc pc = .ok (.return_, 1)) :
    W p l e R s m args below meth c H locs 0 0 (MQ below (va_Qv post (PostW D G (AW G s.heap.size)) (AW G s.heap.size)) args s 0 0 (AW G s.heap.size)) (F0 m pc ls []) :=
  W.vret hexec hb hr (fun t ht hV => ⟨⟨S, rfl, hp, hW.post ht hV⟩, hW.2.2.2.1.F ht⟩) hW.2.2.2.1.2.2 hdg hlocks
end RW
