section RW4
variable {p : Program} {l : Launch} {e : Env} {R : Room} {s : State} {m : MethodId} {args : Array Value} {below : List Frame} {meth : Method} {c : Code} {H : Heap} {locs : List Loc} {D : Dc} {A : Nat → Prop} {G : Gg} {S : Sg}
theorem r_recv {C : String} {T : u_T} {N ci k : Nat} {fs : List Value} (hW : Wd D A s G S H locs) (hc : vwCl[ci]? = some (C, T, N)) (hk : k < gN G) (hkd : gK G k = ci) (hg : gE D.2.1 (gZ G k) ci (gi S k) (gj S k) (gp S k) = .inr (ci, fs)) : ∃ cell : Cell, H[gA G k]? = some cell ∧ cell.vm.isStatics = false ∧ s.vm.findClass C = some cell.cls :=
  va_recv hW.1 hW.2.1 hc (q0 := k) (fs := fs) (by rw [wS_get hk, gC, hkd, hg])
end RW4
def kdI (g : Nat) : Nat := if g = 3 then 5 else if g = 2 then 1 else if g = 1 then 2 else if g = 6 then 3 else 4
theorem kdI_F (w m : Nat) : kdI (kdF w m) = kdN w m := by
  unfold kdF kdN
  split
  · split <;> rfl
  · split
    · rfl
    · split <;> rfl
/-- nothing changed but at the roles of P (references, too) -/
def Ch3 (P : Nat → Prop) (S S' : Sg) : Prop := ∀ k, ¬ P k → gi S' k = gi S k ∧ gj S' k = gj S k ∧ gp S' k = gp S k
theorem Ch3.rf {P : Nat → Prop} {S : Sg} : Ch3 P S S := fun _ _ => ⟨rfl, rfl, rfl⟩
theorem Ch3.ri {P : Nat → Prop} {S T : Sg} {k : Nat} {r : Nat → Int32} (h : Ch3 P S T) (hk : P k) : Ch3 P S (ri T k r) := fun j hj => ⟨(up_n _ _ (fun e : j = k => hj (by rw [e]; exact hk))).trans (h j hj).1, (h j hj).2⟩
theorem Ch3.rj {P : Nat → Prop} {S T : Sg} {k : Nat} {r : Nat → Int64} (h : Ch3 P S T) (hk : P k) : Ch3 P S (rj T k r) := fun j hj => ⟨(h j hj).1, (up_n _ _ (fun e : j = k => hj (by rw [e]; exact hk))).trans (h j hj).2.1, (h j hj).2.2⟩
theorem Ch3.rp {P : Nat → Prop} {S T : Sg} {k : Nat} {r : Nat → Option Nat} (h : Ch3 P S T) (hk : P k) : Ch3 P S (rp T k r) := fun j hj => ⟨(h j hj).1, (h j hj).2.1, (up_n _ _ (fun e : j = k => hj (by rw [e]; exact hk))).trans (h j hj).2.2⟩
theorem Ch.c3 {P : Nat → Prop} {S T : Sg} (h : Ch P S T) : Ch3 P S T := fun j hj => ⟨(h.2 j hj).1, (h.2 j hj).2, by rw [h.1]⟩
def fImg (B : Nat → Nat) (a : Int32) : Int64 := if 0 ≤ a.toInt ∧ a.toInt ≤ 1 then (if B 132 = 0 then STATEL else 1) else BADL
def fRes (B1 B2 : Nat → Nat) (a : Int32) : Int64 := if 0 ≤ a.toInt ∧ a.toInt ≤ 1 then (if (if a.toInt = 0 then B1 else B2) 132 = 0 then STATEL else 1) else BADL
def cntR (le : Nat → Int32) : Nat → Nat
  | 0 => 0
  | k + 1 => cntR le k + (if (le k).toInt = -1 then 0 else 1)
theorem cntR_le (le : Nat → Int32) : ∀ k, cntR le k ≤ k
  | 0 => Nat.le_refl _
  | k + 1 => by have := cntR_le le k; unfold cntR; split <;> omega
def fCount (B : Nat → Nat) (le : Nat → Int32) (ts : Nat) (a : Int32) : Int64 := if 0 ≤ a.toInt ∧ a.toInt ≤ 6 then
    lN (if a.toInt = 0 then cntR le 8 else if a.toInt = 1 then B 17 else if a.toInt = 2 then B 4 else if a.toInt = 3 then B 130 else if a.toInt = 4 then B 0 else if a.toInt = 5 then B 131 else ts) else BADL
def fTrace (tn : Int32) (tr : Nat → Int32) (a : Int32) : Int32 := if 0 ≤ a.toInt ∧ a.toInt < tn.toInt then tr a.toNatClampNeg else -1000000
/-- nights by a row: f k the party of the k-th -/
def ntB (B : Nat → Nat) (f : Nat → Nat) : Nat → Nat → Nat
  | 0 => B
  | k + 1 => slB (ntB B f k) (f k)
def ntS (B : Nat → Nat) (f : Nat → Nat) : Nat → Nat
  | 0 => 0
  | k + 1 => ntS B f k + slF (ntB B f k) (f k)
theorem ntB_ok {B : Nat → Nat} {c : Nat} {f : Nat → Nat} (h : BP1 B c) : ∀ (n : Nat), (∀ k, k < n → f k < B 17) → BP1 (ntB B f n) (c + n) ∧ ntB B f n 17 = B 17 ∧ ntS B f n ≤ 9 * n
  | 0, _ => ⟨h, rfl, Nat.zero_le _⟩
  | n + 1, hf => by
    obtain ⟨g1, g2, g3⟩ := ntB_ok h n (fun k hk => hf k (by omega))
    have hp : f n < ntB B f n 17 := by rw [g2]; exact hf n (by omega)
    have h17 := g1.2.2.2.2.2.2.2.2.1
    have hF : slF (ntB B f n) (f n) ≤ 9 := slF_le g1.2.2.1 (g1.2.2.2.2.2.2.2.2.2.1 (f n) hp).2.1
    refine ⟨slB_ok g1 hp, ?_, ?_⟩
    · show slB (ntB B f n) (f n) 17 = B 17
      rw [slB_st (by omega) (by omega) (by omega)]; exact g2
    · show ntS B f n + slF (ntB B f n) (f n) ≤ 9 * (n + 1)
      omega
def fNights (B : Nat → Nat) (it : Nat → Nat → Int32) (le : Nat → Int32) (st r i n : Int32) : Int64 × (Nat → Nat) × Int32 :=
  if B 132 = 0 then (STATEL, B, st)
  else if (0 ≤ r.toInt ∧ r.toInt < 8) ∧ 1 ≤ n.toInt ∧ n.toInt ≤ 40 then
    if fos (le r.toNatClampNeg) i n = 0 then
      if ∀ k, k < n.toNatClampNeg → 0 ≤ (it r.toNatClampNeg (i.toNatClampNeg + k)).toInt ∧ (it r.toNatClampNeg (i.toNatClampNeg + k)).toInt < B 17 then
        (lN (ntS B (fun k => (it r.toNatClampNeg (i.toNatClampNeg + k)).toNatClampNeg) n.toNatClampNeg), ntB B (fun k => (it r.toNatClampNeg (i.toNatClampNeg + k)).toNatClampNeg) n.toNatClampNeg, 0)
      else (BADL, B, st)
    else (FND (fos (le r.toNatClampNeg) i n), B, fos (le r.toNatClampNeg) i n)
  else (BADL, B, st)
def rmX10_kind : Jvm.Room := { frames := 1, cells := 0, slots := 0, locals := 21 }
set_option maxHeartbeats 4000000 in
set_option maxRecDepth 100000 in
theorem t_X10_kind (l : Launch) (D : Dc) (G : Gg) (S : Sg) (z : Nat) (hG : GrG G) (hP : GrP G S) (h : Nat) (hh : PassR h) (hH : gp S 0 7 = some (gA G h)) (B : Nat → Nat) (c : Nat) (hB : BP B c) (hc : c < 100000) (hR : RP G S h B) (a1 : Int32) : ML l yX10_kind wsX10_kind rmX10_kind D G S z [.ref (gA G 0), .int a1] (fun r S' => r = fKind B a1 ∧ S' = S) := by
  refine Met.ofW (cc := cX10_kind) (maxL := 3) (ret := (some .long)) (by decide +kernel) rfl ?_
  intro pP eE s mM args bl mT cD s₁ bD hml hv
  obtain ⟨rfl, hv⟩ := hv
  have hz := hv.1
  subst hz
  have hx := bD.exec
  have hb := bD.bytes
  have hr := bD.returns
  have hts := atoms_spec (ws := wsX10_kind) bD.pre
  have hown : s.vm.findClass RX10 = some mM.cls := findClass_of_methodNamed bD.named
  have hlocks := bD.notSynchronized
  have hW := Wd.start hv
  have hA : ∀ q, s.heap.size ≤ q → AW G s.heap.size q := fun q h => Or.inr h
  have hl := lv_entry ([.ref (gA G 0), .int a1]) (n := 3) (Nat.le_of_ble_eq_true rfl)
  rw [lg_entry_eq]
  generalize (lg_sl ([.ref (gA G 0), .int a1]) ++ List.replicate (3 - (lg_sl ([.ref (gA G 0), .int a1])).length) Slot.unset).toArray = ls at hl ⊢
  have hl : lv_has ls 3 [(0, .ref (gA G 0)), (1, .int a1)] := hl
  have q0 := hts (.fieldLink RX10 49 "WoodForTwo" "here" "LWoodForTwo$Pass;") (List.mem_of_getElem? (i := 1) rfl)
  have q1 := hts (.constantLong RX10 66 (-9000000000000000001)) (List.mem_of_getElem? (i := 2) rfl)
  have iX10 : ∀ w ∈ wsX100, w ∈ wsX10_kind := fun _ h => List.mem_cons_of_mem _ (List.mem_append_left _ (List.mem_append_right _ (h)))
  have h17 : B 17 ≤ 16 := by rcases hB with z | z; (rw [z.2 17]; omega); exact z.2.2.2.2.2.2.2.2.1
  refine lv_aload_n hx hb dX10_kind_0 rfl (lv_at hl 0 rfl) ?_
  refine r_getr (ci := 9) (C := RX10) (T := TX10) (N := 10) hx hb hts iX10 hown hW rfl 0 7 rfl (g_lt hG (by decide)) (g_kd hG (by decide) rfl) (by decide) q0 (fun _ h9 => h9) hH rfl rfl dX10_kind_1 ?_
  refine lv_iload_n hx hb dX10_kind_4 rfl (lv_at hl 1 rfl) ?_
  refine r_callq hW hA (va_runV (As := [.int a1]) (rest := []) ⟨hx, hb, hml, hown, hts⟩ (t_X5_partyAt l D G S _ hG hP h hh B h17 hR.1.2.2.2.2.2.2.1 hR.2.2.2.1 a1) (cwV 1 hts gX10_kind_X5_partyAt rfl rfl rfl (by decide +kernel) ⟨Nat.le_of_ble_eq_true rfl, Nat.le_of_ble_eq_true rfl⟩) (r_preV (k := h) hA hW (ci := 4) (C := RX5) (T := TX5) (N := 16) rfl rfl (p_lt hG hh (i := 0) (by decide)) (p_kd hG hh) rfl rfl) rfl rfl hl.1 rfl (lv_room (Nat.le_of_ble_eq_true rfl)) dX10_kind_5 ⟨Nat.zero_le _, Nat.zero_le _⟩) (fun r5 S5 H locs hp5 hW => ?_)
  obtain ⟨hs5, hp5⟩ := hp5
  rw [hs5] at hW
  rcases hp5 with ⟨p, q, hp1, ep, rfl, hq1, hq2, hq3, hq4⟩ | ⟨rfl, hno⟩
  · subst ep
    have hp31 : p < 2147483648 := by omega
    have epI : (nI p).toInt = p := n_toInt hp31
    have epN : (nI p).toNatClampNeg = p := n_clamp hp31
    have hB1 : BP1 B c := hB.resolve_left (fun z => by rw [z.2 17] at hp1; omega)
    obtain ⟨b0, b1, b2, b3, b4, b5, b6, b7, b8, b9, b10, b11, b12⟩ := id hB1
    have b12p := b12 p (by omega)
    refine W.eq (g2 := F0 mM 8 ls [.ref (gA G q)]) rfl ?_
    refine lv_astore_n (lv' := [(2, .ref (gA G q)), (0, .ref (gA G 0)), (1, .int (nI p))]) hx hb dX10_kind_8 rfl hl (by decide) rfl (fun ls hl => ?_)
    refine lv_aload_n hx hb dX10_kind_9 rfl (lv_at hl 0 rfl) ?_
    refine lv_ifnonnull (tgt := 19) hx hb dX10_kind_10 (by decide) ?_
    refine lv_aload_n hx hb dX10_kind_19 rfl (lv_at hl 0 rfl) ?_
    rcases (show B (34 + p) = 0 ∧ B (18 + p) = 1 ∨ B (34 + p) = 0 ∧ B (18 + p) ≠ 1 ∨ B (34 + p) = 1 ∨ B (34 + p) = 2 ∨ B (34 + p) = 3 by have := (b9 p hp1).2.2.1; omega) with ⟨z1, z2⟩ | ⟨z1, z2⟩ | z1 | z1 | z1
    · have hkq : gK G q = 3 := by rw [hq4.1]; simp [kdF, z1, z2]
      have hkn : kdN (B (34 + p)) (B (18 + p)) = 5 := by simp [kdN, z1, z2]
      refine r_calli hW hA (va_runU (As := []) (rest := []) ⟨hx, hb, hml, hown, hts⟩ (t_X3_kindTold l D G S _ q) (va_cwA 0 hts gX10_kind_X3_kindTold_u220X3 rfl rfl rfl (hW.2.2.2.2.2.2.2.2.2.2.2.2.1 ⟨"WoodForTwo$Party", "kindTold", "()I"⟩ (by decide)) (by decide +kernel) ⟨Nat.le_of_ble_eq_true rfl, Nat.le_of_ble_eq_true rfl⟩) (r_preV (k := q) hA hW (ci := 3) (C := RX3) (T := TX3) (N := 3) rfl rfl hq2 hkq rfl rfl) rfl rfl hl.1 rfl (lv_room (Nat.le_of_ble_eq_true rfl)) dX10_kind_20 ⟨Nat.zero_le _, Nat.zero_le _⟩) (fun r20 S20 H locs hp20 hW => ?_)
      obtain ⟨hs20, rfl⟩ := hp20
      rw [hs20] at hW
      refine lv_i2l hx hb dX10_kind_23 rfl ?_
      refine r_lret hx hb hr hlocks hW ?_ dX10_kind_24
      refine ⟨?_, rfl⟩
      unfold fKind; rw [epI, epN, if_pos (by omega), hkn]; rfl
    · have hkq : gK G q = 2 := by rw [hq4.1]; simp [kdF, z1, z2]
      have hkn : kdN (B (34 + p)) (B (18 + p)) = 1 := by simp [kdN, z1, z2]
      refine r_calli hW hA (va_runU (As := []) (rest := []) ⟨hx, hb, hml, hown, hts⟩ (t_X2_kindTold l D G S _ q) (va_cwA 0 hts gX10_kind_X2_kindTold_u220X2 rfl rfl rfl (hW.2.2.2.2.2.2.2.2.2.2.2.2.1 ⟨"WoodForTwo$Party", "kindTold", "()I"⟩ (by decide)) (by decide +kernel) ⟨Nat.le_of_ble_eq_true rfl, Nat.le_of_ble_eq_true rfl⟩) (r_preV (k := q) hA hW (ci := 2) (C := RX2) (T := TX2) (N := 3) rfl rfl hq2 hkq rfl rfl) rfl rfl hl.1 rfl (lv_room (Nat.le_of_ble_eq_true rfl)) dX10_kind_20 ⟨Nat.zero_le _, Nat.zero_le _⟩) (fun r20 S20 H locs hp20 hW => ?_)
      obtain ⟨hs20, rfl⟩ := hp20
      rw [hs20] at hW
      refine lv_i2l hx hb dX10_kind_23 rfl ?_
      refine r_lret hx hb hr hlocks hW ?_ dX10_kind_24
      refine ⟨?_, rfl⟩
      unfold fKind; rw [epI, epN, if_pos (by omega), hkn]; rfl
    · have hkq : gK G q = 1 := by rw [hq4.1]; simp [kdF, z1]
      have hkn : kdN (B (34 + p)) (B (18 + p)) = 2 := by simp [kdN, z1]
      refine r_calli hW hA (va_runU (As := []) (rest := []) ⟨hx, hb, hml, hown, hts⟩ (t_X1_kindTold l D G S _ q) (va_cwA 0 hts gX10_kind_X1_kindTold_u220X1 rfl rfl rfl (hW.2.2.2.2.2.2.2.2.2.2.2.2.1 ⟨"WoodForTwo$Party", "kindTold", "()I"⟩ (by decide)) (by decide +kernel) ⟨Nat.le_of_ble_eq_true rfl, Nat.le_of_ble_eq_true rfl⟩) (r_preV (k := q) hA hW (ci := 1) (C := RX1) (T := TX1) (N := 3) rfl rfl hq2 hkq rfl rfl) rfl rfl hl.1 rfl (lv_room (Nat.le_of_ble_eq_true rfl)) dX10_kind_20 ⟨Nat.zero_le _, Nat.zero_le _⟩) (fun r20 S20 H locs hp20 hW => ?_)
      obtain ⟨hs20, rfl⟩ := hp20
      rw [hs20] at hW
      refine lv_i2l hx hb dX10_kind_23 rfl ?_
      refine r_lret hx hb hr hlocks hW ?_ dX10_kind_24
      refine ⟨?_, rfl⟩
      unfold fKind; rw [epI, epN, if_pos (by omega), hkn]; rfl
    · have hkq : gK G q = 6 := by rw [hq4.1]; simp [kdF, z1]
      have hkn : kdN (B (34 + p)) (B (18 + p)) = 3 := by simp [kdN, z1]
      refine r_calli hW hA (va_runU (As := []) (rest := []) ⟨hx, hb, hml, hown, hts⟩ (t_X7_kindTold l D G S _ q) (va_cwA 0 hts gX10_kind_X7_kindTold_u220X7 rfl rfl rfl (hW.2.2.2.2.2.2.2.2.2.2.2.2.1 ⟨"WoodForTwo$Party", "kindTold", "()I"⟩ (by decide)) (by decide +kernel) ⟨Nat.le_of_ble_eq_true rfl, Nat.le_of_ble_eq_true rfl⟩) (r_preV (k := q) hA hW (ci := 6) (C := RX7) (T := TX7) (N := 3) rfl rfl hq2 hkq rfl rfl) rfl rfl hl.1 rfl (lv_room (Nat.le_of_ble_eq_true rfl)) dX10_kind_20 ⟨Nat.zero_le _, Nat.zero_le _⟩) (fun r20 S20 H locs hp20 hW => ?_)
      obtain ⟨hs20, rfl⟩ := hp20
      rw [hs20] at hW
      refine lv_i2l hx hb dX10_kind_23 rfl ?_
      refine r_lret hx hb hr hlocks hW ?_ dX10_kind_24
      refine ⟨?_, rfl⟩
      unfold fKind; rw [epI, epN, if_pos (by omega), hkn]; rfl
    · have hkq : gK G q = 8 := by rw [hq4.1]; simp [kdF, z1]
      have hkn : kdN (B (34 + p)) (B (18 + p)) = 4 := by simp [kdN, z1]
      refine r_calli hW hA (va_runU (As := []) (rest := []) ⟨hx, hb, hml, hown, hts⟩ (t_X9_kindTold l D G S _ q) (va_cwA 0 hts gX10_kind_X9_kindTold_u220X9 rfl rfl rfl (hW.2.2.2.2.2.2.2.2.2.2.2.2.1 ⟨"WoodForTwo$Party", "kindTold", "()I"⟩ (by decide)) (by decide +kernel) ⟨Nat.le_of_ble_eq_true rfl, Nat.le_of_ble_eq_true rfl⟩) (r_preV (k := q) hA hW (ci := 8) (C := RX9) (T := TX9) (N := 3) rfl rfl hq2 hkq rfl rfl) rfl rfl hl.1 rfl (lv_room (Nat.le_of_ble_eq_true rfl)) dX10_kind_20 ⟨Nat.zero_le _, Nat.zero_le _⟩) (fun r20 S20 H locs hp20 hW => ?_)
      obtain ⟨hs20, rfl⟩ := hp20
      rw [hs20] at hW
      refine lv_i2l hx hb dX10_kind_23 rfl ?_
      refine r_lret hx hb hr hlocks hW ?_ dX10_kind_24
      refine ⟨?_, rfl⟩
      unfold fKind; rw [epI, epN, if_pos (by omega), hkn]; rfl
  · skip
    refine W.eq (g2 := F0 mM 8 ls [.null]) rfl ?_
    refine lv_astore_nN (lv' := [(2, .null), (0, .ref (gA G 0)), (1, .int a1)]) hx hb dX10_kind_8 rfl hl (by decide) rfl (fun ls hl => ?_)
    refine lv_aload_nN hx hb dX10_kind_9 rfl (lv_at hl 0 rfl) ?_
    refine lv_ifnonnullN hx hb dX10_kind_10 ?_
    refine lv_ldc2 (v := (-9000000000000000001)) hx hb hown q1 dX10_kind_13 ?_
    refine lv_goto (tgt := 24) hx hb dX10_kind_16 (by decide) ?_
    refine r_lret hx hb hr hlocks hW ?_ dX10_kind_24
    refine ⟨?_, rfl⟩
    unfold fKind; rw [if_neg (by omega)]; rfl

def rmX10_isOfKind : Jvm.Room := { frames := 0, cells := 0, slots := 0, locals := 0 }
set_option maxHeartbeats 4000000 in
set_option maxRecDepth 100000 in
theorem t_X10_isOfKind (l : Launch) (D : Dc) (G : Gg) (S : Sg) (z : Nat) (q : Nat) (hq : q < gN G) (hkp : KdP G q) (a1 : Int32) (h0 : 0 ≤ a1.toInt) (h5 : a1.toInt ≤ 5) : MI l yX10_isOfKind wsX10_isOfKind rmX10_isOfKind D G S z [.ref (gA G q), .int a1] (fun r S' => S' = S ∧ ((r = 1 ∧ (a1.toInt = 0 ∨ a1.toInt = kdI (gK G q) ∨ (a1.toInt = 1 ∧ (kdI (gK G q) = 2 ∨ kdI (gK G q) = 5)))) ∨ (r = 0 ∧ ¬ (a1.toInt = 0 ∨ a1.toInt = kdI (gK G q) ∨ (a1.toInt = 1 ∧ (kdI (gK G q) = 2 ∨ kdI (gK G q) = 5)))))) := by
  refine Met.ofW (cc := cX10_isOfKind) (maxL := 2) (ret := (some .boolean)) (by decide +kernel) rfl ?_
  intro pP eE s mM args bl mT cD s₁ bD hml hv
  obtain ⟨rfl, hv⟩ := hv
  have hz := hv.1
  subst hz
  have hx := bD.exec
  have hb := bD.bytes
  have hr := bD.returns
  have hts := atoms_spec (ws := wsX10_isOfKind) bD.pre
  have hown : s.vm.findClass RX10 = some mM.cls := findClass_of_methodNamed bD.named
  have hlocks := bD.notSynchronized
  have hW := Wd.start hv
  have hA : ∀ q, s.heap.size ≤ q → AW G s.heap.size q := fun q h => Or.inr h
  have hl := lv_entry ([.ref (gA G q), .int a1]) (n := 2) (Nat.le_of_ble_eq_true rfl)
  rw [lg_entry_eq]
  generalize (lg_sl ([.ref (gA G q), .int a1]) ++ List.replicate (2 - (lg_sl ([.ref (gA G q), .int a1])).length) Slot.unset).toArray = ls at hl ⊢
  have hl : lv_has ls 2 [(0, .ref (gA G q)), (1, .int a1)] := hl
  have q0 := hts (.classLink RX10 256 "WoodForTwo$Keeper") (List.mem_of_getElem? (i := 1) rfl)
  have q1 := hts (.classLink RX10 258 "WoodForTwo$Half") (List.mem_of_getElem? (i := 2) rfl)
  have q2 := hts (.classLink RX10 260 "WoodForTwo$Taker") (List.mem_of_getElem? (i := 3) rfl)
  have q3 := hts (.classLink RX10 262 "WoodForTwo$Weigher") (List.mem_of_getElem? (i := 4) rfl)
  have q4 := hts (.classLink RX10 264 "WoodForTwo$Lone") (List.mem_of_getElem? (i := 5) rfl)
  refine lv_iload_n hx hb dX10_isOfKind_0 rfl (lv_at hl 1 rfl) ?_
  rcases (show (a1).toInt = 0 ∨ (a1).toInt = 1 ∨ (a1).toInt = 2 ∨ (a1).toInt = 3 ∨ (a1).toInt = 4 ∨ (a1).toInt = 5 by omega) with k1 | k1 | k1 | k1 | k1 | k1
  · refine lv_tableIn (off := 39) (tgt := 40) hx hb dX10_isOfKind_1 (by omega) (by omega) (by rw [k1]; rfl) (by decide) ?_
    refine lv_iconst (v := 1) hx hb dX10_isOfKind_40 (by decide) ?_
    refine r_zret hx hb hr hlocks hW (Or.inr rfl) ?_ dX10_isOfKind_41
    exact ⟨rfl, Or.inl ⟨rfl, by omega⟩⟩
  · refine lv_tableIn (off := 41) (tgt := 42) hx hb dX10_isOfKind_1 (by omega) (by omega) (by rw [k1]; rfl) (by decide) ?_
    refine lv_aload_n hx hb dX10_isOfKind_42 rfl (lv_at hl 0 rfl) ?_
    rcases hkp with hkq | hkq | hkq | hkq | hkq
    · refine va_instY (C := RX1) hx hb hown q0 (hW.2.2.2.2.2.2.2.2.2.2.1 ("WoodForTwo$Half", "WoodForTwo$Keeper") (by decide)) (r_recv hW (ci := 1) (C := RX1) (T := TX1) (N := 3) rfl hq hkq rfl) dX10_isOfKind_43 ?_
      refine r_zret hx hb hr hlocks hW (Or.inr rfl) ?_ dX10_isOfKind_46
      have hki : kdI (gK G q) = 2 := by rw [hkq]; rfl
      exact ⟨rfl, Or.inl ⟨rfl, by omega⟩⟩
    · refine va_instE hx hb hown q0 (r_recv hW (ci := 2) (C := RX2) (T := TX2) (N := 3) rfl hq hkq rfl) dX10_isOfKind_43 ?_
      refine r_zret hx hb hr hlocks hW (Or.inr rfl) ?_ dX10_isOfKind_46
      have hki : kdI (gK G q) = 1 := by rw [hkq]; rfl
      exact ⟨rfl, Or.inl ⟨rfl, by omega⟩⟩
    · refine va_instY (C := RX3) hx hb hown q0 (hW.2.2.2.2.2.2.2.2.2.2.1 ("WoodForTwo$Lone", "WoodForTwo$Keeper") (by decide)) (r_recv hW (ci := 3) (C := RX3) (T := TX3) (N := 3) rfl hq hkq rfl) dX10_isOfKind_43 ?_
      refine r_zret hx hb hr hlocks hW (Or.inr rfl) ?_ dX10_isOfKind_46
      have hki : kdI (gK G q) = 5 := by rw [hkq]; rfl
      exact ⟨rfl, Or.inl ⟨rfl, by omega⟩⟩
    · refine va_instNo (C := RX7) hx hb hown q0 (hW.2.2.2.2.2.2.2.2.2.2.2.1 ("WoodForTwo$Taker", "WoodForTwo$Keeper") (by decide)) (r_recv hW (ci := 6) (C := RX7) (T := TX7) (N := 3) rfl hq hkq rfl) dX10_isOfKind_43 ?_
      refine r_zret hx hb hr hlocks hW (Or.inl rfl) ?_ dX10_isOfKind_46
      have hki : kdI (gK G q) = 3 := by rw [hkq]; rfl
      exact ⟨rfl, Or.inr ⟨rfl, by omega⟩⟩
    · refine va_instNo (C := RX9) hx hb hown q0 (hW.2.2.2.2.2.2.2.2.2.2.2.1 ("WoodForTwo$Weigher", "WoodForTwo$Keeper") (by decide)) (r_recv hW (ci := 8) (C := RX9) (T := TX9) (N := 3) rfl hq hkq rfl) dX10_isOfKind_43 ?_
      refine r_zret hx hb hr hlocks hW (Or.inl rfl) ?_ dX10_isOfKind_46
      have hki : kdI (gK G q) = 4 := by rw [hkq]; rfl
      exact ⟨rfl, Or.inr ⟨rfl, by omega⟩⟩
  · refine lv_tableIn (off := 46) (tgt := 47) hx hb dX10_isOfKind_1 (by omega) (by omega) (by rw [k1]; rfl) (by decide) ?_
    refine lv_aload_n hx hb dX10_isOfKind_47 rfl (lv_at hl 0 rfl) ?_
    rcases hkp with hkq | hkq | hkq | hkq | hkq
    · refine va_instE hx hb hown q1 (r_recv hW (ci := 1) (C := RX1) (T := TX1) (N := 3) rfl hq hkq rfl) dX10_isOfKind_48 ?_
      refine r_zret hx hb hr hlocks hW (Or.inr rfl) ?_ dX10_isOfKind_51
      have hki : kdI (gK G q) = 2 := by rw [hkq]; rfl
      exact ⟨rfl, Or.inl ⟨rfl, by omega⟩⟩
    · refine va_instNo (C := RX2) hx hb hown q1 (hW.2.2.2.2.2.2.2.2.2.2.2.1 ("WoodForTwo$Keeper", "WoodForTwo$Half") (by decide)) (r_recv hW (ci := 2) (C := RX2) (T := TX2) (N := 3) rfl hq hkq rfl) dX10_isOfKind_48 ?_
      refine r_zret hx hb hr hlocks hW (Or.inl rfl) ?_ dX10_isOfKind_51
      have hki : kdI (gK G q) = 1 := by rw [hkq]; rfl
      exact ⟨rfl, Or.inr ⟨rfl, by omega⟩⟩
    · refine va_instNo (C := RX3) hx hb hown q1 (hW.2.2.2.2.2.2.2.2.2.2.2.1 ("WoodForTwo$Lone", "WoodForTwo$Half") (by decide)) (r_recv hW (ci := 3) (C := RX3) (T := TX3) (N := 3) rfl hq hkq rfl) dX10_isOfKind_48 ?_
      refine r_zret hx hb hr hlocks hW (Or.inl rfl) ?_ dX10_isOfKind_51
      have hki : kdI (gK G q) = 5 := by rw [hkq]; rfl
      exact ⟨rfl, Or.inr ⟨rfl, by omega⟩⟩
    · refine va_instNo (C := RX7) hx hb hown q1 (hW.2.2.2.2.2.2.2.2.2.2.2.1 ("WoodForTwo$Taker", "WoodForTwo$Half") (by decide)) (r_recv hW (ci := 6) (C := RX7) (T := TX7) (N := 3) rfl hq hkq rfl) dX10_isOfKind_48 ?_
      refine r_zret hx hb hr hlocks hW (Or.inl rfl) ?_ dX10_isOfKind_51
      have hki : kdI (gK G q) = 3 := by rw [hkq]; rfl
      exact ⟨rfl, Or.inr ⟨rfl, by omega⟩⟩
    · refine va_instNo (C := RX9) hx hb hown q1 (hW.2.2.2.2.2.2.2.2.2.2.2.1 ("WoodForTwo$Weigher", "WoodForTwo$Half") (by decide)) (r_recv hW (ci := 8) (C := RX9) (T := TX9) (N := 3) rfl hq hkq rfl) dX10_isOfKind_48 ?_
      refine r_zret hx hb hr hlocks hW (Or.inl rfl) ?_ dX10_isOfKind_51
      have hki : kdI (gK G q) = 4 := by rw [hkq]; rfl
      exact ⟨rfl, Or.inr ⟨rfl, by omega⟩⟩
  · refine lv_tableIn (off := 51) (tgt := 52) hx hb dX10_isOfKind_1 (by omega) (by omega) (by rw [k1]; rfl) (by decide) ?_
    refine lv_aload_n hx hb dX10_isOfKind_52 rfl (lv_at hl 0 rfl) ?_
    rcases hkp with hkq | hkq | hkq | hkq | hkq
    · refine va_instNo (C := RX1) hx hb hown q2 (hW.2.2.2.2.2.2.2.2.2.2.2.1 ("WoodForTwo$Half", "WoodForTwo$Taker") (by decide)) (r_recv hW (ci := 1) (C := RX1) (T := TX1) (N := 3) rfl hq hkq rfl) dX10_isOfKind_53 ?_
      refine r_zret hx hb hr hlocks hW (Or.inl rfl) ?_ dX10_isOfKind_56
      have hki : kdI (gK G q) = 2 := by rw [hkq]; rfl
      exact ⟨rfl, Or.inr ⟨rfl, by omega⟩⟩
    · refine va_instNo (C := RX2) hx hb hown q2 (hW.2.2.2.2.2.2.2.2.2.2.2.1 ("WoodForTwo$Keeper", "WoodForTwo$Taker") (by decide)) (r_recv hW (ci := 2) (C := RX2) (T := TX2) (N := 3) rfl hq hkq rfl) dX10_isOfKind_53 ?_
      refine r_zret hx hb hr hlocks hW (Or.inl rfl) ?_ dX10_isOfKind_56
      have hki : kdI (gK G q) = 1 := by rw [hkq]; rfl
      exact ⟨rfl, Or.inr ⟨rfl, by omega⟩⟩
    · refine va_instNo (C := RX3) hx hb hown q2 (hW.2.2.2.2.2.2.2.2.2.2.2.1 ("WoodForTwo$Lone", "WoodForTwo$Taker") (by decide)) (r_recv hW (ci := 3) (C := RX3) (T := TX3) (N := 3) rfl hq hkq rfl) dX10_isOfKind_53 ?_
      refine r_zret hx hb hr hlocks hW (Or.inl rfl) ?_ dX10_isOfKind_56
      have hki : kdI (gK G q) = 5 := by rw [hkq]; rfl
      exact ⟨rfl, Or.inr ⟨rfl, by omega⟩⟩
    · refine va_instE hx hb hown q2 (r_recv hW (ci := 6) (C := RX7) (T := TX7) (N := 3) rfl hq hkq rfl) dX10_isOfKind_53 ?_
      refine r_zret hx hb hr hlocks hW (Or.inr rfl) ?_ dX10_isOfKind_56
      have hki : kdI (gK G q) = 3 := by rw [hkq]; rfl
      exact ⟨rfl, Or.inl ⟨rfl, by omega⟩⟩
    · refine va_instNo (C := RX9) hx hb hown q2 (hW.2.2.2.2.2.2.2.2.2.2.2.1 ("WoodForTwo$Weigher", "WoodForTwo$Taker") (by decide)) (r_recv hW (ci := 8) (C := RX9) (T := TX9) (N := 3) rfl hq hkq rfl) dX10_isOfKind_53 ?_
      refine r_zret hx hb hr hlocks hW (Or.inl rfl) ?_ dX10_isOfKind_56
      have hki : kdI (gK G q) = 4 := by rw [hkq]; rfl
      exact ⟨rfl, Or.inr ⟨rfl, by omega⟩⟩
  · refine lv_tableIn (off := 56) (tgt := 57) hx hb dX10_isOfKind_1 (by omega) (by omega) (by rw [k1]; rfl) (by decide) ?_
    refine lv_aload_n hx hb dX10_isOfKind_57 rfl (lv_at hl 0 rfl) ?_
    rcases hkp with hkq | hkq | hkq | hkq | hkq
    · refine va_instNo (C := RX1) hx hb hown q3 (hW.2.2.2.2.2.2.2.2.2.2.2.1 ("WoodForTwo$Half", "WoodForTwo$Weigher") (by decide)) (r_recv hW (ci := 1) (C := RX1) (T := TX1) (N := 3) rfl hq hkq rfl) dX10_isOfKind_58 ?_
      refine r_zret hx hb hr hlocks hW (Or.inl rfl) ?_ dX10_isOfKind_61
      have hki : kdI (gK G q) = 2 := by rw [hkq]; rfl
      exact ⟨rfl, Or.inr ⟨rfl, by omega⟩⟩
    · refine va_instNo (C := RX2) hx hb hown q3 (hW.2.2.2.2.2.2.2.2.2.2.2.1 ("WoodForTwo$Keeper", "WoodForTwo$Weigher") (by decide)) (r_recv hW (ci := 2) (C := RX2) (T := TX2) (N := 3) rfl hq hkq rfl) dX10_isOfKind_58 ?_
      refine r_zret hx hb hr hlocks hW (Or.inl rfl) ?_ dX10_isOfKind_61
      have hki : kdI (gK G q) = 1 := by rw [hkq]; rfl
      exact ⟨rfl, Or.inr ⟨rfl, by omega⟩⟩
    · refine va_instNo (C := RX3) hx hb hown q3 (hW.2.2.2.2.2.2.2.2.2.2.2.1 ("WoodForTwo$Lone", "WoodForTwo$Weigher") (by decide)) (r_recv hW (ci := 3) (C := RX3) (T := TX3) (N := 3) rfl hq hkq rfl) dX10_isOfKind_58 ?_
      refine r_zret hx hb hr hlocks hW (Or.inl rfl) ?_ dX10_isOfKind_61
      have hki : kdI (gK G q) = 5 := by rw [hkq]; rfl
      exact ⟨rfl, Or.inr ⟨rfl, by omega⟩⟩
    · refine va_instNo (C := RX7) hx hb hown q3 (hW.2.2.2.2.2.2.2.2.2.2.2.1 ("WoodForTwo$Taker", "WoodForTwo$Weigher") (by decide)) (r_recv hW (ci := 6) (C := RX7) (T := TX7) (N := 3) rfl hq hkq rfl) dX10_isOfKind_58 ?_
      refine r_zret hx hb hr hlocks hW (Or.inl rfl) ?_ dX10_isOfKind_61
      have hki : kdI (gK G q) = 3 := by rw [hkq]; rfl
      exact ⟨rfl, Or.inr ⟨rfl, by omega⟩⟩
    · refine va_instE hx hb hown q3 (r_recv hW (ci := 8) (C := RX9) (T := TX9) (N := 3) rfl hq hkq rfl) dX10_isOfKind_58 ?_
      refine r_zret hx hb hr hlocks hW (Or.inr rfl) ?_ dX10_isOfKind_61
      have hki : kdI (gK G q) = 4 := by rw [hkq]; rfl
      exact ⟨rfl, Or.inl ⟨rfl, by omega⟩⟩
  · refine lv_tableIn (off := 61) (tgt := 62) hx hb dX10_isOfKind_1 (by omega) (by omega) (by rw [k1]; rfl) (by decide) ?_
    refine lv_aload_n hx hb dX10_isOfKind_62 rfl (lv_at hl 0 rfl) ?_
    rcases hkp with hkq | hkq | hkq | hkq | hkq
    · refine va_instNo (C := RX1) hx hb hown q4 (hW.2.2.2.2.2.2.2.2.2.2.2.1 ("WoodForTwo$Half", "WoodForTwo$Lone") (by decide)) (r_recv hW (ci := 1) (C := RX1) (T := TX1) (N := 3) rfl hq hkq rfl) dX10_isOfKind_63 ?_
      refine r_zret hx hb hr hlocks hW (Or.inl rfl) ?_ dX10_isOfKind_66
      have hki : kdI (gK G q) = 2 := by rw [hkq]; rfl
      exact ⟨rfl, Or.inr ⟨rfl, by omega⟩⟩
    · refine va_instNo (C := RX2) hx hb hown q4 (hW.2.2.2.2.2.2.2.2.2.2.2.1 ("WoodForTwo$Keeper", "WoodForTwo$Lone") (by decide)) (r_recv hW (ci := 2) (C := RX2) (T := TX2) (N := 3) rfl hq hkq rfl) dX10_isOfKind_63 ?_
      refine r_zret hx hb hr hlocks hW (Or.inl rfl) ?_ dX10_isOfKind_66
      have hki : kdI (gK G q) = 1 := by rw [hkq]; rfl
      exact ⟨rfl, Or.inr ⟨rfl, by omega⟩⟩
    · refine va_instE hx hb hown q4 (r_recv hW (ci := 3) (C := RX3) (T := TX3) (N := 3) rfl hq hkq rfl) dX10_isOfKind_63 ?_
      refine r_zret hx hb hr hlocks hW (Or.inr rfl) ?_ dX10_isOfKind_66
      have hki : kdI (gK G q) = 5 := by rw [hkq]; rfl
      exact ⟨rfl, Or.inl ⟨rfl, by omega⟩⟩
    · refine va_instNo (C := RX7) hx hb hown q4 (hW.2.2.2.2.2.2.2.2.2.2.2.1 ("WoodForTwo$Taker", "WoodForTwo$Lone") (by decide)) (r_recv hW (ci := 6) (C := RX7) (T := TX7) (N := 3) rfl hq hkq rfl) dX10_isOfKind_63 ?_
      refine r_zret hx hb hr hlocks hW (Or.inl rfl) ?_ dX10_isOfKind_66
      have hki : kdI (gK G q) = 3 := by rw [hkq]; rfl
      exact ⟨rfl, Or.inr ⟨rfl, by omega⟩⟩
    · refine va_instNo (C := RX9) hx hb hown q4 (hW.2.2.2.2.2.2.2.2.2.2.2.1 ("WoodForTwo$Weigher", "WoodForTwo$Lone") (by decide)) (r_recv hW (ci := 8) (C := RX9) (T := TX9) (N := 3) rfl hq hkq rfl) dX10_isOfKind_63 ?_
      refine r_zret hx hb hr hlocks hW (Or.inl rfl) ?_ dX10_isOfKind_66
      have hki : kdI (gK G q) = 4 := by rw [hkq]; rfl
      exact ⟨rfl, Or.inr ⟨rfl, by omega⟩⟩

def rmX10_as : Jvm.Room := { frames := 1, cells := 0, slots := 0, locals := 22 }
set_option maxHeartbeats 4000000 in
set_option maxRecDepth 100000 in
theorem t_X10_as (l : Launch) (D : Dc) (G : Gg) (S : Sg) (z : Nat) (hG : GrG G) (hP : GrP G S) (h : Nat) (hh : PassR h) (hH : gp S 0 7 = some (gA G h)) (B : Nat → Nat) (c : Nat) (hB : BP B c) (hc : c < 100000) (hR : RP G S h B) (st : Int32) (hst : gi S 0 9 = st) (a1 a2 : Int32) : ML l yX10_as wsX10_as rmX10_as D G S z [.ref (gA G 0), .int a1, .int a2] (fun r S' => r = (fAs B st a1 a2).1 ∧ gi S' 0 9 = (fAs B st a1 a2).2 ∧ Ch (fun k => k = 0) S S') := by
  refine Met.ofW (cc := cX10_as) (maxL := 4) (ret := (some .long)) (by decide +kernel) rfl ?_
  intro pP eE s mM args bl mT cD s₁ bD hml hv
  obtain ⟨rfl, hv⟩ := hv
  have hz := hv.1
  subst hz
  have hx := bD.exec
  have hb := bD.bytes
  have hr := bD.returns
  have hts := atoms_spec (ws := wsX10_as) bD.pre
  have hown : s.vm.findClass RX10 = some mM.cls := findClass_of_methodNamed bD.named
  have hlocks := bD.notSynchronized
  have hW := Wd.start hv
  have hA : ∀ q, s.heap.size ≤ q → AW G s.heap.size q := fun q h => Or.inr h
  have hl := lv_entry ([.ref (gA G 0), .int a1, .int a2]) (n := 4) (Nat.le_of_ble_eq_true rfl)
  rw [lg_entry_eq]
  generalize (lg_sl ([.ref (gA G 0), .int a1, .int a2]) ++ List.replicate (4 - (lg_sl ([.ref (gA G 0), .int a1, .int a2])).length) Slot.unset).toArray = ls at hl ⊢
  have hl : lv_has ls 4 [(0, .ref (gA G 0)), (1, .int a1), (2, .int a2)] := hl
  have q0 := hts (.fieldLink RX10 49 "WoodForTwo" "here" "LWoodForTwo$Pass;") (List.mem_of_getElem? (i := 1) rfl)
  have q1 := hts (.constantLong RX10 66 (-9000000000000000001)) (List.mem_of_getElem? (i := 2) rfl)
  have iX10 : ∀ w ∈ wsX100, w ∈ wsX10_as := fun _ h => List.mem_cons_of_mem _ (List.mem_append_left _ (List.mem_append_right _ (h)))
  have h17 : B 17 ≤ 16 := by rcases hB with z | z; (rw [z.2 17]; omega); exact z.2.2.2.2.2.2.2.2.1
  refine lv_aload_n hx hb dX10_as_0 rfl (lv_at hl 0 rfl) ?_
  refine r_getr (ci := 9) (C := RX10) (T := TX10) (N := 10) hx hb hts iX10 hown hW rfl 0 7 rfl (g_lt hG (by decide)) (g_kd hG (by decide) rfl) (by decide) q0 (fun _ h9 => h9) hH rfl rfl dX10_as_1 ?_
  refine lv_iload_n hx hb dX10_as_4 rfl (lv_at hl 1 rfl) ?_
  refine r_callq hW hA (va_runV (As := [.int a1]) (rest := []) ⟨hx, hb, hml, hown, hts⟩ (t_X5_partyAt l D G S _ hG hP h hh B h17 hR.1.2.2.2.2.2.2.1 hR.2.2.2.1 a1) (cwV 1 hts gX10_as_X5_partyAt rfl rfl rfl (by decide +kernel) ⟨Nat.le_of_ble_eq_true rfl, Nat.le_of_ble_eq_true rfl⟩) (r_preV (k := h) hA hW (ci := 4) (C := RX5) (T := TX5) (N := 16) rfl rfl (p_lt hG hh (i := 0) (by decide)) (p_kd hG hh) rfl rfl) rfl rfl hl.1 rfl (lv_room (Nat.le_of_ble_eq_true rfl)) dX10_as_5 ⟨Nat.zero_le _, Nat.zero_le _⟩) (fun r5 S5 H locs hp5 hW => ?_)
  obtain ⟨hs5, hp5⟩ := hp5
  rw [hs5] at hW
  rcases hp5 with ⟨p, q, hp1, ep, rfl, hq1, hq2, hq3, hq4⟩ | ⟨rfl, hno⟩
  · subst ep
    have hp31 : p < 2147483648 := by omega
    have epI : (nI p).toInt = p := n_toInt hp31
    have epN : (nI p).toNatClampNeg = p := n_clamp hp31
    have hB1 : BP1 B c := hB.resolve_left (fun z => by rw [z.2 17] at hp1; omega)
    obtain ⟨b0, b1, b2, b3, b4, b5, b6, b7, b8, b9, b10, b11, b12⟩ := id hB1
    have b12p := b12 p (by omega)
    refine W.eq (g2 := F0 mM 8 ls [.ref (gA G q)]) rfl ?_
    refine lv_astore_n (lv' := [(3, .ref (gA G q)), (0, .ref (gA G 0)), (1, .int (nI p)), (2, .int a2)]) hx hb dX10_as_8 rfl hl (by decide) rfl (fun ls hl => ?_)
    refine lv_aload_n hx hb dX10_as_9 rfl (lv_at hl 0 rfl) ?_
    refine lv_ifnull hx hb dX10_as_10 ?_
    refine lv_iload_n hx hb dX10_as_13 rfl (lv_at hl 3 rfl) ?_
    refine lv_if_lt (tgt := 22) hx hb dX10_as_14 (by decide) (fun c14 => ?_) (fun c14 => ?_)
    · skip
      rw [t_lt, show (0 : Int32).toInt = 0 from by decide] at c14
      refine lv_ldc2 (v := (-9000000000000000001)) hx hb hown q1 dX10_as_22 ?_
      refine r_lret hx hb hr hlocks hW ?_ dX10_as_25
      have e : fAs B st (nI p) a2 = (BADL, st) := by unfold fAs; rw [if_neg (by omega)]
      rw [e]
      exact ⟨rfl, hst, Ch.rf⟩
    · skip
      rw [t_lt, show (0 : Int32).toInt = 0 from by decide] at c14
      refine lv_iload_n hx hb dX10_as_17 rfl (lv_at hl 3 rfl) ?_
      refine lv_iconst (v := 5) hx hb dX10_as_18 (by decide) ?_
      refine lv_icmp_le (tgt := 26) hx hb dX10_as_19 (by decide) (fun c19 => ?_) (fun c19 => ?_)
      · skip
        rw [t_le, show (5 : Int32).toInt = 5 from by decide] at c19
        refine lv_aload_n hx hb dX10_as_26 rfl (lv_at hl 0 rfl) ?_
        refine lv_iload_n hx hb dX10_as_27 rfl (lv_at hl 3 rfl) ?_
        refine r_calli hW hA (va_runS (As := [.ref (gA G q), .int a2]) (rest := []) ⟨hx, hb, hml, hown, hts⟩ (t_X10_isOfKind l D G S _ q hq2 (kdF_P hq4.1) a2 (by omega) (by omega)) (va_cwS 2 hts gX10_as_X10_isOfKind rfl rfl rfl (by decide +kernel) ⟨Nat.le_of_ble_eq_true rfl, Nat.le_of_ble_eq_true rfl⟩) (r_preS hA hW) rfl rfl hl.1 rfl (lv_room (Nat.le_of_ble_eq_true rfl)) dX10_as_28 ⟨Nat.zero_le _, Nat.zero_le _⟩) (fun r28 S28 H locs hp28 hW => ?_)
        obtain ⟨hs28, hp28⟩ := hp28
        rw [hs28] at hW
        rcases hp28 with ⟨rfl, h28⟩ | ⟨rfl, h28⟩
        · skip
          refine lv_if_ne (tgt := 40) hx hb dX10_as_31 (by decide) (fun c31 => ?_) (fun c31 => ?_)
          · skip
            refine lv_aload_n hx hb dX10_as_40 rfl (lv_at hl 1 rfl) ?_
            refine lv_iload_n hx hb dX10_as_41 rfl (lv_at hl 2 rfl) ?_
            refine lv_i2l hx hb dX10_as_42 rfl ?_
            refine r_calll hW hA (va_runV (As := [.long (Int32.toInt64 (nI p))]) (rest := []) ⟨hx, hb, hml, hown, hts⟩ (t_X10_fine l D G S _ hG hP (Int32.toInt64 (nI p))) (cwV 1 hts gX10_as_X10_fine rfl rfl rfl (by decide +kernel) ⟨Nat.le_of_ble_eq_true rfl, Nat.le_of_ble_eq_true rfl⟩) (r_preV (k := 0) hA hW (ci := 9) (C := RX10) (T := TX10) (N := 10) rfl rfl (g_lt hG (by decide)) (g_kd hG (by decide) rfl) rfl rfl) rfl rfl hl.1 rfl (lv_room (Nat.le_of_ble_eq_true rfl)) dX10_as_43 ⟨Nat.zero_le _, Nat.zero_le _⟩) (fun r43 S43 H locs hp43 hW => ?_)
            obtain ⟨hs43, rfl⟩ := hp43
            rw [hs43] at hW
            refine r_lret hx hb hr hlocks hW ?_ dX10_as_46
            have hki : kdI (gK G q) = kdN (B (34 + p)) (B (18 + p)) := by rw [hq4.1]; exact kdI_F _ _
            rw [hki] at h28
            have e : fAs B st (nI p) a2 = ((nI p).toInt64, 0) := by unfold fAs; rw [if_pos (by omega), epN, if_pos h28]
            rw [e]
            exact ⟨rfl, congrFun (e_is _ _ _) 9, (Ch.ri Ch.rf (by omega))⟩
          · exact absurd c31 (by decide)
        · skip
          refine lv_if_ne (tgt := 40) hx hb dX10_as_31 (by decide) (fun c31 => ?_) (fun c31 => ?_)
          · exact absurd (by decide) c31
          · skip
            refine lv_aload_n hx hb dX10_as_34 rfl (lv_at hl 1 rfl) ?_
            refine lv_iconst (v := 3) hx hb dX10_as_35 (by decide) ?_
            refine r_calll hW hA (va_runV (As := [.int 3]) (rest := []) ⟨hx, hb, hml, hown, hts⟩ (t_X10_found l D G S _ hG hP 3) (cwV 1 hts gX10_as_X10_found rfl rfl rfl (by decide +kernel) ⟨Nat.le_of_ble_eq_true rfl, Nat.le_of_ble_eq_true rfl⟩) (r_preV (k := 0) hA hW (ci := 9) (C := RX10) (T := TX10) (N := 10) rfl rfl (g_lt hG (by decide)) (g_kd hG (by decide) rfl) rfl rfl) rfl rfl hl.1 rfl (lv_room (Nat.le_of_ble_eq_true rfl)) dX10_as_36 ⟨Nat.zero_le _, Nat.zero_le _⟩) (fun r36 S36 H locs hp36 hW => ?_)
            obtain ⟨hs36, rfl⟩ := hp36
            rw [hs36] at hW
            refine r_lret hx hb hr hlocks hW ?_ dX10_as_39
            have hki : kdI (gK G q) = kdN (B (34 + p)) (B (18 + p)) := by rw [hq4.1]; exact kdI_F _ _
            rw [hki] at h28
            have e : fAs B st (nI p) a2 = (FND 3, 3) := by unfold fAs; rw [if_pos (by omega), epN, if_neg h28]
            rw [e]
            exact ⟨rfl, congrFun (e_is _ _ _) 9, (Ch.ri Ch.rf (by omega))⟩
      · skip
        rw [t_le, show (5 : Int32).toInt = 5 from by decide] at c19
        refine lv_ldc2 (v := (-9000000000000000001)) hx hb hown q1 dX10_as_22 ?_
        refine r_lret hx hb hr hlocks hW ?_ dX10_as_25
        have e : fAs B st (nI p) a2 = (BADL, st) := by unfold fAs; rw [if_neg (by omega)]
        rw [e]
        exact ⟨rfl, hst, Ch.rf⟩
  · skip
    refine W.eq (g2 := F0 mM 8 ls [.null]) rfl ?_
    refine lv_astore_nN (lv' := [(3, .null), (0, .ref (gA G 0)), (1, .int a1), (2, .int a2)]) hx hb dX10_as_8 rfl hl (by decide) rfl (fun ls hl => ?_)
    refine lv_aload_nN hx hb dX10_as_9 rfl (lv_at hl 0 rfl) ?_
    refine lv_ifnullN (tgt := 22) hx hb dX10_as_10 (by decide) ?_
    refine lv_ldc2 (v := (-9000000000000000001)) hx hb hown q1 dX10_as_22 ?_
    refine r_lret hx hb hr hlocks hW ?_ dX10_as_25
    have e : fAs B st a1 a2 = (BADL, st) := by unfold fAs; rw [if_neg (by omega)]
    rw [e]
    exact ⟨rfl, hst, Ch.rf⟩

def rmX10_fault : Jvm.Room := { frames := 0, cells := 0, slots := 0, locals := 0 }
set_option maxHeartbeats 4000000 in
set_option maxRecDepth 100000 in
theorem t_X10_fault (l : Launch) (D : Dc) (G : Gg) (S : Sg) (z : Nat) (hG : GrG G) (hP : GrP G S) : MI l yX10_fault wsX10_fault rmX10_fault D G S z [.ref (gA G 0)] (fun r S' => r = gi S 12 6 ∧ S' = S) := by
  refine Met.ofW (cc := cX10_fault) (maxL := 1) (ret := (some .int)) (by decide +kernel) rfl ?_
  intro pP eE s mM args bl mT cD s₁ bD hml hv
  obtain ⟨rfl, hv⟩ := hv
  have hz := hv.1
  subst hz
  have hx := bD.exec
  have hb := bD.bytes
  have hr := bD.returns
  have hts := atoms_spec (ws := wsX10_fault) bD.pre
  have hown : s.vm.findClass RX10 = some mM.cls := findClass_of_methodNamed bD.named
  have hlocks := bD.notSynchronized
  have hW := Wd.start hv
  have hA : ∀ q, s.heap.size ≤ q → AW G s.heap.size q := fun q h => Or.inr h
  have hl := lv_entry ([.ref (gA G 0)]) (n := 1) (Nat.le_of_ble_eq_true rfl)
  rw [lg_entry_eq]
  generalize (lg_sl ([.ref (gA G 0)]) ++ List.replicate (1 - (lg_sl ([.ref (gA G 0)])).length) Slot.unset).toArray = ls at hl ⊢
  have hl : lv_has ls 1 [(0, .ref (gA G 0))] := hl
  have q0 := hts (.fieldLink RX10 24 "WoodForTwo" "reader" "LWoodForTwo$Reader;") (List.mem_of_getElem? (i := 1) rfl)
  have iX10 : ∀ w ∈ wsX100, w ∈ wsX10_fault := fun _ h => List.mem_cons_of_mem _ (List.mem_append_left _ (List.mem_append_right _ (h)))
  have iX6 : ∀ w ∈ wsX60, w ∈ wsX10_fault := fun _ h => List.mem_cons_of_mem _ (List.mem_append_right _ (h))
  refine lv_aload_n hx hb dX10_fault_0 rfl (lv_at hl 0 rfl) ?_
  refine r_getr (ci := 9) (C := RX10) (T := TX10) (N := 10) hx hb hts iX10 hown hW rfl 0 3 rfl (g_lt hG (by decide)) (g_kd hG (by decide) rfl) (by decide) q0 (fun _ h9 => h9) (hP _ (List.mem_of_getElem? (i := 3) rfl)) rfl rfl dX10_fault_1 ?_
  refine r_getiN (ci := 5) (C := RX6) (T := TX6) (N := 8) hx hb hts iX6 hown hW rfl 12 6 rfl (g_lt hG (by decide)) (g_kd hG (by decide) rfl) (by decide) (va_Nw.use rfl (hW.2.2.2.2.2.2.2.2.1 (123, "WoodForTwo$Reader", "latestFault", "I") (by decide))) (fun _ h9 => h9) (gi S 12 6) rfl rfl rfl dX10_fault_4 ?_
  refine r_iret hx hb hr hlocks hW ?_ dX10_fault_7
  exact ⟨rfl, rfl⟩

def rmX10_status : Jvm.Room := { frames := 0, cells := 0, slots := 0, locals := 0 }
set_option maxHeartbeats 4000000 in
set_option maxRecDepth 100000 in
theorem t_X10_status (l : Launch) (D : Dc) (G : Gg) (S : Sg) (z : Nat) (hG : GrG G) (hP : GrP G S) : MI l yX10_status wsX10_status rmX10_status D G S z [.ref (gA G 0)] (fun r S' => r = gi S 0 9 ∧ S' = S) := by
  refine Met.ofW (cc := cX10_status) (maxL := 1) (ret := (some .int)) (by decide +kernel) rfl ?_
  intro pP eE s mM args bl mT cD s₁ bD hml hv
  obtain ⟨rfl, hv⟩ := hv
  have hz := hv.1
  subst hz
  have hx := bD.exec
  have hb := bD.bytes
  have hr := bD.returns
  have hts := atoms_spec (ws := wsX10_status) bD.pre
  have hown : s.vm.findClass RX10 = some mM.cls := findClass_of_methodNamed bD.named
  have hlocks := bD.notSynchronized
  have hW := Wd.start hv
  have hA : ∀ q, s.heap.size ≤ q → AW G s.heap.size q := fun q h => Or.inr h
  have hl := lv_entry ([.ref (gA G 0)]) (n := 1) (Nat.le_of_ble_eq_true rfl)
  rw [lg_entry_eq]
  generalize (lg_sl ([.ref (gA G 0)]) ++ List.replicate (1 - (lg_sl ([.ref (gA G 0)])).length) Slot.unset).toArray = ls at hl ⊢
  have hl : lv_has ls 1 [(0, .ref (gA G 0))] := hl
  have q0 := hts (.fieldLink RX10 251 "WoodForTwo" "latestFinding" "I") (List.mem_of_getElem? (i := 1) rfl)
  have iX10 : ∀ w ∈ wsX100, w ∈ wsX10_status := fun _ h => List.mem_cons_of_mem _ (List.mem_append_right _ (h))
  refine lv_aload_n hx hb dX10_status_0 rfl (lv_at hl 0 rfl) ?_
  refine r_geti (ci := 9) (C := RX10) (T := TX10) (N := 10) hx hb hts iX10 hown hW rfl 0 9 rfl (g_lt hG (by decide)) (g_kd hG (by decide) rfl) (by decide) q0 (fun _ h9 => h9) (gi S 0 9) rfl rfl rfl dX10_status_1 ?_
  refine r_iret hx hb hr hlocks hW ?_ dX10_status_4
  exact ⟨rfl, rfl⟩

def rmX10_trace : Jvm.Room := { frames := 1, cells := 0, slots := 0, locals := 21 }
set_option maxHeartbeats 4000000 in
set_option maxRecDepth 100000 in
theorem t_X10_trace (l : Launch) (D : Dc) (G : Gg) (S : Sg) (z : Nat) (hG : GrG G) (hP : GrP G S) (h16 : (gi S 30 1).toInt ≤ 16) (a1 : Int32) : MI l yX10_trace wsX10_trace rmX10_trace D G S z [.ref (gA G 0), .int a1] (fun r S' => r = fTrace (gi S 30 1) (gi S 31) a1 ∧ S' = S) := by
  refine Met.ofW (cc := cX10_trace) (maxL := 2) (ret := (some .int)) (by decide +kernel) rfl ?_
  intro pP eE s mM args bl mT cD s₁ bD hml hv
  obtain ⟨rfl, hv⟩ := hv
  have hz := hv.1
  subst hz
  have hx := bD.exec
  have hb := bD.bytes
  have hr := bD.returns
  have hts := atoms_spec (ws := wsX10_trace) bD.pre
  have hown : s.vm.findClass RX10 = some mM.cls := findClass_of_methodNamed bD.named
  have hlocks := bD.notSynchronized
  have hW := Wd.start hv
  have hA : ∀ q, s.heap.size ≤ q → AW G s.heap.size q := fun q h => Or.inr h
  have hl := lv_entry ([.ref (gA G 0), .int a1]) (n := 2) (Nat.le_of_ble_eq_true rfl)
  rw [lg_entry_eq]
  generalize (lg_sl ([.ref (gA G 0), .int a1]) ++ List.replicate (2 - (lg_sl ([.ref (gA G 0), .int a1])).length) Slot.unset).toArray = ls at hl ⊢
  have hl : lv_has ls 2 [(0, .ref (gA G 0)), (1, .int a1)] := hl
  have q0 := hts (.fieldLink RX10 38 "WoodForTwo" "bodies" "LWoodForTwo$Trace;") (List.mem_of_getElem? (i := 1) rfl)
  have iX10 : ∀ w ∈ wsX100, w ∈ wsX10_trace := fun _ h => List.mem_cons_of_mem _ (List.mem_append_left _ (List.mem_append_right _ (h)))
  refine lv_aload_n hx hb dX10_trace_0 rfl (lv_at hl 0 rfl) ?_
  refine r_getr (ci := 9) (C := RX10) (T := TX10) (N := 10) hx hb hts iX10 hown hW rfl 0 5 rfl (g_lt hG (by decide)) (g_kd hG (by decide) rfl) (by decide) q0 (fun _ h9 => h9) (hP _ (List.mem_of_getElem? (i := 5) rfl)) rfl rfl dX10_trace_1 ?_
  refine lv_iload_n hx hb dX10_trace_4 rfl (lv_at hl 1 rfl) ?_
  refine r_calli hW hA (va_runV (As := [.int a1]) (rest := []) ⟨hx, hb, hml, hown, hts⟩ (t_X8_numberAt l D G S _ hG hP a1 h16) (cwV 1 hts gX10_trace_X8_numberAt rfl rfl rfl (by decide +kernel) ⟨Nat.le_of_ble_eq_true rfl, Nat.le_of_ble_eq_true rfl⟩) (r_preV (k := 30) hA hW (ci := 7) (C := RX8) (T := TX8) (N := 2) rfl rfl (g_lt hG (by decide)) (g_kd hG (by decide) rfl) rfl rfl) rfl rfl hl.1 rfl (lv_room (Nat.le_of_ble_eq_true rfl)) dX10_trace_5 ⟨Nat.zero_le _, Nat.zero_le _⟩) (fun r5 S5 H locs hp5 hW => ?_)
  obtain ⟨hs5, rfl⟩ := hp5
  rw [hs5] at hW
  refine r_iret hx hb hr hlocks hW ?_ dX10_trace_8
  exact ⟨rfl, rfl⟩

def rmX10_rowsThere : Jvm.Room := { frames := 0, cells := 0, slots := 0, locals := 0 }
set_option maxHeartbeats 4000000 in
set_option maxRecDepth 100000 in
theorem t_X10_rowsThere (l : Launch) (D : Dc) (G : Gg) (S : Sg) (z : Nat) (hG : GrG G) (hP : GrP G S) (le : Nat → Int32) (hle : ∀ r, r < 8 → gi S 11 r = le r) : MI l yX10_rowsThere wsX10_rowsThere rmX10_rowsThere D G S z [.ref (gA G 0)] (fun r S' => S' = S ∧ r = nI (cntR le 8)) := by
  refine Met.ofW (cc := cX10_rowsThere) (maxL := 3) (ret := (some .int)) (by decide +kernel) rfl ?_
  intro pP eE s mM args bl mT cD s₁ bD hml hv
  obtain ⟨rfl, hv⟩ := hv
  have hz := hv.1
  subst hz
  have hx := bD.exec
  have hb := bD.bytes
  have hr := bD.returns
  have hts := atoms_spec (ws := wsX10_rowsThere) bD.pre
  have hown : s.vm.findClass RX10 = some mM.cls := findClass_of_methodNamed bD.named
  have hlocks := bD.notSynchronized
  have hW := Wd.start hv
  have hA : ∀ q, s.heap.size ≤ q → AW G s.heap.size q := fun q h => Or.inr h
  have hl := lv_entry ([.ref (gA G 0)]) (n := 3) (Nat.le_of_ble_eq_true rfl)
  rw [lg_entry_eq]
  generalize (lg_sl ([.ref (gA G 0)]) ++ List.replicate (3 - (lg_sl ([.ref (gA G 0)])).length) Slot.unset).toArray = ls at hl ⊢
  have hl : lv_has ls 3 [(0, .ref (gA G 0))] := hl
  have q0 := hts (.fieldLink RX10 18 "WoodForTwo" "sizes" "[I") (List.mem_of_getElem? (i := 1) rfl)
  have iX10 : ∀ w ∈ wsX100, w ∈ wsX10_rowsThere := fun _ h => List.mem_cons_of_mem _ (List.mem_append_right _ (h))
  generalize hQ0 : MQ bl _ _ s _ _ _ = Q0
  refine lv_iconst (v := 0) hx hb dX10_rowsThere_0 (by decide) ?_
  refine lv_istore_n (lv' := [(1, .int 0), (0, .ref (gA G 0))]) hx hb dX10_rowsThere_1 rfl hl (by decide) rfl (fun ls hl => ?_)
  refine lv_iconst (v := 0) hx hb dX10_rowsThere_2 (by decide) ?_
  refine lv_istore_n (lv' := [(2, .int 0), (1, .int 0), (0, .ref (gA G 0))]) hx hb dX10_rowsThere_3 rfl hl (by decide) rfl (fun ls hl => ?_)
  have L4 : ∀ (n : Nat) (i : Nat) (k : Nat) (H : Heap) (locs : List Loc) (ls : Array Slot), (8 - i) < n → i ≤ 8 → k = cntR le i → Wd D (AW G s.heap.size) s G S H locs → lv_has ls 3 [(2, .int (nI i)), (1, .int (nI k)), (0, .ref (gA G 0))] → W pP l eE (headSpec wsX10_rowsThere rmX10_rowsThere).room s mM ([.ref (gA G 0)] : List Value).toArray bl mT cD H locs 0 0 Q0 (F0 mM 4 ls []) := by
    intro n
    induction n with
    | zero => intro i k H locs ls hm; exact absurd hm (Nat.not_lt_zero _)
    | succ n ih4 =>
      intro i k H locs ls hm4 hi hk hW hl
      refine lv_iload_n hx hb dX10_rowsThere_4 rfl (lv_at hl 0 rfl) ?_
      refine lv_bipush (v := 8) hx hb dX10_rowsThere_5 (by decide) ?_
      refine lv_icmp_ge (tgt := 29) hx hb dX10_rowsThere_7 (by decide) (fun c7 => ?_) (fun c7 => ?_)
      · skip
        have hge : 8 ≤ i := (n_le (a := 8) (by omega) (by omega)).mp c7
        refine lv_iload_n hx hb dX10_rowsThere_29 rfl (lv_at hl 1 rfl) ?_
        rw [← hQ0]
        refine r_iret hx hb hr hlocks hW ?_ dX10_rowsThere_30
        have hi8 : i = 8 := by omega
        subst hi8
        exact ⟨rfl, by rw [hk]⟩
      · skip
        have hlt : i < 8 := by
          have h9 : ¬ 8 ≤ i := fun q => c7 ((n_le (a := 8) (by omega) (by omega)).mpr q)
          omega
        refine lv_aload_n hx hb dX10_rowsThere_10 rfl (lv_at hl 2 rfl) ?_
        refine r_getr (ci := 9) (C := RX10) (T := TX10) (N := 10) hx hb hts iX10 hown hW rfl 0 2 rfl (g_lt hG (by decide)) (g_kd hG (by decide) rfl) (by decide) q0 (fun _ h9 => h9) (hP _ (List.mem_of_getElem? (i := 2) rfl)) rfl rfl dX10_rowsThere_11 ?_
        refine lv_iload_n hx hb dX10_rowsThere_14 rfl (lv_at hl 0 rfl) ?_
        refine r_iald hx hb hW 11 rfl (g_lt hG (by decide)) (g_kd hG (by decide) rfl) (g_ix hG (c := 8) (by decide) rfl (n_inI (by omega) (by decide))) (gi S 11 i) (congrArg (gi S 11) (n_clamp (by omega))) dX10_rowsThere_15 ?_
        refine lv_iconst (v := (-1)) hx hb dX10_rowsThere_16 (by decide) ?_
        refine lv_icmp_eq (tgt := 23) hx hb dX10_rowsThere_17 (by decide) (fun c17 => ?_) (fun c17 => ?_)
        · skip
          rw [t_eq, show ((-1) : Int32).toInt = -1 from by decide] at c17
          refine lv_iinc (v := (nI (i + 1))) (lv' := [(2, .int (nI (i + 1))), (1, .int (nI k)), (0, .ref (gA G 0))]) hx hb dX10_rowsThere_23 hl (k := 0) rfl (nI_1 i) (by decide) rfl (fun ls hl => ?_)
          refine lv_goto (tgt := 4) hx hb dX10_rowsThere_26 (by decide) ?_
          exact ih4 (i + 1) k _ _ ls (by omega) hlt (by rw [hk]; show cntR le i = cntR le i + _; rw [if_pos (by rw [← hle i hlt]; exact c17), Nat.add_zero]) hW (lv_sub hl [0, 1, 2] rfl)
        · skip
          rw [t_eq, show ((-1) : Int32).toInt = -1 from by decide] at c17
          refine lv_iinc (v := (nI (k + 1))) (lv' := [(1, .int (nI (k + 1))), (2, .int (nI i)), (0, .ref (gA G 0))]) hx hb dX10_rowsThere_20 hl (k := 1) rfl (nI_1 k) (by decide) rfl (fun ls hl => ?_)
          refine lv_iinc (v := (nI (i + 1))) (lv' := [(2, .int (nI (i + 1))), (1, .int (nI (k + 1))), (0, .ref (gA G 0))]) hx hb dX10_rowsThere_23 hl (k := 1) rfl (nI_1 i) (by decide) rfl (fun ls hl => ?_)
          refine lv_goto (tgt := 4) hx hb dX10_rowsThere_26 (by decide) ?_
          exact ih4 (i + 1) (k + 1) _ _ ls (by omega) hlt (by rw [hk]; show cntR le i + 1 = cntR le i + _; rw [if_neg (by rw [← hle i hlt]; exact c17)]) hW (lv_sub hl [0, 1, 2] rfl)
  exact L4 _ 0 0 _ _ ls (Nat.lt_succ_self _) (Nat.zero_le _) rfl hW (lv_sub hl [0, 1, 2] rfl)

def rmX10_count : Jvm.Room := { frames := 1, cells := 0, slots := 0, locals := 22 }
set_option maxHeartbeats 4000000 in
set_option maxRecDepth 100000 in
theorem t_X10_count (l : Launch) (D : Dc) (G : Gg) (S : Sg) (z : Nat) (hG : GrG G) (hP : GrP G S) (h : Nat) (hh : PassR h) (hH : gp S 0 7 = some (gA G h)) (B : Nat → Nat) (c : Nat) (hB : BP B c) (hc : c < 100000) (hR : RP G S h B) (le : Nat → Int32) (hle : ∀ r, r < 8 → gi S 11 r = le r) (ts : Nat) (ht4 : ts ≤ 400) (hts1 : gi S 12 1 = nI ts) (a1 : Int32) : ML l yX10_count wsX10_count rmX10_count D G S z [.ref (gA G 0), .int a1] (fun r S' => r = fCount B le ts a1 ∧ S' = S) := by
  refine Met.ofW (cc := cX10_count) (maxL := 2) (ret := (some .long)) (by decide +kernel) rfl ?_
  intro pP eE s mM args bl mT cD s₁ bD hml hv
  obtain ⟨rfl, hv⟩ := hv
  have hz := hv.1
  subst hz
  have hx := bD.exec
  have hb := bD.bytes
  have hr := bD.returns
  have hts := atoms_spec (ws := wsX10_count) bD.pre
  have hown : s.vm.findClass RX10 = some mM.cls := findClass_of_methodNamed bD.named
  have hlocks := bD.notSynchronized
  have hW := Wd.start hv
  have hA : ∀ q, s.heap.size ≤ q → AW G s.heap.size q := fun q h => Or.inr h
  have hl := lv_entry ([.ref (gA G 0), .int a1]) (n := 2) (Nat.le_of_ble_eq_true rfl)
  rw [lg_entry_eq]
  generalize (lg_sl ([.ref (gA G 0), .int a1]) ++ List.replicate (2 - (lg_sl ([.ref (gA G 0), .int a1])).length) Slot.unset).toArray = ls at hl ⊢
  have hl : lv_has ls 2 [(0, .ref (gA G 0)), (1, .int a1)] := hl
  have q0 := hts (.constantLong RX10 66 (-9000000000000000001)) (List.mem_of_getElem? (i := 8) rfl)
  have q1 := hts (.fieldLink RX10 49 "WoodForTwo" "here" "LWoodForTwo$Pass;") (List.mem_of_getElem? (i := 1) rfl)
  have q2 := hts (.fieldLink RX10 120 "WoodForTwo$Pass" "parties" "I") (List.mem_of_getElem? (i := 2) rfl)
  have q3 := hts (.fieldLink RX10 175 "WoodForTwo$Pass" "chances" "I") (List.mem_of_getElem? (i := 3) rfl)
  have q4 := hts (.fieldLink RX10 242 "WoodForTwo$Pass" "nightsGone" "I") (List.mem_of_getElem? (i := 4) rfl)
  have q5 := hts (.fieldLink RX10 140 "WoodForTwo$Pass" "wood" "I") (List.mem_of_getElem? (i := 5) rfl)
  have q6 := hts (.fieldLink RX10 245 "WoodForTwo$Pass" "frozeInAll" "I") (List.mem_of_getElem? (i := 6) rfl)
  have q7 := hts (.fieldLink RX10 24 "WoodForTwo" "reader" "LWoodForTwo$Reader;") (List.mem_of_getElem? (i := 7) rfl)
  have iX10 : ∀ w ∈ wsX100, w ∈ wsX10_count := fun _ h => List.mem_cons_of_mem _ (List.mem_append_left _ (List.mem_append_left _ (List.mem_append_right _ (h))))
  have iX5 : ∀ w ∈ wsX50, w ∈ wsX10_count := fun _ h => List.mem_cons_of_mem _ (List.mem_append_left _ (List.mem_append_right _ (h)))
  have iX6 : ∀ w ∈ wsX60, w ∈ wsX10_count := fun _ h => List.mem_cons_of_mem _ (List.mem_append_right _ (h))
  have h17 : B 17 ≤ 16 := by rcases hB with z | z; (rw [z.2 17]; omega); exact z.2.2.2.2.2.2.2.2.1
  have hb0 : B 4 ≤ 6 ∧ B 130 ≤ 100000 ∧ B 0 ≤ 999 ∧ B 131 ≤ 900000 := by
    rcases hB with z | z
    · rw [z.2 4, z.2 130, z.2 0, z.2 131]; omega
    · obtain ⟨b0, b1, b2, b3, b4, b5, b6, b7, b8, b9, b10, b11, b12⟩ := z; omega
  refine lv_iload_n hx hb dX10_count_0 rfl (lv_at hl 1 rfl) ?_
  rcases (show ((a1).toInt < 0 ∨ 6 < (a1).toInt) ∨ (a1).toInt = 0 ∨ (a1).toInt = 1 ∨ (a1).toInt = 2 ∨ (a1).toInt = 3 ∨ (a1).toInt = 4 ∨ (a1).toInt = 5 ∨ (a1).toInt = 6 by omega) with k1 | k1 | k1 | k1 | k1 | k1 | k1 | k1
  · refine lv_tableOut (tgt := 104) hx hb dX10_count_1 k1 (by decide) ?_
    refine lv_ldc2 (v := (-9000000000000000001)) hx hb hown q0 dX10_count_104 ?_
    refine r_lret hx hb hr hlocks hW ?_ dX10_count_107
    refine ⟨?_, rfl⟩
    unfold fCount; rw [if_neg (by omega)]; rfl
  · refine lv_tableIn (off := 43) (tgt := 44) hx hb dX10_count_1 (by omega) (by omega) (by rw [k1]; rfl) (by decide) ?_
    refine lv_aload_n hx hb dX10_count_44 rfl (lv_at hl 0 rfl) ?_
    refine r_calli hW hA (va_runV (As := []) (rest := []) ⟨hx, hb, hml, hown, hts⟩ (t_X10_rowsThere l D G S _ hG hP le hle) (cwV 0 hts gX10_count_X10_rowsThere rfl rfl rfl (by decide +kernel) ⟨Nat.le_of_ble_eq_true rfl, Nat.le_of_ble_eq_true rfl⟩) (r_preV (k := 0) hA hW (ci := 9) (C := RX10) (T := TX10) (N := 10) rfl rfl (g_lt hG (by decide)) (g_kd hG (by decide) rfl) rfl rfl) rfl rfl hl.1 rfl (lv_room (Nat.le_of_ble_eq_true rfl)) dX10_count_45 ⟨Nat.zero_le _, Nat.zero_le _⟩) (fun r45 S45 H locs hp45 hW => ?_)
    obtain ⟨hs45, rfl⟩ := hp45
    rw [hs45] at hW
    refine lv_i2l hx hb dX10_count_48 rfl ?_
    refine r_lret hx hb hr hlocks hW ?_ dX10_count_49
    refine ⟨?_, rfl⟩
    unfold fCount; rw [if_pos (by omega), if_pos (by omega)]; exact lN_of (by have := cntR_le le 8; omega)
  · refine lv_tableIn (off := 49) (tgt := 50) hx hb dX10_count_1 (by omega) (by omega) (by rw [k1]; rfl) (by decide) ?_
    refine lv_aload_n hx hb dX10_count_50 rfl (lv_at hl 0 rfl) ?_
    refine r_getr (ci := 9) (C := RX10) (T := TX10) (N := 10) hx hb hts iX10 hown hW rfl 0 7 rfl (g_lt hG (by decide)) (g_kd hG (by decide) rfl) (by decide) q1 (fun _ h9 => h9) hH rfl rfl dX10_count_51 ?_
    refine r_geti (ci := 4) (C := RX5) (T := TX5) (N := 16) hx hb hts iX5 hown hW rfl h 6 rfl (p_lt hG hh (i := 0) (by decide)) (p_kd hG hh) (by decide) q2 (fun _ h9 => h9) (nI (B 17)) hR.1.2.2.2.2.2.2.1 rfl rfl dX10_count_54 ?_
    refine lv_i2l hx hb dX10_count_57 rfl ?_
    refine r_lret hx hb hr hlocks hW ?_ dX10_count_58
    refine ⟨?_, rfl⟩
    unfold fCount; rw [if_pos (by omega), if_neg (by omega), if_pos (by omega)]; exact lN_of (by omega)
  · refine lv_tableIn (off := 58) (tgt := 59) hx hb dX10_count_1 (by omega) (by omega) (by rw [k1]; rfl) (by decide) ?_
    refine lv_aload_n hx hb dX10_count_59 rfl (lv_at hl 0 rfl) ?_
    refine r_getr (ci := 9) (C := RX10) (T := TX10) (N := 10) hx hb hts iX10 hown hW rfl 0 7 rfl (g_lt hG (by decide)) (g_kd hG (by decide) rfl) (by decide) q1 (fun _ h9 => h9) hH rfl rfl dX10_count_60 ?_
    refine r_geti (ci := 4) (C := RX5) (T := TX5) (N := 16) hx hb hts iX5 hown hW rfl h 5 rfl (p_lt hG hh (i := 0) (by decide)) (p_kd hG hh) (by decide) q3 (fun _ h9 => h9) (nI (B 4)) hR.1.2.2.2.2.2.1 rfl rfl dX10_count_63 ?_
    refine lv_i2l hx hb dX10_count_66 rfl ?_
    refine r_lret hx hb hr hlocks hW ?_ dX10_count_67
    refine ⟨?_, rfl⟩
    unfold fCount; rw [if_pos (by omega), if_neg (by omega), if_neg (by omega), if_pos (by omega)]; exact lN_of (by omega)
  · refine lv_tableIn (off := 67) (tgt := 68) hx hb dX10_count_1 (by omega) (by omega) (by rw [k1]; rfl) (by decide) ?_
    refine lv_aload_n hx hb dX10_count_68 rfl (lv_at hl 0 rfl) ?_
    refine r_getr (ci := 9) (C := RX10) (T := TX10) (N := 10) hx hb hts iX10 hown hW rfl 0 7 rfl (g_lt hG (by decide)) (g_kd hG (by decide) rfl) (by decide) q1 (fun _ h9 => h9) hH rfl rfl dX10_count_69 ?_
    refine r_geti (ci := 4) (C := RX5) (T := TX5) (N := 16) hx hb hts iX5 hown hW rfl h 7 rfl (p_lt hG hh (i := 0) (by decide)) (p_kd hG hh) (by decide) q4 (fun _ h9 => h9) (nI (B 130)) hR.1.2.2.2.2.2.2.2.1 rfl rfl dX10_count_72 ?_
    refine lv_i2l hx hb dX10_count_75 rfl ?_
    refine r_lret hx hb hr hlocks hW ?_ dX10_count_76
    refine ⟨?_, rfl⟩
    unfold fCount; rw [if_pos (by omega), if_neg (by omega), if_neg (by omega), if_neg (by omega), if_pos (by omega)]; exact lN_of (by omega)
  · refine lv_tableIn (off := 76) (tgt := 77) hx hb dX10_count_1 (by omega) (by omega) (by rw [k1]; rfl) (by decide) ?_
    refine lv_aload_n hx hb dX10_count_77 rfl (lv_at hl 0 rfl) ?_
    refine r_getr (ci := 9) (C := RX10) (T := TX10) (N := 10) hx hb hts iX10 hown hW rfl 0 7 rfl (g_lt hG (by decide)) (g_kd hG (by decide) rfl) (by decide) q1 (fun _ h9 => h9) hH rfl rfl dX10_count_78 ?_
    refine r_geti (ci := 4) (C := RX5) (T := TX5) (N := 16) hx hb hts iX5 hown hW rfl h 1 rfl (p_lt hG hh (i := 0) (by decide)) (p_kd hG hh) (by decide) q5 (fun _ h9 => h9) (nI (B 0)) hR.1.2.1 rfl rfl dX10_count_81 ?_
    refine lv_i2l hx hb dX10_count_84 rfl ?_
    refine r_lret hx hb hr hlocks hW ?_ dX10_count_85
    refine ⟨?_, rfl⟩
    unfold fCount; rw [if_pos (by omega), if_neg (by omega), if_neg (by omega), if_neg (by omega), if_neg (by omega), if_pos (by omega)]; exact lN_of (by omega)
  · refine lv_tableIn (off := 85) (tgt := 86) hx hb dX10_count_1 (by omega) (by omega) (by rw [k1]; rfl) (by decide) ?_
    refine lv_aload_n hx hb dX10_count_86 rfl (lv_at hl 0 rfl) ?_
    refine r_getr (ci := 9) (C := RX10) (T := TX10) (N := 10) hx hb hts iX10 hown hW rfl 0 7 rfl (g_lt hG (by decide)) (g_kd hG (by decide) rfl) (by decide) q1 (fun _ h9 => h9) hH rfl rfl dX10_count_87 ?_
    refine r_geti (ci := 4) (C := RX5) (T := TX5) (N := 16) hx hb hts iX5 hown hW rfl h 8 rfl (p_lt hG hh (i := 0) (by decide)) (p_kd hG hh) (by decide) q6 (fun _ h9 => h9) (nI (B 131)) hR.1.2.2.2.2.2.2.2.2 rfl rfl dX10_count_90 ?_
    refine lv_i2l hx hb dX10_count_93 rfl ?_
    refine r_lret hx hb hr hlocks hW ?_ dX10_count_94
    refine ⟨?_, rfl⟩
    unfold fCount; rw [if_pos (by omega), if_neg (by omega), if_neg (by omega), if_neg (by omega), if_neg (by omega), if_neg (by omega), if_pos (by omega)]; exact lN_of (by omega)
  · refine lv_tableIn (off := 94) (tgt := 95) hx hb dX10_count_1 (by omega) (by omega) (by rw [k1]; rfl) (by decide) ?_
    refine lv_aload_n hx hb dX10_count_95 rfl (lv_at hl 0 rfl) ?_
    refine r_getr (ci := 9) (C := RX10) (T := TX10) (N := 10) hx hb hts iX10 hown hW rfl 0 3 rfl (g_lt hG (by decide)) (g_kd hG (by decide) rfl) (by decide) q7 (fun _ h9 => h9) (hP _ (List.mem_of_getElem? (i := 3) rfl)) rfl rfl dX10_count_96 ?_
    refine r_getiN (ci := 5) (C := RX6) (T := TX6) (N := 8) hx hb hts iX6 hown hW rfl 12 1 rfl (g_lt hG (by decide)) (g_kd hG (by decide) rfl) (by decide) (va_Nw.use rfl (hW.2.2.2.2.2.2.2.2.1 (248, "WoodForTwo$Reader", "length", "I") (by decide))) (fun _ h9 => h9) (nI ts) hts1 rfl rfl dX10_count_99 ?_
    refine lv_i2l hx hb dX10_count_102 rfl ?_
    refine r_lret hx hb hr hlocks hW ?_ dX10_count_103
    refine ⟨?_, rfl⟩
    unfold fCount; rw [if_pos (by omega), if_neg (by omega), if_neg (by omega), if_neg (by omega), if_neg (by omega), if_neg (by omega), if_neg (by omega)]; exact lN_of (by omega)

def rmX10_image : Jvm.Room := { frames := 2, cells := 0, slots := 0, locals := 62 }
set_option maxHeartbeats 4000000 in
set_option maxRecDepth 100000 in
theorem t_X10_image (l : Launch) (D : Dc) (G : Gg) (S : Sg) (z : Nat) (hG : GrG G) (hP : GrP G S) (h : Nat) (hh : PassR h) (hH : gp S 0 7 = some (gA G h)) (B : Nat → Nat) (c : Nat) (hB : BP B c) (hc : c < 100000) (hR : RP G S h B) (h41 : h ≤ 41) (a1 : Int32) : ML l yX10_image wsX10_image rmX10_image D G S z [.ref (gA G 0), .int a1] (fun r S' => r = fImg B a1 ∧ ((fImg B a1 = 1 ∧ RP G S' (49 + 8 * a1.toNatClampNeg) B ∧ Ch3 (fun k => 49 + 8 * a1.toNatClampNeg ≤ k ∧ k ≤ 49 + 8 * a1.toNatClampNeg + 7) S S') ∨ (fImg B a1 ≠ 1 ∧ S' = S))) := by
  refine Met.ofW (cc := cX10_image) (maxL := 2) (ret := (some .long)) (by decide +kernel) rfl ?_
  intro pP eE s mM args bl mT cD s₁ bD hml hv
  obtain ⟨rfl, hv⟩ := hv
  have hz := hv.1
  subst hz
  have hx := bD.exec
  have hb := bD.bytes
  have hr := bD.returns
  have hts := atoms_spec (ws := wsX10_image) bD.pre
  have hown : s.vm.findClass RX10 = some mM.cls := findClass_of_methodNamed bD.named
  have hlocks := bD.notSynchronized
  have hW := Wd.start hv
  have hA : ∀ q, s.heap.size ≤ q → AW G s.heap.size q := fun q h => Or.inr h
  have hl := lv_entry ([.ref (gA G 0), .int a1]) (n := 2) (Nat.le_of_ble_eq_true rfl)
  rw [lg_entry_eq]
  generalize (lg_sl ([.ref (gA G 0), .int a1]) ++ List.replicate (2 - (lg_sl ([.ref (gA G 0), .int a1])).length) Slot.unset).toArray = ls at hl ⊢
  have hl : lv_has ls 2 [(0, .ref (gA G 0)), (1, .int a1)] := hl
  have q0 := hts (.constantLong RX10 66 (-9000000000000000001)) (List.mem_of_getElem? (i := 1) rfl)
  have q1 := hts (.fieldLink RX10 49 "WoodForTwo" "here" "LWoodForTwo$Pass;") (List.mem_of_getElem? (i := 2) rfl)
  have q2 := hts (.fieldLink RX10 116 "WoodForTwo$Pass" "stands" "Z") (List.mem_of_getElem? (i := 3) rfl)
  have q3 := hts (.fieldLink RX10 44 "WoodForTwo" "images" "[LWoodForTwo$Pass;") (List.mem_of_getElem? (i := 5) rfl)
  have q4 := hts (.constantLong RX10 134 (-9000000000000000002)) (List.mem_of_getElem? (i := 4) rfl)
  have iX10 : ∀ w ∈ wsX100, w ∈ wsX10_image := fun _ h => List.mem_cons_of_mem _ (List.mem_append_left _ (List.mem_append_right _ (h)))
  have iX5 : ∀ w ∈ wsX50, w ∈ wsX10_image := fun _ h => List.mem_cons_of_mem _ (List.mem_append_right _ (h))
  have h17 : B 17 ≤ 16 := by rcases hB with z | z; (rw [z.2 17]; omega); exact z.2.2.2.2.2.2.2.2.1
  refine lv_iload_n hx hb dX10_image_0 rfl (lv_at hl 1 rfl) ?_
  refine lv_if_lt (tgt := 9) hx hb dX10_image_1 (by decide) (fun c1 => ?_) (fun c1 => ?_)
  · skip
    rw [t_lt, show (0 : Int32).toInt = 0 from by decide] at c1
    refine lv_ldc2 (v := (-9000000000000000001)) hx hb hown q0 dX10_image_9 ?_
    refine r_lret hx hb hr hlocks hW ?_ dX10_image_12
    have e : fImg B a1 = BADL := by unfold fImg; rw [if_neg (by omega)]
    rw [e]
    exact ⟨rfl, Or.inr ⟨by decide, rfl⟩⟩
  · skip
    rw [t_lt, show (0 : Int32).toInt = 0 from by decide] at c1
    refine lv_iload_n hx hb dX10_image_4 rfl (lv_at hl 1 rfl) ?_
    refine lv_iconst (v := 2) hx hb dX10_image_5 (by decide) ?_
    refine lv_icmp_lt (tgt := 13) hx hb dX10_image_6 (by decide) (fun c6 => ?_) (fun c6 => ?_)
    · skip
      rw [t_lt, show (2 : Int32).toInt = 2 from by decide] at c6
      refine lv_aload_n hx hb dX10_image_13 rfl (lv_at hl 0 rfl) ?_
      refine r_getr (ci := 9) (C := RX10) (T := TX10) (N := 10) hx hb hts iX10 hown hW rfl 0 7 rfl (g_lt hG (by decide)) (g_kd hG (by decide) rfl) (by decide) q1 (fun _ h9 => h9) hH rfl rfl dX10_image_14 ?_
      refine r_geti (ci := 4) (C := RX5) (T := TX5) (N := 16) hx hb hts iX5 hown hW rfl h 0 rfl (p_lt hG hh (i := 0) (by decide)) (p_kd hG hh) (by decide) q2 (fun _ h9 => h9) (nI (B 132)) hR.1.1 rfl rfl dX10_image_17 ?_
      refine lv_if_ne (tgt := 27) hx hb dX10_image_20 (by decide) (fun c20 => ?_) (fun c20 => ?_)
      · skip
        have hB1 : BP1 B c := hB.resolve_left (fun z => c20 (by rw [z.1]; rfl))
        obtain ⟨b0, b1, b2, b3, b4, b5, b6, b7, b8, b9, b10, b11, b12⟩ := id hB1
        rcases (show a1.toInt = 0 ∨ a1.toInt = 1 by omega) with ka | ka
        · have ea : a1 = 0 := by rw [t_eq, ka]; decide
          refine lv_aload_n hx hb dX10_image_27 rfl (lv_at hl 0 rfl) ?_
          refine r_getr (ci := 9) (C := RX10) (T := TX10) (N := 10) hx hb hts iX10 hown hW rfl 0 6 rfl (g_lt hG (by decide)) (g_kd hG (by decide) rfl) (by decide) q3 (fun _ h9 => h9) (hP _ (List.mem_of_getElem? (i := 6) rfl)) rfl rfl dX10_image_28 ?_
          refine lv_iload_n hx hb dX10_image_31 rfl (lv_at hl 1 rfl) ?_
          refine r_aald hx hb hW 32 rfl (g_lt hG (by decide)) 15 4 (g_kd hG (by decide) rfl) rfl rfl (fun _ _ _ _ => rfl) (g_ix hG (c := 2) (by decide) rfl (t_in (by omega) (by omega))) (some (gA G 49)) (by rw [ea]; exact hP (32, 0, 49) (by decide)) dX10_image_32 ?_
          refine W.eq (g2 := F0 mM 33 ls [.ref (gA G 49)]) rfl ?_
          refine lv_aload_n hx hb dX10_image_33 rfl (lv_at hl 0 rfl) ?_
          refine r_getr (ci := 9) (C := RX10) (T := TX10) (N := 10) hx hb hts iX10 hown hW rfl 0 7 rfl (g_lt hG (by decide)) (g_kd hG (by decide) rfl) (by decide) q1 (fun _ h9 => h9) hH rfl rfl dX10_image_34 ?_
          refine r_callv hW hA (va_runV (As := [.ref (gA G h)]) (rest := []) ⟨hx, hb, hml, hown, hts⟩ (t_X5_becomeLike l D G S _ hG hP 49 h (by decide) hh (by omega) B c hB1 hR) (cwV 1 hts gX10_image_X5_becomeLike rfl rfl rfl (by decide +kernel) ⟨Nat.le_of_ble_eq_true rfl, Nat.le_of_ble_eq_true rfl⟩) (r_preV (k := 49) hA hW (ci := 4) (C := RX5) (T := TX5) (N := 16) rfl rfl (g_lt hG (by decide)) (g_kd hG (by decide) rfl) rfl rfl) rfl rfl hl.1 rfl (lv_room (Nat.le_of_ble_eq_true rfl)) dX10_image_37 ⟨Nat.zero_le _, Nat.zero_le _⟩) (fun S37 H locs hp37 hW => ?_)
          obtain ⟨r0, r1, r2, r3, r4, r5, r6, t, hs37, hq37⟩ := hp37
          rw [hs37] at hW hq37
          refine lv_lconst (v := 1) hx hb dX10_image_40 (by decide) ?_
          refine r_lret hx hb hr hlocks hW ?_ dX10_image_41
          have e : fImg B a1 = 1 := by unfold fImg; rw [if_pos (by omega), if_neg (by omega)]
          have en : a1.toNatClampNeg = 0 := by rw [ea]; decide
          rw [e, en]
          exact ⟨rfl, Or.inl ⟨rfl, hq37, (Ch3.rp (Ch3.ri (Ch3.ri (Ch3.ri (Ch3.ri (Ch3.ri (Ch3.ri (Ch3.ri Ch3.rf (by omega)) (by omega)) (by omega)) (by omega)) (by omega)) (by omega)) (by omega)) (by omega))⟩⟩
        · have ea : a1 = 1 := by rw [t_eq, ka]; decide
          refine lv_aload_n hx hb dX10_image_27 rfl (lv_at hl 0 rfl) ?_
          refine r_getr (ci := 9) (C := RX10) (T := TX10) (N := 10) hx hb hts iX10 hown hW rfl 0 6 rfl (g_lt hG (by decide)) (g_kd hG (by decide) rfl) (by decide) q3 (fun _ h9 => h9) (hP _ (List.mem_of_getElem? (i := 6) rfl)) rfl rfl dX10_image_28 ?_
          refine lv_iload_n hx hb dX10_image_31 rfl (lv_at hl 1 rfl) ?_
          refine r_aald hx hb hW 32 rfl (g_lt hG (by decide)) 15 4 (g_kd hG (by decide) rfl) rfl rfl (fun _ _ _ _ => rfl) (g_ix hG (c := 2) (by decide) rfl (t_in (by omega) (by omega))) (some (gA G 57)) (by rw [ea]; exact hP (32, 1, 57) (by decide)) dX10_image_32 ?_
          refine W.eq (g2 := F0 mM 33 ls [.ref (gA G 57)]) rfl ?_
          refine lv_aload_n hx hb dX10_image_33 rfl (lv_at hl 0 rfl) ?_
          refine r_getr (ci := 9) (C := RX10) (T := TX10) (N := 10) hx hb hts iX10 hown hW rfl 0 7 rfl (g_lt hG (by decide)) (g_kd hG (by decide) rfl) (by decide) q1 (fun _ h9 => h9) hH rfl rfl dX10_image_34 ?_
          refine r_callv hW hA (va_runV (As := [.ref (gA G h)]) (rest := []) ⟨hx, hb, hml, hown, hts⟩ (t_X5_becomeLike l D G S _ hG hP 57 h (by decide) hh (by omega) B c hB1 hR) (cwV 1 hts gX10_image_X5_becomeLike rfl rfl rfl (by decide +kernel) ⟨Nat.le_of_ble_eq_true rfl, Nat.le_of_ble_eq_true rfl⟩) (r_preV (k := 57) hA hW (ci := 4) (C := RX5) (T := TX5) (N := 16) rfl rfl (g_lt hG (by decide)) (g_kd hG (by decide) rfl) rfl rfl) rfl rfl hl.1 rfl (lv_room (Nat.le_of_ble_eq_true rfl)) dX10_image_37 ⟨Nat.zero_le _, Nat.zero_le _⟩) (fun S37 H locs hp37 hW => ?_)
          obtain ⟨r0, r1, r2, r3, r4, r5, r6, t, hs37, hq37⟩ := hp37
          rw [hs37] at hW hq37
          refine lv_lconst (v := 1) hx hb dX10_image_40 (by decide) ?_
          refine r_lret hx hb hr hlocks hW ?_ dX10_image_41
          have e : fImg B a1 = 1 := by unfold fImg; rw [if_pos (by omega), if_neg (by omega)]
          have en : a1.toNatClampNeg = 1 := by rw [ea]; decide
          rw [e, en]
          exact ⟨rfl, Or.inl ⟨rfl, hq37, (Ch3.rp (Ch3.ri (Ch3.ri (Ch3.ri (Ch3.ri (Ch3.ri (Ch3.ri (Ch3.ri Ch3.rf (by omega)) (by omega)) (by omega)) (by omega)) (by omega)) (by omega)) (by omega)) (by omega))⟩⟩
      · skip
        have hs0 : B 132 = 0 := by
          rcases hB with z | z
          · exact z.1
          · rw [z.1] at c20; exact absurd c20 (by decide)
        refine lv_ldc2 (v := (-9000000000000000002)) hx hb hown q4 dX10_image_23 ?_
        refine r_lret hx hb hr hlocks hW ?_ dX10_image_26
        have e : fImg B a1 = STATEL := by unfold fImg; rw [if_pos (by omega), if_pos hs0]
        rw [e]
        exact ⟨rfl, Or.inr ⟨by decide, rfl⟩⟩
    · skip
      rw [t_lt, show (2 : Int32).toInt = 2 from by decide] at c6
      refine lv_ldc2 (v := (-9000000000000000001)) hx hb hown q0 dX10_image_9 ?_
      refine r_lret hx hb hr hlocks hW ?_ dX10_image_12
      have e : fImg B a1 = BADL := by unfold fImg; rw [if_neg (by omega)]
      rw [e]
      exact ⟨rfl, Or.inr ⟨by decide, rfl⟩⟩

def rmX10_restore : Jvm.Room := { frames := 2, cells := 0, slots := 0, locals := 62 }
set_option maxHeartbeats 4000000 in
set_option maxRecDepth 100000 in
theorem t_X10_restore (l : Launch) (D : Dc) (G : Gg) (S : Sg) (z : Nat) (hG : GrG G) (hP : GrP G S) (h : Nat) (hh : PassR h) (hH : gp S 0 7 = some (gA G h)) (B1 B2 : Nat → Nat) (c : Nat) (hBa : BP B1 c) (hBb : BP B2 c) (hR1 : RP G S 49 B1) (hR2 : RP G S 57 B2) (h41 : h ≤ 41) (a1 : Int32) : ML l yX10_restore wsX10_restore rmX10_restore D G S z [.ref (gA G 0), .int a1] (fun r S' => r = fRes B1 B2 a1 ∧ ((fRes B1 B2 a1 = 1 ∧ RP G S' h (if a1.toInt = 0 then B1 else B2) ∧ Ch3 (fun k => h ≤ k ∧ k ≤ h + 7) S S') ∨ (fRes B1 B2 a1 ≠ 1 ∧ S' = S))) := by
  refine Met.ofW (cc := cX10_restore) (maxL := 2) (ret := (some .long)) (by decide +kernel) rfl ?_
  intro pP eE s mM args bl mT cD s₁ bD hml hv
  obtain ⟨rfl, hv⟩ := hv
  have hz := hv.1
  subst hz
  have hx := bD.exec
  have hb := bD.bytes
  have hr := bD.returns
  have hts := atoms_spec (ws := wsX10_restore) bD.pre
  have hown : s.vm.findClass RX10 = some mM.cls := findClass_of_methodNamed bD.named
  have hlocks := bD.notSynchronized
  have hW := Wd.start hv
  have hA : ∀ q, s.heap.size ≤ q → AW G s.heap.size q := fun q h => Or.inr h
  have hl := lv_entry ([.ref (gA G 0), .int a1]) (n := 2) (Nat.le_of_ble_eq_true rfl)
  rw [lg_entry_eq]
  generalize (lg_sl ([.ref (gA G 0), .int a1]) ++ List.replicate (2 - (lg_sl ([.ref (gA G 0), .int a1])).length) Slot.unset).toArray = ls at hl ⊢
  have hl : lv_has ls 2 [(0, .ref (gA G 0)), (1, .int a1)] := hl
  have q0 := hts (.constantLong RX10 66 (-9000000000000000001)) (List.mem_of_getElem? (i := 1) rfl)
  have q1 := hts (.fieldLink RX10 44 "WoodForTwo" "images" "[LWoodForTwo$Pass;") (List.mem_of_getElem? (i := 2) rfl)
  have q2 := hts (.fieldLink RX10 116 "WoodForTwo$Pass" "stands" "Z") (List.mem_of_getElem? (i := 3) rfl)
  have q3 := hts (.fieldLink RX10 49 "WoodForTwo" "here" "LWoodForTwo$Pass;") (List.mem_of_getElem? (i := 5) rfl)
  have q4 := hts (.constantLong RX10 134 (-9000000000000000002)) (List.mem_of_getElem? (i := 4) rfl)
  have iX10 : ∀ w ∈ wsX100, w ∈ wsX10_restore := fun _ h => List.mem_cons_of_mem _ (List.mem_append_left _ (List.mem_append_right _ (h)))
  have iX5 : ∀ w ∈ wsX50, w ∈ wsX10_restore := fun _ h => List.mem_cons_of_mem _ (List.mem_append_right _ (h))
  refine lv_iload_n hx hb dX10_restore_0 rfl (lv_at hl 1 rfl) ?_
  refine lv_if_lt (tgt := 9) hx hb dX10_restore_1 (by decide) (fun c1 => ?_) (fun c1 => ?_)
  · skip
    rw [t_lt, show (0 : Int32).toInt = 0 from by decide] at c1
    refine lv_ldc2 (v := (-9000000000000000001)) hx hb hown q0 dX10_restore_9 ?_
    refine r_lret hx hb hr hlocks hW ?_ dX10_restore_12
    have e : fRes B1 B2 a1 = BADL := by unfold fRes; rw [if_neg (by omega)]
    rw [e]
    exact ⟨rfl, Or.inr ⟨by decide, rfl⟩⟩
  · skip
    rw [t_lt, show (0 : Int32).toInt = 0 from by decide] at c1
    refine lv_iload_n hx hb dX10_restore_4 rfl (lv_at hl 1 rfl) ?_
    refine lv_iconst (v := 2) hx hb dX10_restore_5 (by decide) ?_
    refine lv_icmp_lt (tgt := 13) hx hb dX10_restore_6 (by decide) (fun c6 => ?_) (fun c6 => ?_)
    · skip
      rw [t_lt, show (2 : Int32).toInt = 2 from by decide] at c6
      rcases (show a1.toInt = 0 ∨ a1.toInt = 1 by omega) with ka | ka
      · have ea : a1 = 0 := by rw [t_eq, ka]; decide
        refine lv_aload_n hx hb dX10_restore_13 rfl (lv_at hl 0 rfl) ?_
        refine r_getr (ci := 9) (C := RX10) (T := TX10) (N := 10) hx hb hts iX10 hown hW rfl 0 6 rfl (g_lt hG (by decide)) (g_kd hG (by decide) rfl) (by decide) q1 (fun _ h9 => h9) (hP _ (List.mem_of_getElem? (i := 6) rfl)) rfl rfl dX10_restore_14 ?_
        refine lv_iload_n hx hb dX10_restore_17 rfl (lv_at hl 1 rfl) ?_
        refine r_aald hx hb hW 32 rfl (g_lt hG (by decide)) 15 4 (g_kd hG (by decide) rfl) rfl rfl (fun _ _ _ _ => rfl) (g_ix hG (c := 2) (by decide) rfl (t_in (by omega) (by omega))) (some (gA G 49)) (by rw [ea]; exact hP (32, 0, 49) (by decide)) dX10_restore_18 ?_
        refine W.eq (g2 := F0 mM 19 ls [.ref (gA G 49)]) rfl ?_
        refine r_geti (ci := 4) (C := RX5) (T := TX5) (N := 16) hx hb hts iX5 hown hW rfl 49 0 rfl (g_lt hG (by decide)) (g_kd hG (by decide) rfl) (by decide) q2 (fun _ h9 => h9) (nI (B1 132)) hR1.1.1 rfl rfl dX10_restore_19 ?_
        refine lv_if_ne (tgt := 29) hx hb dX10_restore_22 (by decide) (fun c22 => ?_) (fun c22 => ?_)
        · skip
          have hBi : BP1 B1 c := hBa.resolve_left (fun z => c22 (by rw [z.1]; rfl))
          refine lv_aload_n hx hb dX10_restore_29 rfl (lv_at hl 0 rfl) ?_
          refine r_getr (ci := 9) (C := RX10) (T := TX10) (N := 10) hx hb hts iX10 hown hW rfl 0 7 rfl (g_lt hG (by decide)) (g_kd hG (by decide) rfl) (by decide) q3 (fun _ h9 => h9) hH rfl rfl dX10_restore_30 ?_
          refine lv_aload_n hx hb dX10_restore_33 rfl (lv_at hl 0 rfl) ?_
          refine r_getr (ci := 9) (C := RX10) (T := TX10) (N := 10) hx hb hts iX10 hown hW rfl 0 6 rfl (g_lt hG (by decide)) (g_kd hG (by decide) rfl) (by decide) q1 (fun _ h9 => h9) (hP _ (List.mem_of_getElem? (i := 6) rfl)) rfl rfl dX10_restore_34 ?_
          refine lv_iload_n hx hb dX10_restore_37 rfl (lv_at hl 1 rfl) ?_
          refine r_aald hx hb hW 32 rfl (g_lt hG (by decide)) 15 4 (g_kd hG (by decide) rfl) rfl rfl (fun _ _ _ _ => rfl) (g_ix hG (c := 2) (by decide) rfl (t_in (by omega) (by omega))) (some (gA G 49)) (by rw [ea]; exact hP (32, 0, 49) (by decide)) dX10_restore_38 ?_
          refine W.eq (g2 := F0 mM 39 ls [.ref (gA G 49), .ref (gA G h)]) rfl ?_
          refine r_callv hW hA (va_runV (As := [.ref (gA G 49)]) (rest := []) ⟨hx, hb, hml, hown, hts⟩ (t_X5_becomeLike l D G S _ hG hP h 49 hh (by decide) (by omega) B1 c hBi hR1) (cwV 1 hts gX10_restore_X5_becomeLike rfl rfl rfl (by decide +kernel) ⟨Nat.le_of_ble_eq_true rfl, Nat.le_of_ble_eq_true rfl⟩) (r_preV (k := h) hA hW (ci := 4) (C := RX5) (T := TX5) (N := 16) rfl rfl (p_lt hG hh (i := 0) (by decide)) (p_kd hG hh) rfl rfl) rfl rfl hl.1 rfl (lv_room (Nat.le_of_ble_eq_true rfl)) dX10_restore_39 ⟨Nat.zero_le _, Nat.zero_le _⟩) (fun S39 H locs hp39 hW => ?_)
          obtain ⟨r0, r1, r2, r3, r4, r5, r6, t, hs39, hq39⟩ := hp39
          rw [hs39] at hW hq39
          refine lv_lconst (v := 1) hx hb dX10_restore_42 (by decide) ?_
          refine r_lret hx hb hr hlocks hW ?_ dX10_restore_43
          have ei : (if a1.toInt = 0 then B1 else B2) = B1 := if_pos ka
          have e : fRes B1 B2 a1 = 1 := by unfold fRes; rw [if_pos (by omega), ei, if_neg (by have := hBi.1; omega)]
          rw [e, ei]
          exact ⟨rfl, Or.inl ⟨rfl, hq39, (Ch3.rp (Ch3.ri (Ch3.ri (Ch3.ri (Ch3.ri (Ch3.ri (Ch3.ri (Ch3.ri Ch3.rf (by omega)) (by omega)) (by omega)) (by omega)) (by omega)) (by omega)) (by omega)) (by omega))⟩⟩
        · skip
          have hs0 : B1 132 = 0 := by
            rcases hBa with z | z
            · exact z.1
            · rw [z.1] at c22; exact absurd c22 (by decide)
          refine lv_ldc2 (v := (-9000000000000000002)) hx hb hown q4 dX10_restore_25 ?_
          refine r_lret hx hb hr hlocks hW ?_ dX10_restore_28
          have ei : (if a1.toInt = 0 then B1 else B2) = B1 := if_pos ka
          have e : fRes B1 B2 a1 = STATEL := by unfold fRes; rw [if_pos (by omega), ei, if_pos hs0]
          rw [e]
          exact ⟨rfl, Or.inr ⟨by decide, rfl⟩⟩
      · have ea : a1 = 1 := by rw [t_eq, ka]; decide
        refine lv_aload_n hx hb dX10_restore_13 rfl (lv_at hl 0 rfl) ?_
        refine r_getr (ci := 9) (C := RX10) (T := TX10) (N := 10) hx hb hts iX10 hown hW rfl 0 6 rfl (g_lt hG (by decide)) (g_kd hG (by decide) rfl) (by decide) q1 (fun _ h9 => h9) (hP _ (List.mem_of_getElem? (i := 6) rfl)) rfl rfl dX10_restore_14 ?_
        refine lv_iload_n hx hb dX10_restore_17 rfl (lv_at hl 1 rfl) ?_
        refine r_aald hx hb hW 32 rfl (g_lt hG (by decide)) 15 4 (g_kd hG (by decide) rfl) rfl rfl (fun _ _ _ _ => rfl) (g_ix hG (c := 2) (by decide) rfl (t_in (by omega) (by omega))) (some (gA G 57)) (by rw [ea]; exact hP (32, 1, 57) (by decide)) dX10_restore_18 ?_
        refine W.eq (g2 := F0 mM 19 ls [.ref (gA G 57)]) rfl ?_
        refine r_geti (ci := 4) (C := RX5) (T := TX5) (N := 16) hx hb hts iX5 hown hW rfl 57 0 rfl (g_lt hG (by decide)) (g_kd hG (by decide) rfl) (by decide) q2 (fun _ h9 => h9) (nI (B2 132)) hR2.1.1 rfl rfl dX10_restore_19 ?_
        refine lv_if_ne (tgt := 29) hx hb dX10_restore_22 (by decide) (fun c22 => ?_) (fun c22 => ?_)
        · skip
          have hBi : BP1 B2 c := hBb.resolve_left (fun z => c22 (by rw [z.1]; rfl))
          refine lv_aload_n hx hb dX10_restore_29 rfl (lv_at hl 0 rfl) ?_
          refine r_getr (ci := 9) (C := RX10) (T := TX10) (N := 10) hx hb hts iX10 hown hW rfl 0 7 rfl (g_lt hG (by decide)) (g_kd hG (by decide) rfl) (by decide) q3 (fun _ h9 => h9) hH rfl rfl dX10_restore_30 ?_
          refine lv_aload_n hx hb dX10_restore_33 rfl (lv_at hl 0 rfl) ?_
          refine r_getr (ci := 9) (C := RX10) (T := TX10) (N := 10) hx hb hts iX10 hown hW rfl 0 6 rfl (g_lt hG (by decide)) (g_kd hG (by decide) rfl) (by decide) q1 (fun _ h9 => h9) (hP _ (List.mem_of_getElem? (i := 6) rfl)) rfl rfl dX10_restore_34 ?_
          refine lv_iload_n hx hb dX10_restore_37 rfl (lv_at hl 1 rfl) ?_
          refine r_aald hx hb hW 32 rfl (g_lt hG (by decide)) 15 4 (g_kd hG (by decide) rfl) rfl rfl (fun _ _ _ _ => rfl) (g_ix hG (c := 2) (by decide) rfl (t_in (by omega) (by omega))) (some (gA G 57)) (by rw [ea]; exact hP (32, 1, 57) (by decide)) dX10_restore_38 ?_
          refine W.eq (g2 := F0 mM 39 ls [.ref (gA G 57), .ref (gA G h)]) rfl ?_
          refine r_callv hW hA (va_runV (As := [.ref (gA G 57)]) (rest := []) ⟨hx, hb, hml, hown, hts⟩ (t_X5_becomeLike l D G S _ hG hP h 57 hh (by decide) (by omega) B2 c hBi hR2) (cwV 1 hts gX10_restore_X5_becomeLike rfl rfl rfl (by decide +kernel) ⟨Nat.le_of_ble_eq_true rfl, Nat.le_of_ble_eq_true rfl⟩) (r_preV (k := h) hA hW (ci := 4) (C := RX5) (T := TX5) (N := 16) rfl rfl (p_lt hG hh (i := 0) (by decide)) (p_kd hG hh) rfl rfl) rfl rfl hl.1 rfl (lv_room (Nat.le_of_ble_eq_true rfl)) dX10_restore_39 ⟨Nat.zero_le _, Nat.zero_le _⟩) (fun S39 H locs hp39 hW => ?_)
          obtain ⟨r0, r1, r2, r3, r4, r5, r6, t, hs39, hq39⟩ := hp39
          rw [hs39] at hW hq39
          refine lv_lconst (v := 1) hx hb dX10_restore_42 (by decide) ?_
          refine r_lret hx hb hr hlocks hW ?_ dX10_restore_43
          have ei : (if a1.toInt = 0 then B1 else B2) = B2 := if_neg (by omega)
          have e : fRes B1 B2 a1 = 1 := by unfold fRes; rw [if_pos (by omega), ei, if_neg (by have := hBi.1; omega)]
          rw [e, ei]
          exact ⟨rfl, Or.inl ⟨rfl, hq39, (Ch3.rp (Ch3.ri (Ch3.ri (Ch3.ri (Ch3.ri (Ch3.ri (Ch3.ri (Ch3.ri Ch3.rf (by omega)) (by omega)) (by omega)) (by omega)) (by omega)) (by omega)) (by omega)) (by omega))⟩⟩
        · skip
          have hs0 : B2 132 = 0 := by
            rcases hBb with z | z
            · exact z.1
            · rw [z.1] at c22; exact absurd c22 (by decide)
          refine lv_ldc2 (v := (-9000000000000000002)) hx hb hown q4 dX10_restore_25 ?_
          refine r_lret hx hb hr hlocks hW ?_ dX10_restore_28
          have ei : (if a1.toInt = 0 then B1 else B2) = B2 := if_neg (by omega)
          have e : fRes B1 B2 a1 = STATEL := by unfold fRes; rw [if_pos (by omega), ei, if_pos hs0]
          rw [e]
          exact ⟨rfl, Or.inr ⟨by decide, rfl⟩⟩
    · skip
      rw [t_lt, show (2 : Int32).toInt = 2 from by decide] at c6
      refine lv_ldc2 (v := (-9000000000000000001)) hx hb hown q0 dX10_restore_9 ?_
      refine r_lret hx hb hr hlocks hW ?_ dX10_restore_12
      have e : fRes B1 B2 a1 = BADL := by unfold fRes; rw [if_neg (by omega)]
      rw [e]
      exact ⟨rfl, Or.inr ⟨by decide, rfl⟩⟩
