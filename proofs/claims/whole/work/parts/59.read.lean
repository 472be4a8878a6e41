theorem tE_le {T : Nat → Nat} {ts a : Nat} (h : a ≤ ts) : tE T ts a ≤ ts ∧ SK T ts a ≤ ts := by
  have h1 := SK_le (T := T) h
  refine ⟨?_, h1.2⟩
  unfold tE
  split
  · split
    · exact (RN_le h1.2).2
    · split
      · exact (RN_le h1.2).2
      · split <;> omega
  · exact h1.2
/-- the reader: its tape, the token from a -/
def RdX (S : Sg) (T : Nat → Nat) (ts a : Nat) : Prop := TkX S T ts a ∧ gi S 12 1 = nI ts ∧ (∀ i, i < ts → gi S 13 i = sb (T i)) ∧ a ≤ ts
/-- the reader has failed -/
def FlX (S S' : Sg) (f p : Nat) : Prop := gi S' 12 6 = nI f ∧ gi S' 12 7 = nI p ∧ gi S' 12 1 = gi S 12 1 ∧ Ch (fun k => k = 12) S S'
/-- the reader is at a -/
def OkX (S S' : Sg) (T : Nat → Nat) (ts a : Nat) : Prop := RdX S' T ts a ∧ gi S' 12 6 = gi S 12 6 ∧ gi S' 12 7 = gi S 12 7 ∧ Ch (fun k => k = 12) S S'
theorem OkX.mk' {S S' : Sg} {T : Nat → Nat} {ts a : Nat} (h1 : gi S 12 1 = nI ts) (h13 : ∀ i, i < ts → gi S 13 i = sb (T i)) (ha : a ≤ ts) (h : TkX S' T ts a ∧ (∀ j, j = 0 ∨ j = 1 ∨ 6 ≤ j → gi S' 12 j = gi S 12 j) ∧ Ch (fun k => k = 12) S S') : OkX S S' T ts a :=
  ⟨⟨h.1, (h.2.1 1 (by omega)).trans h1, fun i hi => (congrFun (h.2.2.2 13 (by decide)).1 i).trans (h13 i hi), ha⟩, h.2.1 6 (by omega), h.2.1 7 (by omega), h.2.2⟩
abbrev PRt (α : Type) : Type := Sum (α × Nat) (Nat × Nat)
def pNum (T : Nat → Nat) (ts lo hi a : Nat) : PRt Nat := if tS T ts a = 2 then (if lo ≤ tV T ts a ∧ tV T ts a ≤ hi then .inl (tV T ts a, tE T ts a) else .inr (2, SK T ts a)) else .inr (1, SK T ts a)
def pSign (T : Nat → Nat) (ts a : Nat) : PRt Unit := if tS T ts a = 3 then .inl ((), tE T ts a) else .inr (1, SK T ts a)
def pEnd (T : Nat → Nat) (ts a : Nat) : PRt Unit := if tS T ts a = 0 then .inl ((), a) else .inr (1, SK T ts a)
theorem tS_le {T : Nat → Nat} {ts a : Nat} : tS T ts a ≤ 4 := by
  unfold tS
  have := cls_v (T (SK T ts a))
  repeat' split
  all_goals omega
theorem tV_le {T : Nat → Nat} {ts a : Nat} (h : tS T ts a = 2) : tV T ts a ≤ 999 := by
  have hs : SK T ts a < ts ∧ cls (T (SK T ts a)) = 2 ∧ RN T ts 2 (SK T ts a) - SK T ts a ≤ 3 := by
    unfold tS at h
    by_cases e : SK T ts a < ts
    · rw [if_pos e] at h
      by_cases e2 : cls (T (SK T ts a)) = 2 ∧ 3 < RN T ts 2 (SK T ts a) - SK T ts a
      · rw [if_pos e2] at h; omega
      · rw [if_neg e2] at h; exact ⟨e, h, by omega⟩
    · rw [if_neg e] at h; omega
  unfold tV tE
  rw [if_pos hs.1, if_neg (by omega), if_pos hs.2.1]
  have hd : ∀ f b, ∀ i, b ≤ i → i < rnp T 2 f b → cls (T i) = 2 := by
    intro f
    induction f with
    | zero => intro b i h1 h2; exact absurd h2 (by show ¬ i < b; omega)
    | succ f ih =>
      intro b i h1 h2
      unfold rnp at h2
      by_cases e : cls (T b) = 2
      · rw [if_pos e] at h2
        by_cases e3 : i = b
        · rw [e3]; exact e
        · exact ih (b + 1) i (by omega) h2
      · rw [if_neg e] at h2; omega
  exact (nv_le _ (fun i hi => (cls_2 (hd (ts - SK T ts a) (SK T ts a) (SK T ts a + i) (by omega) (by have z : RN T ts 2 (SK T ts a) = rnp T 2 (ts - SK T ts a) (SK T ts a) := rfl; omega))).2) hs.2.2).1
def rmX6_fail : Jvm.Room := { frames := 0, cells := 0, slots := 0, locals := 0 }
set_option maxHeartbeats 4000000 in
set_option maxRecDepth 100000 in
theorem t_X6_fail (l : Launch) (D : Dc) (G : Gg) (S : Sg) (z : Nat) (hG : GrG G) (hP : GrP G S) (f p : Nat) (h2 : gi S 12 2 = nI p) : MI l yX6_fail wsX6_fail rmX6_fail D G S z [.ref (gA G 12), .int (nI f)] (fun r S' => r = 0 ∧ FlX S S' f p) := by
  refine Met.ofW (cc := cX6_fail) (maxL := 2) (ret := (some .boolean)) (by decide +kernel) rfl ?_
  intro pP eE s mM args bl mT cD s₁ bD hml hv
  obtain ⟨rfl, hv⟩ := hv
  have hz := hv.1
  subst hz
  have hx := bD.exec
  have hb := bD.bytes
  have hr := bD.returns
  have hts := atoms_spec (ws := wsX6_fail) bD.pre
  have hown : s.vm.findClass RX6 = some mM.cls := findClass_of_methodNamed bD.named
  have hlocks := bD.notSynchronized
  have hW := Wd.start hv
  have hA : ∀ q, s.heap.size ≤ q → AW G s.heap.size q := fun q h => Or.inr h
  have hl := lv_entry ([.ref (gA G 12), .int (nI f)]) (n := 2) (Nat.le_of_ble_eq_true rfl)
  rw [lg_entry_eq]
  generalize (lg_sl ([.ref (gA G 12), .int (nI f)]) ++ List.replicate (2 - (lg_sl ([.ref (gA G 12), .int (nI f)])).length) Slot.unset).toArray = ls at hl ⊢
  have hl : lv_has ls 2 [(0, .ref (gA G 12)), (1, .int (nI f))] := hl
  have q0 := hts (.fieldLink RX6 141 "WoodForTwo$Reader" "latestFault" "I") (List.mem_of_getElem? (i := 1) rfl)
  have q1 := hts (.fieldLink RX6 144 "WoodForTwo$Reader" "start" "I") (List.mem_of_getElem? (i := 2) rfl)
  have q2 := hts (.fieldLink RX6 147 "WoodForTwo$Reader" "place" "I") (List.mem_of_getElem? (i := 3) rfl)
  have iX6 : ∀ w ∈ wsX60, w ∈ wsX6_fail := fun _ h => List.mem_cons_of_mem _ (List.mem_append_right _ (h))
  refine lv_aload_n hx hb dX6_fail_0 rfl (lv_at hl 0 rfl) ?_
  refine lv_iload_n hx hb dX6_fail_1 rfl (lv_at hl 1 rfl) ?_
  refine r_puti (ci := 5) (C := RX6) (T := TX6) (N := 8) hx hb hts iX6 tyX6 tyX6_ok nmX6 hown hW rfl 12 6 rfl (g_lt hG (by decide)) (g_kd hG (by decide) rfl) (by decide) q0 (fun _ h9 => h9) rfl (tyX6_ok 6 (by decide)) rfl rfl (ri S 12 (va_up (gi S 12) 6 (nI f))) (gi S 12) (va_up (gi S 12) 6 (nI f)) rfl (e_is _ _ _) rfl rfl rfl (Nat.le_of_ble_eq_true rfl) rfl c_i0 dX6_fail_2 (fun H locs hW => ?_)
  refine lv_aload_n hx hb dX6_fail_5 rfl (lv_at hl 0 rfl) ?_
  refine lv_aload_n hx hb dX6_fail_6 rfl (lv_at hl 0 rfl) ?_
  refine r_geti (ci := 5) (C := RX6) (T := TX6) (N := 8) hx hb hts iX6 hown hW rfl 12 2 rfl (g_lt hG (by decide)) (g_kd hG (by decide) rfl) (by decide) q1 (fun _ h9 => h9) (nI p) ((congrFun (e_is _ _ _) 2).trans h2) rfl rfl dX6_fail_7 ?_
  refine r_puti (ci := 5) (C := RX6) (T := TX6) (N := 8) hx hb hts iX6 tyX6 tyX6_ok nmX6 hown hW rfl 12 7 rfl (g_lt hG (by decide)) (g_kd hG (by decide) rfl) (by decide) q2 (fun _ h9 => h9) rfl (tyX6_ok 7 (by decide)) rfl rfl (ri S 12 (va_up (va_up (gi S 12) 6 (nI f)) 7 (nI p))) (va_up (gi S 12) 6 (nI f)) (va_up (va_up (gi S 12) 6 (nI f)) 7 (nI p)) (e_is _ _ _) (e_is _ _ _) rfl rfl rfl (Nat.le_of_ble_eq_true rfl) rfl c_i dX6_fail_10 (fun H locs hW => ?_)
  refine lv_iconst (v := 0) hx hb dX6_fail_13 (by decide) ?_
  refine r_zret hx hb hr hlocks hW (Or.inl rfl) ?_ dX6_fail_14
  exact ⟨rfl, (congrFun (e_is _ _ _) 6).trans rfl, (congrFun (e_is _ _ _) 7).trans rfl, (congrFun (e_is _ _ _) 1).trans rfl, Ch.ri Ch.rf rfl⟩

def rmX6_readNumber : Jvm.Room := { frames := 2, cells := 0, slots := 0, locals := 42 }
set_option maxHeartbeats 4000000 in
set_option maxRecDepth 100000 in
theorem t_X6_readNumber (l : Launch) (D : Dc) (G : Gg) (S : Sg) (z : Nat) (hG : GrG G) (hP : GrP G S) (T : Nat → Nat) (ts : Nat) (ht4 : ts ≤ 400) (hTB : ∀ i, i < ts → T i ≤ 255) (a : Nat) (hRd : RdX S T ts a) (lo hi : Nat) (hlo : lo ≤ 1000) (hhi : hi ≤ 1000) : MI l yX6_readNumber wsX6_readNumber rmX6_readNumber D G S z [.ref (gA G 12), .int (nI lo), .int (nI hi)] (fun r S' => (∃ v e, pNum T ts lo hi a = .inl (v, e) ∧ r = nI v ∧ OkX S S' T ts e) ∨ (∃ f p, pNum T ts lo hi a = .inr (f, p) ∧ r = (-1) ∧ FlX S S' f p)) := by
  refine Met.ofW (cc := cX6_readNumber) (maxL := 4) (ret := (some .int)) (by decide +kernel) rfl ?_
  intro pP eE s mM args bl mT cD s₁ bD hml hv
  obtain ⟨rfl, hv⟩ := hv
  have hz := hv.1
  subst hz
  have hx := bD.exec
  have hb := bD.bytes
  have hr := bD.returns
  have hts := atoms_spec (ws := wsX6_readNumber) bD.pre
  have hown : s.vm.findClass RX6 = some mM.cls := findClass_of_methodNamed bD.named
  have hlocks := bD.notSynchronized
  have hW := Wd.start hv
  have hA : ∀ q, s.heap.size ≤ q → AW G s.heap.size q := fun q h => Or.inr h
  have hl := lv_entry ([.ref (gA G 12), .int (nI lo), .int (nI hi)]) (n := 4) (Nat.le_of_ble_eq_true rfl)
  rw [lg_entry_eq]
  generalize (lg_sl ([.ref (gA G 12), .int (nI lo), .int (nI hi)]) ++ List.replicate (4 - (lg_sl ([.ref (gA G 12), .int (nI lo), .int (nI hi)])).length) Slot.unset).toArray = ls at hl ⊢
  have hl : lv_has ls 4 [(0, .ref (gA G 12)), (1, .int (nI lo)), (2, .int (nI hi))] := hl
  have q0 := hts (.fieldLink RX6 76 "WoodForTwo$Reader" "sort" "I") (List.mem_of_getElem? (i := 1) rfl)
  have q1 := hts (.fieldLink RX6 79 "WoodForTwo$Reader" "value" "I") (List.mem_of_getElem? (i := 2) rfl)
  have iX6 : ∀ w ∈ wsX60, w ∈ wsX6_readNumber := fun _ h => List.mem_cons_of_mem _ (List.mem_append_right _ (h))
  have hle := tE_le (T := T) hRd.2.2.2
  have htl := tS_le (T := T) (ts := ts) (a := a)
  refine lv_aload_n hx hb dX6_readNumber_0 rfl (lv_at hl 0 rfl) ?_
  refine r_geti (ci := 5) (C := RX6) (T := TX6) (N := 8) hx hb hts iX6 hown hW rfl 12 4 rfl (g_lt hG (by decide)) (g_kd hG (by decide) rfl) (by decide) q0 (fun _ h9 => h9) (nI (tS T ts a)) hRd.1.2.2.1 rfl rfl dX6_readNumber_1 ?_
  refine lv_iconst (v := 2) hx hb dX6_readNumber_4 (by decide) ?_
  refine lv_icmp_eq (tgt := 16) hx hb dX6_readNumber_5 (by decide) (fun c5 => ?_) (fun c5 => ?_)
  · skip
    have hs2 : tS T ts a = 2 := (n_eq (b := 2) (by omega) (by decide)).mp c5
    have htv := tV_le hs2
    refine lv_aload_n hx hb dX6_readNumber_16 rfl (lv_at hl 0 rfl) ?_
    refine r_geti (ci := 5) (C := RX6) (T := TX6) (N := 8) hx hb hts iX6 hown hW rfl 12 5 rfl (g_lt hG (by decide)) (g_kd hG (by decide) rfl) (by decide) q1 (fun _ h9 => h9) (nI (tV T ts a)) (hRd.1.2.2.2 hs2) rfl rfl dX6_readNumber_17 ?_
    refine lv_iload_n hx hb dX6_readNumber_20 rfl (lv_at hl 1 rfl) ?_
    refine lv_icmp_lt (tgt := 32) hx hb dX6_readNumber_21 (by decide) (fun c21 => ?_) (fun c21 => ?_)
    · skip
      have h21 := (n_lt (a := tV T ts a) (b := lo) (by omega) (by omega)).mp c21
      refine lv_aload_n hx hb dX6_readNumber_32 rfl (lv_at hl 0 rfl) ?_
      refine lv_iconst (v := 2) hx hb dX6_readNumber_33 (by decide) ?_
      refine W.eq (g2 := F0 mM 34 ls [.int (nI 2), .ref (gA G 12)]) rfl ?_
      refine r_calli hW hA (va_runV (As := [.int (nI 2)]) (rest := []) ⟨hx, hb, hml, hown, hts⟩ (t_X6_fail l D G S _ hG hP 2 (SK T ts a) hRd.1.1) (cwV 1 hts gX6_readNumber_X6_fail rfl rfl rfl (by decide +kernel) ⟨Nat.le_of_ble_eq_true rfl, Nat.le_of_ble_eq_true rfl⟩) (r_preV (k := 12) hA hW (ci := 5) (C := RX6) (T := TX6) (N := 8) rfl rfl (g_lt hG (by decide)) (g_kd hG (by decide) rfl) rfl rfl) rfl rfl hl.1 rfl (lv_room (Nat.le_of_ble_eq_true rfl)) dX6_readNumber_34 ⟨Nat.zero_le _, Nat.zero_le _⟩) (fun r34 S34 H locs hp34 hW => ?_)
      obtain ⟨rfl, hFl⟩ := hp34
      refine lv_pop hx hb dX6_readNumber_37 rfl ?_
      refine lv_iconst (v := (-1)) hx hb dX6_readNumber_38 (by decide) ?_
      refine r_iret hx hb hr hlocks hW ?_ dX6_readNumber_39
      refine Or.inr ⟨2, SK T ts a, ?_, rfl, hFl⟩
      unfold pNum; rw [if_pos hs2, if_neg (by omega)]
    · skip
      have h21 : ¬ tV T ts a < lo := fun z => c21 ((n_lt (a := tV T ts a) (b := lo) (by omega) (by omega)).mpr z)
      refine lv_aload_n hx hb dX6_readNumber_24 rfl (lv_at hl 0 rfl) ?_
      refine r_geti (ci := 5) (C := RX6) (T := TX6) (N := 8) hx hb hts iX6 hown hW rfl 12 5 rfl (g_lt hG (by decide)) (g_kd hG (by decide) rfl) (by decide) q1 (fun _ h9 => h9) (nI (tV T ts a)) (hRd.1.2.2.2 hs2) rfl rfl dX6_readNumber_25 ?_
      refine lv_iload_n hx hb dX6_readNumber_28 rfl (lv_at hl 2 rfl) ?_
      refine lv_icmp_le (tgt := 40) hx hb dX6_readNumber_29 (by decide) (fun c29 => ?_) (fun c29 => ?_)
      · skip
        have h29 := (n_le (a := tV T ts a) (b := hi) (by omega) (by omega)).mp c29
        refine lv_aload_n hx hb dX6_readNumber_40 rfl (lv_at hl 0 rfl) ?_
        refine r_geti (ci := 5) (C := RX6) (T := TX6) (N := 8) hx hb hts iX6 hown hW rfl 12 5 rfl (g_lt hG (by decide)) (g_kd hG (by decide) rfl) (by decide) q1 (fun _ h9 => h9) (nI (tV T ts a)) (hRd.1.2.2.2 hs2) rfl rfl dX6_readNumber_41 ?_
        refine lv_istore_n (lv' := [(3, .int (nI (tV T ts a))), (0, .ref (gA G 12)), (1, .int (nI lo)), (2, .int (nI hi))]) hx hb dX6_readNumber_44 rfl hl (by decide) rfl (fun ls hl => ?_)
        refine lv_aload_n hx hb dX6_readNumber_45 rfl (lv_at hl 1 rfl) ?_
        refine r_callv hW hA (va_runV (As := []) (rest := []) ⟨hx, hb, hml, hown, hts⟩ (t_X6_nextToken l D G S _ hG hP T ts ht4 hTB hRd.2.1 hRd.2.2.1 (tE T ts a) hle.1 hRd.1.2.1) (cwV 0 hts gX6_readNumber_X6_nextToken rfl rfl rfl (by decide +kernel) ⟨Nat.le_of_ble_eq_true rfl, Nat.le_of_ble_eq_true rfl⟩) (r_preV (k := 12) hA hW (ci := 5) (C := RX6) (T := TX6) (N := 8) rfl rfl (g_lt hG (by decide)) (g_kd hG (by decide) rfl) rfl rfl) rfl rfl hl.1 rfl (lv_room (Nat.le_of_ble_eq_true rfl)) dX6_readNumber_46 ⟨Nat.zero_le _, Nat.zero_le _⟩) (fun S46 H locs hp46 hW => ?_)
        have hOk := OkX.mk' hRd.2.1 hRd.2.2.1 hle.1 hp46
        refine lv_iload_n hx hb dX6_readNumber_49 rfl (lv_at hl 0 rfl) ?_
        refine r_iret hx hb hr hlocks hW ?_ dX6_readNumber_50
        refine Or.inl ⟨tV T ts a, tE T ts a, ?_, rfl, hOk⟩
        unfold pNum; rw [if_pos hs2, if_pos (by omega)]
      · skip
        have h29 : ¬ tV T ts a ≤ hi := fun z => c29 ((n_le (a := tV T ts a) (b := hi) (by omega) (by omega)).mpr z)
        refine lv_aload_n hx hb dX6_readNumber_32 rfl (lv_at hl 0 rfl) ?_
        refine lv_iconst (v := 2) hx hb dX6_readNumber_33 (by decide) ?_
        refine W.eq (g2 := F0 mM 34 ls [.int (nI 2), .ref (gA G 12)]) rfl ?_
        refine r_calli hW hA (va_runV (As := [.int (nI 2)]) (rest := []) ⟨hx, hb, hml, hown, hts⟩ (t_X6_fail l D G S _ hG hP 2 (SK T ts a) hRd.1.1) (cwV 1 hts gX6_readNumber_X6_fail rfl rfl rfl (by decide +kernel) ⟨Nat.le_of_ble_eq_true rfl, Nat.le_of_ble_eq_true rfl⟩) (r_preV (k := 12) hA hW (ci := 5) (C := RX6) (T := TX6) (N := 8) rfl rfl (g_lt hG (by decide)) (g_kd hG (by decide) rfl) rfl rfl) rfl rfl hl.1 rfl (lv_room (Nat.le_of_ble_eq_true rfl)) dX6_readNumber_34 ⟨Nat.zero_le _, Nat.zero_le _⟩) (fun r34 S34 H locs hp34 hW => ?_)
        obtain ⟨rfl, hFl⟩ := hp34
        refine lv_pop hx hb dX6_readNumber_37 rfl ?_
        refine lv_iconst (v := (-1)) hx hb dX6_readNumber_38 (by decide) ?_
        refine r_iret hx hb hr hlocks hW ?_ dX6_readNumber_39
        refine Or.inr ⟨2, SK T ts a, ?_, rfl, hFl⟩
        unfold pNum; rw [if_pos hs2, if_neg (by omega)]
  · skip
    have hs2 : ¬ tS T ts a = 2 := fun z => c5 (by rw [z]; rfl)
    refine lv_aload_n hx hb dX6_readNumber_8 rfl (lv_at hl 0 rfl) ?_
    refine lv_iconst (v := 1) hx hb dX6_readNumber_9 (by decide) ?_
    refine W.eq (g2 := F0 mM 10 ls [.int (nI 1), .ref (gA G 12)]) rfl ?_
    refine r_calli hW hA (va_runV (As := [.int (nI 1)]) (rest := []) ⟨hx, hb, hml, hown, hts⟩ (t_X6_fail l D G S _ hG hP 1 (SK T ts a) hRd.1.1) (cwV 1 hts gX6_readNumber_X6_fail rfl rfl rfl (by decide +kernel) ⟨Nat.le_of_ble_eq_true rfl, Nat.le_of_ble_eq_true rfl⟩) (r_preV (k := 12) hA hW (ci := 5) (C := RX6) (T := TX6) (N := 8) rfl rfl (g_lt hG (by decide)) (g_kd hG (by decide) rfl) rfl rfl) rfl rfl hl.1 rfl (lv_room (Nat.le_of_ble_eq_true rfl)) dX6_readNumber_10 ⟨Nat.zero_le _, Nat.zero_le _⟩) (fun r10 S10 H locs hp10 hW => ?_)
    obtain ⟨rfl, hFl⟩ := hp10
    refine lv_pop hx hb dX6_readNumber_13 rfl ?_
    refine lv_iconst (v := (-1)) hx hb dX6_readNumber_14 (by decide) ?_
    refine r_iret hx hb hr hlocks hW ?_ dX6_readNumber_15
    refine Or.inr ⟨1, SK T ts a, ?_, rfl, hFl⟩
    unfold pNum; rw [if_neg hs2]

def rmX6_readSign : Jvm.Room := { frames := 2, cells := 0, slots := 0, locals := 42 }
set_option maxHeartbeats 4000000 in
set_option maxRecDepth 100000 in
theorem t_X6_readSign (l : Launch) (D : Dc) (G : Gg) (S : Sg) (z : Nat) (hG : GrG G) (hP : GrP G S) (T : Nat → Nat) (ts : Nat) (ht4 : ts ≤ 400) (hTB : ∀ i, i < ts → T i ≤ 255) (a : Nat) (hRd : RdX S T ts a) : MI l yX6_readSign wsX6_readSign rmX6_readSign D G S z [.ref (gA G 12)] (fun r S' => (∃ v e, pSign T ts a = .inl (v, e) ∧ r = 1 ∧ OkX S S' T ts e) ∨ (∃ f p, pSign T ts a = .inr (f, p) ∧ r = 0 ∧ FlX S S' f p)) := by
  refine Met.ofW (cc := cX6_readSign) (maxL := 1) (ret := (some .boolean)) (by decide +kernel) rfl ?_
  intro pP eE s mM args bl mT cD s₁ bD hml hv
  obtain ⟨rfl, hv⟩ := hv
  have hz := hv.1
  subst hz
  have hx := bD.exec
  have hb := bD.bytes
  have hr := bD.returns
  have hts := atoms_spec (ws := wsX6_readSign) bD.pre
  have hown : s.vm.findClass RX6 = some mM.cls := findClass_of_methodNamed bD.named
  have hlocks := bD.notSynchronized
  have hW := Wd.start hv
  have hA : ∀ q, s.heap.size ≤ q → AW G s.heap.size q := fun q h => Or.inr h
  have hl := lv_entry ([.ref (gA G 12)]) (n := 1) (Nat.le_of_ble_eq_true rfl)
  rw [lg_entry_eq]
  generalize (lg_sl ([.ref (gA G 12)]) ++ List.replicate (1 - (lg_sl ([.ref (gA G 12)])).length) Slot.unset).toArray = ls at hl ⊢
  have hl : lv_has ls 1 [(0, .ref (gA G 12))] := hl
  have q0 := hts (.fieldLink RX6 76 "WoodForTwo$Reader" "sort" "I") (List.mem_of_getElem? (i := 1) rfl)
  have iX6 : ∀ w ∈ wsX60, w ∈ wsX6_readSign := fun _ h => List.mem_cons_of_mem _ (List.mem_append_right _ (h))
  have hle := tE_le (T := T) hRd.2.2.2
  have htl := tS_le (T := T) (ts := ts) (a := a)
  refine lv_aload_n hx hb dX6_readSign_0 rfl (lv_at hl 0 rfl) ?_
  refine r_geti (ci := 5) (C := RX6) (T := TX6) (N := 8) hx hb hts iX6 hown hW rfl 12 4 rfl (g_lt hG (by decide)) (g_kd hG (by decide) rfl) (by decide) q0 (fun _ h9 => h9) (nI (tS T ts a)) hRd.1.2.2.1 rfl rfl dX6_readSign_1 ?_
  refine lv_iconst (v := 3) hx hb dX6_readSign_4 (by decide) ?_
  refine lv_icmp_eq (tgt := 14) hx hb dX6_readSign_5 (by decide) (fun c5 => ?_) (fun c5 => ?_)
  · skip
    have hs3 : tS T ts a = 3 := (n_eq (b := 3) (by omega) (by decide)).mp c5
    refine lv_aload_n hx hb dX6_readSign_14 rfl (lv_at hl 0 rfl) ?_
    refine r_callv hW hA (va_runV (As := []) (rest := []) ⟨hx, hb, hml, hown, hts⟩ (t_X6_nextToken l D G S _ hG hP T ts ht4 hTB hRd.2.1 hRd.2.2.1 (tE T ts a) hle.1 hRd.1.2.1) (cwV 0 hts gX6_readSign_X6_nextToken rfl rfl rfl (by decide +kernel) ⟨Nat.le_of_ble_eq_true rfl, Nat.le_of_ble_eq_true rfl⟩) (r_preV (k := 12) hA hW (ci := 5) (C := RX6) (T := TX6) (N := 8) rfl rfl (g_lt hG (by decide)) (g_kd hG (by decide) rfl) rfl rfl) rfl rfl hl.1 rfl (lv_room (Nat.le_of_ble_eq_true rfl)) dX6_readSign_15 ⟨Nat.zero_le _, Nat.zero_le _⟩) (fun S15 H locs hp15 hW => ?_)
    have hOk := OkX.mk' hRd.2.1 hRd.2.2.1 hle.1 hp15
    refine lv_iconst (v := 1) hx hb dX6_readSign_18 (by decide) ?_
    refine r_zret hx hb hr hlocks hW (Or.inr rfl) ?_ dX6_readSign_19
    refine Or.inl ⟨(), tE T ts a, ?_, rfl, hOk⟩
    unfold pSign; rw [if_pos hs3]
  · skip
    have hs3 : ¬ tS T ts a = 3 := fun z => c5 (by rw [z]; rfl)
    refine lv_aload_n hx hb dX6_readSign_8 rfl (lv_at hl 0 rfl) ?_
    refine lv_iconst (v := 1) hx hb dX6_readSign_9 (by decide) ?_
    refine W.eq (g2 := F0 mM 10 ls [.int (nI 1), .ref (gA G 12)]) rfl ?_
    refine r_calli hW hA (va_runV (As := [.int (nI 1)]) (rest := []) ⟨hx, hb, hml, hown, hts⟩ (t_X6_fail l D G S _ hG hP 1 (SK T ts a) hRd.1.1) (cwV 1 hts gX6_readSign_X6_fail rfl rfl rfl (by decide +kernel) ⟨Nat.le_of_ble_eq_true rfl, Nat.le_of_ble_eq_true rfl⟩) (r_preV (k := 12) hA hW (ci := 5) (C := RX6) (T := TX6) (N := 8) rfl rfl (g_lt hG (by decide)) (g_kd hG (by decide) rfl) rfl rfl) rfl rfl hl.1 rfl (lv_room (Nat.le_of_ble_eq_true rfl)) dX6_readSign_10 ⟨Nat.zero_le _, Nat.zero_le _⟩) (fun r10 S10 H locs hp10 hW => ?_)
    obtain ⟨rfl, hFl⟩ := hp10
    refine r_zret hx hb hr hlocks hW (Or.inl rfl) ?_ dX6_readSign_13
    refine Or.inr ⟨1, SK T ts a, ?_, rfl, hFl⟩
    unfold pSign; rw [if_neg hs3]

def rmX6_readEnd : Jvm.Room := { frames := 1, cells := 0, slots := 0, locals := 21 }
set_option maxHeartbeats 4000000 in
set_option maxRecDepth 100000 in
theorem t_X6_readEnd (l : Launch) (D : Dc) (G : Gg) (S : Sg) (z : Nat) (hG : GrG G) (hP : GrP G S) (T : Nat → Nat) (ts : Nat) (ht4 : ts ≤ 400) (hTB : ∀ i, i < ts → T i ≤ 255) (a : Nat) (hRd : RdX S T ts a) : MI l yX6_readEnd wsX6_readEnd rmX6_readEnd D G S z [.ref (gA G 12)] (fun r S' => (∃ v e, pEnd T ts a = .inl (v, e) ∧ r = 1 ∧ S' = S) ∨ (∃ f p, pEnd T ts a = .inr (f, p) ∧ r = 0 ∧ FlX S S' f p)) := by
  refine Met.ofW (cc := cX6_readEnd) (maxL := 1) (ret := (some .boolean)) (by decide +kernel) rfl ?_
  intro pP eE s mM args bl mT cD s₁ bD hml hv
  obtain ⟨rfl, hv⟩ := hv
  have hz := hv.1
  subst hz
  have hx := bD.exec
  have hb := bD.bytes
  have hr := bD.returns
  have hts := atoms_spec (ws := wsX6_readEnd) bD.pre
  have hown : s.vm.findClass RX6 = some mM.cls := findClass_of_methodNamed bD.named
  have hlocks := bD.notSynchronized
  have hW := Wd.start hv
  have hA : ∀ q, s.heap.size ≤ q → AW G s.heap.size q := fun q h => Or.inr h
  have hl := lv_entry ([.ref (gA G 12)]) (n := 1) (Nat.le_of_ble_eq_true rfl)
  rw [lg_entry_eq]
  generalize (lg_sl ([.ref (gA G 12)]) ++ List.replicate (1 - (lg_sl ([.ref (gA G 12)])).length) Slot.unset).toArray = ls at hl ⊢
  have hl : lv_has ls 1 [(0, .ref (gA G 12))] := hl
  have q0 := hts (.fieldLink RX6 76 "WoodForTwo$Reader" "sort" "I") (List.mem_of_getElem? (i := 1) rfl)
  have iX6 : ∀ w ∈ wsX60, w ∈ wsX6_readEnd := fun _ h => List.mem_cons_of_mem _ (List.mem_append_right _ (h))
  have hle := tE_le (T := T) hRd.2.2.2
  have htl := tS_le (T := T) (ts := ts) (a := a)
  refine lv_aload_n hx hb dX6_readEnd_0 rfl (lv_at hl 0 rfl) ?_
  refine r_geti (ci := 5) (C := RX6) (T := TX6) (N := 8) hx hb hts iX6 hown hW rfl 12 4 rfl (g_lt hG (by decide)) (g_kd hG (by decide) rfl) (by decide) q0 (fun _ h9 => h9) (nI (tS T ts a)) hRd.1.2.2.1 rfl rfl dX6_readEnd_1 ?_
  refine lv_if_eq (tgt := 15) hx hb dX6_readEnd_4 (by decide) (fun c4 => ?_) (fun c4 => ?_)
  · skip
    have hs0 : tS T ts a = 0 := (n_eq (b := 0) (by omega) (by decide)).mp c4
    refine lv_iconst (v := 1) hx hb dX6_readEnd_15 (by decide) ?_
    refine lv_goto (tgt := 20) hx hb dX6_readEnd_16 (by decide) ?_
    refine r_zret hx hb hr hlocks hW (Or.inr rfl) ?_ dX6_readEnd_20
    refine Or.inl ⟨(), a, ?_, rfl, rfl⟩
    unfold pEnd; rw [if_pos hs0]
  · skip
    have hs0 : ¬ tS T ts a = 0 := fun z => c4 (by rw [z]; rfl)
    refine lv_aload_n hx hb dX6_readEnd_7 rfl (lv_at hl 0 rfl) ?_
    refine lv_iconst (v := 1) hx hb dX6_readEnd_8 (by decide) ?_
    refine W.eq (g2 := F0 mM 9 ls [.int (nI 1), .ref (gA G 12)]) rfl ?_
    refine r_calli hW hA (va_runV (As := [.int (nI 1)]) (rest := []) ⟨hx, hb, hml, hown, hts⟩ (t_X6_fail l D G S _ hG hP 1 (SK T ts a) hRd.1.1) (cwV 1 hts gX6_readEnd_X6_fail rfl rfl rfl (by decide +kernel) ⟨Nat.le_of_ble_eq_true rfl, Nat.le_of_ble_eq_true rfl⟩) (r_preV (k := 12) hA hW (ci := 5) (C := RX6) (T := TX6) (N := 8) rfl rfl (g_lt hG (by decide)) (g_kd hG (by decide) rfl) rfl rfl) rfl rfl hl.1 rfl (lv_room (Nat.le_of_ble_eq_true rfl)) dX6_readEnd_9 ⟨Nat.zero_le _, Nat.zero_le _⟩) (fun r9 S9 H locs hp9 hW => ?_)
    obtain ⟨rfl, hFl⟩ := hp9
    refine lv_if_eq (tgt := 19) hx hb dX6_readEnd_12 (by decide) (fun c12 => ?_) (fun c12 => ?_)
    · skip
      refine lv_iconst (v := 0) hx hb dX6_readEnd_19 (by decide) ?_
      refine r_zret hx hb hr hlocks hW (Or.inl rfl) ?_ dX6_readEnd_20
      refine Or.inr ⟨1, SK T ts a, ?_, rfl, hFl⟩
      unfold pEnd; rw [if_neg hs0]
    · exact absurd (by decide) c12

def rmX6_pastName : Jvm.Room := { frames := 2, cells := 0, slots := 0, locals := 42 }
set_option maxHeartbeats 4000000 in
set_option maxRecDepth 100000 in
theorem t_X6_pastName_bad (l : Launch) (D : Dc) (G : Gg) (S : Sg) (z : Nat) (hG : GrG G) (hP : GrP G S) (T : Nat → Nat) (ts : Nat) (ht4 : ts ≤ 400) (hTB : ∀ i, i < ts → T i ≤ 255) (a : Nat) (hRd : RdX S T ts a)  : MI l yX6_pastName wsX6_pastName rmX6_pastName D G S z [.ref (gA G 12), .int (-1)] (fun r S' => r = -1 ∧ FlX S S' 1 (SK T ts a)) := by
  refine Met.ofW (cc := cX6_pastName) (maxL := 2) (ret := (some .int)) (by decide +kernel) rfl ?_
  intro pP eE s mM args bl mT cD s₁ bD hml hv
  obtain ⟨rfl, hv⟩ := hv
  have hz := hv.1
  subst hz
  have hx := bD.exec
  have hb := bD.bytes
  have hr := bD.returns
  have hts := atoms_spec (ws := wsX6_pastName) bD.pre
  have hown : s.vm.findClass RX6 = some mM.cls := findClass_of_methodNamed bD.named
  have hlocks := bD.notSynchronized
  have hW := Wd.start hv
  have hA : ∀ q, s.heap.size ≤ q → AW G s.heap.size q := fun q h => Or.inr h
  have hl := lv_entry ([.ref (gA G 12), .int (-1)]) (n := 2) (Nat.le_of_ble_eq_true rfl)
  rw [lg_entry_eq]
  generalize (lg_sl ([.ref (gA G 12), .int (-1)]) ++ List.replicate (2 - (lg_sl ([.ref (gA G 12), .int (-1)])).length) Slot.unset).toArray = ls at hl ⊢
  have hl : lv_has ls 2 [(0, .ref (gA G 12)), (1, .int (-1))] := hl
  have hle := tE_le (T := T) hRd.2.2.2
  have htl := tS_le (T := T) (ts := ts) (a := a)
  refine lv_iload_n hx hb dX6_pastName_0 rfl (lv_at hl 1 rfl) ?_
  refine lv_iconst (v := (-1)) hx hb dX6_pastName_1 (by decide) ?_
  refine lv_icmp_ne (tgt := 14) hx hb dX6_pastName_2 (by decide) (fun c2 => ?_) (fun c2 => ?_)
  · exact absurd (by decide) c2
  · skip
    refine lv_aload_n hx hb dX6_pastName_5 rfl (lv_at hl 0 rfl) ?_
    refine lv_iconst (v := 1) hx hb dX6_pastName_6 (by decide) ?_
    refine W.eq (g2 := F0 mM 7 ls [.int (nI 1), .ref (gA G 12)]) rfl ?_
    refine r_calli hW hA (va_runV (As := [.int (nI 1)]) (rest := []) ⟨hx, hb, hml, hown, hts⟩ (t_X6_fail l D G S _ hG hP 1 (SK T ts a) hRd.1.1) (cwV 1 hts gX6_pastName_X6_fail rfl rfl rfl (by decide +kernel) ⟨Nat.le_of_ble_eq_true rfl, Nat.le_of_ble_eq_true rfl⟩) (r_preV (k := 12) hA hW (ci := 5) (C := RX6) (T := TX6) (N := 8) rfl rfl (g_lt hG (by decide)) (g_kd hG (by decide) rfl) rfl rfl) rfl rfl hl.1 rfl (lv_room (Nat.le_of_ble_eq_true rfl)) dX6_pastName_7 ⟨Nat.zero_le _, Nat.zero_le _⟩) (fun r7 S7 H locs hp7 hW => ?_)
    obtain ⟨rfl, hFl⟩ := hp7
    refine lv_pop hx hb dX6_pastName_10 rfl ?_
    refine lv_goto (tgt := 18) hx hb dX6_pastName_11 (by decide) ?_
    refine lv_iload_n hx hb dX6_pastName_18 rfl (lv_at hl 1 rfl) ?_
    refine r_iret hx hb hr hlocks hW ?_ dX6_pastName_19
    exact ⟨rfl, hFl⟩

set_option maxHeartbeats 4000000 in
set_option maxRecDepth 100000 in
theorem t_X6_pastName_ok (l : Launch) (D : Dc) (G : Gg) (S : Sg) (z : Nat) (hG : GrG G) (hP : GrP G S) (T : Nat → Nat) (ts : Nat) (ht4 : ts ≤ 400) (hTB : ∀ i, i < ts → T i ≤ 255) (a : Nat) (hRd : RdX S T ts a) (k : Nat) (hk3 : k ≤ 3)  : MI l yX6_pastName wsX6_pastName rmX6_pastName D G S z [.ref (gA G 12), .int (nI k)] (fun r S' => r = nI k ∧ OkX S S' T ts (tE T ts a)) := by
  refine Met.ofW (cc := cX6_pastName) (maxL := 2) (ret := (some .int)) (by decide +kernel) rfl ?_
  intro pP eE s mM args bl mT cD s₁ bD hml hv
  obtain ⟨rfl, hv⟩ := hv
  have hz := hv.1
  subst hz
  have hx := bD.exec
  have hb := bD.bytes
  have hr := bD.returns
  have hts := atoms_spec (ws := wsX6_pastName) bD.pre
  have hown : s.vm.findClass RX6 = some mM.cls := findClass_of_methodNamed bD.named
  have hlocks := bD.notSynchronized
  have hW := Wd.start hv
  have hA : ∀ q, s.heap.size ≤ q → AW G s.heap.size q := fun q h => Or.inr h
  have hl := lv_entry ([.ref (gA G 12), .int (nI k)]) (n := 2) (Nat.le_of_ble_eq_true rfl)
  rw [lg_entry_eq]
  generalize (lg_sl ([.ref (gA G 12), .int (nI k)]) ++ List.replicate (2 - (lg_sl ([.ref (gA G 12), .int (nI k)])).length) Slot.unset).toArray = ls at hl ⊢
  have hl : lv_has ls 2 [(0, .ref (gA G 12)), (1, .int (nI k))] := hl
  have hle := tE_le (T := T) hRd.2.2.2
  have htl := tS_le (T := T) (ts := ts) (a := a)
  refine lv_iload_n hx hb dX6_pastName_0 rfl (lv_at hl 1 rfl) ?_
  refine lv_iconst (v := (-1)) hx hb dX6_pastName_1 (by decide) ?_
  refine lv_icmp_ne (tgt := 14) hx hb dX6_pastName_2 (by decide) (fun c2 => ?_) (fun c2 => ?_)
  · skip
    refine lv_aload_n hx hb dX6_pastName_14 rfl (lv_at hl 0 rfl) ?_
    refine r_callv hW hA (va_runV (As := []) (rest := []) ⟨hx, hb, hml, hown, hts⟩ (t_X6_nextToken l D G S _ hG hP T ts ht4 hTB hRd.2.1 hRd.2.2.1 (tE T ts a) hle.1 hRd.1.2.1) (cwV 0 hts gX6_pastName_X6_nextToken rfl rfl rfl (by decide +kernel) ⟨Nat.le_of_ble_eq_true rfl, Nat.le_of_ble_eq_true rfl⟩) (r_preV (k := 12) hA hW (ci := 5) (C := RX6) (T := TX6) (N := 8) rfl rfl (g_lt hG (by decide)) (g_kd hG (by decide) rfl) rfl rfl) rfl rfl hl.1 rfl (lv_room (Nat.le_of_ble_eq_true rfl)) dX6_pastName_15 ⟨Nat.zero_le _, Nat.zero_le _⟩) (fun S15 H locs hp15 hW => ?_)
    have hOk := OkX.mk' hRd.2.1 hRd.2.2.1 hle.1 hp15
    refine lv_iload_n hx hb dX6_pastName_18 rfl (lv_at hl 1 rfl) ?_
    refine r_iret hx hb hr hlocks hW ?_ dX6_pastName_19
    exact ⟨rfl, hOk⟩
  · skip
    exfalso; have z := congrArg Int32.toInt c2; rw [n_toInt (by omega), show (-1 : Int32).toInt = -1 from by decide] at z; omega --stop
