theorem sb_int0 : ∀ n, n < 256 → (sb n).toInt = if n < 128 then (n : Int) else (n : Int) - 256 := by decide +kernel
theorem sb_int {n : Nat} (h : n ≤ 255) : (n < 128 ∧ (sb n).toInt = n) ∨ (128 ≤ n ∧ (sb n).toInt = (n : Int) - 256) := by
  have := sb_int0 n (by omega)
  by_cases e : n < 128
  · rw [if_pos e] at this; exact Or.inl ⟨e, this⟩
  · rw [if_neg e] at this; exact Or.inr ⟨by omega, this⟩
theorem cls_v (b : Nat) : cls b = 1 ∨ cls b = 2 ∨ cls b = 3 ∨ cls b = 4 := by
  unfold cls
  repeat' split
  all_goals omega
theorem cls_2 {b : Nat} (h : cls b = 2) : 48 ≤ b ∧ b ≤ 57 := by
  unfold cls at h
  repeat' split at h
  all_goals omega
/-- the reader holds the token from a -/
def TkX (S : Sg) (T : Nat → Nat) (ts a : Nat) : Prop := gi S 12 2 = nI (SK T ts a) ∧ gi S 12 3 = nI (tE T ts a) ∧ gi S 12 4 = nI (tS T ts a) ∧ (tS T ts a = 2 → gi S 12 5 = nI (tV T ts a))
theorem nv_le {T : Nat → Nat} {s : Nat} : ∀ n, (∀ i, i < n → T (s + i) ≤ 57) → n ≤ 3 → nv T s n ≤ 999 ∧ (n ≤ 2 → nv T s n ≤ 99) ∧ (n ≤ 1 → nv T s n ≤ 9) ∧ (n = 0 → nv T s n = 0)
  | 0, _, _ => ⟨Nat.zero_le _, fun _ => Nat.zero_le _, fun _ => Nat.zero_le _, fun _ => rfl⟩
  | n + 1, h, hn => by
    obtain ⟨a, b, c, d⟩ := nv_le (T := T) (s := s) n (fun i hi => h i (by omega)) (by omega)
    have e := h n (by omega)
    have f : nv T s (n + 1) = 10 * nv T s n + (T (s + n) - 48) := rfl
    rw [f]
    refine ⟨?_, fun z => ?_, fun z => ?_, fun z => ?_⟩
    · have := b (by omega); omega
    · have := c (by omega); omega
    · have := d (by omega); omega
    · omega
def rmX6_sortAt : Jvm.Room := { frames := 0, cells := 0, slots := 0, locals := 0 }
set_option maxHeartbeats 4000000 in
set_option maxRecDepth 100000 in
theorem t_X6_sortAt (l : Launch) (D : Dc) (G : Gg) (S : Sg) (z : Nat) (hG : GrG G) (hP : GrP G S) (T : Nat → Nat) (ts : Nat) (ht4 : ts ≤ 400) (hTB : ∀ i, i < ts → T i ≤ 255) (h1 : gi S 12 1 = nI ts) (h13 : ∀ i, i < ts → gi S 13 i = sb (T i)) (a : Nat) (ha4 : a ≤ 400) : MI l yX6_sortAt wsX6_sortAt rmX6_sortAt D G S z [.ref (gA G 12), .int (nI a)] (fun r S' => r = nI (if a < ts then cls (T a) else 0) ∧ S' = S) := by
  refine Met.ofW (cc := cX6_sortAt) (maxL := 3) (ret := (some .int)) (by decide +kernel) rfl ?_
  intro pP eE s mM args bl mT cD s₁ bD hml hv
  obtain ⟨rfl, hv⟩ := hv
  have hz := hv.1
  subst hz
  have hx := bD.exec
  have hb := bD.bytes
  have hr := bD.returns
  have hts := atoms_spec (ws := wsX6_sortAt) bD.pre
  have hown : s.vm.findClass RX6 = some mM.cls := findClass_of_methodNamed bD.named
  have hlocks := bD.notSynchronized
  have hW := Wd.start hv
  have hA : ∀ q, s.heap.size ≤ q → AW G s.heap.size q := fun q h => Or.inr h
  have hl := lv_entry ([.ref (gA G 12), .int (nI a)]) (n := 3) (Nat.le_of_ble_eq_true rfl)
  rw [lg_entry_eq]
  generalize (lg_sl ([.ref (gA G 12), .int (nI a)]) ++ List.replicate (3 - (lg_sl ([.ref (gA G 12), .int (nI a)])).length) Slot.unset).toArray = ls at hl ⊢
  have hl : lv_has ls 3 [(0, .ref (gA G 12)), (1, .int (nI a))] := hl
  have q0 := hts (.fieldLink RX6 15 "WoodForTwo$Reader" "length" "I") (List.mem_of_getElem? (i := 1) rfl)
  have q1 := hts (.fieldLink RX6 9 "WoodForTwo$Reader" "tape" "[B") (List.mem_of_getElem? (i := 2) rfl)
  have iX6 : ∀ w ∈ wsX60, w ∈ wsX6_sortAt := fun _ h => List.mem_cons_of_mem _ (List.mem_append_right _ (h))
  refine lv_iload_n hx hb dX6_sortAt_0 rfl (lv_at hl 1 rfl) ?_
  refine lv_if_lt (tgt := 12) hx hb dX6_sortAt_1 (by decide) (fun c1 => ?_) (fun c1 => ?_)
  · skip
    rw [t_lt, show (0 : Int32).toInt = 0 from by decide] at c1
    exfalso; rw [n_toInt (by omega)] at c1; omega --stop
  · skip
    rw [t_lt, show (0 : Int32).toInt = 0 from by decide] at c1
    refine lv_iload_n hx hb dX6_sortAt_4 rfl (lv_at hl 1 rfl) ?_
    refine lv_aload_n hx hb dX6_sortAt_5 rfl (lv_at hl 0 rfl) ?_
    refine r_geti (ci := 5) (C := RX6) (T := TX6) (N := 8) hx hb hts iX6 hown hW rfl 12 1 rfl (g_lt hG (by decide)) (g_kd hG (by decide) rfl) (by decide) q0 (fun _ h9 => h9) (nI ts) h1 rfl rfl dX6_sortAt_6 ?_
    refine lv_icmp_lt (tgt := 14) hx hb dX6_sortAt_9 (by decide) (fun c9 => ?_) (fun c9 => ?_)
    · skip
      have hal : a < ts := (n_lt (by omega) (by omega)).mp c9
      have hba := hTB a hal
      have hbv := sb_int (hTB a hal)
      refine lv_aload_n hx hb dX6_sortAt_14 rfl (lv_at hl 0 rfl) ?_
      refine r_getr (ci := 5) (C := RX6) (T := TX6) (N := 8) hx hb hts iX6 hown hW rfl 12 0 rfl (g_lt hG (by decide)) (g_kd hG (by decide) rfl) (by decide) q1 (fun _ h9 => h9) (hP _ (List.mem_of_getElem? (i := 15) rfl)) rfl rfl dX6_sortAt_15 ?_
      refine lv_iload_n hx hb dX6_sortAt_18 rfl (lv_at hl 1 rfl) ?_
      refine r_bald hx hb hW 13 rfl (g_lt hG (by decide)) (g_kd hG (by decide) rfl) (g_ix hG (c := 400) (by decide) rfl (n_inI (by omega) (by decide))) (sb (T a)) (by rw [n_clamp (by omega)]; exact h13 a (by omega)) dX6_sortAt_19 ?_
      refine lv_istore_n (lv' := [(2, .int (sb (T a))), (0, .ref (gA G 12)), (1, .int (nI a))]) hx hb dX6_sortAt_20 rfl hl (by decide) rfl (fun ls hl => ?_)
      refine lv_iload_n hx hb dX6_sortAt_21 rfl (lv_at hl 0 rfl) ?_
      refine lv_bipush (v := 97) hx hb dX6_sortAt_22 (by decide) ?_
      refine lv_icmp_lt (tgt := 35) hx hb dX6_sortAt_24 (by decide) (fun c24 => ?_) (fun c24 => ?_)
      · skip
        rw [t_lt, show (97 : Int32).toInt = 97 from by decide] at c24
        refine lv_iload_n hx hb dX6_sortAt_35 rfl (lv_at hl 0 rfl) ?_
        refine lv_bipush (v := 48) hx hb dX6_sortAt_36 (by decide) ?_
        refine lv_icmp_lt (tgt := 49) hx hb dX6_sortAt_38 (by decide) (fun c38 => ?_) (fun c38 => ?_)
        · skip
          rw [t_lt, show (48 : Int32).toInt = 48 from by decide] at c38
          refine lv_iload_n hx hb dX6_sortAt_49 rfl (lv_at hl 0 rfl) ?_
          refine lv_bipush (v := 59) hx hb dX6_sortAt_50 (by decide) ?_
          refine lv_icmp_ne (tgt := 59) hx hb dX6_sortAt_52 (by decide) (fun c52 => ?_) (fun c52 => ?_)
          · skip
            rw [t_eq, show (59 : Int32).toInt = 59 from by decide] at c52
            refine lv_iconst (v := 4) hx hb dX6_sortAt_59 (by decide) ?_
            refine r_iret hx hb hr hlocks hW ?_ dX6_sortAt_60
            refine ⟨?_, rfl⟩
            rw [if_pos hal]
            unfold cls
            rw [if_neg (by omega), if_neg (by omega), if_neg (by omega)]; rfl
          · skip
            rw [t_eq, show (59 : Int32).toInt = 59 from by decide] at c52
            refine lv_iconst (v := 3) hx hb dX6_sortAt_55 (by decide) ?_
            refine lv_goto (tgt := 60) hx hb dX6_sortAt_56 (by decide) ?_
            refine r_iret hx hb hr hlocks hW ?_ dX6_sortAt_60
            refine ⟨?_, rfl⟩
            rw [if_pos hal]
            unfold cls
            rw [if_neg (by omega), if_neg (by omega), if_pos (by omega)]; rfl
        · skip
          rw [t_lt, show (48 : Int32).toInt = 48 from by decide] at c38
          refine lv_iload_n hx hb dX6_sortAt_41 rfl (lv_at hl 0 rfl) ?_
          refine lv_bipush (v := 57) hx hb dX6_sortAt_42 (by decide) ?_
          refine lv_icmp_gt (tgt := 49) hx hb dX6_sortAt_44 (by decide) (fun c44 => ?_) (fun c44 => ?_)
          · skip
            rw [t_lt, show (57 : Int32).toInt = 57 from by decide] at c44
            refine lv_iload_n hx hb dX6_sortAt_49 rfl (lv_at hl 0 rfl) ?_
            refine lv_bipush (v := 59) hx hb dX6_sortAt_50 (by decide) ?_
            refine lv_icmp_ne (tgt := 59) hx hb dX6_sortAt_52 (by decide) (fun c52 => ?_) (fun c52 => ?_)
            · skip
              rw [t_eq, show (59 : Int32).toInt = 59 from by decide] at c52
              refine lv_iconst (v := 4) hx hb dX6_sortAt_59 (by decide) ?_
              refine r_iret hx hb hr hlocks hW ?_ dX6_sortAt_60
              refine ⟨?_, rfl⟩
              rw [if_pos hal]
              unfold cls
              rw [if_neg (by omega), if_neg (by omega), if_neg (by omega)]; rfl
            · skip
              rw [t_eq, show (59 : Int32).toInt = 59 from by decide] at c52
              refine lv_iconst (v := 3) hx hb dX6_sortAt_55 (by decide) ?_
              refine lv_goto (tgt := 60) hx hb dX6_sortAt_56 (by decide) ?_
              refine r_iret hx hb hr hlocks hW ?_ dX6_sortAt_60
              refine ⟨?_, rfl⟩
              rw [if_pos hal]
              unfold cls
              rw [if_neg (by omega), if_neg (by omega), if_pos (by omega)]; rfl
          · skip
            rw [t_lt, show (57 : Int32).toInt = 57 from by decide] at c44
            refine lv_iconst (v := 2) hx hb dX6_sortAt_47 (by decide) ?_
            refine r_iret hx hb hr hlocks hW ?_ dX6_sortAt_48
            refine ⟨?_, rfl⟩
            rw [if_pos hal]
            unfold cls
            rw [if_neg (by omega), if_pos (by omega)]; rfl
      · skip
        rw [t_lt, show (97 : Int32).toInt = 97 from by decide] at c24
        refine lv_iload_n hx hb dX6_sortAt_27 rfl (lv_at hl 0 rfl) ?_
        refine lv_bipush (v := 122) hx hb dX6_sortAt_28 (by decide) ?_
        refine lv_icmp_gt (tgt := 35) hx hb dX6_sortAt_30 (by decide) (fun c30 => ?_) (fun c30 => ?_)
        · skip
          rw [t_lt, show (122 : Int32).toInt = 122 from by decide] at c30
          refine lv_iload_n hx hb dX6_sortAt_35 rfl (lv_at hl 0 rfl) ?_
          refine lv_bipush (v := 48) hx hb dX6_sortAt_36 (by decide) ?_
          refine lv_icmp_lt (tgt := 49) hx hb dX6_sortAt_38 (by decide) (fun c38 => ?_) (fun c38 => ?_)
          · skip
            rw [t_lt, show (48 : Int32).toInt = 48 from by decide] at c38
            refine lv_iload_n hx hb dX6_sortAt_49 rfl (lv_at hl 0 rfl) ?_
            refine lv_bipush (v := 59) hx hb dX6_sortAt_50 (by decide) ?_
            refine lv_icmp_ne (tgt := 59) hx hb dX6_sortAt_52 (by decide) (fun c52 => ?_) (fun c52 => ?_)
            · skip
              rw [t_eq, show (59 : Int32).toInt = 59 from by decide] at c52
              refine lv_iconst (v := 4) hx hb dX6_sortAt_59 (by decide) ?_
              refine r_iret hx hb hr hlocks hW ?_ dX6_sortAt_60
              refine ⟨?_, rfl⟩
              rw [if_pos hal]
              unfold cls
              rw [if_neg (by omega), if_neg (by omega), if_neg (by omega)]; rfl
            · skip
              rw [t_eq, show (59 : Int32).toInt = 59 from by decide] at c52
              refine lv_iconst (v := 3) hx hb dX6_sortAt_55 (by decide) ?_
              refine lv_goto (tgt := 60) hx hb dX6_sortAt_56 (by decide) ?_
              refine r_iret hx hb hr hlocks hW ?_ dX6_sortAt_60
              refine ⟨?_, rfl⟩
              rw [if_pos hal]
              unfold cls
              rw [if_neg (by omega), if_neg (by omega), if_pos (by omega)]; rfl
          · skip
            rw [t_lt, show (48 : Int32).toInt = 48 from by decide] at c38
            refine lv_iload_n hx hb dX6_sortAt_41 rfl (lv_at hl 0 rfl) ?_
            refine lv_bipush (v := 57) hx hb dX6_sortAt_42 (by decide) ?_
            refine lv_icmp_gt (tgt := 49) hx hb dX6_sortAt_44 (by decide) (fun c44 => ?_) (fun c44 => ?_)
            · skip
              rw [t_lt, show (57 : Int32).toInt = 57 from by decide] at c44
              refine lv_iload_n hx hb dX6_sortAt_49 rfl (lv_at hl 0 rfl) ?_
              refine lv_bipush (v := 59) hx hb dX6_sortAt_50 (by decide) ?_
              refine lv_icmp_ne (tgt := 59) hx hb dX6_sortAt_52 (by decide) (fun c52 => ?_) (fun c52 => ?_)
              · skip
                rw [t_eq, show (59 : Int32).toInt = 59 from by decide] at c52
                refine lv_iconst (v := 4) hx hb dX6_sortAt_59 (by decide) ?_
                refine r_iret hx hb hr hlocks hW ?_ dX6_sortAt_60
                refine ⟨?_, rfl⟩
                rw [if_pos hal]
                unfold cls
                rw [if_neg (by omega), if_neg (by omega), if_neg (by omega)]; rfl
              · skip
                rw [t_eq, show (59 : Int32).toInt = 59 from by decide] at c52
                refine lv_iconst (v := 3) hx hb dX6_sortAt_55 (by decide) ?_
                refine lv_goto (tgt := 60) hx hb dX6_sortAt_56 (by decide) ?_
                refine r_iret hx hb hr hlocks hW ?_ dX6_sortAt_60
                refine ⟨?_, rfl⟩
                rw [if_pos hal]
                unfold cls
                rw [if_neg (by omega), if_neg (by omega), if_pos (by omega)]; rfl
            · skip
              rw [t_lt, show (57 : Int32).toInt = 57 from by decide] at c44
              refine lv_iconst (v := 2) hx hb dX6_sortAt_47 (by decide) ?_
              refine r_iret hx hb hr hlocks hW ?_ dX6_sortAt_48
              refine ⟨?_, rfl⟩
              rw [if_pos hal]
              unfold cls
              rw [if_neg (by omega), if_pos (by omega)]; rfl
        · skip
          rw [t_lt, show (122 : Int32).toInt = 122 from by decide] at c30
          refine lv_iconst (v := 1) hx hb dX6_sortAt_33 (by decide) ?_
          refine r_iret hx hb hr hlocks hW ?_ dX6_sortAt_34
          refine ⟨?_, rfl⟩
          rw [if_pos hal]
          unfold cls
          rw [if_pos (by omega)]; rfl
    · skip
      have hal : ¬ a < ts := fun z => c9 ((n_lt (by omega) (by omega)).mpr z)
      refine lv_iconst (v := 0) hx hb dX6_sortAt_12 (by decide) ?_
      refine r_iret hx hb hr hlocks hW ?_ dX6_sortAt_13
      refine ⟨?_, rfl⟩
      rw [if_neg (by omega)]; rfl

def rmX6_takeFigures : Jvm.Room := { frames := 0, cells := 0, slots := 0, locals := 0 }
set_option maxHeartbeats 4000000 in
set_option maxRecDepth 100000 in
theorem t_X6_takeFigures (l : Launch) (D : Dc) (G : Gg) (S : Sg) (z : Nat) (hG : GrG G) (hP : GrP G S) (T : Nat → Nat) (ts : Nat) (ht4 : ts ≤ 400) (hTB : ∀ i, i < ts → T i ≤ 255) (h1 : gi S 12 1 = nI ts) (h13 : ∀ i, i < ts → gi S 13 i = sb (T i)) (s0 e0 : Nat) (hse : s0 ≤ e0) (he : e0 ≤ ts) (h2 : gi S 12 2 = nI s0) (h3r : gi S 12 3 = nI e0) (hds : ∀ i, s0 ≤ i → i < e0 → 48 ≤ T i ∧ T i ≤ 57) : MV l yX6_takeFigures wsX6_takeFigures rmX6_takeFigures D G S z [.ref (gA G 12)] (fun S' => gp S' = gp S ∧ (∀ j, j ≠ 4 → j ≠ 5 → gi S' 12 j = gi S 12 j) ∧ ((3 < e0 - s0 ∧ gi S' 12 4 = 4) ∨ (e0 - s0 ≤ 3 ∧ gi S' 12 4 = gi S 12 4 ∧ gi S' 12 5 = nI (nv T s0 (e0 - s0)))) ∧ Ch (fun k => k = 12) S S') := by
  refine Met.ofW (cc := cX6_takeFigures) (maxL := 2) (ret := none) (by decide +kernel) rfl ?_
  intro pP eE s mM args bl mT cD s₁ bD hml hv
  obtain ⟨rfl, hv⟩ := hv
  have hz := hv.1
  subst hz
  have hx := bD.exec
  have hb := bD.bytes
  have hr := bD.returns
  have hts := atoms_spec (ws := wsX6_takeFigures) bD.pre
  have hown : s.vm.findClass RX6 = some mM.cls := findClass_of_methodNamed bD.named
  have hlocks := bD.notSynchronized
  have hW := Wd.start hv
  have hA : ∀ q, s.heap.size ≤ q → AW G s.heap.size q := fun q h => Or.inr h
  have hl := lv_entry ([.ref (gA G 12)]) (n := 2) (Nat.le_of_ble_eq_true rfl)
  rw [lg_entry_eq]
  generalize (lg_sl ([.ref (gA G 12)]) ++ List.replicate (2 - (lg_sl ([.ref (gA G 12)])).length) Slot.unset).toArray = ls at hl ⊢
  have hl : lv_has ls 2 [(0, .ref (gA G 12))] := hl
  have q0 := hts (.fieldLink RX6 19 "WoodForTwo$Reader" "behind" "I") (List.mem_of_getElem? (i := 1) rfl)
  have q1 := hts (.fieldLink RX6 144 "WoodForTwo$Reader" "start" "I") (List.mem_of_getElem? (i := 2) rfl)
  have q2 := hts (.fieldLink RX6 79 "WoodForTwo$Reader" "value" "I") (List.mem_of_getElem? (i := 4) rfl)
  have q3 := hts (.fieldLink RX6 9 "WoodForTwo$Reader" "tape" "[B") (List.mem_of_getElem? (i := 5) rfl)
  have q4 := hts (.fieldLink RX6 76 "WoodForTwo$Reader" "sort" "I") (List.mem_of_getElem? (i := 3) rfl)
  have iX6 : ∀ w ∈ wsX60, w ∈ wsX6_takeFigures := fun _ h => List.mem_cons_of_mem _ (List.mem_append_right _ (h))
  generalize hQ0 : MQ bl _ _ s _ _ _ = Q0
  refine lv_aload_n hx hb dX6_takeFigures_0 rfl (lv_at hl 0 rfl) ?_
  refine r_geti (ci := 5) (C := RX6) (T := TX6) (N := 8) hx hb hts iX6 hown hW rfl 12 3 rfl (g_lt hG (by decide)) (g_kd hG (by decide) rfl) (by decide) q0 (fun _ h9 => h9) (nI e0) h3r rfl rfl dX6_takeFigures_1 ?_
  refine lv_aload_n hx hb dX6_takeFigures_4 rfl (lv_at hl 0 rfl) ?_
  refine r_geti (ci := 5) (C := RX6) (T := TX6) (N := 8) hx hb hts iX6 hown hW rfl 12 2 rfl (g_lt hG (by decide)) (g_kd hG (by decide) rfl) (by decide) q1 (fun _ h9 => h9) (nI s0) h2 rfl rfl dX6_takeFigures_5 ?_
  refine lv_isub hx hb dX6_takeFigures_8 ?_
  rw [show (((nI e0) - (nI s0)) : Int32) = (nI (e0 - s0)) from n_sub hse]
  refine lv_iconst (v := 3) hx hb dX6_takeFigures_9 (by decide) ?_
  refine lv_icmp_le (tgt := 19) hx hb dX6_takeFigures_10 (by decide) (fun c10 => ?_) (fun c10 => ?_)
  · skip
    have h10 := (n_le (a := e0 - s0) (b := 3) (by omega) (by omega)).mp c10
    refine lv_aload_n hx hb dX6_takeFigures_19 rfl (lv_at hl 0 rfl) ?_
    refine lv_iconst (v := 0) hx hb dX6_takeFigures_20 (by decide) ?_
    refine r_puti (ci := 5) (C := RX6) (T := TX6) (N := 8) hx hb hts iX6 tyX6 tyX6_ok nmX6 hown hW rfl 12 5 rfl (g_lt hG (by decide)) (g_kd hG (by decide) rfl) (by decide) q2 (fun _ h9 => h9) rfl (tyX6_ok 5 (by decide)) rfl rfl (ri S 12 (va_up (gi S 12) 5 0)) (gi S 12) (va_up (gi S 12) 5 0) rfl (e_is _ _ _) rfl rfl rfl (Nat.le_of_ble_eq_true rfl) rfl c_i0 dX6_takeFigures_21 (fun H locs hW => ?_)
    refine lv_aload_n hx hb dX6_takeFigures_24 rfl (lv_at hl 0 rfl) ?_
    refine r_geti (ci := 5) (C := RX6) (T := TX6) (N := 8) hx hb hts iX6 hown hW rfl 12 2 rfl (g_lt hG (by decide)) (g_kd hG (by decide) rfl) (by decide) q1 (fun _ h9 => h9) (nI s0) ((congrFun (e_is _ _ _) 2).trans h2) rfl rfl dX6_takeFigures_25 ?_
    refine lv_istore_n (lv' := [(1, .int (nI s0)), (0, .ref (gA G 12))]) hx hb dX6_takeFigures_28 rfl hl (by decide) rfl (fun ls hl => ?_)
    have L29 : ∀ (n : Nat) (i : Nat) (rc : Nat → Int32) (H : Heap) (locs : List Loc) (ls : Array Slot), (e0 - s0 - i) < n → i ≤ e0 - s0 → rc 5 = nI (nv T s0 i) → (∀ j, j ≠ 5 → rc j = gi S 12 j) → Wd D (AW G s.heap.size) s G (ri S 12 rc) H locs → lv_has ls 2 [(1, .int (nI (s0 + i))), (0, .ref (gA G 12))] → W pP l eE (headSpec wsX6_takeFigures rmX6_takeFigures).room s mM ([.ref (gA G 12)] : List Value).toArray bl mT cD H locs 0 0 Q0 (F0 mM 29 ls []) := by
      intro n
      induction n with
      | zero => intro i rc H locs ls hm; exact absurd hm (Nat.not_lt_zero _)
      | succ n ih29 =>
        intro i rc H locs ls hm29 hi hr5 hrc hW hl
        refine lv_iload_n hx hb dX6_takeFigures_29 rfl (lv_at hl 0 rfl) ?_
        refine lv_aload_n hx hb dX6_takeFigures_30 rfl (lv_at hl 1 rfl) ?_
        refine r_geti (ci := 5) (C := RX6) (T := TX6) (N := 8) hx hb hts iX6 hown hW rfl 12 3 rfl (g_lt hG (by decide)) (g_kd hG (by decide) rfl) (by decide) q0 (fun _ h9 => h9) (nI e0) ((congrFun (e_is _ _ _) 3).trans ((hrc 3 (by decide)).trans h3r)) rfl rfl dX6_takeFigures_31 ?_
        refine lv_icmp_ge (tgt := 64) hx hb dX6_takeFigures_34 (by decide) (fun c34 => ?_) (fun c34 => ?_)
        · skip
          have h34 := (n_le (a := e0) (b := s0 + i) (by omega) (by omega)).mp c34
          rw [← hQ0]
          refine r_vret hx hb hr hlocks hW ?_ dX6_takeFigures_64
          have hie : i = e0 - s0 := by omega
          exact ⟨rfl, fun j h4 h5 => (congrFun (e_is _ _ _) j).trans (hrc j h5), Or.inr ⟨by omega, (congrFun (e_is _ _ _) 4).trans (hrc 4 (by decide)), (congrFun (e_is _ _ _) 5).trans (hr5.trans (by rw [hie]))⟩, Ch.ri Ch.rf rfl⟩
        · skip
          have h34 : ¬ e0 ≤ s0 + i := fun z => c34 ((n_le (a := e0) (b := s0 + i) (by omega) (by omega)).mpr z)
          refine lv_aload_n hx hb dX6_takeFigures_37 rfl (lv_at hl 1 rfl) ?_
          refine lv_bipush (v := 10) hx hb dX6_takeFigures_38 (by decide) ?_
          refine lv_aload_n hx hb dX6_takeFigures_40 rfl (lv_at hl 1 rfl) ?_
          refine r_geti (ci := 5) (C := RX6) (T := TX6) (N := 8) hx hb hts iX6 hown hW rfl 12 5 rfl (g_lt hG (by decide)) (g_kd hG (by decide) rfl) (by decide) q2 (fun _ h9 => h9) (nI (nv T s0 i)) ((congrFun (e_is _ _ _) 5).trans hr5) rfl rfl dX6_takeFigures_41 ?_
          refine lv_imul hx hb dX6_takeFigures_44 ?_
          rw [show ((10 * (nI (nv T s0 i))) : Int32) = (nI (10 * (nv T s0 i))) from n_mul 10 (nv T s0 i)]
          refine lv_aload_n hx hb dX6_takeFigures_45 rfl (lv_at hl 1 rfl) ?_
          refine r_getr (ci := 5) (C := RX6) (T := TX6) (N := 8) hx hb hts iX6 hown hW rfl 12 0 rfl (g_lt hG (by decide)) (g_kd hG (by decide) rfl) (by decide) q3 (fun _ h9 => h9) (hP _ (List.mem_of_getElem? (i := 15) rfl)) rfl rfl dX6_takeFigures_46 ?_
          refine lv_iload_n hx hb dX6_takeFigures_49 rfl (lv_at hl 0 rfl) ?_
          refine r_bald hx hb hW 13 rfl (g_lt hG (by decide)) (g_kd hG (by decide) rfl) (g_ix hG (c := 400) (by decide) rfl (n_inI (by omega) (by decide))) (sb (T (s0 + i))) ((congrFun (e_in (by decide) rfl) _).trans (by rw [n_clamp (by omega)]; exact h13 (s0 + i) (by omega))) dX6_takeFigures_50 ?_
          refine lv_iadd hx hb dX6_takeFigures_51 ?_
          refine lv_bipush (v := 48) hx hb dX6_takeFigures_52 (by decide) ?_
          refine lv_isub hx hb dX6_takeFigures_54 ?_
          have hdg := hds (s0 + i) (by omega) (by omega)
          have hsb : sb (T (s0 + i)) = nI (T (s0 + i)) := by
              rcases sb_int (hTB (s0 + i) (by omega)) with z | z
              · rw [t_eq, z.2, n_toInt (by omega)]
              · omega
          have h3 : e0 - s0 ≤ 3 := by omega
          rw [show ((((nI (10 * (nv T s0 i))) + (sb (T (s0 + i)))) - 48) : Int32) = (nI (nv T s0 (i + 1))) from by rw [hsb, n_add, show nI (10 * nv T s0 i + T (s0 + i)) - 48 = nI (10 * nv T s0 i + T (s0 + i) - 48) from n_sub (b := 48) (by omega)]; congr 1; show _ = 10 * nv T s0 i + (T (s0 + i) - 48); omega]
          refine r_puti (ci := 5) (C := RX6) (T := TX6) (N := 8) hx hb hts iX6 tyX6 tyX6_ok nmX6 hown hW rfl 12 5 rfl (g_lt hG (by decide)) (g_kd hG (by decide) rfl) (by decide) q2 (fun _ h9 => h9) rfl (tyX6_ok 5 (by decide)) rfl rfl (ri S 12 (va_up rc 5 (nI (nv T s0 (i + 1))))) rc (va_up rc 5 (nI (nv T s0 (i + 1)))) (e_is _ _ _) (e_is _ _ _) rfl rfl rfl (Nat.le_of_ble_eq_true rfl) rfl c_i dX6_takeFigures_55 (fun H locs hW => ?_)
          refine lv_iinc (v := (nI (s0 + (i + 1)))) (lv' := [(1, .int (nI (s0 + (i + 1)))), (0, .ref (gA G 12))]) hx hb dX6_takeFigures_58 hl (k := 0) rfl (nI_1 (s0 + i)) (by decide) rfl (fun ls hl => ?_)
          refine lv_goto (tgt := 29) hx hb dX6_takeFigures_61 (by decide) ?_
          exact ih29 (i + 1) (va_up rc 5 (nI (nv T s0 (i + 1)))) _ _ ls (by omega) (by omega) (up_s _ _ _) (fun j hj => by rw [up_n _ _ hj]; exact hrc j hj) hW (lv_sub hl [0, 1] rfl)
    exact L29 _ 0 (va_up (gi S 12) 5 0) _ _ ls (Nat.lt_succ_self _) (Nat.zero_le _) rfl (fun j hj => up_n _ _ hj) hW (lv_sub hl [0, 1] rfl)
  · skip
    have h10 : ¬ e0 - s0 ≤ 3 := fun z => c10 ((n_le (a := e0 - s0) (b := 3) (by omega) (by omega)).mpr z)
    refine lv_aload_n hx hb dX6_takeFigures_13 rfl (lv_at hl 0 rfl) ?_
    refine lv_iconst (v := 4) hx hb dX6_takeFigures_14 (by decide) ?_
    refine r_puti (ci := 5) (C := RX6) (T := TX6) (N := 8) hx hb hts iX6 tyX6 tyX6_ok nmX6 hown hW rfl 12 4 rfl (g_lt hG (by decide)) (g_kd hG (by decide) rfl) (by decide) q4 (fun _ h9 => h9) rfl (tyX6_ok 4 (by decide)) rfl rfl (ri S 12 (va_up (gi S 12) 4 4)) (gi S 12) (va_up (gi S 12) 4 4) rfl (e_is _ _ _) rfl rfl rfl (Nat.le_of_ble_eq_true rfl) rfl c_i0 dX6_takeFigures_15 (fun H locs hW => ?_)
    rw [← hQ0]
    refine r_vret hx hb hr hlocks hW ?_ dX6_takeFigures_18
    exact ⟨rfl, fun j h4 h5 => (congrFun (e_is _ _ _) j).trans (up_n _ _ h4), Or.inl ⟨by omega, (congrFun (e_is _ _ _) 4).trans rfl⟩, Ch.ri Ch.rf rfl⟩
