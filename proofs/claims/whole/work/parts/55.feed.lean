def TpX (S : Sg) (T : Nat → Nat) (ts : Nat) : Prop := gi S 12 1 = nI ts ∧ ∀ i, i < ts → gi S 13 i = sb (T i)
def TpM (S : Sg) (T : Nat → Nat) (ts : Nat) : Prop := gi S 65 7 = nI ts ∧ ∀ i, i < ts → gi S 71 i = nI (T i)
def rmX6_hasRoom : Jvm.Room := { frames := 0, cells := 0, slots := 0, locals := 0 }
set_option maxHeartbeats 4000000 in
set_option maxRecDepth 100000 in
theorem t_X6_hasRoom (l : Launch) (D : Dc) (G : Gg) (S : Sg) (z : Nat) (hG : GrG G) (hP : GrP G S) (T : Nat → Nat) (ts : Nat) (ht4 : ts ≤ 400) (hX : TpX S T ts) (nn : Nat) (hn8 : nn ≤ 8) : MI l yX6_hasRoom wsX6_hasRoom rmX6_hasRoom D G S z [.ref (gA G 12), .int (nI nn)] (fun r S' => S' = S ∧ ((r = 1 ∧ ts + nn ≤ 400) ∨ (r = 0 ∧ ¬ ts + nn ≤ 400))) := by
  refine Met.ofW (cc := cX6_hasRoom) (maxL := 2) (ret := (some .boolean)) (by decide +kernel) rfl ?_
  intro pP eE s mM args bl mT cD s₁ bD hml hv
  obtain ⟨rfl, hv⟩ := hv
  have hz := hv.1
  subst hz
  have hx := bD.exec
  have hb := bD.bytes
  have hr := bD.returns
  have hts := atoms_spec (ws := wsX6_hasRoom) bD.pre
  have hown : s.vm.findClass RX6 = some mM.cls := findClass_of_methodNamed bD.named
  have hlocks := bD.notSynchronized
  have hW := Wd.start hv
  have hA : ∀ q, s.heap.size ≤ q → AW G s.heap.size q := fun q h => Or.inr h
  have hl := lv_entry ([.ref (gA G 12), .int (nI nn)]) (n := 2) (Nat.le_of_ble_eq_true rfl)
  rw [lg_entry_eq]
  generalize (lg_sl ([.ref (gA G 12), .int (nI nn)]) ++ List.replicate (2 - (lg_sl ([.ref (gA G 12), .int (nI nn)])).length) Slot.unset).toArray = ls at hl ⊢
  have hl : lv_has ls 2 [(0, .ref (gA G 12)), (1, .int (nI nn))] := hl
  have q0 := hts (.fieldLink RX6 15 "WoodForTwo$Reader" "length" "I") (List.mem_of_getElem? (i := 1) rfl)
  have iX6 : ∀ w ∈ wsX60, w ∈ wsX6_hasRoom := fun _ h => List.mem_cons_of_mem _ (List.mem_append_right _ (h))
  refine lv_iload_n hx hb dX6_hasRoom_0 rfl (lv_at hl 1 rfl) ?_
  refine lv_sipush (v := 400) hx hb dX6_hasRoom_1 (by decide) ?_
  refine lv_aload_n hx hb dX6_hasRoom_4 rfl (lv_at hl 0 rfl) ?_
  refine r_geti (ci := 5) (C := RX6) (T := TX6) (N := 8) hx hb hts iX6 hown hW rfl 12 1 rfl (g_lt hG (by decide)) (g_kd hG (by decide) rfl) (by decide) q0 (fun _ h9 => h9) (nI ts) hX.1 rfl rfl dX6_hasRoom_5 ?_
  refine lv_isub hx hb dX6_hasRoom_8 ?_
  rw [show ((400 - (nI ts)) : Int32) = (nI (400 - ts)) from n_sub (a := 400) ht4]
  refine lv_icmp_gt (tgt := 16) hx hb dX6_hasRoom_9 (by decide) (fun c9 => ?_) (fun c9 => ?_)
  · skip
    have h9 := (n_lt (a := 400 - ts) (b := nn) (by omega) (by omega)).mp c9
    refine lv_iconst (v := 0) hx hb dX6_hasRoom_16 (by decide) ?_
    refine r_zret hx hb hr hlocks hW (Or.inl rfl) ?_ dX6_hasRoom_17
    exact ⟨rfl, Or.inr ⟨rfl, by omega⟩⟩
  · skip
    have h9 : ¬ 400 - ts < nn := fun z => c9 ((n_lt (a := 400 - ts) (b := nn) (by omega) (by omega)).mpr z)
    refine lv_iconst (v := 1) hx hb dX6_hasRoom_12 (by decide) ?_
    refine lv_goto (tgt := 17) hx hb dX6_hasRoom_13 (by decide) ?_
    refine r_zret hx hb hr hlocks hW (Or.inr rfl) ?_ dX6_hasRoom_17
    exact ⟨rfl, Or.inl ⟨rfl, by omega⟩⟩

def rmX6_takeBytes : Jvm.Room := { frames := 0, cells := 0, slots := 0, locals := 0 }
set_option maxHeartbeats 4000000 in
set_option maxRecDepth 100000 in
theorem t_X6_takeBytes (l : Launch) (D : Dc) (G : Gg) (S : Sg) (z : Nat) (hG : GrG G) (hP : GrP G S) (T : Nat → Nat) (ts : Nat) (ht4 : ts ≤ 400) (hX : TpX S T ts) (a1 : Int64) (nn : Nat) (hn1 : 1 ≤ nn) (hn8 : nn ≤ 8) (htn : ts + nn ≤ 400) : MI l yX6_takeBytes wsX6_takeBytes rmX6_takeBytes D G S z [.ref (gA G 12), .long a1, .int (nI nn)] (fun r S' => r = nI (ts + nn) ∧ TpX S' (fdT T ts a1 nn) (ts + nn) ∧ (∀ j, j ≠ 1 → gi S' 12 j = gi S 12 j) ∧ Ch (fun k => k = 12 ∨ k = 13) S S') := by
  refine Met.ofW (cc := cX6_takeBytes) (maxL := 5) (ret := (some .int)) (by decide +kernel) rfl ?_
  intro pP eE s mM args bl mT cD s₁ bD hml hv
  obtain ⟨rfl, hv⟩ := hv
  have hz := hv.1
  subst hz
  have hx := bD.exec
  have hb := bD.bytes
  have hr := bD.returns
  have hts := atoms_spec (ws := wsX6_takeBytes) bD.pre
  have hown : s.vm.findClass RX6 = some mM.cls := findClass_of_methodNamed bD.named
  have hlocks := bD.notSynchronized
  have hW := Wd.start hv
  have hA : ∀ q, s.heap.size ≤ q → AW G s.heap.size q := fun q h => Or.inr h
  have hl := lv_entry ([.ref (gA G 12), .long a1, .int (nI nn)]) (n := 5) (Nat.le_of_ble_eq_true rfl)
  rw [lg_entry_eq]
  generalize (lg_sl ([.ref (gA G 12), .long a1, .int (nI nn)]) ++ List.replicate (5 - (lg_sl ([.ref (gA G 12), .long a1, .int (nI nn)])).length) Slot.unset).toArray = ls at hl ⊢
  have hl : lv_has ls 5 [(0, .ref (gA G 12)), (1, .long a1), (3, .int (nI nn))] := hl
  have q0 := hts (.fieldLink RX6 15 "WoodForTwo$Reader" "length" "I") (List.mem_of_getElem? (i := 1) rfl)
  have q1 := hts (.fieldLink RX6 9 "WoodForTwo$Reader" "tape" "[B") (List.mem_of_getElem? (i := 2) rfl)
  have iX6 : ∀ w ∈ wsX60, w ∈ wsX6_takeBytes := fun _ h => List.mem_cons_of_mem _ (List.mem_append_right _ (h))
  generalize hQ0 : MQ bl _ _ s _ _ _ = Q0
  refine lv_iload_n hx hb dX6_takeBytes_0 rfl (lv_at hl 2 rfl) ?_
  refine lv_iconst (v := 1) hx hb dX6_takeBytes_1 (by decide) ?_
  refine lv_isub hx hb dX6_takeBytes_2 ?_
  refine lv_istore (lv' := [(4, .int ((nI nn) - 1)), (0, .ref (gA G 12)), (1, .long a1), (3, .int (nI nn))]) hx hb dX6_takeBytes_3 hl (by decide) rfl (fun ls hl => ?_)
  rw [show S = (ri S 13 (gi S 13)) from (ri_id S 13).symm] at hW
  rw [show (ri S 13 (gi S 13)) = (ri (ri S 13 (gi S 13)) 12 (gi S 12)) from ((ri_id (ri S 13 (gi S 13)) 12).symm.trans (congrArg (fun z => ri (ri S 13 (gi S 13)) 12 z) (e_in (by decide) rfl)))] at hW
  have L5 : ∀ (n : Nat) (u : Nat) (rb : Nat → Int32) (rc : Nat → Int32) (H : Heap) (locs : List Loc) (ls : Array Slot), u < n → u ≤ nn → rc 1 = nI (ts + (nn - u)) → (∀ j, j ≠ 1 → rc j = gi S 12 j) → (∀ j, j < ts → rb j = gi S 13 j) → (∀ j, j < nn - u → rb (ts + j) = sb (byt a1 (nn - 1 - j))) → Wd D (AW G s.heap.size) s G (ri (ri S 13 rb) 12 rc) H locs → lv_has ls 5 [(4, .int (nI u - 1)), (0, .ref (gA G 12)), (1, .long a1)] → W pP l eE (headSpec wsX6_takeBytes rmX6_takeBytes).room s mM ([.ref (gA G 12), .long a1, .int (nI nn)] : List Value).toArray bl mT cD H locs 0 0 Q0 (F0 mM 5 ls []) := by
    intro n
    induction n with
    | zero => intro u rb rc H locs ls hm; exact absurd hm (Nat.not_lt_zero _)
    | succ n ih5 =>
      intro u rb rc H locs ls hm5 hu hrc1 hrc hb1 hb2 hW hl
      refine lv_iload hx hb dX6_takeBytes_5 (lv_at hl 0 rfl) ?_
      refine lv_if_lt (tgt := 54) hx hb dX6_takeBytes_7 (by decide) (fun c7 => ?_) (fun c7 => ?_)
      · skip
        rw [t_lt, show (0 : Int32).toInt = 0 from by decide] at c7
        have hu0 : u = 0 := by rw [t_sub (by rw [n_toInt (by omega), show (1 : Int32).toInt = 1 from by decide]; omega) (by rw [n_toInt (by omega), show (1 : Int32).toInt = 1 from by decide]; omega), n_toInt (by omega), show (1 : Int32).toInt = 1 from by decide] at c7; omega
        refine lv_aload_n hx hb dX6_takeBytes_54 rfl (lv_at hl 1 rfl) ?_
        refine r_geti (ci := 5) (C := RX6) (T := TX6) (N := 8) hx hb hts iX6 hown hW rfl 12 1 rfl (g_lt hG (by decide)) (g_kd hG (by decide) rfl) (by decide) q0 (fun _ h9 => h9) (nI (ts + (nn - u))) ((congrFun (e_is _ _ _) 1).trans hrc1) rfl rfl dX6_takeBytes_55 ?_
        rw [← hQ0]
        refine r_iret hx hb hr hlocks hW ?_ dX6_takeBytes_58
        subst hu0
        refine ⟨by rw [show nn - 0 = nn from rfl], ⟨(congrFun (e_is _ _ _) 1).trans hrc1, fun i hi => (congrFun (e_in (by decide) (e_is _ _ _)) i).trans ?_⟩, fun j hj => (congrFun (e_is _ _ _) j).trans (hrc j hj), (Ch.ri (Ch.ri Ch.rf (by omega)) (by omega))⟩
        unfold fdT
        by_cases e : i < ts
        · rw [if_neg (by omega), hb1 i e]; exact hX.2 i e
        · rw [if_pos (by omega), show i = ts + (i - ts) by omega, hb2 (i - ts) (by omega), show ts + (i - ts) - ts = i - ts by omega]
      · skip
        rw [t_lt, show (0 : Int32).toInt = 0 from by decide] at c7
        have hu1 : 1 ≤ u := by rw [t_sub (by rw [n_toInt (by omega), show (1 : Int32).toInt = 1 from by decide]; omega) (by rw [n_toInt (by omega), show (1 : Int32).toInt = 1 from by decide]; omega), n_toInt (by omega), show (1 : Int32).toInt = 1 from by decide] at c7; omega
        have hu1 : 1 ≤ u := by omega
        have e7 : nI u - 1 = nI (u - 1) := n_sub (b := 1) hu1
        have hl : lv_has ls 5 [(4, .int (nI (u - 1))), (0, .ref (gA G 12)), (1, .long a1)] := by rw [← e7]; exact hl
        refine lv_aload_n hx hb dX6_takeBytes_10 rfl (lv_at hl 1 rfl) ?_
        refine r_geti (ci := 5) (C := RX6) (T := TX6) (N := 8) hx hb hts iX6 hown hW rfl 12 1 rfl (g_lt hG (by decide)) (g_kd hG (by decide) rfl) (by decide) q0 (fun _ h9 => h9) (nI (ts + (nn - u))) ((congrFun (e_is _ _ _) 1).trans hrc1) rfl rfl dX6_takeBytes_11 ?_
        refine lv_sipush (v := 400) hx hb dX6_takeBytes_14 (by decide) ?_
        refine lv_icmp_ge (tgt := 54) hx hb dX6_takeBytes_17 (by decide) (fun c17 => ?_) (fun c17 => ?_)
        · skip
          exfalso; have h9 := (n_le (a := 400) (b := ts + (nn - u)) (by omega) (by omega)).mp c17; omega --stop
        · skip
          refine lv_aload_n hx hb dX6_takeBytes_20 rfl (lv_at hl 1 rfl) ?_
          refine r_getr (ci := 5) (C := RX6) (T := TX6) (N := 8) hx hb hts iX6 hown hW rfl 12 0 rfl (g_lt hG (by decide)) (g_kd hG (by decide) rfl) (by decide) q1 (fun _ h9 => h9) (hP _ (List.mem_of_getElem? (i := 15) rfl)) rfl rfl dX6_takeBytes_21 ?_
          refine lv_aload_n hx hb dX6_takeBytes_24 rfl (lv_at hl 1 rfl) ?_
          refine r_geti (ci := 5) (C := RX6) (T := TX6) (N := 8) hx hb hts iX6 hown hW rfl 12 1 rfl (g_lt hG (by decide)) (g_kd hG (by decide) rfl) (by decide) q0 (fun _ h9 => h9) (nI (ts + (nn - u))) ((congrFun (e_is _ _ _) 1).trans hrc1) rfl rfl dX6_takeBytes_25 ?_
          refine lv_lload_n hx hb dX6_takeBytes_28 rfl (lv_at hl 2 rfl) ?_
          refine lv_bipush (v := 8) hx hb dX6_takeBytes_29 (by decide) ?_
          refine lv_iload hx hb dX6_takeBytes_31 (lv_at hl 0 rfl) ?_
          refine lv_imul hx hb dX6_takeBytes_33 ?_
          rw [show ((8 * (nI (u - 1))) : Int32) = (nI (8 * (u - 1))) from n_mul 8 (u - 1)]
          refine lv_lshr hx hb dX6_takeBytes_34 rfl ?_
          refine lv_l2i hx hb dX6_takeBytes_35 rfl ?_
          refine lv_i2b hx hb dX6_takeBytes_36 rfl ?_
          rw [show ((Int8.toInt32 (Int32.toInt8 (Int64.toInt32 (a1 >>> (Int32.toInt64 (nI (8 * (u - 1))) &&& 63))))) : Int32) = (sb (byt a1 (u - 1))) from byt_x _ _]
          refine r_bast hx hb hW 13 rfl (g_lt hG (by decide)) (g_kd hG (by decide) rfl) (g_ix hG (c := 400) (by decide) rfl (n_inI (by omega) (by decide))) (ri (ri S 13 (va_up rb ((nI (ts + (nn - u)))).toNatClampNeg (vp_nar .byte (sb (byt a1 (u - 1)))))) 12 rc) rb (e_in (by decide) (e_is _ _ _)) (e_in (by decide) (e_is _ _ _)) rfl rfl (c_ui c_i) dX6_takeBytes_37 (fun H locs hW => ?_)
          rw [show ((nI (ts + (nn - u)))).toNatClampNeg = (ts + (nn - u)) from n_clamp (by omega)] at hW
          refine lv_aload_n hx hb dX6_takeBytes_38 rfl (lv_at hl 1 rfl) ?_
          refine lv_dup hx hb dX6_takeBytes_39 rfl ?_
          refine r_geti (ci := 5) (C := RX6) (T := TX6) (N := 8) hx hb hts iX6 hown hW rfl 12 1 rfl (g_lt hG (by decide)) (g_kd hG (by decide) rfl) (by decide) q0 (fun _ h9 => h9) (nI (ts + (nn - u))) ((congrFun (e_is _ _ _) 1).trans hrc1) rfl rfl dX6_takeBytes_40 ?_
          refine lv_iconst (v := 1) hx hb dX6_takeBytes_43 (by decide) ?_
          refine lv_iadd hx hb dX6_takeBytes_44 ?_
          rw [show (((nI (ts + (nn - u))) + 1) : Int32) = (nI ((ts + (nn - u)) + 1)) from n_add (ts + (nn - u)) 1]
          refine r_puti (ci := 5) (C := RX6) (T := TX6) (N := 8) hx hb hts iX6 tyX6 tyX6_ok nmX6 hown hW rfl 12 1 rfl (g_lt hG (by decide)) (g_kd hG (by decide) rfl) (by decide) q0 (fun _ h9 => h9) rfl (tyX6_ok 1 (by decide)) rfl rfl (ri (ri S 13 (va_up rb (ts + (nn - u)) (vp_nar .byte (sb (byt a1 (u - 1)))))) 12 (va_up rc 1 (nI ((ts + (nn - u)) + 1)))) rc (va_up rc 1 (nI ((ts + (nn - u)) + 1))) (e_is _ _ _) (e_is _ _ _) rfl rfl rfl (Nat.le_of_ble_eq_true rfl) rfl c_i dX6_takeBytes_45 (fun H locs hW => ?_)
          refine lv_iinc (v := (nI (u - 1) - 1)) (lv' := [(4, .int (nI (u - 1) - 1)), (0, .ref (gA G 12)), (1, .long a1)]) hx hb dX6_takeBytes_48 hl (k := 0) rfl (n_m1 _) (by decide) rfl (fun ls hl => ?_)
          refine lv_goto (tgt := 5) hx hb dX6_takeBytes_51 (by decide) ?_
          exact ih5 (u - 1) (va_up rb (ts + (nn - u)) (vp_nar .byte (sb (byt a1 (u - 1))))) (va_up rc 1 (nI ((ts + (nn - u)) + 1))) _ _ ls (by omega) (by omega) (by rw [show ts + (nn - (u - 1)) = ts + (nn - u) + 1 by omega, up_s]) (fun j hj => by rw [up_n _ _ hj]; exact hrc j hj) (fun j hj => by rw [up_n _ _ (by omega)]; exact hb1 j hj) (fun j hj => by
                                                                                by_cases ej : j = nn - u
                                                                                · rw [ej, up_s, show nn - 1 - (nn - u) = u - 1 by omega]; exact nar_b _
                                                                                · rw [up_n _ _ (by omega)]; exact hb2 j (by omega)) hW (lv_sub hl [0, 1, 2] rfl)
  exact L5 _ nn (gi S 13) (gi S 12) _ _ ls (Nat.lt_succ_self _) (Nat.le_refl _) (by rw [show nn - nn = 0 by omega]; exact hX.1) (fun _ _ => rfl) (fun _ _ => rfl) (fun j hj => absurd hj (by omega)) hW (lv_sub hl [0, 1, 2] rfl)

def rmX10_feed : Jvm.Room := { frames := 1, cells := 0, slots := 0, locals := 24 }
set_option maxHeartbeats 4000000 in
set_option maxRecDepth 100000 in
theorem t_X10_feed (l : Launch) (D : Dc) (G : Gg) (S : Sg) (z : Nat) (hG : GrG G) (hP : GrP G S) (T : Nat → Nat) (ts : Nat) (ht4 : ts ≤ 400) (hX : TpX S T ts) (a1 : Int64) (a3 : Int32) : ML l yX10_feed wsX10_feed rmX10_feed D G S z [.ref (gA G 0), .long a1, .int a3] (fun r S' => r = (fFeed T ts a1 a3).1 ∧ TpX S' (fFeed T ts a1 a3).2.1 (fFeed T ts a1 a3).2.2 ∧ (∀ j, j ≠ 1 → gi S' 12 j = gi S 12 j) ∧ Ch (fun k => k = 12 ∨ k = 13) S S') := by
  refine Met.ofW (cc := cX10_feed) (maxL := 4) (ret := (some .long)) (by decide +kernel) rfl ?_
  intro pP eE s mM args bl mT cD s₁ bD hml hv
  obtain ⟨rfl, hv⟩ := hv
  have hz := hv.1
  subst hz
  have hx := bD.exec
  have hb := bD.bytes
  have hr := bD.returns
  have hts := atoms_spec (ws := wsX10_feed) bD.pre
  have hown : s.vm.findClass RX10 = some mM.cls := findClass_of_methodNamed bD.named
  have hlocks := bD.notSynchronized
  have hW := Wd.start hv
  have hA : ∀ q, s.heap.size ≤ q → AW G s.heap.size q := fun q h => Or.inr h
  have hl := lv_entry ([.ref (gA G 0), .long a1, .int a3]) (n := 4) (Nat.le_of_ble_eq_true rfl)
  rw [lg_entry_eq]
  generalize (lg_sl ([.ref (gA G 0), .long a1, .int a3]) ++ List.replicate (4 - (lg_sl ([.ref (gA G 0), .long a1, .int a3])).length) Slot.unset).toArray = ls at hl ⊢
  have hl : lv_has ls 4 [(0, .ref (gA G 0)), (1, .long a1), (3, .int a3)] := hl
  have q0 := hts (.constantLong RX10 66 (-9000000000000000001)) (List.mem_of_getElem? (i := 1) rfl)
  have q1 := hts (.fieldLink RX10 24 "WoodForTwo" "reader" "LWoodForTwo$Reader;") (List.mem_of_getElem? (i := 2) rfl)
  have q2 := hts (.constantLong RX10 97 (-9000000000000000003)) (List.mem_of_getElem? (i := 3) rfl)
  have iX10 : ∀ w ∈ wsX100, w ∈ wsX10_feed := fun _ h => List.mem_cons_of_mem _ (List.mem_append_left _ (List.mem_append_right _ (h)))
  refine lv_iload_n hx hb dX10_feed_0 rfl (lv_at hl 2 rfl) ?_
  refine lv_iconst (v := 1) hx hb dX10_feed_1 (by decide) ?_
  refine lv_icmp_lt (tgt := 11) hx hb dX10_feed_2 (by decide) (fun c2 => ?_) (fun c2 => ?_)
  · skip
    rw [t_lt, show (1 : Int32).toInt = 1 from by decide] at c2
    refine lv_ldc2 (v := (-9000000000000000001)) hx hb hown q0 dX10_feed_11 ?_
    refine r_lret hx hb hr hlocks hW ?_ dX10_feed_14
    have e : fFeed T ts a1 a3 = (BADL, T, ts) := by unfold fFeed; rw [if_neg (by omega)]
    rw [e]
    exact ⟨rfl, hX, fun _ _ => rfl, Ch.rf⟩
  · skip
    rw [t_lt, show (1 : Int32).toInt = 1 from by decide] at c2
    refine lv_iload_n hx hb dX10_feed_5 rfl (lv_at hl 2 rfl) ?_
    refine lv_bipush (v := 8) hx hb dX10_feed_6 (by decide) ?_
    refine lv_icmp_le (tgt := 15) hx hb dX10_feed_8 (by decide) (fun c8 => ?_) (fun c8 => ?_)
    · skip
      rw [t_le, show (8 : Int32).toInt = 8 from by decide] at c8
      refine lv_aload_n hx hb dX10_feed_15 rfl (lv_at hl 0 rfl) ?_
      refine r_getr (ci := 9) (C := RX10) (T := TX10) (N := 10) hx hb hts iX10 hown hW rfl 0 3 rfl (g_lt hG (by decide)) (g_kd hG (by decide) rfl) (by decide) q1 (fun _ h9 => h9) (hP _ (List.mem_of_getElem? (i := 3) rfl)) rfl rfl dX10_feed_16 ?_
      refine lv_iload_n hx hb dX10_feed_19 rfl (lv_at hl 2 rfl) ?_
      have hn_a3 := n_nat (x := a3) (by omega)
      have e_a3 := n_nI (x := a3) (by omega)
      refine W.eq (g2 := F0 mM 20 ls [.int (nI a3.toNatClampNeg), .ref (gA G 12)]) (by rw [← e_a3]) ?_
      refine r_calli hW hA (va_runV (As := [.int (nI a3.toNatClampNeg)]) (rest := []) ⟨hx, hb, hml, hown, hts⟩ (t_X6_hasRoom l D G S _ hG hP T ts ht4 hX a3.toNatClampNeg (by omega)) (cwV 1 hts gX10_feed_X6_hasRoom rfl rfl rfl (by decide +kernel) ⟨Nat.le_of_ble_eq_true rfl, Nat.le_of_ble_eq_true rfl⟩) (r_preV (k := 12) hA hW (ci := 5) (C := RX6) (T := TX6) (N := 8) rfl rfl (g_lt hG (by decide)) (g_kd hG (by decide) rfl) rfl rfl) rfl rfl hl.1 rfl (lv_room (Nat.le_of_ble_eq_true rfl)) dX10_feed_20 ⟨Nat.zero_le _, Nat.zero_le _⟩) (fun r20 S20 H locs hp20 hW => ?_)
      obtain ⟨hs20, hp20⟩ := hp20
      rw [hs20] at hW
      rcases hp20 with ⟨rfl, h20⟩ | ⟨rfl, h20⟩
      · skip
        refine lv_if_ne (tgt := 30) hx hb dX10_feed_23 (by decide) (fun c23 => ?_) (fun c23 => ?_)
        · skip
          refine lv_aload_n hx hb dX10_feed_30 rfl (lv_at hl 0 rfl) ?_
          refine r_getr (ci := 9) (C := RX10) (T := TX10) (N := 10) hx hb hts iX10 hown hW rfl 0 3 rfl (g_lt hG (by decide)) (g_kd hG (by decide) rfl) (by decide) q1 (fun _ h9 => h9) (hP _ (List.mem_of_getElem? (i := 3) rfl)) rfl rfl dX10_feed_31 ?_
          refine lv_lload_n hx hb dX10_feed_34 rfl (lv_at hl 1 rfl) ?_
          refine lv_iload_n hx hb dX10_feed_35 rfl (lv_at hl 2 rfl) ?_
          refine W.eq (g2 := F0 mM 36 ls [.int (nI a3.toNatClampNeg), .long a1, .ref (gA G 12)]) (by rw [← e_a3]) ?_
          refine r_calli hW hA (va_runV (As := [.long a1, .int (nI a3.toNatClampNeg)]) (rest := []) ⟨hx, hb, hml, hown, hts⟩ (t_X6_takeBytes l D G S _ hG hP T ts ht4 hX a1 a3.toNatClampNeg (by omega) (by omega) (by omega)) (cwV 2 hts gX10_feed_X6_takeBytes rfl rfl rfl (by decide +kernel) ⟨Nat.le_of_ble_eq_true rfl, Nat.le_of_ble_eq_true rfl⟩) (r_preV (k := 12) hA hW (ci := 5) (C := RX6) (T := TX6) (N := 8) rfl rfl (g_lt hG (by decide)) (g_kd hG (by decide) rfl) rfl rfl) rfl rfl hl.1 rfl (lv_room (Nat.le_of_ble_eq_true rfl)) dX10_feed_36 ⟨Nat.zero_le _, Nat.zero_le _⟩) (fun r36 S36 H locs hp36 hW => ?_)
          obtain ⟨rfl, hTx, hT12, hTc⟩ := hp36
          refine lv_i2l hx hb dX10_feed_39 rfl ?_
          refine r_lret hx hb hr hlocks hW ?_ dX10_feed_40
          have e : fFeed T ts a1 a3 = (lN (ts + a3.toNatClampNeg), fdT T ts a1 a3.toNatClampNeg, ts + a3.toNatClampNeg) := by unfold fFeed; rw [if_pos (by omega), if_pos (by omega)]
          rw [e]
          exact ⟨lN_of (by omega), hTx, hT12, hTc⟩
        · exact absurd c23 (by decide)
      · skip
        refine lv_if_ne (tgt := 30) hx hb dX10_feed_23 (by decide) (fun c23 => ?_) (fun c23 => ?_)
        · exact absurd (by decide) c23
        · skip
          refine lv_ldc2 (v := (-9000000000000000003)) hx hb hown q2 dX10_feed_26 ?_
          refine r_lret hx hb hr hlocks hW ?_ dX10_feed_29
          have e : fFeed T ts a1 a3 = (FULLL, T, ts) := by unfold fFeed; rw [if_pos (by omega), if_neg (by omega)]
          rw [e]
          exact ⟨rfl, hX, fun _ _ => rfl, Ch.rf⟩
    · skip
      rw [t_le, show (8 : Int32).toInt = 8 from by decide] at c8
      refine lv_ldc2 (v := (-9000000000000000001)) hx hb hown q0 dX10_feed_11 ?_
      refine r_lret hx hb hr hlocks hW ?_ dX10_feed_14
      have e : fFeed T ts a1 a3 = (BADL, T, ts) := by unfold fFeed; rw [if_neg (by omega)]
      rw [e]
      exact ⟨rfl, hX, fun _ _ => rfl, Ch.rf⟩

def rmX11_feed : Jvm.Room := { frames := 1, cells := 0, slots := 0, locals := 25 }
set_option maxHeartbeats 4000000 in
set_option maxRecDepth 100000 in
theorem t_X11_feed (l : Launch) (D : Dc) (G : Gg) (S : Sg) (z : Nat) (hG : GrG G) (hP : GrP G S) (T : Nat → Nat) (ts : Nat) (ht4 : ts ≤ 400) (hX : TpM S T ts) (a1 : Int64) (a3 : Int32) : ML l yX11_feed wsX11_feed rmX11_feed D G S z [.ref (gA G 65), .long a1, .int a3] (fun r S' => r = (fFeed T ts a1 a3).1 ∧ TpM S' (fFeed T ts a1 a3).2.1 (fFeed T ts a1 a3).2.2 ∧ (∀ j, j ≠ 7 → gi S' 65 j = gi S 65 j) ∧ Ch (fun k => k = 65 ∨ k = 71) S S') := by
  refine Met.ofW (cc := cX11_feed) (maxL := 5) (ret := (some .long)) (by decide +kernel) rfl ?_
  intro pP eE s mM args bl mT cD s₁ bD hml hv
  obtain ⟨rfl, hv⟩ := hv
  have hz := hv.1
  subst hz
  have hx := bD.exec
  have hb := bD.bytes
  have hr := bD.returns
  have hts := atoms_spec (ws := wsX11_feed) bD.pre
  have hown : s.vm.findClass RX11 = some mM.cls := findClass_of_methodNamed bD.named
  have hlocks := bD.notSynchronized
  have hW := Wd.start hv
  have hA : ∀ q, s.heap.size ≤ q → AW G s.heap.size q := fun q h => Or.inr h
  have hl := lv_entry ([.ref (gA G 65), .long a1, .int a3]) (n := 5) (Nat.le_of_ble_eq_true rfl)
  rw [lg_entry_eq]
  generalize (lg_sl ([.ref (gA G 65), .long a1, .int a3]) ++ List.replicate (5 - (lg_sl ([.ref (gA G 65), .long a1, .int a3])).length) Slot.unset).toArray = ls at hl ⊢
  have hl : lv_has ls 5 [(0, .ref (gA G 65)), (1, .long a1), (3, .int a3)] := hl
  have q0 := hts (.constantLong RX11 74 (8)) (List.mem_of_getElem? (i := 1) rfl)
  have q1 := hts (.fieldLink RX11 76 "WoodForTwoModel" "tapeSize" "I") (List.mem_of_getElem? (i := 3) rfl)
  have q2 := hts (.fieldLink RX11 26 "WoodForTwoModel" "tape" "[I") (List.mem_of_getElem? (i := 5) rfl)
  have q3 := hts (.constantLong RX11 81 (255)) (List.mem_of_getElem? (i := 6) rfl)
  have q4 := hts (.constantLong RX11 79 (-9000000000000000003)) (List.mem_of_getElem? (i := 4) rfl)
  have q5 := hts (.constantLong RX11 56 (-9000000000000000001)) (List.mem_of_getElem? (i := 2) rfl)
  have iX11 : ∀ w ∈ wsX110, w ∈ wsX11_feed := fun _ h => List.mem_cons_of_mem _ (List.mem_append_right _ (h))
  generalize hQ0 : MQ bl _ _ s _ _ _ = Q0
  refine lv_iload_n hx hb dX11_feed_0 rfl (lv_at hl 2 rfl) ?_
  refine lv_i2l hx hb dX11_feed_1 rfl ?_
  refine lv_lconst (v := 1) hx hb dX11_feed_2 (by decide) ?_
  refine lv_ldc2 (v := (8)) hx hb hown q0 dX11_feed_3 ?_
  refine r_calli hW hA (va_runS (As := [.long (Int32.toInt64 a3), .long 1, .long (8)]) (rest := []) ⟨hx, hb, hml, hown, hts⟩ (t_X11_in l D G S _ (Int32.toInt64 a3) 1 (8) (a3).toInt 1 8 (Int32.toInt_toInt64 _) (by decide) (by decide)) (va_cwS 3 hts gX11_feed_X11_in rfl rfl rfl (by decide +kernel) ⟨Nat.le_of_ble_eq_true rfl, Nat.le_of_ble_eq_true rfl⟩) (r_preS hA hW) rfl rfl hl.1 rfl (lv_room (Nat.le_of_ble_eq_true rfl)) dX11_feed_6 ⟨Nat.zero_le _, Nat.zero_le _⟩) (fun r6 S6 H locs hp6 hW => ?_)
  obtain ⟨hs6, hp6⟩ := hp6
  rw [hs6] at hW
  rcases hp6 with ⟨rfl, h6⟩ | ⟨rfl, h6⟩
  · skip
    refine lv_if_ne (tgt := 16) hx hb dX11_feed_9 (by decide) (fun c9 => ?_) (fun c9 => ?_)
    · skip
      have hn_a3 := n_nat (x := a3) (by omega)
      obtain ⟨nn, hnn⟩ : ∃ nn, nn = a3.toNatClampNeg := ⟨_, rfl⟩
      have e_a3 : a3 = nI nn := by rw [hnn]; exact n_nI (by omega)
      refine lv_aload_n hx hb dX11_feed_16 rfl (lv_at hl 0 rfl) ?_
      refine r_geti (ci := 10) (C := RX11) (T := TX11) (N := 20) hx hb hts iX11 hown hW rfl 65 7 rfl (g_lt hG (by decide)) (g_kd hG (by decide) rfl) (by decide) q1 (fun _ h9 => h9) (nI ts) hX.1 rfl rfl dX11_feed_17 ?_
      refine lv_iload_n hx hb dX11_feed_20 rfl (lv_at hl 2 rfl) ?_
      refine lv_iadd hx hb dX11_feed_21 ?_
      rw [show (((nI ts) + a3) : Int32) = (nI (ts + nn)) from (congrArg (fun z => nI ts + z) e_a3).trans (n_add _ _)]
      refine lv_sipush (v := 400) hx hb dX11_feed_22 (by decide) ?_
      refine lv_icmp_le (tgt := 32) hx hb dX11_feed_25 (by decide) (fun c25 => ?_) (fun c25 => ?_)
      · skip
        have h25 : ts + nn ≤ 400 := (n_le (a := ts + nn) (b := 400) (by omega) (by omega)).mp c25
        refine lv_iload_n hx hb dX11_feed_32 rfl (lv_at hl 2 rfl) ?_
        refine lv_iconst (v := 1) hx hb dX11_feed_33 (by decide) ?_
        refine lv_isub hx hb dX11_feed_34 ?_
        rw [show ((a3 - 1) : Int32) = (nI nn - 1) from congrArg (fun z => z - 1) e_a3]
        refine lv_istore (lv' := [(4, .int (nI nn - 1)), (0, .ref (gA G 65)), (1, .long a1), (3, .int a3)]) hx hb dX11_feed_35 hl (by decide) rfl (fun ls hl => ?_)
        rw [show S = (ri S 71 (gi S 71)) from (ri_id S 71).symm] at hW
        rw [show (ri S 71 (gi S 71)) = (ri (ri S 71 (gi S 71)) 65 (gi S 65)) from ((ri_id (ri S 71 (gi S 71)) 65).symm.trans (congrArg (fun z => ri (ri S 71 (gi S 71)) 65 z) (e_in (by decide) rfl)))] at hW
        have L37 : ∀ (n : Nat) (u : Nat) (rb : Nat → Int32) (rc : Nat → Int32) (H : Heap) (locs : List Loc) (ls : Array Slot), u < n → u ≤ nn → rc 7 = nI (ts + (nn - u)) → (∀ j, j ≠ 7 → rc j = gi S 65 j) → (∀ j, j < ts → rb j = gi S 71 j) → (∀ j, j < nn - u → rb (ts + j) = nI (byt a1 (nn - 1 - j))) → Wd D (AW G s.heap.size) s G (ri (ri S 71 rb) 65 rc) H locs → lv_has ls 5 [(4, .int (nI u - 1)), (0, .ref (gA G 65)), (1, .long a1)] → W pP l eE (headSpec wsX11_feed rmX11_feed).room s mM ([.ref (gA G 65), .long a1, .int a3] : List Value).toArray bl mT cD H locs 0 0 Q0 (F0 mM 37 ls []) := by
          intro n
          induction n with
          | zero => intro u rb rc H locs ls hm; exact absurd hm (Nat.not_lt_zero _)
          | succ n ih37 =>
            intro u rb rc H locs ls hm37 hu hrc1 hrc hb1 hb2 hW hl
            refine lv_iload hx hb dX11_feed_37 (lv_at hl 0 rfl) ?_
            refine lv_if_lt (tgt := 79) hx hb dX11_feed_39 (by decide) (fun c39 => ?_) (fun c39 => ?_)
            · skip
              rw [t_lt, show (0 : Int32).toInt = 0 from by decide] at c39
              have hu0 : u = 0 := by rw [t_sub (by rw [n_toInt (by omega), show (1 : Int32).toInt = 1 from by decide]; omega) (by rw [n_toInt (by omega), show (1 : Int32).toInt = 1 from by decide]; omega), n_toInt (by omega), show (1 : Int32).toInt = 1 from by decide] at c39; omega
              refine lv_aload_n hx hb dX11_feed_79 rfl (lv_at hl 1 rfl) ?_
              refine r_geti (ci := 10) (C := RX11) (T := TX11) (N := 20) hx hb hts iX11 hown hW rfl 65 7 rfl (g_lt hG (by decide)) (g_kd hG (by decide) rfl) (by decide) q1 (fun _ h9 => h9) (nI (ts + (nn - u))) ((congrFun (e_is _ _ _) 7).trans hrc1) rfl rfl dX11_feed_80 ?_
              refine lv_i2l hx hb dX11_feed_83 rfl ?_
              rw [show (Int32.toInt64 (nI (ts + (nn - u))) : Int64) = lN (ts + (nn - u)) from lN_of (by omega)]
              rw [← hQ0]
              refine r_lret hx hb hr hlocks hW ?_ dX11_feed_84
              subst hu0
              have e : fFeed T ts a1 a3 = (lN (ts + nn), fdT T ts a1 nn, ts + nn) := by unfold fFeed; rw [if_pos (by omega), ← hnn, if_pos (by omega)]
              rw [e]
              refine ⟨by rw [show nn - 0 = nn from rfl], ⟨(congrFun (e_is _ _ _) 7).trans hrc1, fun i hi => (congrFun (e_in (by decide) (e_is _ _ _)) i).trans ?_⟩, fun j hj => (congrFun (e_is _ _ _) j).trans (hrc j hj), (Ch.ri (Ch.ri Ch.rf (by omega)) (by omega))⟩
              have hi2 : i < ts + nn := hi
              show rb i = nI (fdT T ts a1 nn i)
              unfold fdT
              by_cases e : i < ts
              · rw [if_neg (by omega), hb1 i e]; exact hX.2 i e
              · rw [if_pos (by omega), show i = ts + (i - ts) by omega, hb2 (i - ts) (by omega), show ts + (i - ts) - ts = i - ts by omega]
            · skip
              rw [t_lt, show (0 : Int32).toInt = 0 from by decide] at c39
              have hu1 : 1 ≤ u := by rw [t_sub (by rw [n_toInt (by omega), show (1 : Int32).toInt = 1 from by decide]; omega) (by rw [n_toInt (by omega), show (1 : Int32).toInt = 1 from by decide]; omega), n_toInt (by omega), show (1 : Int32).toInt = 1 from by decide] at c39; omega
              have hu1 : 1 ≤ u := by omega
              have e7 : nI u - 1 = nI (u - 1) := n_sub (b := 1) hu1
              have hl : lv_has ls 5 [(4, .int (nI (u - 1))), (0, .ref (gA G 65)), (1, .long a1)] := by rw [← e7]; exact hl
              refine lv_aload_n hx hb dX11_feed_42 rfl (lv_at hl 1 rfl) ?_
              refine r_getr (ci := 10) (C := RX11) (T := TX11) (N := 20) hx hb hts iX11 hown hW rfl 65 6 rfl (g_lt hG (by decide)) (g_kd hG (by decide) rfl) (by decide) q2 (fun _ h9 => h9) (hP _ (List.mem_of_getElem? (i := 65) rfl)) rfl rfl dX11_feed_43 ?_
              refine lv_aload_n hx hb dX11_feed_46 rfl (lv_at hl 1 rfl) ?_
              refine r_geti (ci := 10) (C := RX11) (T := TX11) (N := 20) hx hb hts iX11 hown hW rfl 65 7 rfl (g_lt hG (by decide)) (g_kd hG (by decide) rfl) (by decide) q1 (fun _ h9 => h9) (nI (ts + (nn - u))) ((congrFun (e_is _ _ _) 7).trans hrc1) rfl rfl dX11_feed_47 ?_
              refine lv_lload_n hx hb dX11_feed_50 rfl (lv_at hl 2 rfl) ?_
              refine lv_bipush (v := 8) hx hb dX11_feed_51 (by decide) ?_
              refine lv_iload hx hb dX11_feed_53 (lv_at hl 0 rfl) ?_
              refine lv_imul hx hb dX11_feed_55 ?_
              rw [show ((8 * (nI (u - 1))) : Int32) = (nI (8 * (u - 1))) from n_mul 8 (u - 1)]
              refine lv_lshr hx hb dX11_feed_56 rfl ?_
              refine lv_ldc2 (v := (255)) hx hb hown q3 dX11_feed_57 ?_
              refine lv_land hx hb dX11_feed_60 ?_
              refine lv_l2i hx hb dX11_feed_61 rfl ?_
              rw [show ((Int64.toInt32 ((a1 >>> (Int32.toInt64 (nI (8 * (u - 1))) &&& 63)) &&& (255))) : Int32) = (nI (byt a1 (u - 1))) from byt_m _ _]
              refine r_iast hx hb hW 71 rfl (g_lt hG (by decide)) (g_kd hG (by decide) rfl) (g_ix hG (c := 400) (by decide) rfl (n_inI (by omega) (by decide))) (ri (ri S 71 (va_up rb ((nI (ts + (nn - u)))).toNatClampNeg (nI (byt a1 (u - 1))))) 65 rc) rb (e_in (by decide) (e_is _ _ _)) (e_in (by decide) (e_is _ _ _)) rfl rfl (c_ui c_i) dX11_feed_62 (fun H locs hW => ?_)
              rw [show ((nI (ts + (nn - u)))).toNatClampNeg = (ts + (nn - u)) from n_clamp (by omega)] at hW
              refine lv_aload_n hx hb dX11_feed_63 rfl (lv_at hl 1 rfl) ?_
              refine lv_dup hx hb dX11_feed_64 rfl ?_
              refine r_geti (ci := 10) (C := RX11) (T := TX11) (N := 20) hx hb hts iX11 hown hW rfl 65 7 rfl (g_lt hG (by decide)) (g_kd hG (by decide) rfl) (by decide) q1 (fun _ h9 => h9) (nI (ts + (nn - u))) ((congrFun (e_is _ _ _) 7).trans hrc1) rfl rfl dX11_feed_65 ?_
              refine lv_iconst (v := 1) hx hb dX11_feed_68 (by decide) ?_
              refine lv_iadd hx hb dX11_feed_69 ?_
              rw [show (((nI (ts + (nn - u))) + 1) : Int32) = (nI ((ts + (nn - u)) + 1)) from n_add (ts + (nn - u)) 1]
              refine r_puti (ci := 10) (C := RX11) (T := TX11) (N := 20) hx hb hts iX11 tyX11 tyX11_ok nmX11 hown hW rfl 65 7 rfl (g_lt hG (by decide)) (g_kd hG (by decide) rfl) (by decide) q1 (fun _ h9 => h9) rfl (tyX11_ok 7 (by decide)) rfl rfl (ri (ri S 71 (va_up rb (ts + (nn - u)) (nI (byt a1 (u - 1))))) 65 (va_up rc 7 (nI ((ts + (nn - u)) + 1)))) rc (va_up rc 7 (nI ((ts + (nn - u)) + 1))) (e_is _ _ _) (e_is _ _ _) rfl rfl rfl (Nat.le_of_ble_eq_true rfl) rfl c_i dX11_feed_70 (fun H locs hW => ?_)
              refine lv_iinc (v := (nI (u - 1) - 1)) (lv' := [(4, .int (nI (u - 1) - 1)), (0, .ref (gA G 65)), (1, .long a1)]) hx hb dX11_feed_73 hl (k := 0) rfl (n_m1 _) (by decide) rfl (fun ls hl => ?_)
              refine lv_goto (tgt := 37) hx hb dX11_feed_76 (by decide) ?_
              exact ih37 (u - 1) (va_up rb (ts + (nn - u)) (nI (byt a1 (u - 1)))) (va_up rc 7 (nI ((ts + (nn - u)) + 1))) _ _ ls (by omega) (by omega) (by rw [show ts + (nn - (u - 1)) = ts + (nn - u) + 1 by omega, up_s]) (fun j hj => by rw [up_n _ _ hj]; exact hrc j hj) (fun j hj => by rw [up_n _ _ (by omega)]; exact hb1 j hj) (fun j hj => by
                                                                                by_cases ej : j = nn - u
                                                                                · rw [ej, up_s, show nn - 1 - (nn - u) = u - 1 by omega]
                                                                                · rw [up_n _ _ (by omega)]; exact hb2 j (by omega)) hW (lv_sub hl [0, 1, 2] rfl)
        exact L37 _ nn (gi S 71) (gi S 65) _ _ ls (Nat.lt_succ_self _) (Nat.le_refl _) (by rw [show nn - nn = 0 by omega]; exact hX.1) (fun _ _ => rfl) (fun _ _ => rfl) (fun j hj => absurd hj (by omega)) hW (lv_sub hl [0, 1, 2] rfl)
      · skip
        have h25 : ¬ ts + nn ≤ 400 := fun z => c25 ((n_le (a := ts + nn) (b := 400) (by omega) (by omega)).mpr z)
        refine lv_ldc2 (v := (-9000000000000000003)) hx hb hown q4 dX11_feed_28 ?_
        rw [← hQ0]
        refine r_lret hx hb hr hlocks hW ?_ dX11_feed_31
        have e : fFeed T ts a1 a3 = (FULLL, T, ts) := by unfold fFeed; rw [if_pos (by omega), ← hnn, if_neg (by omega)]
        rw [e]
        exact ⟨rfl, hX, fun _ _ => rfl, Ch.rf⟩
    · exact absurd c9 (by decide)
  · skip
    refine lv_if_ne (tgt := 16) hx hb dX11_feed_9 (by decide) (fun c9 => ?_) (fun c9 => ?_)
    · exact absurd (by decide) c9
    · skip
      refine lv_ldc2 (v := (-9000000000000000001)) hx hb hown q5 dX11_feed_12 ?_
      rw [← hQ0]
      refine r_lret hx hb hr hlocks hW ?_ dX11_feed_15
      have e : fFeed T ts a1 a3 = (BADL, T, ts) := by unfold fFeed; rw [if_neg (by omega)]
      rw [e]
      exact ⟨rfl, hX, fun _ _ => rfl, Ch.rf⟩
