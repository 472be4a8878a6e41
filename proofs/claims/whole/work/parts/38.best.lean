def NwR (nw : Nat) : Prop := nw = 28 ∨ nw = 29
theorem nwc {nw : Nat} (h : NwR nw) : NwR (57 - nw) := by rcases h with rfl | rfl; exact Or.inr rfl; exact Or.inl rfl
theorem nw_lt {G : Gg} (hG : GrG G) {nw : Nat} (h : NwR nw) : nw < gN G := by rcases h with rfl | rfl <;> exact g_lt hG (by decide)
theorem nw_kd {G : Gg} (hG : GrG G) {nw : Nat} (h : NwR nw) : gK G nw = 13 := by rcases h with rfl | rfl <;> exact g_kd hG (by decide) rfl
theorem nw_z {G : Gg} (hG : GrG G) {nw : Nat} (h : NwR nw) : gZ G nw = 649 := by rcases h with rfl | rfl <;> exact g_z hG (by decide) rfl
def ChN (S S' : Sg) : Prop := (∀ k, gi S' k = gi S k) ∧ (∀ k, ¬ (28 ≤ k ∧ k ≤ 29) → gj S' k = gj S k) ∧ (∀ k, k ≠ 14 → gp S' k = gp S k) ∧ ∀ j, j ≠ 4 → j ≠ 5 → gp S' 14 j = gp S 14 j
theorem ChN.rf {S : Sg} : ChN S S := ⟨fun _ => rfl, fun _ _ => rfl, fun _ _ => rfl, fun _ _ _ => rfl⟩
theorem ChN.tr {S T U : Sg} (h : ChN S T) (g : ChN T U) : ChN S U := ⟨fun k => (g.1 k).trans (h.1 k), fun k hk => (g.2.1 k hk).trans (h.2.1 k hk), fun k hk => (g.2.2.1 k hk).trans (h.2.2.1 k hk), fun j a b => (g.2.2.2 j a b).trans (h.2.2.2 j a b)⟩
theorem ChN.P {G : Gg} {S T : Sg} (hP : GrP G S) (h : ChN S T) : GrP G T := by
  intro q hq
  have z : ∀ q ∈ lk0, q.1 = 14 → q.2.1 ≠ 4 ∧ q.2.1 ≠ 5 := by decide
  by_cases e : q.1 = 14
  · rw [e, h.2.2.2 q.2.1 (z q hq e).1 (z q hq e).2, ← e]; exact hP q hq
  · rw [h.2.2.1 q.1 e]; exact hP q hq
theorem ChN.fs {S T : Sg} {B : Nat → Nat} {law n : Nat} (hF : FTs S B law n) (h : ChN S T) : FTs T B law n := FTs_fr hF (fun k _ => h.1 k) (h.2.1 14 (by decide))
theorem ChN.fr {S T : Sg} {B : Nat → Nat} {law n m : Nat} (hF : FTr S B law n m) (hm : m ≤ 9) (h : ChN S T) : FTr T B law n m := fun k hk w hw => by rw [h.2.1 (16 + k) (by omega)]; exact hF k hk w hw
def mI (x : Int) : Int64 := if x < 0 then -1 else lN x.toNat
theorem mI_int {x : Int} (h : -1 ≤ x) (h2 : x < 9223372036854775808) : (mI x).toInt = x := by
  unfold mI
  split
  · rw [show (-1 : Int64).toInt = -1 from by decide]; omega
  · rw [lN_int (by omega)]; omega
theorem amx_b {f : Nat → Nat} {M : Nat} : ∀ k, (∀ j, j < k → f j ≤ M) → -1 ≤ (amx f k).2 ∧ (amx f k).2 ≤ M ∧ (amx f k).1 ≤ k
  | 0, _ => ⟨by show (-1 : Int) ≤ -1; omega, by show (-1 : Int) ≤ M; omega, Nat.le_refl _⟩
  | k + 1, h => by
    obtain ⟨a, b, c⟩ := amx_b k (fun j hj => h j (by omega))
    have d := h k (by omega)
    unfold amx
    split
    · refine ⟨?_, ?_, ?_⟩ <;> (dsimp only; omega)
    · exact ⟨a, b, by omega⟩
theorem dot_le {r : Nat → Nat} {n v : Nat} (h : v < n) : r v ≤ dot n r (fun _ => 1) := by
  have := sT_one (g := fun v => r v * 1) h
  rw [Nat.mul_one (r v)] at this
  exact this
theorem dot_1 {n t : Nat} {g : Nat → Nat} (h : t < n) : dot n (fun v => if v = t then 1 else 0) g = g t := by
  have e := sT_up (r := fun _ => 0) (g := g) (x := 1) n h
  unfold dot
  rw [show (fun v => (if v = t then 1 else 0) * g v) = (fun v => (if v = t then (fun _ => 0) v + 1 else (fun _ => 0) v) * g v) from by funext v; split <;> simp, e]
  rw [show (fun v => (fun _ => 0) v * g v) = (fun _ => 0) from by funext v; exact Nat.zero_mul _, sT_0]
  omega
def rmX0_waysWithCut : Jvm.Room := { frames := 1, cells := 0, slots := 0, locals := 21 }
set_option maxHeartbeats 4000000 in
set_option maxRecDepth 100000 in
theorem t_X0_waysWithCut (l : Launch) (D : Dc) (G : Gg) (S : Sg) (z : Nat) (hG : GrG G) (hP : GrP G S) (B : Nat → Nat) (c : Nat) (hB1 : BP1 B c) (law n0 : Nat) (hl2 : law ≤ 2) (hn1 : 1 ≤ n0) (hn8 : n0 ≤ 8) (hFs : FTs S B law n0) (hFr : FTr S B law n0 (n0 + 1)) (nw : Nat) (hnw : NwR nw) (hN4 : gp S 14 4 = some (gA G nw)) (hN5 : gp S 14 5 = some (gA G (57 - nw))) (r0 : Nat → Nat) (hnow : ∀ v, v ≤ (enF B law n0) → gj S nw v = lN (r0 v)) (a : Nat) (ha9 : a < 9) (g : Nat → Nat) (hgr : ∀ v, v ≤ (enF B law n0) → gj S (16 + a) v = lN (g v)) (x : Nat) (hx9 : x ≤ 99) : ML l yX0_waysWithCut wsX0_waysWithCut rmX0_waysWithCut D G S z [.ref (gA G 14), .ref (gA G (16 + a)), .int (nI x)] (fun r S' => r = lN (dot ((enF B law n0) + 1) r0 (fun v => g (min (enF B law n0) (v + x)))) ∧ S' = S) := by
  refine Met.ofW (cc := cX0_waysWithCut) (maxL := 6) (ret := (some .long)) (by decide +kernel) rfl ?_
  intro pP eE s mM args bl mT cD s₁ bD hml hv
  obtain ⟨rfl, hv⟩ := hv
  have hz := hv.1
  subst hz
  have hx := bD.exec
  have hb := bD.bytes
  have hr := bD.returns
  have hts := atoms_spec (ws := wsX0_waysWithCut) bD.pre
  have hown : s.vm.findClass RX0 = some mM.cls := findClass_of_methodNamed bD.named
  have hlocks := bD.notSynchronized
  have hW := Wd.start hv
  have hA : ∀ q, s.heap.size ≤ q → AW G s.heap.size q := fun q h => Or.inr h
  have hl := lv_entry ([.ref (gA G 14), .ref (gA G (16 + a)), .int (nI x)]) (n := 6) (Nat.le_of_ble_eq_true rfl)
  rw [lg_entry_eq]
  generalize (lg_sl ([.ref (gA G 14), .ref (gA G (16 + a)), .int (nI x)]) ++ List.replicate (6 - (lg_sl ([.ref (gA G 14), .ref (gA G (16 + a)), .int (nI x)])).length) Slot.unset).toArray = ls at hl ⊢
  have hl : lv_has ls 6 [(0, .ref (gA G 14)), (1, .ref (gA G (16 + a))), (2, .int (nI x))] := hl
  have q0 := hts (.fieldLink RX0 43 "WoodForTwo$Foretelling" "enough" "I") (List.mem_of_getElem? (i := 1) rfl)
  have q1 := hts (.fieldLink RX0 26 "WoodForTwo$Foretelling" "now" "[J") (List.mem_of_getElem? (i := 2) rfl)
  have q2 := hts (.methodLink RX0 85 Lib.Math.min.name) (List.mem_of_getElem? (i := 3) rfl)
  have q3 := hts (.static Lib.Math.min.name) (List.mem_of_getElem? (i := 4) rfl)
  have q4 := hts (.initialized "java/lang/Math") (List.mem_of_getElem? (i := 5) rfl)
  have q5 := hts (.code Lib.Math.min.name Lib.Math.min.code 2 (some .int)) (List.mem_of_getElem? (i := 6) rfl)
  have iX0 : ∀ w ∈ wsX00, w ∈ wsX0_waysWithCut := fun _ h => List.mem_cons_of_mem _ (List.mem_append_right _ (h))
  generalize hQ0 : MQ bl _ _ s _ _ _ = Q0
  have hE9 := enF_le (n := n0) hB1 hl2 hn8
  refine lv_lconst (v := 0) hx hb dX0_waysWithCut_0 (by decide) ?_
  refine lv_lstore_n (lv' := [(3, .long 0), (0, .ref (gA G 14)), (1, .ref (gA G (16 + a))), (2, .int (nI x))]) hx hb dX0_waysWithCut_1 rfl hl (by decide) rfl (fun ls hl => ?_)
  refine lv_iconst (v := 0) hx hb dX0_waysWithCut_2 (by decide) ?_
  refine lv_istore (lv' := [(5, .int 0), (3, .long 0), (0, .ref (gA G 14)), (1, .ref (gA G (16 + a))), (2, .int (nI x))]) hx hb dX0_waysWithCut_3 hl (by decide) rfl (fun ls hl => ?_)
  have L5 : ∀ (n : Nat) (w : Nat) (H : Heap) (locs : List Loc) (ls : Array Slot), ((enF B law n0) + 1 - w) < n → w ≤ (enF B law n0) + 1 → Wd D (AW G s.heap.size) s G S H locs → lv_has ls 6 [(5, .int (nI w)), (3, .long (lN (dot w r0 (fun v => g (min (enF B law n0) (v + x)))))), (0, .ref (gA G 14)), (1, .ref (gA G (16 + a))), (2, .int (nI x))] → W pP l eE (headSpec wsX0_waysWithCut rmX0_waysWithCut).room s mM ([.ref (gA G 14), .ref (gA G (16 + a)), .int (nI x)] : List Value).toArray bl mT cD H locs 0 0 Q0 (F0 mM 5 ls []) := by
    intro n
    induction n with
    | zero => intro w H locs ls hm; exact absurd hm (Nat.not_lt_zero _)
    | succ n ih5 =>
      intro w H locs ls hm5 hw hW hl
      refine lv_iload hx hb dX0_waysWithCut_5 (lv_at hl 0 rfl) ?_
      refine lv_aload_n hx hb dX0_waysWithCut_7 rfl (lv_at hl 2 rfl) ?_
      refine r_geti (ci := 0) (C := RX0) (T := TX0) (N := 10) hx hb hts iX0 hown hW rfl 14 8 rfl (g_lt hG (by decide)) (g_kd hG (by decide) rfl) (by decide) q0 (fun _ h9 => h9) (nI (enF B law n0)) hFs.2.2.1 rfl rfl dX0_waysWithCut_8 ?_
      refine lv_icmp_gt (tgt := 44) hx hb dX0_waysWithCut_11 (by decide) (fun c11 => ?_) (fun c11 => ?_)
      · skip
        have hwe : w = (enF B law n0) + 1 := by
          have h9 := (n_lt (a := (enF B law n0)) (b := w) (by omega) (by omega)).mp c11
          omega
        refine lv_lload_n hx hb dX0_waysWithCut_44 rfl (lv_at hl 1 rfl) ?_
        rw [← hQ0]
        refine r_lret hx hb hr hlocks hW ?_ dX0_waysWithCut_45
        subst hwe
        exact ⟨rfl, rfl⟩
      · skip
        have hwe : w ≤ (enF B law n0) := by
          have h9 : ¬ (enF B law n0) < w := fun z => c11 ((n_lt (a := (enF B law n0)) (b := w) (by omega) (by omega)).mpr z)
          omega
        refine lv_lload_n hx hb dX0_waysWithCut_14 rfl (lv_at hl 1 rfl) ?_
        refine lv_aload_n hx hb dX0_waysWithCut_15 rfl (lv_at hl 2 rfl) ?_
        refine r_getr (ci := 0) (C := RX0) (T := TX0) (N := 10) hx hb hts iX0 hown hW rfl 14 4 rfl (g_lt hG (by decide)) (g_kd hG (by decide) rfl) (by decide) q1 (fun _ h9 => h9) hN4 rfl rfl dX0_waysWithCut_16 ?_
        refine lv_iload hx hb dX0_waysWithCut_19 (lv_at hl 0 rfl) ?_
        refine r_lald hx hb hW nw rfl (nw_lt hG hnw) (nw_kd hG hnw) (by rw [nw_z hG hnw]; exact n_inI (by omega) (by decide)) (lN (r0 w)) (by rw [n_clamp (by omega)]; exact hnow w (by omega)) dX0_waysWithCut_21 ?_
        refine lv_aload_n hx hb dX0_waysWithCut_22 rfl (lv_at hl 3 rfl) ?_
        refine lv_aload_n hx hb dX0_waysWithCut_23 rfl (lv_at hl 2 rfl) ?_
        refine r_geti (ci := 0) (C := RX0) (T := TX0) (N := 10) hx hb hts iX0 hown hW rfl 14 8 rfl (g_lt hG (by decide)) (g_kd hG (by decide) rfl) (by decide) q0 (fun _ h9 => h9) (nI (enF B law n0)) hFs.2.2.1 rfl rfl dX0_waysWithCut_24 ?_
        refine lv_iload hx hb dX0_waysWithCut_27 (lv_at hl 0 rfl) ?_
        refine lv_iload_n hx hb dX0_waysWithCut_29 rfl (lv_at hl 4 rfl) ?_
        refine lv_iadd hx hb dX0_waysWithCut_30 ?_
        rw [show (((nI w) + (nI x)) : Int32) = (nI (w + x)) from n_add _ _]
        refine va_mmin hx hb (hml.trans hl.1.symm) hown q2 q3 q4 q5 (Nat.le_of_ble_eq_true rfl) (Nat.le_of_ble_eq_true rfl) (Nat.zero_le _) (Nat.zero_le _) dX0_waysWithCut_31 ?_
        rw [show ((if (nI (w + x)) < (nI (enF B law n0)) then (nI (w + x)) else (nI (enF B law n0))) : Int32) = (nI (min (enF B law n0) (w + x))) from n_min (a := (enF B law n0)) (b := (w + x)) (by omega) (by omega)]
        refine r_lald hx hb hW (16 + a) rfl (wf_lt hG ha9) (wf_kd hG ha9) (by rw [wf_z hG ha9]; exact n_inI (by omega) (by decide)) (lN (g (min (enF B law n0) (w + x)))) (by rw [n_clamp (by omega)]; exact hgr _ (by omega)) dX0_waysWithCut_34 ?_
        refine lv_lmul hx hb dX0_waysWithCut_35 ?_
        refine lv_ladd hx hb dX0_waysWithCut_36 ?_
        rw [show (((lN (dot w r0 (fun v => g (min (enF B law n0) (v + x))))) + ((lN (r0 w)) * (lN (g (min (enF B law n0) (w + x)))))) : Int64) = (lN (dot (w + 1) r0 (fun v => g (min (enF B law n0) (v + x))))) from by rw [lN_mul, lN_add]; rfl]
        refine lv_lstore_n (lv' := [(3, .long (lN (dot (w + 1) r0 (fun v => g (min (enF B law n0) (v + x)))))), (5, .int (nI w)), (0, .ref (gA G 14)), (1, .ref (gA G (16 + a))), (2, .int (nI x))]) hx hb dX0_waysWithCut_37 rfl hl (by decide) rfl (fun ls hl => ?_)
        refine lv_iinc (v := (nI (w + 1))) (lv' := [(5, .int (nI (w + 1))), (3, .long (lN (dot (w + 1) r0 (fun v => g (min (enF B law n0) (v + x)))))), (0, .ref (gA G 14)), (1, .ref (gA G (16 + a))), (2, .int (nI x))]) hx hb dX0_waysWithCut_38 hl (k := 1) rfl (nI_1 w) (by decide) rfl (fun ls hl => ?_)
        refine lv_goto (tgt := 5) hx hb dX0_waysWithCut_41 (by decide) ?_
        exact ih5 (w + 1) _ _ ls (by omega) (by omega) hW (lv_sub hl [0, 1, 2, 3, 4] rfl)
  exact L5 _ 0 _ _ ls (Nat.lt_succ_self _) (Nat.zero_le _) hW (lv_sub hl [0, 1, 2, 3, 4] rfl)

def rmX0_sleepOne : Jvm.Room := { frames := 2, cells := 0, slots := 0, locals := 43 }
set_option maxHeartbeats 4000000 in
set_option maxRecDepth 100000 in
theorem t_X0_sleepOne (l : Launch) (D : Dc) (G : Gg) (S : Sg) (z : Nat) (hG : GrG G) (hP : GrP G S) (B : Nat → Nat) (c : Nat) (hB1 : BP1 B c) (law n0 : Nat) (hl2 : law ≤ 2) (hn1 : 1 ≤ n0) (hn8 : n0 ≤ 8) (hFs : FTs S B law n0) (hFr : FTr S B law n0 (n0 + 1)) (nw : Nat) (hnw : NwR nw) (hN4 : gp S 14 4 = some (gA G nw)) (hN5 : gp S 14 5 = some (gA G (57 - nw))) (r0 : Nat → Nat) (hnow : ∀ v, v ≤ (enF B law n0) → gj S nw v = lN (r0 v)) (hr0 : ∀ v, v ≤ (enF B law n0) → r0 v < 9223372036854775808) : MV l yX0_sleepOne wsX0_sleepOne rmX0_sleepOne D G S z [.ref (gA G 14)] (fun S' => ∃ r1, (∀ v, v ≤ (enF B law n0) → gj S' (57 - nw) v = lN (r1 v)) ∧ (∀ g, dot ((enF B law n0) + 1) r1 g = dot ((enF B law n0) + 1) r0 (stp (Qc B law) (enF B law n0) g)) ∧ gp S' 14 4 = some (gA G (57 - nw)) ∧ gp S' 14 5 = some (gA G nw) ∧ ChN S S') := by
  refine Met.ofW (cc := cX0_sleepOne) (maxL := 3) (ret := none) (by decide +kernel) rfl ?_
  intro pP eE s mM args bl mT cD s₁ bD hml hv
  obtain ⟨rfl, hv⟩ := hv
  have hz := hv.1
  subst hz
  have hx := bD.exec
  have hb := bD.bytes
  have hr := bD.returns
  have hts := atoms_spec (ws := wsX0_sleepOne) bD.pre
  have hown : s.vm.findClass RX0 = some mM.cls := findClass_of_methodNamed bD.named
  have hlocks := bD.notSynchronized
  have hW := Wd.start hv
  have hA : ∀ q, s.heap.size ≤ q → AW G s.heap.size q := fun q h => Or.inr h
  have hl := lv_entry ([.ref (gA G 14)]) (n := 3) (Nat.le_of_ble_eq_true rfl)
  rw [lg_entry_eq]
  generalize (lg_sl ([.ref (gA G 14)]) ++ List.replicate (3 - (lg_sl ([.ref (gA G 14)])).length) Slot.unset).toArray = ls at hl ⊢
  have hl : lv_has ls 3 [(0, .ref (gA G 14))] := hl
  have q0 := hts (.fieldLink RX0 30 "WoodForTwo$Foretelling" "next" "[J") (List.mem_of_getElem? (i := 1) rfl)
  have q1 := hts (.fieldLink RX0 43 "WoodForTwo$Foretelling" "enough" "I") (List.mem_of_getElem? (i := 2) rfl)
  have q2 := hts (.fieldLink RX0 26 "WoodForTwo$Foretelling" "now" "[J") (List.mem_of_getElem? (i := 4) rfl)
  have q3 := hts (.fieldLink RX0 56 "WoodForTwo$Foretelling" "chances" "I") (List.mem_of_getElem? (i := 3) rfl)
  have q4 := hts (.fieldLink RX0 16 "WoodForTwo$Foretelling" "burns" "[I") (List.mem_of_getElem? (i := 5) rfl)
  have q5 := hts (.fieldLink RX0 23 "WoodForTwo$Foretelling" "odds" "[I") (List.mem_of_getElem? (i := 6) rfl)
  have iX0 : ∀ w ∈ wsX00, w ∈ wsX0_sleepOne := fun _ h => List.mem_cons_of_mem _ (List.mem_append_right _ (h))
  generalize hQ0 : MQ bl _ _ s _ _ _ = Q0
  have hE9 := enF_le (n := n0) hB1 hl2 hn8
  have b6 := hB1.2.2.2.2.2.2.1
  refine lv_aload_n hx hb dX0_sleepOne_0 rfl (lv_at hl 0 rfl) ?_
  refine r_getr (ci := 0) (C := RX0) (T := TX0) (N := 10) hx hb hts iX0 hown hW rfl 14 5 rfl (g_lt hG (by decide)) (g_kd hG (by decide) rfl) (by decide) q0 (fun _ h9 => h9) hN5 rfl rfl dX0_sleepOne_1 ?_
  refine lv_lconst (v := 0) hx hb dX0_sleepOne_4 (by decide) ?_
  refine r_callv hW hA (va_runS (As := [.ref (gA G (57 - nw)), .long 0]) (rest := []) ⟨hx, hb, hml, hown, hts⟩ (t_J7_fill_d0a16 l D G S _ (57 - nw) 649 (nw_lt hG (nwc hnw)) (nw_kd hG (nwc hnw)) (nw_z hG (nwc hnw)) (by decide) 0) (va_cwS 2 hts gX0_sleepOne_J7_fill_d0a16 rfl rfl rfl (by decide +kernel) ⟨Nat.le_of_ble_eq_true rfl, Nat.le_of_ble_eq_true rfl⟩) (r_preS hA hW) rfl rfl hl.1 rfl (lv_room (Nat.le_of_ble_eq_true rfl)) dX0_sleepOne_5 ⟨Nat.zero_le _, Nat.zero_le _⟩) (fun S5 H locs hp5 hW => ?_)
  rw [hp5, show gj S (57 - nw) = (gj S (57 - nw)) from rfl] at hW
  refine lv_iconst (v := 0) hx hb dX0_sleepOne_8 (by decide) ?_
  refine lv_istore_n (lv' := [(1, .int 0), (0, .ref (gA G 14))]) hx hb dX0_sleepOne_9 rfl hl (by decide) rfl (fun ls hl => ?_)
  have L10 : ∀ (n : Nat) (w : Nat) (r1 : Nat → Nat) (rn : Nat → Int64) (H : Heap) (locs : List Loc) (ls : Array Slot), ((enF B law n0) + 1 - w) < n → w ≤ (enF B law n0) + 1 → (∀ v, v ≤ (enF B law n0) → rn v = lN (r1 v)) → (∀ g, dot ((enF B law n0) + 1) r1 g = sT w (fun u => r0 u * stp (Qc B law) (enF B law n0) g u)) → Wd D (AW G s.heap.size) s G (rj S (57 - nw) rn) H locs → lv_has ls 3 [(1, .int (nI w)), (0, .ref (gA G 14))] → W pP l eE (headSpec wsX0_sleepOne rmX0_sleepOne).room s mM ([.ref (gA G 14)] : List Value).toArray bl mT cD H locs 0 0 Q0 (F0 mM 10 ls []) := by
    intro n
    induction n with
    | zero => intro w r1 rn H locs ls hm; exact absurd hm (Nat.not_lt_zero _)
    | succ n ih10 =>
      intro w r1 rn H locs ls hm10 hw hrn hdo hW hl
      refine lv_iload_n hx hb dX0_sleepOne_10 rfl (lv_at hl 0 rfl) ?_
      refine lv_aload_n hx hb dX0_sleepOne_11 rfl (lv_at hl 1 rfl) ?_
      refine r_geti (ci := 0) (C := RX0) (T := TX0) (N := 10) hx hb hts iX0 hown hW rfl 14 8 rfl (g_lt hG (by decide)) (g_kd hG (by decide) rfl) (by decide) q1 (fun _ h9 => h9) (nI (enF B law n0)) hFs.2.2.1 rfl rfl dX0_sleepOne_12 ?_
      refine lv_icmp_gt (tgt := 89) hx hb dX0_sleepOne_15 (by decide) (fun c15 => ?_) (fun c15 => ?_)
      · skip
        have hwe : w = (enF B law n0) + 1 := by
          have h9 := (n_lt (a := (enF B law n0)) (b := w) (by omega) (by omega)).mp c15
          omega
        refine lv_aload_n hx hb dX0_sleepOne_89 rfl (lv_at hl 1 rfl) ?_
        refine r_getr (ci := 0) (C := RX0) (T := TX0) (N := 10) hx hb hts iX0 hown hW rfl 14 4 rfl (g_lt hG (by decide)) (g_kd hG (by decide) rfl) (by decide) q2 (fun _ h9 => h9) hN4 rfl rfl dX0_sleepOne_90 ?_
        refine lv_astore_n (lv' := [(1, .ref (gA G nw)), (0, .ref (gA G 14))]) hx hb dX0_sleepOne_93 rfl hl (by decide) rfl (fun ls hl => ?_)
        refine lv_aload_n hx hb dX0_sleepOne_94 rfl (lv_at hl 1 rfl) ?_
        refine lv_aload_n hx hb dX0_sleepOne_95 rfl (lv_at hl 1 rfl) ?_
        refine r_getr (ci := 0) (C := RX0) (T := TX0) (N := 10) hx hb hts iX0 hown hW rfl 14 5 rfl (g_lt hG (by decide)) (g_kd hG (by decide) rfl) (by decide) q0 (fun _ h9 => h9) hN5 rfl rfl dX0_sleepOne_96 ?_
        refine r_putr (ci := 0) (C := RX0) (T := TX0) (N := 10) hx hb hts iX0 tyX0 tyX0_ok nmX0 hown hW rfl 14 4 rfl (g_lt hG (by decide)) (g_kd hG (by decide) rfl) (by decide) q2 (fun _ h9 => h9) rfl (tyX0_ok 4 (by decide)) rfl rfl (rp (rj S (57 - nw) rn) 14 (va_up (gp S 14) 4 (some (gA G (57 - nw))))) (gp S 14) (va_up (gp S 14) 4 (some (gA G (57 - nw)))) rfl (e_ps _ _ _) rfl rfl rfl (Nat.le_of_ble_eq_true rfl) rfl c_p0 dX0_sleepOne_99 (fun H locs hW => ?_)
        refine lv_aload_n hx hb dX0_sleepOne_102 rfl (lv_at hl 1 rfl) ?_
        refine lv_aload_n hx hb dX0_sleepOne_103 rfl (lv_at hl 0 rfl) ?_
        refine r_putr (ci := 0) (C := RX0) (T := TX0) (N := 10) hx hb hts iX0 tyX0 tyX0_ok nmX0 hown hW rfl 14 5 rfl (g_lt hG (by decide)) (g_kd hG (by decide) rfl) (by decide) q0 (fun _ h9 => h9) rfl (tyX0_ok 5 (by decide)) rfl rfl (rp (rj S (57 - nw) rn) 14 (va_up (va_up (gp S 14) 4 (some (gA G (57 - nw)))) 5 (some (gA G nw)))) (va_up (gp S 14) 4 (some (gA G (57 - nw)))) (va_up (va_up (gp S 14) 4 (some (gA G (57 - nw)))) 5 (some (gA G nw))) (e_ps _ _ _) (e_ps _ _ _) rfl rfl rfl (Nat.le_of_ble_eq_true rfl) rfl c_p dX0_sleepOne_104 (fun H locs hW => ?_)
        rw [← hQ0]
        refine r_vret hx hb hr hlocks hW ?_ dX0_sleepOne_107
        subst hwe
        refine ⟨r1, fun v hv => (congrFun (e_jp (e_js _ _ _)) v).trans (hrn v hv), hdo, (congrFun (e_ps _ _ _) 4).trans rfl, (congrFun (e_ps _ _ _) 5).trans rfl, fun k => rfl, fun k hk => ?_, fun k hk => ?_, fun j h4 h5 => ?_⟩
        · have z : k ≠ 57 - nw := by rcases hnw with z | z <;> omega
          exact (e_jn z rfl)
        · exact (e_pn hk rfl)
        · rw [(e_ps _ _ _), up_n _ _ h5, up_n _ _ h4]
      · skip
        have hwe : w ≤ (enF B law n0) := by
          have h9 : ¬ (enF B law n0) < w := fun z => c15 ((n_lt (a := (enF B law n0)) (b := w) (by omega) (by omega)).mpr z)
          omega
        refine lv_iconst (v := 0) hx hb dX0_sleepOne_18 (by decide) ?_
        refine lv_istore_n (lv' := [(2, .int 0), (1, .int (nI w)), (0, .ref (gA G 14))]) hx hb dX0_sleepOne_19 rfl hl (by decide) rfl (fun ls hl => ?_)
        have L20 : ∀ (n : Nat) (i : Nat) (r2 : Nat → Nat) (rm : Nat → Int64) (H : Heap) (locs : List Loc) (ls : Array Slot), (B 4 - i) < n → i ≤ B 4 → (∀ v, v ≤ (enF B law n0) → rm v = lN (r2 v)) → (∀ g, dot ((enF B law n0) + 1) r2 g = sT w (fun u => r0 u * stp (Qc B law) (enF B law n0) g u) + r0 w * prt (Qc B law) (enF B law n0) g i w) → Wd D (AW G s.heap.size) s G (rj S (57 - nw) rm) H locs → lv_has ls 3 [(2, .int (nI i)), (1, .int (nI w)), (0, .ref (gA G 14))] → W pP l eE (headSpec wsX0_sleepOne rmX0_sleepOne).room s mM ([.ref (gA G 14)] : List Value).toArray bl mT cD H locs 0 0 Q0 (F0 mM 20 ls []) := by
          intro n
          induction n with
          | zero => intro i r2 rm H locs ls hm; exact absurd hm (Nat.not_lt_zero _)
          | succ n ih20 =>
            intro i r2 rm H locs ls hm20 hi hrm hdi hW hl
            refine lv_iload_n hx hb dX0_sleepOne_20 rfl (lv_at hl 0 rfl) ?_
            refine lv_aload_n hx hb dX0_sleepOne_21 rfl (lv_at hl 2 rfl) ?_
            refine r_geti (ci := 0) (C := RX0) (T := TX0) (N := 10) hx hb hts iX0 hown hW rfl 14 6 rfl (g_lt hG (by decide)) (g_kd hG (by decide) rfl) (by decide) q3 (fun _ h9 => h9) (nI (B 4)) hFs.1 rfl rfl dX0_sleepOne_22 ?_
            refine lv_icmp_ge (tgt := 83) hx hb dX0_sleepOne_25 (by decide) (fun c25 => ?_) (fun c25 => ?_)
            · skip
              have hie : i = B 4 := by
                have h9 := (n_le (a := B 4) (b := i) (by omega) (by omega)).mp c25
                omega
              refine lv_iinc (v := (nI (w + 1))) (lv' := [(1, .int (nI (w + 1))), (2, .int (nI i)), (0, .ref (gA G 14))]) hx hb dX0_sleepOne_83 hl (k := 1) rfl (nI_1 w) (by decide) rfl (fun ls hl => ?_)
              refine lv_goto (tgt := 10) hx hb dX0_sleepOne_86 (by decide) ?_
              exact ih10 (w + 1) r2 rm _ _ ls (by omega) (by omega) hrm (fun g => by rw [hdi g]; show _ = sT w (fun u => r0 u * stp (Qc B law) (enF B law n0) g u) + r0 w * prt (Qc B law) (enF B law n0) g (B 4) w; rw [hie]) hW (lv_sub hl [0, 2] rfl)
            · skip
              have hlt : i < B 4 := by
                have h9 : ¬ B 4 ≤ i := fun z => c25 ((n_le (by omega) (by omega)).mpr z)
                omega
              have hqi := Qc_b hB1 hl2 i hlt
              refine lv_aload_n hx hb dX0_sleepOne_28 rfl (lv_at hl 2 rfl) ?_
              refine r_getr (ci := 0) (C := RX0) (T := TX0) (N := 10) hx hb hts iX0 hown hW rfl 14 4 rfl (g_lt hG (by decide)) (g_kd hG (by decide) rfl) (by decide) q2 (fun _ h9 => h9) hN4 rfl rfl dX0_sleepOne_29 ?_
              refine lv_iload_n hx hb dX0_sleepOne_32 rfl (lv_at hl 1 rfl) ?_
              refine r_lald hx hb hW nw rfl (nw_lt hG hnw) (nw_kd hG hnw) (by rw [nw_z hG hnw]; exact n_inI (by omega) (by decide)) (lN (r0 w)) ((congrFun (e_jn (by rcases hnw with z | z <;> omega) rfl) _).trans (by rw [n_clamp (by omega)]; exact hnow w (by omega))) dX0_sleepOne_33 ?_
              refine lv_lconst (v := 0) hx hb dX0_sleepOne_34 (by decide) ?_
              refine W.lcmp hx hb dX0_sleepOne_35 ?_
              refine lv_if_eq (tgt := 83) hx hb dX0_sleepOne_36 (by decide) (fun c36 => ?_) (fun c36 => ?_)
              · skip
                rw [lc_eq] at c36
                have hz0 : r0 w = 0 := by
                  rw [lN_int (hr0 w (by omega)), show (0 : Int64).toInt = 0 from by decide] at c36
                  omega
                refine lv_iinc (v := (nI (w + 1))) (lv' := [(1, .int (nI (w + 1))), (2, .int (nI i)), (0, .ref (gA G 14))]) hx hb dX0_sleepOne_83 hl (k := 1) rfl (nI_1 w) (by decide) rfl (fun ls hl => ?_)
                refine lv_goto (tgt := 10) hx hb dX0_sleepOne_86 (by decide) ?_
                exact ih10 (w + 1) r2 rm _ _ ls (by omega) (by omega) hrm (fun g => by rw [hdi g]; show _ = sT w (fun u => r0 u * stp (Qc B law) (enF B law n0) g u) + r0 w * prt (Qc B law) (enF B law n0) g (B 4) w; rw [hz0, Nat.zero_mul, Nat.zero_mul]) hW (lv_sub hl [0, 2] rfl)
              · skip
                rw [lc_eq] at c36
                refine lv_iload_n hx hb dX0_sleepOne_39 rfl (lv_at hl 1 rfl) ?_
                refine lv_aload_n hx hb dX0_sleepOne_40 rfl (lv_at hl 2 rfl) ?_
                refine r_getr (ci := 0) (C := RX0) (T := TX0) (N := 10) hx hb hts iX0 hown hW rfl 14 1 rfl (g_lt hG (by decide)) (g_kd hG (by decide) rfl) (by decide) q4 (fun _ h9 => h9) (hP _ (List.mem_of_getElem? (i := 26) rfl)) rfl rfl dX0_sleepOne_41 ?_
                refine lv_iload_n hx hb dX0_sleepOne_44 rfl (lv_at hl 0 rfl) ?_
                refine r_iald hx hb hW 25 rfl (g_lt hG (by decide)) (g_kd hG (by decide) rfl) (g_ix hG (c := 6) (by decide) rfl (n_inI (by omega) (by decide))) (nI (qb (Qc B law) i)) (by rw [n_clamp (by omega)]; exact (hFs.2.2.2.2 i hlt).1) dX0_sleepOne_45 ?_
                refine lv_icmp_lt (tgt := 77) hx hb dX0_sleepOne_46 (by decide) (fun c46 => ?_) (fun c46 => ?_)
                · skip
                  have hbw : ¬ qb (Qc B law) i ≤ w := fun z => absurd ((n_lt (a := w) (b := qb (Qc B law) i) (by omega) (by omega)).mp c46) (by omega)
                  refine lv_iinc (v := (nI (i + 1))) (lv' := [(2, .int (nI (i + 1))), (1, .int (nI w)), (0, .ref (gA G 14))]) hx hb dX0_sleepOne_77 hl (k := 0) rfl (nI_1 i) (by decide) rfl (fun ls hl => ?_)
                  refine lv_goto (tgt := 20) hx hb dX0_sleepOne_80 (by decide) ?_
                  exact ih20 (i + 1) r2 rm _ _ ls (by omega) hlt hrm (fun g => by rw [hdi g]; show _ = _ + r0 w * (prt (Qc B law) (enF B law n0) g i w + (if qb (Qc B law) i ≤ w then _ else 0)); rw [if_neg hbw, Nat.add_zero]) hW (lv_sub hl [0, 1, 2] rfl)
                · skip
                  have hbw : qb (Qc B law) i ≤ w := by
                    have h9 : ¬ w < qb (Qc B law) i := fun z => c46 ((n_lt (a := w) (b := qb (Qc B law) i) (by omega) (by omega)).mpr z)
                    omega
                  refine lv_aload_n hx hb dX0_sleepOne_49 rfl (lv_at hl 2 rfl) ?_
                  refine r_getr (ci := 0) (C := RX0) (T := TX0) (N := 10) hx hb hts iX0 hown hW rfl 14 5 rfl (g_lt hG (by decide)) (g_kd hG (by decide) rfl) (by decide) q0 (fun _ h9 => h9) hN5 rfl rfl dX0_sleepOne_50 ?_
                  refine lv_aload_n hx hb dX0_sleepOne_53 rfl (lv_at hl 2 rfl) ?_
                  refine lv_iload_n hx hb dX0_sleepOne_54 rfl (lv_at hl 1 rfl) ?_
                  refine lv_iload_n hx hb dX0_sleepOne_55 rfl (lv_at hl 0 rfl) ?_
                  refine r_calli hW hA (va_runV (As := [.int (nI w), .int (nI i)]) (rest := [.ref (gA G (57 - nw))]) ⟨hx, hb, hml, hown, hts⟩ (t_X0_woodAfter l D G (rj S (57 - nw) rm) _ hG hP w i (enF B law n0) (qb (Qc B law) i) (ql (Qc B law) i) (by omega) hFs.2.2.1 (hFs.2.2.2.2 i hlt).1 (hFs.2.2.2.2 i hlt).2.1 hbw (by omega) hqi.2.1 hE9.2) (cwV 2 hts gX0_sleepOne_X0_woodAfter rfl rfl rfl (by decide +kernel) ⟨Nat.le_of_ble_eq_true rfl, Nat.le_of_ble_eq_true rfl⟩) (r_preV (k := 14) hA hW (ci := 0) (C := RX0) (T := TX0) (N := 10) rfl rfl (g_lt hG (by decide)) (g_kd hG (by decide) rfl) rfl rfl) rfl rfl hl.1 rfl (lv_room (Nat.le_of_ble_eq_true rfl)) dX0_sleepOne_56 ⟨Nat.zero_le _, Nat.zero_le _⟩) (fun r56 S56 H locs hp56 hW => ?_)
                  obtain ⟨rfl, hs56⟩ := hp56
                  rw [hs56] at hW
                  refine lv_dup2_11 hx hb dX0_sleepOne_59 rfl rfl ?_
                  refine r_lald hx hb hW (57 - nw) rfl (nw_lt hG (nwc hnw)) (nw_kd hG (nwc hnw)) (by rw [nw_z hG (nwc hnw)]; exact n_inI (by omega) (by decide)) (lN (r2 (min (enF B law n0) (w - qb (Qc B law) i + ql (Qc B law) i)))) ((congrFun (e_js _ _ _) _).trans (by rw [n_clamp (by omega)]; exact hrm _ (by omega))) dX0_sleepOne_60 ?_
                  refine lv_aload_n hx hb dX0_sleepOne_61 rfl (lv_at hl 2 rfl) ?_
                  refine r_getr (ci := 0) (C := RX0) (T := TX0) (N := 10) hx hb hts iX0 hown hW rfl 14 4 rfl (g_lt hG (by decide)) (g_kd hG (by decide) rfl) (by decide) q2 (fun _ h9 => h9) hN4 rfl rfl dX0_sleepOne_62 ?_
                  refine lv_iload_n hx hb dX0_sleepOne_65 rfl (lv_at hl 1 rfl) ?_
                  refine r_lald hx hb hW nw rfl (nw_lt hG hnw) (nw_kd hG hnw) (by rw [nw_z hG hnw]; exact n_inI (by omega) (by decide)) (lN (r0 w)) ((congrFun (e_jn (by rcases hnw with z | z <;> omega) rfl) _).trans (by rw [n_clamp (by omega)]; exact hnow w (by omega))) dX0_sleepOne_66 ?_
                  refine lv_aload_n hx hb dX0_sleepOne_67 rfl (lv_at hl 2 rfl) ?_
                  refine r_getr (ci := 0) (C := RX0) (T := TX0) (N := 10) hx hb hts iX0 hown hW rfl 14 3 rfl (g_lt hG (by decide)) (g_kd hG (by decide) rfl) (by decide) q5 (fun _ h9 => h9) (hP _ (List.mem_of_getElem? (i := 28) rfl)) rfl rfl dX0_sleepOne_68 ?_
                  refine lv_iload_n hx hb dX0_sleepOne_71 rfl (lv_at hl 0 rfl) ?_
                  refine r_iald hx hb hW 27 rfl (g_lt hG (by decide)) (g_kd hG (by decide) rfl) (g_ix hG (c := 6) (by decide) rfl (n_inI (by omega) (by decide))) (nI (qo (Qc B law) i)) (by rw [n_clamp (by omega)]; exact (hFs.2.2.2.2 i hlt).2.2) dX0_sleepOne_72 ?_
                  refine lv_i2l hx hb dX0_sleepOne_73 rfl ?_
                  refine lv_lmul hx hb dX0_sleepOne_74 ?_
                  refine lv_ladd hx hb dX0_sleepOne_75 ?_
                  rw [show (((lN (r2 (min (enF B law n0) (w - qb (Qc B law) i + ql (Qc B law) i)))) + ((lN (r0 w)) * (Int32.toInt64 (nI (qo (Qc B law) i))))) : Int64) = (lN (r2 (min (enF B law n0) (w - qb (Qc B law) i + ql (Qc B law) i)) + r0 w * qo (Qc B law) i)) from by rw [lN_of (n := qo (Qc B law) i) (by omega), lN_mul, lN_add]]
                  refine r_last hx hb hW (57 - nw) rfl (nw_lt hG (nwc hnw)) (nw_kd hG (nwc hnw)) (by rw [nw_z hG (nwc hnw)]; exact n_inI (by omega) (by decide)) (rj S (57 - nw) (va_up rm ((nI (min (enF B law n0) (w - qb (Qc B law) i + ql (Qc B law) i)))).toNatClampNeg (lN (r2 (min (enF B law n0) (w - qb (Qc B law) i + ql (Qc B law) i)) + r0 w * qo (Qc B law) i)))) rm (e_js _ _ _) (e_js _ _ _) rfl rfl c_j dX0_sleepOne_76 (fun H locs hW => ?_)
                  rw [show ((nI (min (enF B law n0) (w - qb (Qc B law) i + ql (Qc B law) i)))).toNatClampNeg = (min (enF B law n0) (w - qb (Qc B law) i + ql (Qc B law) i)) from n_clamp (by omega)] at hW
                  refine lv_iinc (v := (nI (i + 1))) (lv' := [(2, .int (nI (i + 1))), (1, .int (nI w)), (0, .ref (gA G 14))]) hx hb dX0_sleepOne_77 hl (k := 0) rfl (nI_1 i) (by decide) rfl (fun ls hl => ?_)
                  refine lv_goto (tgt := 20) hx hb dX0_sleepOne_80 (by decide) ?_
                  exact ih20 (i + 1) (fun v => if v = min (enF B law n0) (w - qb (Qc B law) i + ql (Qc B law) i) then r2 v + r0 w * qo (Qc B law) i else r2 v) (va_up rm (min (enF B law n0) (w - qb (Qc B law) i + ql (Qc B law) i)) (lN (r2 (min (enF B law n0) (w - qb (Qc B law) i + ql (Qc B law) i)) + r0 w * qo (Qc B law) i))) _ _ ls (by omega) hlt (fun v hv => by
                                                                                by_cases ev : v = min (enF B law n0) (w - qb (Qc B law) i + ql (Qc B law) i)
                                                                                · rw [ev, up_s, if_pos rfl]
                                                                                · rw [up_n _ _ ev, if_neg ev]; exact hrm v hv) (fun g => by rw [dot_up (by omega), hdi g]; show _ = _ + r0 w * (prt (Qc B law) (enF B law n0) g i w + (if qb (Qc B law) i ≤ w then _ else 0)); rw [if_pos hbw, Nat.mul_add, Nat.mul_assoc]; omega) hW (lv_sub hl [0, 1, 2] rfl)
        exact L20 _ 0 r1 rn _ _ ls (Nat.lt_succ_self _) (Nat.zero_le _) hrn (fun g => by rw [hdo g]; rfl) hW (lv_sub hl [0, 1, 2] rfl)
  exact L10 _ 0 (fun _ => 0) (flR (gj S (57 - nw)) 649 0) _ _ ls (Nat.lt_succ_self _) (Nat.zero_le _) (fun v hv => by unfold flR; rw [if_pos (by omega)]; rfl) (fun g => by unfold dot; rw [show (fun v => (fun _ => 0) v * g v) = (fun _ => 0) from by funext v; exact Nat.zero_mul _, sT_0]; rfl) hW (lv_sub hl [0, 1] rfl)
