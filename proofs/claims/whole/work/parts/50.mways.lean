def ChW (S S' : Sg) : Prop := gp S' = gp S ∧ gi S' = gi S ∧ ∀ k, ¬ (k = 65 ∨ k = 72 ∨ k = 73) → gj S' k = gj S k
theorem ChW.tr {S T U : Sg} (h : ChW S T) (g : ChW T U) : ChW S U := ⟨g.1.trans h.1, g.2.1.trans h.2.1, fun k hk => (g.2.2 k hk).trans (h.2.2 k hk)⟩
theorem ChW.rf {S : Sg} : ChW S S := ⟨rfl, rfl, fun _ _ => rfl⟩
theorem ChW.rj {S T : Sg} {k : Nat} {r : Nat → Int64} (h : ChW S T) (hk : k = 65 ∨ k = 72 ∨ k = 73) : ChW S (rj T k r) := ⟨h.1, h.2.1, fun j hj => (e_jn (fun e => hj (by rw [e]; exact hk)) rfl).trans (h.2.2 j hj)⟩
theorem dot_zero {r g : Nat → Nat} {t : Nat} : ∀ n, t < n → dot n (fun v => if v = t then 0 else r v) g + r t * g t = dot n r g
  | 0, h => absurd h (Nat.not_lt_zero _)
  | n + 1, h => by
    show sT n (fun v => (if v = t then 0 else r v) * g v) + (if n = t then 0 else r n) * g n + r t * g t = sT n (fun v => r v * g v) + r n * g n
    by_cases e : n = t
    · subst e
      rw [if_pos rfl, Nat.zero_mul, sT_cg (h := fun v => r v * g v) n (fun i hi => by rw [if_neg (by omega)])]; omega
    · have h2 : sT n (fun v => (if v = t then 0 else r v) * g v) + r t * g t = sT n (fun v => r v * g v) := dot_zero n (by omega)
      rw [if_neg e]; omega
def rmX11_oddsInAll : Jvm.Room := { frames := 0, cells := 0, slots := 0, locals := 0 }
set_option maxHeartbeats 4000000 in
set_option maxRecDepth 100000 in
theorem t_X11_oddsInAll (l : Launch) (D : Dc) (G : Gg) (S : Sg) (z : Nat) (hG : GrG G) (hP : GrP G S) (B : Nat → Nat) (c : Nat) (hB1 : BP1 B c) (hc : c < 100000) (hM : ∀ k, k < 140 → gj S 66 k = lN (B k)) : ML l yX11_oddsInAll wsX11_oddsInAll rmX11_oddsInAll D G S z [.ref (gA G 65)] (fun r S' => r = lN (sT (B 4) (fun i => B (11 + i))) ∧ S' = S) := by
  refine Met.ofW (cc := cX11_oddsInAll) (maxL := 4) (ret := (some .long)) (by decide +kernel) rfl ?_
  intro pP eE s mM args bl mT cD s₁ bD hml hv
  obtain ⟨rfl, hv⟩ := hv
  have hz := hv.1
  subst hz
  have hx := bD.exec
  have hb := bD.bytes
  have hr := bD.returns
  have hts := atoms_spec (ws := wsX11_oddsInAll) bD.pre
  have hown : s.vm.findClass RX11 = some mM.cls := findClass_of_methodNamed bD.named
  have hlocks := bD.notSynchronized
  have hW := Wd.start hv
  have hA : ∀ q, s.heap.size ≤ q → AW G s.heap.size q := fun q h => Or.inr h
  have hl := lv_entry ([.ref (gA G 65)]) (n := 4) (Nat.le_of_ble_eq_true rfl)
  rw [lg_entry_eq]
  generalize (lg_sl ([.ref (gA G 65)]) ++ List.replicate (4 - (lg_sl ([.ref (gA G 65)])).length) Slot.unset).toArray = ls at hl ⊢
  have hl : lv_has ls 4 [(0, .ref (gA G 65))] := hl
  have q0 := hts (.fieldLink RX11 7 "WoodForTwoModel" "w" "[J") (List.mem_of_getElem? (i := 1) rfl)
  have iX11 : ∀ w ∈ wsX110, w ∈ wsX11_oddsInAll := fun _ h => List.mem_cons_of_mem _ (List.mem_append_right _ (h))
  generalize hQ0 : MQ bl _ _ s _ _ _ = Q0
  obtain ⟨b0, b1, b2, b3, b4, b5, b6, b7, b8, b9, b10, b11, b12⟩ := id hB1
  refine lv_lconst (v := 0) hx hb dX11_oddsInAll_0 (by decide) ?_
  refine lv_lstore_n (lv' := [(1, .long 0), (0, .ref (gA G 65))]) hx hb dX11_oddsInAll_1 rfl hl (by decide) rfl (fun ls hl => ?_)
  refine lv_iconst (v := 0) hx hb dX11_oddsInAll_2 (by decide) ?_
  refine lv_istore_n (lv' := [(3, .int 0), (1, .long 0), (0, .ref (gA G 65))]) hx hb dX11_oddsInAll_3 rfl hl (by decide) rfl (fun ls hl => ?_)
  have L4 : ∀ (n : Nat) (k : Nat) (H : Heap) (locs : List Loc) (ls : Array Slot), (B 4 - k) < n → k ≤ B 4 → Wd D (AW G s.heap.size) s G S H locs → lv_has ls 4 [(3, .int (nI k)), (1, .long (lN (sT k (fun i => B (11 + i))))), (0, .ref (gA G 65))] → W pP l eE (headSpec wsX11_oddsInAll rmX11_oddsInAll).room s mM ([.ref (gA G 65)] : List Value).toArray bl mT cD H locs 0 0 Q0 (F0 mM 4 ls []) := by
    intro n
    induction n with
    | zero => intro k H locs ls hm; exact absurd hm (Nat.not_lt_zero _)
    | succ n ih4 =>
      intro k H locs ls hm4 hk hW hl
      refine lv_iload_n hx hb dX11_oddsInAll_4 rfl (lv_at hl 0 rfl) ?_
      refine lv_i2l hx hb dX11_oddsInAll_5 rfl ?_
      rw [show (Int32.toInt64 (nI k) : Int64) = lN k from lN_of (by omega)]
      refine lv_aload_n hx hb dX11_oddsInAll_6 rfl (lv_at hl 2 rfl) ?_
      refine r_getr (ci := 10) (C := RX11) (T := TX11) (N := 20) hx hb hts iX11 hown hW rfl 65 0 rfl (g_lt hG (by decide)) (g_kd hG (by decide) rfl) (by decide) q0 (fun _ h9 => h9) (hP _ (List.mem_of_getElem? (i := 60) rfl)) rfl rfl dX11_oddsInAll_7 ?_
      refine lv_iconst (v := 4) hx hb dX11_oddsInAll_10 (by decide) ?_
      refine W.eq (g2 := F0 mM 11 ls [.int (nI 4), .ref (gA G 66), .long (lN k)]) rfl ?_
      refine r_lald hx hb hW 66 rfl (g_lt hG (by decide)) (g_kd hG (by decide) rfl) (g_ix hG (c := 560) (by decide) rfl (n_inI (by omega) (by decide))) (lN (B 4)) (by rw [n_clamp (by omega)]; exact (hM 4 (by omega))) dX11_oddsInAll_11 ?_
      refine W.lcmp hx hb dX11_oddsInAll_12 ?_
      refine lv_if_ge (tgt := 34) hx hb dX11_oddsInAll_13 (by decide) (fun c13 => ?_) (fun c13 => ?_)
      · skip
        rw [lc_ge] at c13
        have hke : k = B 4 := by rw [lN_int (by omega), lN_int (by omega)] at c13; omega
        refine lv_lload_n hx hb dX11_oddsInAll_34 rfl (lv_at hl 1 rfl) ?_
        rw [← hQ0]
        refine r_lret hx hb hr hlocks hW ?_ dX11_oddsInAll_35
        subst hke
        exact ⟨rfl, rfl⟩
      · skip
        rw [lc_ge] at c13
        have hkl : k < B 4 := by rw [lN_int (by omega), lN_int (by omega)] at c13; omega
        refine lv_lload_n hx hb dX11_oddsInAll_16 rfl (lv_at hl 1 rfl) ?_
        refine lv_aload_n hx hb dX11_oddsInAll_17 rfl (lv_at hl 2 rfl) ?_
        refine r_getr (ci := 10) (C := RX11) (T := TX11) (N := 20) hx hb hts iX11 hown hW rfl 65 0 rfl (g_lt hG (by decide)) (g_kd hG (by decide) rfl) (by decide) q0 (fun _ h9 => h9) (hP _ (List.mem_of_getElem? (i := 60) rfl)) rfl rfl dX11_oddsInAll_18 ?_
        refine lv_bipush (v := 11) hx hb dX11_oddsInAll_21 (by decide) ?_
        refine lv_iload_n hx hb dX11_oddsInAll_23 rfl (lv_at hl 0 rfl) ?_
        refine lv_iadd hx hb dX11_oddsInAll_24 ?_
        rw [show ((11 + (nI k)) : Int32) = (nI (11 + k)) from n_add 11 k]
        refine r_lald hx hb hW 66 rfl (g_lt hG (by decide)) (g_kd hG (by decide) rfl) (g_ix hG (c := 560) (by decide) rfl (n_inI (by omega) (by decide))) (lN (B (11 + k))) (by rw [n_clamp (by omega)]; exact (hM (11 + k) (by omega))) dX11_oddsInAll_25 ?_
        refine lv_ladd hx hb dX11_oddsInAll_26 ?_
        rw [show (((lN (sT k (fun i => B (11 + i)))) + (lN (B (11 + k)))) : Int64) = (lN ((sT k (fun i => B (11 + i))) + (B (11 + k)))) from lN_add (sT k (fun i => B (11 + i))) (B (11 + k))]
        refine lv_lstore_n (lv' := [(1, .long (lN ((sT k (fun i => B (11 + i))) + (B (11 + k))))), (3, .int (nI k)), (0, .ref (gA G 65))]) hx hb dX11_oddsInAll_27 rfl hl (by decide) rfl (fun ls hl => ?_)
        refine lv_iinc (v := (nI (k + 1))) (lv' := [(3, .int (nI (k + 1))), (1, .long (lN ((sT k (fun i => B (11 + i))) + (B (11 + k))))), (0, .ref (gA G 65))]) hx hb dX11_oddsInAll_28 hl (k := 1) rfl (nI_1 k) (by decide) rfl (fun ls hl => ?_)
        refine lv_goto (tgt := 4) hx hb dX11_oddsInAll_31 (by decide) ?_
        exact ih4 (k + 1) _ _ ls (by omega) hkl hW (lv_sub hl [0, 1, 2] rfl)
  exact L4 _ 0 _ _ ls (Nat.lt_succ_self _) (Nat.zero_le _) hW (lv_sub hl [0, 1, 2] rfl)

def rmX11_goNight : Jvm.Room := { frames := 1, cells := 0, slots := 0, locals := 24 }
set_option maxHeartbeats 4000000 in
set_option maxRecDepth 100000 in
theorem t_X11_goNight (l : Launch) (D : Dc) (G : Gg) (S : Sg) (z : Nat) (hG : GrG G) (hP : GrP G S) (B : Nat → Nat) (c : Nat) (hB1 : BP1 B c) (hc : c < 100000) (hM : ∀ k, k < 140 → gj S 66 k = lN (B k)) (law : Nat) (hl2 : law ≤ 2) (W0 : Nat → Nat) (A : Nat) (hwy : ∀ v, v < 1000 → gj S 72 v = lN (W0 v)) (hA17 : gj S 65 17 = lN A) : MV l yX11_goNight wsX11_goNight rmX11_goNight D G S z [.ref (gA G 65), .int (nI law)] (fun S' => ∃ W1, (∀ v, v < 1000 → gj S' 72 v = lN (W1 v)) ∧ (∀ g, dot 1000 W1 g = dot 1000 W0 (stp (Qc B law) 999 g)) ∧ gj S' 65 17 = lN (A * tot (Qc B law)) ∧ ChW S S') := by
  refine Met.ofW (cc := cX11_goNight) (maxL := 8) (ret := none) (by decide +kernel) rfl ?_
  intro pP eE s mM args bl mT cD s₁ bD hml hv
  obtain ⟨rfl, hv⟩ := hv
  have hz := hv.1
  subst hz
  have hx := bD.exec
  have hb := bD.bytes
  have hr := bD.returns
  have hts := atoms_spec (ws := wsX11_goNight) bD.pre
  have hown : s.vm.findClass RX11 = some mM.cls := findClass_of_methodNamed bD.named
  have hlocks := bD.notSynchronized
  have hW := Wd.start hv
  have hA : ∀ q, s.heap.size ≤ q → AW G s.heap.size q := fun q h => Or.inr h
  have hl := lv_entry ([.ref (gA G 65), .int (nI law)]) (n := 8) (Nat.le_of_ble_eq_true rfl)
  rw [lg_entry_eq]
  generalize (lg_sl ([.ref (gA G 65), .int (nI law)]) ++ List.replicate (8 - (lg_sl ([.ref (gA G 65), .int (nI law)])).length) Slot.unset).toArray = ls at hl ⊢
  have hl : lv_has ls 8 [(0, .ref (gA G 65)), (1, .int (nI law))] := hl
  have q0 := hts (.fieldLink RX11 7 "WoodForTwoModel" "w" "[J") (List.mem_of_getElem? (i := 2) rfl)
  have q1 := hts (.fieldLink RX11 188 "WoodForTwoModel" "all" "J") (List.mem_of_getElem? (i := 4) rfl)
  have q2 := hts (.fieldLink RX11 29 "WoodForTwoModel" "ways" "[J") (List.mem_of_getElem? (i := 3) rfl)
  have q3 := hts (.fieldLink RX11 32 "WoodForTwoModel" "then" "[J") (List.mem_of_getElem? (i := 1) rfl)
  have iX11 : ∀ w ∈ wsX110, w ∈ wsX11_goNight := fun _ h => List.mem_cons_of_mem _ (List.mem_append_right _ (h))
  generalize hQ0 : MQ bl _ _ s _ _ _ = Q0
  obtain ⟨b0, b1, b2, b3, b4, b5, b6, b7, b8, b9, b10, b11, b12⟩ := id hB1
  refine lv_iconst (v := 0) hx hb dX11_goNight_0 (by decide) ?_
  refine lv_istore_n (lv' := [(2, .int 0), (0, .ref (gA G 65)), (1, .int (nI law))]) hx hb dX11_goNight_1 rfl hl (by decide) rfl (fun ls hl => ?_)
  rw [show S = (rj S 73 (gj S 73)) from (rj_id S 73).symm] at hW
  have L2 : ∀ (n : Nat) (v : Nat) (rt : Nat → Int64) (H : Heap) (locs : List Loc) (ls : Array Slot), (1000 - v) < n → v ≤ 1000 → (∀ u, u < v → rt u = 0) → Wd D (AW G s.heap.size) s G (rj S 73 rt) H locs → lv_has ls 8 [(2, .int (nI v)), (0, .ref (gA G 65)), (1, .int (nI law))] → W pP l eE (headSpec wsX11_goNight rmX11_goNight).room s mM ([.ref (gA G 65), .int (nI law)] : List Value).toArray bl mT cD H locs 0 0 Q0 (F0 mM 2 ls []) := by
    intro n
    induction n with
    | zero => intro v rt H locs ls hm; exact absurd hm (Nat.not_lt_zero _)
    | succ n ih2 =>
      intro v rt H locs ls hm2 hv hz hW hl
      refine lv_iload_n hx hb dX11_goNight_2 rfl (lv_at hl 0 rfl) ?_
      refine lv_sipush (v := 999) hx hb dX11_goNight_3 (by decide) ?_
      refine lv_icmp_gt (tgt := 22) hx hb dX11_goNight_6 (by decide) (fun c6 => ?_) (fun c6 => ?_)
      · skip
        have hve : v = 1000 := by
          have h9 := (n_lt (a := 999) (b := v) (by omega) (by omega)).mp c6
          omega
        refine lv_iconst (v := 0) hx hb dX11_goNight_22 (by decide) ?_
        refine lv_istore_n (lv' := [(2, .int 0), (0, .ref (gA G 65)), (1, .int (nI law))]) hx hb dX11_goNight_23 rfl hl (by decide) rfl (fun ls hl => ?_)
        have L24 : ∀ (n : Nat) (k : Nat) (W2 : Nat → Nat) (rt : Nat → Int64) (H : Heap) (locs : List Loc) (ls : Array Slot), (B 4 - k) < n → k ≤ B 4 → (∀ v, v < 1000 → rt v = lN (W2 v)) → (∀ g, dot 1000 W2 g = dot 1000 W0 (prt (Qc B law) 999 g k)) → Wd D (AW G s.heap.size) s G (rj S 73 rt) H locs → lv_has ls 8 [(2, .int (nI k)), (0, .ref (gA G 65)), (1, .int (nI law))] → W pP l eE (headSpec wsX11_goNight rmX11_goNight).room s mM ([.ref (gA G 65), .int (nI law)] : List Value).toArray bl mT cD H locs 0 0 Q0 (F0 mM 24 ls []) := by
          intro n
          induction n with
          | zero => intro k W2 rt H locs ls hm; exact absurd hm (Nat.not_lt_zero _)
          | succ n ih24 =>
            intro k W2 rt H locs ls hm24 hk hrt hd2 hW hl
            refine lv_iload_n hx hb dX11_goNight_24 rfl (lv_at hl 0 rfl) ?_
            refine lv_i2l hx hb dX11_goNight_25 rfl ?_
            rw [show (Int32.toInt64 (nI k) : Int64) = lN k from lN_of (by omega)]
            refine lv_aload_n hx hb dX11_goNight_26 rfl (lv_at hl 1 rfl) ?_
            refine r_getr (ci := 10) (C := RX11) (T := TX11) (N := 20) hx hb hts iX11 hown hW rfl 65 0 rfl (g_lt hG (by decide)) (g_kd hG (by decide) rfl) (by decide) q0 (fun _ h9 => h9) (hP _ (List.mem_of_getElem? (i := 60) rfl)) rfl rfl dX11_goNight_27 ?_
            refine lv_iconst (v := 4) hx hb dX11_goNight_30 (by decide) ?_
            refine W.eq (g2 := F0 mM 31 ls [.int (nI 4), .ref (gA G 66), .long (lN k)]) rfl ?_
            refine r_lald hx hb hW 66 rfl (g_lt hG (by decide)) (g_kd hG (by decide) rfl) (g_ix hG (c := 560) (by decide) rfl (n_inI (by omega) (by decide))) (lN (B 4)) ((congrFun (e_jn (by decide) rfl) _).trans (by rw [n_clamp (by omega)]; exact hM 4 (by omega))) dX11_goNight_31 ?_
            refine W.lcmp hx hb dX11_goNight_32 ?_
            refine lv_if_ge (tgt := 154) hx hb dX11_goNight_33 (by decide) (fun c33 => ?_) (fun c33 => ?_)
            · skip
              rw [lc_ge] at c33
              have hke : k = B 4 := by rw [lN_int (by omega), lN_int (by omega)] at c33; omega
              refine lv_iconst (v := 0) hx hb dX11_goNight_154 (by decide) ?_
              refine lv_istore_n (lv' := [(2, .int 0), (0, .ref (gA G 65)), (1, .int (nI law))]) hx hb dX11_goNight_155 rfl hl (by decide) rfl (fun ls hl => ?_)
              rw [show (rj S 73 rt) = (rj (rj S 73 rt) 72 (gj S 72)) from ((rj_id (rj S 73 rt) 72).symm.trans (congrArg (fun z => rj (rj S 73 rt) 72 z) (e_jn (by decide) rfl)))] at hW
              have L156 : ∀ (n : Nat) (v : Nat) (rx : Nat → Int64) (H : Heap) (locs : List Loc) (ls : Array Slot), (1000 - v) < n → v ≤ 1000 → (∀ u, u < v → rx u = lN (W2 u)) → Wd D (AW G s.heap.size) s G (rj (rj S 73 rt) 72 rx) H locs → lv_has ls 8 [(2, .int (nI v)), (0, .ref (gA G 65)), (1, .int (nI law))] → W pP l eE (headSpec wsX11_goNight rmX11_goNight).room s mM ([.ref (gA G 65), .int (nI law)] : List Value).toArray bl mT cD H locs 0 0 Q0 (F0 mM 156 ls []) := by
                intro n
                induction n with
                | zero => intro v rx H locs ls hm; exact absurd hm (Nat.not_lt_zero _)
                | succ n ih156 =>
                  intro v rx H locs ls hm156 hv hx2 hW hl
                  refine lv_iload_n hx hb dX11_goNight_156 rfl (lv_at hl 0 rfl) ?_
                  refine lv_sipush (v := 999) hx hb dX11_goNight_157 (by decide) ?_
                  refine lv_icmp_gt (tgt := 181) hx hb dX11_goNight_160 (by decide) (fun c160 => ?_) (fun c160 => ?_)
                  · skip
                    have hve : v = 1000 := by
                      have h9 := (n_lt (a := 999) (b := v) (by omega) (by omega)).mp c160
                      omega
                    refine lv_aload_n hx hb dX11_goNight_181 rfl (lv_at hl 1 rfl) ?_
                    refine lv_dup hx hb dX11_goNight_182 rfl ?_
                    refine r_getl (ci := 10) (C := RX11) (T := TX11) (N := 20) hx hb hts iX11 hown hW rfl 65 17 rfl (g_lt hG (by decide)) (g_kd hG (by decide) rfl) (by decide) q1 (fun _ h9 => h9) (lN A) ((congrFun (e_jn (by decide) (e_jn (by decide) rfl)) 17).trans hA17) rfl rfl dX11_goNight_183 ?_
                    refine lv_aload_n hx hb dX11_goNight_186 rfl (lv_at hl 1 rfl) ?_
                    refine r_calll hW hA (va_runV (As := []) (rest := [.long (lN A), .ref (gA G 65)]) ⟨hx, hb, hml, hown, hts⟩ (t_X11_oddsInAll l D G (rj (rj S 73 rt) 72 rx) _ hG hP B c hB1 hc (fun k hk => (congrFun (e_jn (by decide) (e_jn (by decide) rfl)) k).trans (hM k hk))) (cwV 0 hts gX11_goNight_X11_oddsInAll rfl rfl rfl (by decide +kernel) ⟨Nat.le_of_ble_eq_true rfl, Nat.le_of_ble_eq_true rfl⟩) (r_preV (k := 65) hA hW (ci := 10) (C := RX11) (T := TX11) (N := 20) rfl rfl (g_lt hG (by decide)) (g_kd hG (by decide) rfl) rfl rfl) rfl rfl hl.1 rfl (lv_room (Nat.le_of_ble_eq_true rfl)) dX11_goNight_187 ⟨Nat.zero_le _, Nat.zero_le _⟩) (fun r187 S187 H locs hp187 hW => ?_)
                    obtain ⟨rfl, hs187⟩ := hp187
                    rw [hs187] at hW
                    refine lv_lmul hx hb dX11_goNight_190 ?_
                    rw [show (((lN A) * (lN (sT (B 4) (fun i => B (11 + i))))) : Int64) = (lN (A * (sT (B 4) (fun i => B (11 + i))))) from lN_mul A (sT (B 4) (fun i => B (11 + i)))]
                    refine r_putl (ci := 10) (C := RX11) (T := TX11) (N := 20) hx hb hts iX11 tyX11 tyX11_ok nmX11 hown hW rfl 65 17 rfl (g_lt hG (by decide)) (g_kd hG (by decide) rfl) (by decide) q1 (fun _ h9 => h9) rfl (tyX11_ok 17 (by decide)) rfl rfl (rj (rj (rj S 73 rt) 72 rx) 65 (va_up (gj S 65) 17 (lN (A * (sT (B 4) (fun i => B (11 + i))))))) (gj S 65) (va_up (gj S 65) 17 (lN (A * (sT (B 4) (fun i => B (11 + i)))))) (e_jn (by decide) (e_jn (by decide) rfl)) (e_js _ _ _) rfl rfl rfl (Nat.le_of_ble_eq_true rfl) rfl c_j0 dX11_goNight_191 (fun H locs hW => ?_)
                    rw [← hQ0]
                    refine r_vret hx hb hr hlocks hW ?_ dX11_goNight_194
                    subst hke
                    rw [hve] at hx2
                    exact ⟨W2, fun v hv => (congrFun (e_jn (by decide) (e_js _ _ _)) v).trans (hx2 v hv), hd2, (congrFun (e_js _ _ _) 17).trans rfl, (ChW.rj (ChW.rj (ChW.rj ChW.rf (by decide)) (by decide)) (by decide))⟩
                  · skip
                    have hvl : v < 1000 := by
                      have h9 : ¬ 999 < v := fun z => c160 ((n_lt (a := 999) (b := v) (by omega) (by omega)).mpr z)
                      omega
                    refine lv_aload_n hx hb dX11_goNight_163 rfl (lv_at hl 1 rfl) ?_
                    refine r_getr (ci := 10) (C := RX11) (T := TX11) (N := 20) hx hb hts iX11 hown hW rfl 65 15 rfl (g_lt hG (by decide)) (g_kd hG (by decide) rfl) (by decide) q2 (fun _ h9 => h9) (hP _ (List.mem_of_getElem? (i := 66) rfl)) rfl rfl dX11_goNight_164 ?_
                    refine lv_iload_n hx hb dX11_goNight_167 rfl (lv_at hl 0 rfl) ?_
                    refine lv_aload_n hx hb dX11_goNight_168 rfl (lv_at hl 1 rfl) ?_
                    refine r_getr (ci := 10) (C := RX11) (T := TX11) (N := 20) hx hb hts iX11 hown hW rfl 65 16 rfl (g_lt hG (by decide)) (g_kd hG (by decide) rfl) (by decide) q3 (fun _ h9 => h9) (hP _ (List.mem_of_getElem? (i := 67) rfl)) rfl rfl dX11_goNight_169 ?_
                    refine lv_iload_n hx hb dX11_goNight_172 rfl (lv_at hl 0 rfl) ?_
                    refine r_lald hx hb hW 73 rfl (g_lt hG (by decide)) (g_kd hG (by decide) rfl) (g_ix hG (c := 1000) (by decide) rfl (n_inI (by omega) (by decide))) (lN (W2 v)) ((congrFun (e_jn (by decide) (e_js _ _ _)) _).trans (by rw [n_clamp (by omega)]; exact hrt v hvl)) dX11_goNight_173 ?_
                    refine r_last hx hb hW 72 rfl (g_lt hG (by decide)) (g_kd hG (by decide) rfl) (g_ix hG (c := 1000) (by decide) rfl (n_inI (by omega) (by decide))) (rj (rj S 73 rt) 72 (va_up rx ((nI v)).toNatClampNeg (lN (W2 v)))) rx (e_js _ _ _) (e_js _ _ _) rfl rfl c_j dX11_goNight_174 (fun H locs hW => ?_)
                    rw [show ((nI v)).toNatClampNeg = v from n_clamp (by omega)] at hW
                    refine lv_iinc (v := (nI (v + 1))) (lv' := [(2, .int (nI (v + 1))), (0, .ref (gA G 65)), (1, .int (nI law))]) hx hb dX11_goNight_175 hl (k := 0) rfl (nI_1 v) (by decide) rfl (fun ls hl => ?_)
                    refine lv_goto (tgt := 156) hx hb dX11_goNight_178 (by decide) ?_
                    exact ih156 (v + 1) (va_up rx v (lN (W2 v))) _ _ ls (by omega) (by omega) (fun u hu => by
                                                                                by_cases eu : u = v
                                                                                · rw [eu, up_s]
                                                                                · rw [up_n _ _ eu]; exact hx2 u (by omega)) hW (lv_sub hl [0, 1, 2] rfl)
              exact L156 _ 0 (gj S 72) _ _ ls (Nat.lt_succ_self _) (Nat.zero_le _) (fun u hu => absurd hu (Nat.not_lt_zero _)) hW (lv_sub hl [0, 1, 2] rfl)
            · skip
              rw [lc_ge] at c33
              have hkl : k < B 4 := by rw [lN_int (by omega), lN_int (by omega)] at c33; omega
              have b7k := b7 k hkl
              have hqk := Qc_b hB1 hl2 k hkl
              refine lv_aload_n hx hb dX11_goNight_36 rfl (lv_at hl 1 rfl) ?_
              refine r_getr (ci := 10) (C := RX11) (T := TX11) (N := 20) hx hb hts iX11 hown hW rfl 65 0 rfl (g_lt hG (by decide)) (g_kd hG (by decide) rfl) (by decide) q0 (fun _ h9 => h9) (hP _ (List.mem_of_getElem? (i := 60) rfl)) rfl rfl dX11_goNight_37 ?_
              refine lv_iconst (v := 5) hx hb dX11_goNight_40 (by decide) ?_
              refine lv_iload_n hx hb dX11_goNight_41 rfl (lv_at hl 0 rfl) ?_
              refine lv_iadd hx hb dX11_goNight_42 ?_
              rw [show ((5 + (nI k)) : Int32) = (nI (5 + k)) from n_add 5 k]
              refine r_lald hx hb hW 66 rfl (g_lt hG (by decide)) (g_kd hG (by decide) rfl) (g_ix hG (c := 560) (by decide) rfl (n_inI (by omega) (by decide))) (lN (B (5 + k))) ((congrFun (e_jn (by decide) rfl) _).trans (by rw [n_clamp (by omega)]; exact hM (5 + k) (by omega))) dX11_goNight_43 ?_
              refine lv_l2i hx hb dX11_goNight_44 rfl ?_
              rw [show (Int64.toInt32 (lN (B (5 + k))) : Int32) = nI (B (5 + k)) from lN_i _]
              refine lv_istore_n (lv' := [(3, .int (nI (B (5 + k)))), (2, .int (nI k)), (0, .ref (gA G 65)), (1, .int (nI law))]) hx hb dX11_goNight_45 rfl hl (by decide) rfl (fun ls hl => ?_)
              refine lv_iload_n hx hb dX11_goNight_46 rfl (lv_at hl 0 rfl) ?_
              refine lv_aload_n hx hb dX11_goNight_47 rfl (lv_at hl 2 rfl) ?_
              refine r_getr (ci := 10) (C := RX11) (T := TX11) (N := 20) hx hb hts iX11 hown hW rfl 65 0 rfl (g_lt hG (by decide)) (g_kd hG (by decide) rfl) (by decide) q0 (fun _ h9 => h9) (hP _ (List.mem_of_getElem? (i := 60) rfl)) rfl rfl dX11_goNight_48 ?_
              refine lv_iconst (v := 1) hx hb dX11_goNight_51 (by decide) ?_
              refine W.eq (g2 := F0 mM 52 ls [.int (nI 1), .ref (gA G 66), .int (nI (B (5 + k)))]) rfl ?_
              refine r_lald hx hb hW 66 rfl (g_lt hG (by decide)) (g_kd hG (by decide) rfl) (g_ix hG (c := 560) (by decide) rfl (n_inI (by omega) (by decide))) (lN (B 1)) ((congrFun (e_jn (by decide) rfl) _).trans (by rw [n_clamp (by omega)]; exact hM 1 (by omega))) dX11_goNight_52 ?_
              refine lv_l2i hx hb dX11_goNight_53 rfl ?_
              rw [show (Int64.toInt32 (lN (B 1)) : Int32) = nI (B 1) from lN_i _]
              refine lv_imul hx hb dX11_goNight_54 ?_
              rw [show (((nI (B (5 + k))) * (nI (B 1))) : Int32) = (nI ((B (5 + k)) * (B 1))) from n_mul (B (5 + k)) (B 1)]
              have ez : ((nI ((B (5 + k)) * (B 1))) : Int32) = (nI (qb (Qc B law) k)) := rfl
              refine W.eq (g2 := F0 mM 55 ls [.int (nI (qb (Qc B law) k))]) (by rw [← ez]) ?_
              refine lv_istore (lv' := [(4, .int (nI (qb (Qc B law) k))), (3, .int (nI (B (5 + k)))), (2, .int (nI k)), (0, .ref (gA G 65)), (1, .int (nI law))]) hx hb dX11_goNight_55 hl (by decide) rfl (fun ls hl => ?_)
              refine lv_iload_n hx hb dX11_goNight_57 rfl (lv_at hl 1 rfl) ?_
              refine lv_if_ne (tgt := 65) hx hb dX11_goNight_58 (by decide) (fun c58 => ?_) (fun c58 => ?_)
              · skip
                rw [t_eq, show (0 : Int32).toInt = 0 from by decide] at c58
                have hz0 : ¬ B (5 + k) = 0 := by rw [n_toInt (by omega)] at c58; omega
                refine lv_aload_n hx hb dX11_goNight_65 rfl (lv_at hl 3 rfl) ?_
                refine lv_iload_n hx hb dX11_goNight_66 rfl (lv_at hl 4 rfl) ?_
                refine lv_iload_n hx hb dX11_goNight_67 rfl (lv_at hl 1 rfl) ?_
                refine r_calli hW hA (va_runV (As := [.int (nI law), .int (nI (B (5 + k)))]) (rest := []) ⟨hx, hb, hml, hown, hts⟩ (t_X11_dueOf l D G (rj S 73 rt) _ hG hP (B 3) (B 1) law (B (5 + k)) ((congrFun (e_jn (by decide) rfl) _).trans (hM 3 (by decide))) ((congrFun (e_jn (by decide) rfl) _).trans (hM 1 (by decide))) hl2 (by omega) (b7 k hkl).1 b5 b3) (cwV 2 hts gX11_goNight_X11_dueOf rfl rfl rfl (by decide +kernel) ⟨Nat.le_of_ble_eq_true rfl, Nat.le_of_ble_eq_true rfl⟩) (r_preV (k := 65) hA hW (ci := 10) (C := RX11) (T := TX11) (N := 20) rfl rfl (g_lt hG (by decide)) (g_kd hG (by decide) rfl) rfl rfl) rfl rfl hl.1 rfl (lv_room (Nat.le_of_ble_eq_true rfl)) dX11_goNight_68 ⟨Nat.zero_le _, Nat.zero_le _⟩) (fun r68 S68 H locs hp68 hW => ?_)
                obtain ⟨hs68, rfl⟩ := hp68
                rw [hs68] at hW
                have ez : ((nI (dueN (B 3) (B 1) law (B (5 + k)))) : Int32) = (nI (ql (Qc B law) k)) := by show _ = nI (if B (5 + k) = 0 then 0 else dueN (B 3) (B 1) law (B (5 + k))); rw [if_neg hz0]
                refine W.eq (g2 := F0 mM 71 ls [.int (nI (ql (Qc B law) k))]) (by rw [← ez]) ?_
                refine lv_istore (lv' := [(5, .int (nI (ql (Qc B law) k))), (4, .int (nI (qb (Qc B law) k))), (3, .int (nI (B (5 + k)))), (2, .int (nI k)), (0, .ref (gA G 65)), (1, .int (nI law))]) hx hb dX11_goNight_71 hl (by decide) rfl (fun ls hl => ?_)
                refine lv_iload hx hb dX11_goNight_73 (lv_at hl 1 rfl) ?_
                refine lv_istore (lv' := [(6, .int (nI (qb (Qc B law) k))), (5, .int (nI (ql (Qc B law) k))), (4, .int (nI (qb (Qc B law) k))), (3, .int (nI (B (5 + k)))), (2, .int (nI k)), (0, .ref (gA G 65)), (1, .int (nI law))]) hx hb dX11_goNight_75 hl (by decide) rfl (fun ls hl => ?_)
                have L77 : ∀ (n : Nat) (v : Nat) (W3 : Nat → Nat) (ru : Nat → Int64) (H : Heap) (locs : List Loc) (ls : Array Slot), (1000 - v) < n → qb (Qc B law) k ≤ v → v ≤ 1000 → (∀ v, v < 1000 → ru v = lN (W3 v)) → (∀ g, dot 1000 W3 g = dot 1000 W0 (prt (Qc B law) 999 g k) + sT v (fun u => if qb (Qc B law) k ≤ u then W0 u * (qo (Qc B law) k * g (min 999 (u - qb (Qc B law) k + ql (Qc B law) k))) else 0)) → Wd D (AW G s.heap.size) s G (rj S 73 ru) H locs → lv_has ls 8 [(6, .int (nI v)), (4, .int (nI (qb (Qc B law) k))), (5, .int (nI (ql (Qc B law) k))), (2, .int (nI k)), (0, .ref (gA G 65)), (1, .int (nI law))] → W pP l eE (headSpec wsX11_goNight rmX11_goNight).room s mM ([.ref (gA G 65), .int (nI law)] : List Value).toArray bl mT cD H locs 0 0 Q0 (F0 mM 77 ls []) := by
                  intro n
                  induction n with
                  | zero => intro v W3 ru H locs ls hm; exact absurd hm (Nat.not_lt_zero _)
                  | succ n ih77 =>
                    intro v W3 ru H locs ls hm77 hv1 hv hru hd3 hW hl
                    refine lv_iload hx hb dX11_goNight_77 (lv_at hl 0 rfl) ?_
                    refine lv_sipush (v := 999) hx hb dX11_goNight_79 (by decide) ?_
                    refine lv_icmp_gt (tgt := 148) hx hb dX11_goNight_82 (by decide) (fun c82 => ?_) (fun c82 => ?_)
                    · skip
                      have hve : v = 1000 := by
                        have h9 := (n_lt (a := 999) (b := v) (by omega) (by omega)).mp c82
                        omega
                      refine lv_iinc (v := (nI (k + 1))) (lv' := [(2, .int (nI (k + 1))), (6, .int (nI v)), (4, .int (nI (qb (Qc B law) k))), (5, .int (nI (ql (Qc B law) k))), (0, .ref (gA G 65)), (1, .int (nI law))]) hx hb dX11_goNight_148 hl (k := 3) rfl (nI_1 k) (by decide) rfl (fun ls hl => ?_)
                      refine lv_goto (tgt := 24) hx hb dX11_goNight_151 (by decide) ?_
                      exact ih24 (k + 1) W3 ru _ _ ls (by omega) hkl hru (fun g => by rw [hd3 g, hve]; exact (dot_prt k).symm) hW (lv_sub hl [0, 4, 5] rfl)
                    · skip
                      have hvl : v < 1000 := by
                        have h9 : ¬ 999 < v := fun z => c82 ((n_lt (a := 999) (b := v) (by omega) (by omega)).mpr z)
                        omega
                      refine lv_iload hx hb dX11_goNight_85 (lv_at hl 0 rfl) ?_
                      refine lv_iload hx hb dX11_goNight_87 (lv_at hl 1 rfl) ?_
                      refine lv_isub hx hb dX11_goNight_89 ?_
                      rw [show (((nI v) - (nI (qb (Qc B law) k))) : Int32) = (nI (v - qb (Qc B law) k)) from n_sub hv1]
                      refine lv_iload hx hb dX11_goNight_90 (lv_at hl 2 rfl) ?_
                      refine lv_iadd hx hb dX11_goNight_92 ?_
                      rw [show (((nI (v - qb (Qc B law) k)) + (nI (ql (Qc B law) k))) : Int32) = (nI ((v - qb (Qc B law) k) + (ql (Qc B law) k))) from n_add (v - qb (Qc B law) k) (ql (Qc B law) k)]
                      refine lv_sipush (v := 999) hx hb dX11_goNight_93 (by decide) ?_
                      refine lv_icmp_le (tgt := 105) hx hb dX11_goNight_96 (by decide) (fun c96 => ?_) (fun c96 => ?_)
                      · skip
                        rw [t_le, show (999 : Int32).toInt = 999 from by decide] at c96
                        rw [n_toInt (by omega)] at c96
                        refine lv_iload hx hb dX11_goNight_105 (lv_at hl 0 rfl) ?_
                        refine lv_iload hx hb dX11_goNight_107 (lv_at hl 1 rfl) ?_
                        refine lv_isub hx hb dX11_goNight_109 ?_
                        rw [show (((nI v) - (nI (qb (Qc B law) k))) : Int32) = (nI (v - qb (Qc B law) k)) from n_sub hv1]
                        refine lv_iload hx hb dX11_goNight_110 (lv_at hl 2 rfl) ?_
                        refine lv_iadd hx hb dX11_goNight_112 ?_
                        rw [show (((nI (v - qb (Qc B law) k)) + (nI (ql (Qc B law) k))) : Int32) = (nI ((v - qb (Qc B law) k) + (ql (Qc B law) k))) from n_add (v - qb (Qc B law) k) (ql (Qc B law) k)]
                        have ez : ((nI ((v - qb (Qc B law) k) + (ql (Qc B law) k))) : Int32) = (nI (min 999 (v - qb (Qc B law) k + ql (Qc B law) k))) := by rw [show (min 999 (v - qb (Qc B law) k + ql (Qc B law) k)) = v - qb (Qc B law) k + ql (Qc B law) k by omega]
                        refine W.eq (g2 := F0 mM 113 ls [.int (nI (min 999 (v - qb (Qc B law) k + ql (Qc B law) k)))]) (by rw [← ez]) ?_
                        refine lv_istore (lv' := [(7, .int (nI (min 999 (v - qb (Qc B law) k + ql (Qc B law) k)))), (6, .int (nI v)), (4, .int (nI (qb (Qc B law) k))), (5, .int (nI (ql (Qc B law) k))), (2, .int (nI k)), (0, .ref (gA G 65)), (1, .int (nI law))]) hx hb dX11_goNight_113 hl (by decide) rfl (fun ls hl => ?_)
                        refine lv_aload_n hx hb dX11_goNight_115 rfl (lv_at hl 5 rfl) ?_
                        refine r_getr (ci := 10) (C := RX11) (T := TX11) (N := 20) hx hb hts iX11 hown hW rfl 65 16 rfl (g_lt hG (by decide)) (g_kd hG (by decide) rfl) (by decide) q3 (fun _ h9 => h9) (hP _ (List.mem_of_getElem? (i := 67) rfl)) rfl rfl dX11_goNight_116 ?_
                        refine lv_iload hx hb dX11_goNight_119 (lv_at hl 0 rfl) ?_
                        refine lv_dup2_11 hx hb dX11_goNight_121 rfl rfl ?_
                        refine r_lald hx hb hW 73 rfl (g_lt hG (by decide)) (g_kd hG (by decide) rfl) (g_ix hG (c := 1000) (by decide) rfl (n_inI (by omega) (by decide))) (lN (W3 (min 999 (v - qb (Qc B law) k + ql (Qc B law) k)))) ((congrFun (e_js _ _ _) _).trans (by rw [n_clamp (by omega)]; exact hru _ (by omega))) dX11_goNight_122 ?_
                        refine lv_aload_n hx hb dX11_goNight_123 rfl (lv_at hl 5 rfl) ?_
                        refine r_getr (ci := 10) (C := RX11) (T := TX11) (N := 20) hx hb hts iX11 hown hW rfl 65 15 rfl (g_lt hG (by decide)) (g_kd hG (by decide) rfl) (by decide) q2 (fun _ h9 => h9) (hP _ (List.mem_of_getElem? (i := 66) rfl)) rfl rfl dX11_goNight_124 ?_
                        refine lv_iload hx hb dX11_goNight_127 (lv_at hl 1 rfl) ?_
                        refine r_lald hx hb hW 72 rfl (g_lt hG (by decide)) (g_kd hG (by decide) rfl) (g_ix hG (c := 1000) (by decide) rfl (n_inI (by omega) (by decide))) (lN (W0 v)) ((congrFun (e_jn (by decide) rfl) _).trans (by rw [n_clamp (by omega)]; exact hwy v hvl)) dX11_goNight_129 ?_
                        refine lv_aload_n hx hb dX11_goNight_130 rfl (lv_at hl 5 rfl) ?_
                        refine r_getr (ci := 10) (C := RX11) (T := TX11) (N := 20) hx hb hts iX11 hown hW rfl 65 0 rfl (g_lt hG (by decide)) (g_kd hG (by decide) rfl) (by decide) q0 (fun _ h9 => h9) (hP _ (List.mem_of_getElem? (i := 60) rfl)) rfl rfl dX11_goNight_131 ?_
                        refine lv_bipush (v := 11) hx hb dX11_goNight_134 (by decide) ?_
                        refine lv_iload_n hx hb dX11_goNight_136 rfl (lv_at hl 4 rfl) ?_
                        refine lv_iadd hx hb dX11_goNight_137 ?_
                        rw [show ((11 + (nI k)) : Int32) = (nI (11 + k)) from n_add 11 k]
                        refine r_lald hx hb hW 66 rfl (g_lt hG (by decide)) (g_kd hG (by decide) rfl) (g_ix hG (c := 560) (by decide) rfl (n_inI (by omega) (by decide))) (lN (B (11 + k))) ((congrFun (e_jn (by decide) rfl) _).trans (by rw [n_clamp (by omega)]; exact hM (11 + k) (by omega))) dX11_goNight_138 ?_
                        refine lv_lmul hx hb dX11_goNight_139 ?_
                        rw [show (((lN (W0 v)) * (lN (B (11 + k)))) : Int64) = (lN ((W0 v) * (B (11 + k)))) from lN_mul (W0 v) (B (11 + k))]
                        refine lv_ladd hx hb dX11_goNight_140 ?_
                        rw [show (((lN (W3 (min 999 (v - qb (Qc B law) k + ql (Qc B law) k)))) + (lN ((W0 v) * (B (11 + k))))) : Int64) = (lN ((W3 (min 999 (v - qb (Qc B law) k + ql (Qc B law) k))) + ((W0 v) * (B (11 + k))))) from lN_add (W3 (min 999 (v - qb (Qc B law) k + ql (Qc B law) k))) ((W0 v) * (B (11 + k)))]
                        refine r_last hx hb hW 73 rfl (g_lt hG (by decide)) (g_kd hG (by decide) rfl) (g_ix hG (c := 1000) (by decide) rfl (n_inI (by omega) (by decide))) (rj S 73 (va_up ru ((nI (min 999 (v - qb (Qc B law) k + ql (Qc B law) k)))).toNatClampNeg (lN ((W3 (min 999 (v - qb (Qc B law) k + ql (Qc B law) k))) + ((W0 v) * (B (11 + k))))))) ru (e_js _ _ _) (e_js _ _ _) rfl rfl c_j dX11_goNight_141 (fun H locs hW => ?_)
                        rw [show ((nI (min 999 (v - qb (Qc B law) k + ql (Qc B law) k)))).toNatClampNeg = (min 999 (v - qb (Qc B law) k + ql (Qc B law) k)) from n_clamp (by omega)] at hW
                        refine lv_iinc (v := (nI (v + 1))) (lv' := [(6, .int (nI (v + 1))), (7, .int (nI (min 999 (v - qb (Qc B law) k + ql (Qc B law) k)))), (4, .int (nI (qb (Qc B law) k))), (5, .int (nI (ql (Qc B law) k))), (2, .int (nI k)), (0, .ref (gA G 65)), (1, .int (nI law))]) hx hb dX11_goNight_142 hl (k := 1) rfl (nI_1 v) (by decide) rfl (fun ls hl => ?_)
                        refine lv_goto (tgt := 77) hx hb dX11_goNight_145 (by decide) ?_
                        exact ih77 (v + 1) (fun u => if u = (min 999 (v - qb (Qc B law) k + ql (Qc B law) k)) then W3 u + W0 v * qo (Qc B law) k else W3 u) (va_up ru (min 999 (v - qb (Qc B law) k + ql (Qc B law) k)) (lN ((W3 (min 999 (v - qb (Qc B law) k + ql (Qc B law) k))) + ((W0 v) * (B (11 + k)))))) _ _ ls (by omega) (by omega) (by omega) (fun u hu => by
                                                                                by_cases eu : u = (min 999 (v - qb (Qc B law) k + ql (Qc B law) k))
                                                                                · rw [eu, up_s, if_pos rfl]; rfl
                                                                                · rw [up_n _ _ eu, if_neg eu]; exact hru u hu) (fun g => by rw [dot_up (by omega), hd3 g]; show _ = _ + (sT v _ + (if qb (Qc B law) k ≤ v then _ else 0)); rw [if_pos hv1, Nat.mul_assoc]; omega) hW (lv_sub hl [0, 2, 3, 4, 5, 6] rfl)
                      · skip
                        rw [t_le, show (999 : Int32).toInt = 999 from by decide] at c96
                        rw [n_toInt (by omega)] at c96
                        refine lv_sipush (v := 999) hx hb dX11_goNight_99 (by decide) ?_
                        refine lv_goto (tgt := 113) hx hb dX11_goNight_102 (by decide) ?_
                        have ez : (999 : Int32) = (nI (min 999 (v - qb (Qc B law) k + ql (Qc B law) k))) := by rw [show (min 999 (v - qb (Qc B law) k + ql (Qc B law) k)) = 999 by omega]; rfl
                        refine W.eq (g2 := F0 mM 113 ls [.int (nI (min 999 (v - qb (Qc B law) k + ql (Qc B law) k)))]) (by rw [← ez]) ?_
                        refine lv_istore (lv' := [(7, .int (nI (min 999 (v - qb (Qc B law) k + ql (Qc B law) k)))), (6, .int (nI v)), (4, .int (nI (qb (Qc B law) k))), (5, .int (nI (ql (Qc B law) k))), (2, .int (nI k)), (0, .ref (gA G 65)), (1, .int (nI law))]) hx hb dX11_goNight_113 hl (by decide) rfl (fun ls hl => ?_)
                        refine lv_aload_n hx hb dX11_goNight_115 rfl (lv_at hl 5 rfl) ?_
                        refine r_getr (ci := 10) (C := RX11) (T := TX11) (N := 20) hx hb hts iX11 hown hW rfl 65 16 rfl (g_lt hG (by decide)) (g_kd hG (by decide) rfl) (by decide) q3 (fun _ h9 => h9) (hP _ (List.mem_of_getElem? (i := 67) rfl)) rfl rfl dX11_goNight_116 ?_
                        refine lv_iload hx hb dX11_goNight_119 (lv_at hl 0 rfl) ?_
                        refine lv_dup2_11 hx hb dX11_goNight_121 rfl rfl ?_
                        refine r_lald hx hb hW 73 rfl (g_lt hG (by decide)) (g_kd hG (by decide) rfl) (g_ix hG (c := 1000) (by decide) rfl (n_inI (by omega) (by decide))) (lN (W3 (min 999 (v - qb (Qc B law) k + ql (Qc B law) k)))) ((congrFun (e_js _ _ _) _).trans (by rw [n_clamp (by omega)]; exact hru _ (by omega))) dX11_goNight_122 ?_
                        refine lv_aload_n hx hb dX11_goNight_123 rfl (lv_at hl 5 rfl) ?_
                        refine r_getr (ci := 10) (C := RX11) (T := TX11) (N := 20) hx hb hts iX11 hown hW rfl 65 15 rfl (g_lt hG (by decide)) (g_kd hG (by decide) rfl) (by decide) q2 (fun _ h9 => h9) (hP _ (List.mem_of_getElem? (i := 66) rfl)) rfl rfl dX11_goNight_124 ?_
                        refine lv_iload hx hb dX11_goNight_127 (lv_at hl 1 rfl) ?_
                        refine r_lald hx hb hW 72 rfl (g_lt hG (by decide)) (g_kd hG (by decide) rfl) (g_ix hG (c := 1000) (by decide) rfl (n_inI (by omega) (by decide))) (lN (W0 v)) ((congrFun (e_jn (by decide) rfl) _).trans (by rw [n_clamp (by omega)]; exact hwy v hvl)) dX11_goNight_129 ?_
                        refine lv_aload_n hx hb dX11_goNight_130 rfl (lv_at hl 5 rfl) ?_
                        refine r_getr (ci := 10) (C := RX11) (T := TX11) (N := 20) hx hb hts iX11 hown hW rfl 65 0 rfl (g_lt hG (by decide)) (g_kd hG (by decide) rfl) (by decide) q0 (fun _ h9 => h9) (hP _ (List.mem_of_getElem? (i := 60) rfl)) rfl rfl dX11_goNight_131 ?_
                        refine lv_bipush (v := 11) hx hb dX11_goNight_134 (by decide) ?_
                        refine lv_iload_n hx hb dX11_goNight_136 rfl (lv_at hl 4 rfl) ?_
                        refine lv_iadd hx hb dX11_goNight_137 ?_
                        rw [show ((11 + (nI k)) : Int32) = (nI (11 + k)) from n_add 11 k]
                        refine r_lald hx hb hW 66 rfl (g_lt hG (by decide)) (g_kd hG (by decide) rfl) (g_ix hG (c := 560) (by decide) rfl (n_inI (by omega) (by decide))) (lN (B (11 + k))) ((congrFun (e_jn (by decide) rfl) _).trans (by rw [n_clamp (by omega)]; exact hM (11 + k) (by omega))) dX11_goNight_138 ?_
                        refine lv_lmul hx hb dX11_goNight_139 ?_
                        rw [show (((lN (W0 v)) * (lN (B (11 + k)))) : Int64) = (lN ((W0 v) * (B (11 + k)))) from lN_mul (W0 v) (B (11 + k))]
                        refine lv_ladd hx hb dX11_goNight_140 ?_
                        rw [show (((lN (W3 (min 999 (v - qb (Qc B law) k + ql (Qc B law) k)))) + (lN ((W0 v) * (B (11 + k))))) : Int64) = (lN ((W3 (min 999 (v - qb (Qc B law) k + ql (Qc B law) k))) + ((W0 v) * (B (11 + k))))) from lN_add (W3 (min 999 (v - qb (Qc B law) k + ql (Qc B law) k))) ((W0 v) * (B (11 + k)))]
                        refine r_last hx hb hW 73 rfl (g_lt hG (by decide)) (g_kd hG (by decide) rfl) (g_ix hG (c := 1000) (by decide) rfl (n_inI (by omega) (by decide))) (rj S 73 (va_up ru ((nI (min 999 (v - qb (Qc B law) k + ql (Qc B law) k)))).toNatClampNeg (lN ((W3 (min 999 (v - qb (Qc B law) k + ql (Qc B law) k))) + ((W0 v) * (B (11 + k))))))) ru (e_js _ _ _) (e_js _ _ _) rfl rfl c_j dX11_goNight_141 (fun H locs hW => ?_)
                        rw [show ((nI (min 999 (v - qb (Qc B law) k + ql (Qc B law) k)))).toNatClampNeg = (min 999 (v - qb (Qc B law) k + ql (Qc B law) k)) from n_clamp (by omega)] at hW
                        refine lv_iinc (v := (nI (v + 1))) (lv' := [(6, .int (nI (v + 1))), (7, .int (nI (min 999 (v - qb (Qc B law) k + ql (Qc B law) k)))), (4, .int (nI (qb (Qc B law) k))), (5, .int (nI (ql (Qc B law) k))), (2, .int (nI k)), (0, .ref (gA G 65)), (1, .int (nI law))]) hx hb dX11_goNight_142 hl (k := 1) rfl (nI_1 v) (by decide) rfl (fun ls hl => ?_)
                        refine lv_goto (tgt := 77) hx hb dX11_goNight_145 (by decide) ?_
                        exact ih77 (v + 1) (fun u => if u = (min 999 (v - qb (Qc B law) k + ql (Qc B law) k)) then W3 u + W0 v * qo (Qc B law) k else W3 u) (va_up ru (min 999 (v - qb (Qc B law) k + ql (Qc B law) k)) (lN ((W3 (min 999 (v - qb (Qc B law) k + ql (Qc B law) k))) + ((W0 v) * (B (11 + k)))))) _ _ ls (by omega) (by omega) (by omega) (fun u hu => by
                                                                                by_cases eu : u = (min 999 (v - qb (Qc B law) k + ql (Qc B law) k))
                                                                                · rw [eu, up_s, if_pos rfl]; rfl
                                                                                · rw [up_n _ _ eu, if_neg eu]; exact hru u hu) (fun g => by rw [dot_up (by omega), hd3 g]; show _ = _ + (sT v _ + (if qb (Qc B law) k ≤ v then _ else 0)); rw [if_pos hv1, Nat.mul_assoc]; omega) hW (lv_sub hl [0, 2, 3, 4, 5, 6] rfl)
                exact L77 _ (qb (Qc B law) k) W2 rt _ _ ls (Nat.lt_succ_self _) (Nat.le_refl _) (by omega) hrt (fun g => by rw [hd2 g, sT_cg (h := fun _ => 0) _ (fun u hu => if_neg (by omega)), sT_0, Nat.add_zero]) hW (lv_sub hl [0, 2, 1, 4, 5, 6] rfl)
              · skip
                rw [t_eq, show (0 : Int32).toInt = 0 from by decide] at c58
                have hz0 : B (5 + k) = 0 := by rw [n_toInt (by omega)] at c58; omega
                refine lv_iconst (v := 0) hx hb dX11_goNight_61 (by decide) ?_
                refine lv_goto (tgt := 71) hx hb dX11_goNight_62 (by decide) ?_
                have ez : (0 : Int32) = (nI (ql (Qc B law) k)) := by show _ = nI (if B (5 + k) = 0 then 0 else dueN (B 3) (B 1) law (B (5 + k))); rw [if_pos hz0]; rfl
                refine W.eq (g2 := F0 mM 71 ls [.int (nI (ql (Qc B law) k))]) (by rw [← ez]) ?_
                refine lv_istore (lv' := [(5, .int (nI (ql (Qc B law) k))), (4, .int (nI (qb (Qc B law) k))), (3, .int (nI (B (5 + k)))), (2, .int (nI k)), (0, .ref (gA G 65)), (1, .int (nI law))]) hx hb dX11_goNight_71 hl (by decide) rfl (fun ls hl => ?_)
                refine lv_iload hx hb dX11_goNight_73 (lv_at hl 1 rfl) ?_
                refine lv_istore (lv' := [(6, .int (nI (qb (Qc B law) k))), (5, .int (nI (ql (Qc B law) k))), (4, .int (nI (qb (Qc B law) k))), (3, .int (nI (B (5 + k)))), (2, .int (nI k)), (0, .ref (gA G 65)), (1, .int (nI law))]) hx hb dX11_goNight_75 hl (by decide) rfl (fun ls hl => ?_)
                have L77 : ∀ (n : Nat) (v : Nat) (W3 : Nat → Nat) (ru : Nat → Int64) (H : Heap) (locs : List Loc) (ls : Array Slot), (1000 - v) < n → qb (Qc B law) k ≤ v → v ≤ 1000 → (∀ v, v < 1000 → ru v = lN (W3 v)) → (∀ g, dot 1000 W3 g = dot 1000 W0 (prt (Qc B law) 999 g k) + sT v (fun u => if qb (Qc B law) k ≤ u then W0 u * (qo (Qc B law) k * g (min 999 (u - qb (Qc B law) k + ql (Qc B law) k))) else 0)) → Wd D (AW G s.heap.size) s G (rj S 73 ru) H locs → lv_has ls 8 [(6, .int (nI v)), (4, .int (nI (qb (Qc B law) k))), (5, .int (nI (ql (Qc B law) k))), (2, .int (nI k)), (0, .ref (gA G 65)), (1, .int (nI law))] → W pP l eE (headSpec wsX11_goNight rmX11_goNight).room s mM ([.ref (gA G 65), .int (nI law)] : List Value).toArray bl mT cD H locs 0 0 Q0 (F0 mM 77 ls []) := by
                  intro n
                  induction n with
                  | zero => intro v W3 ru H locs ls hm; exact absurd hm (Nat.not_lt_zero _)
                  | succ n ih77 =>
                    intro v W3 ru H locs ls hm77 hv1 hv hru hd3 hW hl
                    refine lv_iload hx hb dX11_goNight_77 (lv_at hl 0 rfl) ?_
                    refine lv_sipush (v := 999) hx hb dX11_goNight_79 (by decide) ?_
                    refine lv_icmp_gt (tgt := 148) hx hb dX11_goNight_82 (by decide) (fun c82 => ?_) (fun c82 => ?_)
                    · skip
                      have hve : v = 1000 := by
                        have h9 := (n_lt (a := 999) (b := v) (by omega) (by omega)).mp c82
                        omega
                      refine lv_iinc (v := (nI (k + 1))) (lv' := [(2, .int (nI (k + 1))), (6, .int (nI v)), (4, .int (nI (qb (Qc B law) k))), (5, .int (nI (ql (Qc B law) k))), (0, .ref (gA G 65)), (1, .int (nI law))]) hx hb dX11_goNight_148 hl (k := 3) rfl (nI_1 k) (by decide) rfl (fun ls hl => ?_)
                      refine lv_goto (tgt := 24) hx hb dX11_goNight_151 (by decide) ?_
                      exact ih24 (k + 1) W3 ru _ _ ls (by omega) hkl hru (fun g => by rw [hd3 g, hve]; exact (dot_prt k).symm) hW (lv_sub hl [0, 4, 5] rfl)
                    · skip
                      have hvl : v < 1000 := by
                        have h9 : ¬ 999 < v := fun z => c82 ((n_lt (a := 999) (b := v) (by omega) (by omega)).mpr z)
                        omega
                      refine lv_iload hx hb dX11_goNight_85 (lv_at hl 0 rfl) ?_
                      refine lv_iload hx hb dX11_goNight_87 (lv_at hl 1 rfl) ?_
                      refine lv_isub hx hb dX11_goNight_89 ?_
                      rw [show (((nI v) - (nI (qb (Qc B law) k))) : Int32) = (nI (v - qb (Qc B law) k)) from n_sub hv1]
                      refine lv_iload hx hb dX11_goNight_90 (lv_at hl 2 rfl) ?_
                      refine lv_iadd hx hb dX11_goNight_92 ?_
                      rw [show (((nI (v - qb (Qc B law) k)) + (nI (ql (Qc B law) k))) : Int32) = (nI ((v - qb (Qc B law) k) + (ql (Qc B law) k))) from n_add (v - qb (Qc B law) k) (ql (Qc B law) k)]
                      refine lv_sipush (v := 999) hx hb dX11_goNight_93 (by decide) ?_
                      refine lv_icmp_le (tgt := 105) hx hb dX11_goNight_96 (by decide) (fun c96 => ?_) (fun c96 => ?_)
                      · skip
                        rw [t_le, show (999 : Int32).toInt = 999 from by decide] at c96
                        rw [n_toInt (by omega)] at c96
                        refine lv_iload hx hb dX11_goNight_105 (lv_at hl 0 rfl) ?_
                        refine lv_iload hx hb dX11_goNight_107 (lv_at hl 1 rfl) ?_
                        refine lv_isub hx hb dX11_goNight_109 ?_
                        rw [show (((nI v) - (nI (qb (Qc B law) k))) : Int32) = (nI (v - qb (Qc B law) k)) from n_sub hv1]
                        refine lv_iload hx hb dX11_goNight_110 (lv_at hl 2 rfl) ?_
                        refine lv_iadd hx hb dX11_goNight_112 ?_
                        rw [show (((nI (v - qb (Qc B law) k)) + (nI (ql (Qc B law) k))) : Int32) = (nI ((v - qb (Qc B law) k) + (ql (Qc B law) k))) from n_add (v - qb (Qc B law) k) (ql (Qc B law) k)]
                        have ez : ((nI ((v - qb (Qc B law) k) + (ql (Qc B law) k))) : Int32) = (nI (min 999 (v - qb (Qc B law) k + ql (Qc B law) k))) := by rw [show (min 999 (v - qb (Qc B law) k + ql (Qc B law) k)) = v - qb (Qc B law) k + ql (Qc B law) k by omega]
                        refine W.eq (g2 := F0 mM 113 ls [.int (nI (min 999 (v - qb (Qc B law) k + ql (Qc B law) k)))]) (by rw [← ez]) ?_
                        refine lv_istore (lv' := [(7, .int (nI (min 999 (v - qb (Qc B law) k + ql (Qc B law) k)))), (6, .int (nI v)), (4, .int (nI (qb (Qc B law) k))), (5, .int (nI (ql (Qc B law) k))), (2, .int (nI k)), (0, .ref (gA G 65)), (1, .int (nI law))]) hx hb dX11_goNight_113 hl (by decide) rfl (fun ls hl => ?_)
                        refine lv_aload_n hx hb dX11_goNight_115 rfl (lv_at hl 5 rfl) ?_
                        refine r_getr (ci := 10) (C := RX11) (T := TX11) (N := 20) hx hb hts iX11 hown hW rfl 65 16 rfl (g_lt hG (by decide)) (g_kd hG (by decide) rfl) (by decide) q3 (fun _ h9 => h9) (hP _ (List.mem_of_getElem? (i := 67) rfl)) rfl rfl dX11_goNight_116 ?_
                        refine lv_iload hx hb dX11_goNight_119 (lv_at hl 0 rfl) ?_
                        refine lv_dup2_11 hx hb dX11_goNight_121 rfl rfl ?_
                        refine r_lald hx hb hW 73 rfl (g_lt hG (by decide)) (g_kd hG (by decide) rfl) (g_ix hG (c := 1000) (by decide) rfl (n_inI (by omega) (by decide))) (lN (W3 (min 999 (v - qb (Qc B law) k + ql (Qc B law) k)))) ((congrFun (e_js _ _ _) _).trans (by rw [n_clamp (by omega)]; exact hru _ (by omega))) dX11_goNight_122 ?_
                        refine lv_aload_n hx hb dX11_goNight_123 rfl (lv_at hl 5 rfl) ?_
                        refine r_getr (ci := 10) (C := RX11) (T := TX11) (N := 20) hx hb hts iX11 hown hW rfl 65 15 rfl (g_lt hG (by decide)) (g_kd hG (by decide) rfl) (by decide) q2 (fun _ h9 => h9) (hP _ (List.mem_of_getElem? (i := 66) rfl)) rfl rfl dX11_goNight_124 ?_
                        refine lv_iload hx hb dX11_goNight_127 (lv_at hl 1 rfl) ?_
                        refine r_lald hx hb hW 72 rfl (g_lt hG (by decide)) (g_kd hG (by decide) rfl) (g_ix hG (c := 1000) (by decide) rfl (n_inI (by omega) (by decide))) (lN (W0 v)) ((congrFun (e_jn (by decide) rfl) _).trans (by rw [n_clamp (by omega)]; exact hwy v hvl)) dX11_goNight_129 ?_
                        refine lv_aload_n hx hb dX11_goNight_130 rfl (lv_at hl 5 rfl) ?_
                        refine r_getr (ci := 10) (C := RX11) (T := TX11) (N := 20) hx hb hts iX11 hown hW rfl 65 0 rfl (g_lt hG (by decide)) (g_kd hG (by decide) rfl) (by decide) q0 (fun _ h9 => h9) (hP _ (List.mem_of_getElem? (i := 60) rfl)) rfl rfl dX11_goNight_131 ?_
                        refine lv_bipush (v := 11) hx hb dX11_goNight_134 (by decide) ?_
                        refine lv_iload_n hx hb dX11_goNight_136 rfl (lv_at hl 4 rfl) ?_
                        refine lv_iadd hx hb dX11_goNight_137 ?_
                        rw [show ((11 + (nI k)) : Int32) = (nI (11 + k)) from n_add 11 k]
                        refine r_lald hx hb hW 66 rfl (g_lt hG (by decide)) (g_kd hG (by decide) rfl) (g_ix hG (c := 560) (by decide) rfl (n_inI (by omega) (by decide))) (lN (B (11 + k))) ((congrFun (e_jn (by decide) rfl) _).trans (by rw [n_clamp (by omega)]; exact hM (11 + k) (by omega))) dX11_goNight_138 ?_
                        refine lv_lmul hx hb dX11_goNight_139 ?_
                        rw [show (((lN (W0 v)) * (lN (B (11 + k)))) : Int64) = (lN ((W0 v) * (B (11 + k)))) from lN_mul (W0 v) (B (11 + k))]
                        refine lv_ladd hx hb dX11_goNight_140 ?_
                        rw [show (((lN (W3 (min 999 (v - qb (Qc B law) k + ql (Qc B law) k)))) + (lN ((W0 v) * (B (11 + k))))) : Int64) = (lN ((W3 (min 999 (v - qb (Qc B law) k + ql (Qc B law) k))) + ((W0 v) * (B (11 + k))))) from lN_add (W3 (min 999 (v - qb (Qc B law) k + ql (Qc B law) k))) ((W0 v) * (B (11 + k)))]
                        refine r_last hx hb hW 73 rfl (g_lt hG (by decide)) (g_kd hG (by decide) rfl) (g_ix hG (c := 1000) (by decide) rfl (n_inI (by omega) (by decide))) (rj S 73 (va_up ru ((nI (min 999 (v - qb (Qc B law) k + ql (Qc B law) k)))).toNatClampNeg (lN ((W3 (min 999 (v - qb (Qc B law) k + ql (Qc B law) k))) + ((W0 v) * (B (11 + k))))))) ru (e_js _ _ _) (e_js _ _ _) rfl rfl c_j dX11_goNight_141 (fun H locs hW => ?_)
                        rw [show ((nI (min 999 (v - qb (Qc B law) k + ql (Qc B law) k)))).toNatClampNeg = (min 999 (v - qb (Qc B law) k + ql (Qc B law) k)) from n_clamp (by omega)] at hW
                        refine lv_iinc (v := (nI (v + 1))) (lv' := [(6, .int (nI (v + 1))), (7, .int (nI (min 999 (v - qb (Qc B law) k + ql (Qc B law) k)))), (4, .int (nI (qb (Qc B law) k))), (5, .int (nI (ql (Qc B law) k))), (2, .int (nI k)), (0, .ref (gA G 65)), (1, .int (nI law))]) hx hb dX11_goNight_142 hl (k := 1) rfl (nI_1 v) (by decide) rfl (fun ls hl => ?_)
                        refine lv_goto (tgt := 77) hx hb dX11_goNight_145 (by decide) ?_
                        exact ih77 (v + 1) (fun u => if u = (min 999 (v - qb (Qc B law) k + ql (Qc B law) k)) then W3 u + W0 v * qo (Qc B law) k else W3 u) (va_up ru (min 999 (v - qb (Qc B law) k + ql (Qc B law) k)) (lN ((W3 (min 999 (v - qb (Qc B law) k + ql (Qc B law) k))) + ((W0 v) * (B (11 + k)))))) _ _ ls (by omega) (by omega) (by omega) (fun u hu => by
                                                                                by_cases eu : u = (min 999 (v - qb (Qc B law) k + ql (Qc B law) k))
                                                                                · rw [eu, up_s, if_pos rfl]; rfl
                                                                                · rw [up_n _ _ eu, if_neg eu]; exact hru u hu) (fun g => by rw [dot_up (by omega), hd3 g]; show _ = _ + (sT v _ + (if qb (Qc B law) k ≤ v then _ else 0)); rw [if_pos hv1, Nat.mul_assoc]; omega) hW (lv_sub hl [0, 2, 3, 4, 5, 6] rfl)
                      · skip
                        rw [t_le, show (999 : Int32).toInt = 999 from by decide] at c96
                        rw [n_toInt (by omega)] at c96
                        refine lv_sipush (v := 999) hx hb dX11_goNight_99 (by decide) ?_
                        refine lv_goto (tgt := 113) hx hb dX11_goNight_102 (by decide) ?_
                        have ez : (999 : Int32) = (nI (min 999 (v - qb (Qc B law) k + ql (Qc B law) k))) := by rw [show (min 999 (v - qb (Qc B law) k + ql (Qc B law) k)) = 999 by omega]; rfl
                        refine W.eq (g2 := F0 mM 113 ls [.int (nI (min 999 (v - qb (Qc B law) k + ql (Qc B law) k)))]) (by rw [← ez]) ?_
                        refine lv_istore (lv' := [(7, .int (nI (min 999 (v - qb (Qc B law) k + ql (Qc B law) k)))), (6, .int (nI v)), (4, .int (nI (qb (Qc B law) k))), (5, .int (nI (ql (Qc B law) k))), (2, .int (nI k)), (0, .ref (gA G 65)), (1, .int (nI law))]) hx hb dX11_goNight_113 hl (by decide) rfl (fun ls hl => ?_)
                        refine lv_aload_n hx hb dX11_goNight_115 rfl (lv_at hl 5 rfl) ?_
                        refine r_getr (ci := 10) (C := RX11) (T := TX11) (N := 20) hx hb hts iX11 hown hW rfl 65 16 rfl (g_lt hG (by decide)) (g_kd hG (by decide) rfl) (by decide) q3 (fun _ h9 => h9) (hP _ (List.mem_of_getElem? (i := 67) rfl)) rfl rfl dX11_goNight_116 ?_
                        refine lv_iload hx hb dX11_goNight_119 (lv_at hl 0 rfl) ?_
                        refine lv_dup2_11 hx hb dX11_goNight_121 rfl rfl ?_
                        refine r_lald hx hb hW 73 rfl (g_lt hG (by decide)) (g_kd hG (by decide) rfl) (g_ix hG (c := 1000) (by decide) rfl (n_inI (by omega) (by decide))) (lN (W3 (min 999 (v - qb (Qc B law) k + ql (Qc B law) k)))) ((congrFun (e_js _ _ _) _).trans (by rw [n_clamp (by omega)]; exact hru _ (by omega))) dX11_goNight_122 ?_
                        refine lv_aload_n hx hb dX11_goNight_123 rfl (lv_at hl 5 rfl) ?_
                        refine r_getr (ci := 10) (C := RX11) (T := TX11) (N := 20) hx hb hts iX11 hown hW rfl 65 15 rfl (g_lt hG (by decide)) (g_kd hG (by decide) rfl) (by decide) q2 (fun _ h9 => h9) (hP _ (List.mem_of_getElem? (i := 66) rfl)) rfl rfl dX11_goNight_124 ?_
                        refine lv_iload hx hb dX11_goNight_127 (lv_at hl 1 rfl) ?_
                        refine r_lald hx hb hW 72 rfl (g_lt hG (by decide)) (g_kd hG (by decide) rfl) (g_ix hG (c := 1000) (by decide) rfl (n_inI (by omega) (by decide))) (lN (W0 v)) ((congrFun (e_jn (by decide) rfl) _).trans (by rw [n_clamp (by omega)]; exact hwy v hvl)) dX11_goNight_129 ?_
                        refine lv_aload_n hx hb dX11_goNight_130 rfl (lv_at hl 5 rfl) ?_
                        refine r_getr (ci := 10) (C := RX11) (T := TX11) (N := 20) hx hb hts iX11 hown hW rfl 65 0 rfl (g_lt hG (by decide)) (g_kd hG (by decide) rfl) (by decide) q0 (fun _ h9 => h9) (hP _ (List.mem_of_getElem? (i := 60) rfl)) rfl rfl dX11_goNight_131 ?_
                        refine lv_bipush (v := 11) hx hb dX11_goNight_134 (by decide) ?_
                        refine lv_iload_n hx hb dX11_goNight_136 rfl (lv_at hl 4 rfl) ?_
                        refine lv_iadd hx hb dX11_goNight_137 ?_
                        rw [show ((11 + (nI k)) : Int32) = (nI (11 + k)) from n_add 11 k]
                        refine r_lald hx hb hW 66 rfl (g_lt hG (by decide)) (g_kd hG (by decide) rfl) (g_ix hG (c := 560) (by decide) rfl (n_inI (by omega) (by decide))) (lN (B (11 + k))) ((congrFun (e_jn (by decide) rfl) _).trans (by rw [n_clamp (by omega)]; exact hM (11 + k) (by omega))) dX11_goNight_138 ?_
                        refine lv_lmul hx hb dX11_goNight_139 ?_
                        rw [show (((lN (W0 v)) * (lN (B (11 + k)))) : Int64) = (lN ((W0 v) * (B (11 + k)))) from lN_mul (W0 v) (B (11 + k))]
                        refine lv_ladd hx hb dX11_goNight_140 ?_
                        rw [show (((lN (W3 (min 999 (v - qb (Qc B law) k + ql (Qc B law) k)))) + (lN ((W0 v) * (B (11 + k))))) : Int64) = (lN ((W3 (min 999 (v - qb (Qc B law) k + ql (Qc B law) k))) + ((W0 v) * (B (11 + k))))) from lN_add (W3 (min 999 (v - qb (Qc B law) k + ql (Qc B law) k))) ((W0 v) * (B (11 + k)))]
                        refine r_last hx hb hW 73 rfl (g_lt hG (by decide)) (g_kd hG (by decide) rfl) (g_ix hG (c := 1000) (by decide) rfl (n_inI (by omega) (by decide))) (rj S 73 (va_up ru ((nI (min 999 (v - qb (Qc B law) k + ql (Qc B law) k)))).toNatClampNeg (lN ((W3 (min 999 (v - qb (Qc B law) k + ql (Qc B law) k))) + ((W0 v) * (B (11 + k))))))) ru (e_js _ _ _) (e_js _ _ _) rfl rfl c_j dX11_goNight_141 (fun H locs hW => ?_)
                        rw [show ((nI (min 999 (v - qb (Qc B law) k + ql (Qc B law) k)))).toNatClampNeg = (min 999 (v - qb (Qc B law) k + ql (Qc B law) k)) from n_clamp (by omega)] at hW
                        refine lv_iinc (v := (nI (v + 1))) (lv' := [(6, .int (nI (v + 1))), (7, .int (nI (min 999 (v - qb (Qc B law) k + ql (Qc B law) k)))), (4, .int (nI (qb (Qc B law) k))), (5, .int (nI (ql (Qc B law) k))), (2, .int (nI k)), (0, .ref (gA G 65)), (1, .int (nI law))]) hx hb dX11_goNight_142 hl (k := 1) rfl (nI_1 v) (by decide) rfl (fun ls hl => ?_)
                        refine lv_goto (tgt := 77) hx hb dX11_goNight_145 (by decide) ?_
                        exact ih77 (v + 1) (fun u => if u = (min 999 (v - qb (Qc B law) k + ql (Qc B law) k)) then W3 u + W0 v * qo (Qc B law) k else W3 u) (va_up ru (min 999 (v - qb (Qc B law) k + ql (Qc B law) k)) (lN ((W3 (min 999 (v - qb (Qc B law) k + ql (Qc B law) k))) + ((W0 v) * (B (11 + k)))))) _ _ ls (by omega) (by omega) (by omega) (fun u hu => by
                                                                                by_cases eu : u = (min 999 (v - qb (Qc B law) k + ql (Qc B law) k))
                                                                                · rw [eu, up_s, if_pos rfl]; rfl
                                                                                · rw [up_n _ _ eu, if_neg eu]; exact hru u hu) (fun g => by rw [dot_up (by omega), hd3 g]; show _ = _ + (sT v _ + (if qb (Qc B law) k ≤ v then _ else 0)); rw [if_pos hv1, Nat.mul_assoc]; omega) hW (lv_sub hl [0, 2, 3, 4, 5, 6] rfl)
                exact L77 _ (qb (Qc B law) k) W2 rt _ _ ls (Nat.lt_succ_self _) (Nat.le_refl _) (by omega) hrt (fun g => by rw [hd2 g, sT_cg (h := fun _ => 0) _ (fun u hu => if_neg (by omega)), sT_0, Nat.add_zero]) hW (lv_sub hl [0, 2, 1, 4, 5, 6] rfl)
        exact L24 _ 0 (fun _ => 0) rt _ _ ls (Nat.lt_succ_self _) (Nat.zero_le _) (fun v hv => hz v (by omega)) (fun g => by unfold dot; rw [show (fun v => (fun _ => 0) v * g v) = (fun _ => 0) from by funext v; exact Nat.zero_mul _, sT_0, show (fun v => W0 v * prt (Qc B law) 999 g 0 v) = (fun _ => 0) from by funext v; exact Nat.mul_zero _, sT_0]) hW (lv_sub hl [0, 1, 2] rfl)
      · skip
        have hvl : v < 1000 := by
          have h9 : ¬ 999 < v := fun z => c6 ((n_lt (a := 999) (b := v) (by omega) (by omega)).mpr z)
          omega
        refine lv_aload_n hx hb dX11_goNight_9 rfl (lv_at hl 1 rfl) ?_
        refine r_getr (ci := 10) (C := RX11) (T := TX11) (N := 20) hx hb hts iX11 hown hW rfl 65 16 rfl (g_lt hG (by decide)) (g_kd hG (by decide) rfl) (by decide) q3 (fun _ h9 => h9) (hP _ (List.mem_of_getElem? (i := 67) rfl)) rfl rfl dX11_goNight_10 ?_
        refine lv_iload_n hx hb dX11_goNight_13 rfl (lv_at hl 0 rfl) ?_
        refine lv_lconst (v := 0) hx hb dX11_goNight_14 (by decide) ?_
        refine r_last hx hb hW 73 rfl (g_lt hG (by decide)) (g_kd hG (by decide) rfl) (g_ix hG (c := 1000) (by decide) rfl (n_inI (by omega) (by decide))) (rj S 73 (va_up rt ((nI v)).toNatClampNeg 0)) rt (e_js _ _ _) (e_js _ _ _) rfl rfl c_j dX11_goNight_15 (fun H locs hW => ?_)
        rw [show ((nI v)).toNatClampNeg = v from n_clamp (by omega)] at hW
        refine lv_iinc (v := (nI (v + 1))) (lv' := [(2, .int (nI (v + 1))), (0, .ref (gA G 65)), (1, .int (nI law))]) hx hb dX11_goNight_16 hl (k := 0) rfl (nI_1 v) (by decide) rfl (fun ls hl => ?_)
        refine lv_goto (tgt := 2) hx hb dX11_goNight_19 (by decide) ?_
        exact ih2 (v + 1) (va_up rt v 0) _ _ ls (by omega) (by omega) (fun u hu => by
                                                                                by_cases eu : u = v
                                                                                · rw [eu, up_s]
                                                                                · rw [up_n _ _ eu]; exact hz u (by omega)) hW (lv_sub hl [0, 1, 2] rfl)
  exact L2 _ 0 (gj S 73) _ _ ls (Nat.lt_succ_self _) (Nat.zero_le _) (fun u hu => absurd hu (Nat.not_lt_zero _)) hW (lv_sub hl [0, 1, 2] rfl)
