/-- what the ways so far are worth behind, after j nights; cut ahead of night sd -/
def fwd (Q : Qt) (w sd ct : Nat) (g : Nat → Nat) (j : Nat) : Nat := if sd = 0 ∨ j + 1 ≤ sd then NN Q 999 g j w else NN Q 999 (fun v => NN Q 999 g (j + 1 - sd) (min 999 (v + ct))) (sd - 1) w
theorem fwd_at {Q : Qt} {w sd ct j : Nat} {g : Nat → Nat} (h : j + 1 = sd) : fwd Q w sd ct (fun v => stp Q 999 g (min 999 (v + ct))) j = fwd Q w sd ct g (j + 1) := by
  unfold fwd
  rw [if_pos (Or.inr (by omega)), if_neg (by omega), show j + 1 + 1 - sd = 1 by omega, show sd - 1 = j by omega]
  rfl
theorem fwd_no {Q : Qt} {w sd ct j : Nat} {g : Nat → Nat} (h : j + 1 ≠ sd) : fwd Q w sd ct (stp Q 999 g) j = fwd Q w sd ct g (j + 1) := by
  unfold fwd
  by_cases e : sd = 0 ∨ j + 1 ≤ sd
  · rw [if_pos e, if_pos (by omega)]; exact congrFun (NN_shift _ _ _ _) _
  · rw [if_neg e, if_neg (by omega), show j + 1 + 1 - sd = (j + 1 - sd) + 1 by omega]
    rw [show (fun v => NN Q 999 (stp Q 999 g) (j + 1 - sd) (min 999 (v + ct))) = (fun v => NN Q 999 g (j + 1 - sd + 1) (min 999 (v + ct))) from by funext v; exact congrFun (NN_shift _ _ _ _) _]
theorem sT_p {u : Nat} {g : Nat → Nat} (h : 1 ≤ u) : sT u g = sT (u - 1) g + g (u - 1) := by
  obtain ⟨k, rfl⟩ : ∃ k, u = k + 1 := ⟨u - 1, by omega⟩
  rfl
theorem n_m1 (x : Int32) : x + Int32.ofInt (-1) = x - 1 := by
  rw [show (Int32.ofInt (-1) : Int32) = -1 from by decide]; exact (Int32.sub_eq_add_neg x 1).symm
theorem up_if {rx : Nat → Int64} {W2 : Nat → Nat} {t v : Nat} (h : rx t = lN (W2 t)) : va_up rx v 0 t = lN (if t = v then 0 else W2 t) := by
  by_cases e : t = v
  · rw [if_pos e, e, up_s]; rfl
  · rw [if_neg e, up_n _ _ e]; exact h
def rmX11_safeWays : Jvm.Room := { frames := 2, cells := 0, slots := 0, locals := 51 }
set_option maxHeartbeats 4000000 in
set_option maxRecDepth 100000 in
theorem t_X11_safeWays (l : Launch) (D : Dc) (G : Gg) (S : Sg) (z : Nat) (hG : GrG G) (hP : GrP G S) (B : Nat → Nat) (c : Nat) (hB1 : BP1 B c) (hc : c < 100000) (hM : ∀ k, k < 140 → gj S 66 k = lN (B k)) (w n0 law sd ct : Nat) (hw9 : w ≤ 999) (hn8 : n0 ≤ 8) (hl2 : law ≤ 2) (hsd : sd ≤ n0) (hct : ct ≤ 99) : ML l yX11_safeWays wsX11_safeWays rmX11_safeWays D G S z [.ref (gA G 65), .int (nI w), .int (nI n0), .int (nI law), .int (nI sd), .int (nI ct)] (fun r S' => r = lN (if sd = 0 then fW B law n0 w else fCut B law n0 ct (sd - 1) w) ∧ gj S' 65 17 = lN (tot (Qc B law) ^ n0) ∧ ChW S S') := by
  refine Met.ofW (cc := cX11_safeWays) (maxL := 10) (ret := (some .long)) (by decide +kernel) rfl ?_
  intro pP eE s mM args bl mT cD s₁ bD hml hv
  obtain ⟨rfl, hv⟩ := hv
  have hz := hv.1
  subst hz
  have hx := bD.exec
  have hb := bD.bytes
  have hr := bD.returns
  have hts := atoms_spec (ws := wsX11_safeWays) bD.pre
  have hown : s.vm.findClass RX11 = some mM.cls := findClass_of_methodNamed bD.named
  have hlocks := bD.notSynchronized
  have hW := Wd.start hv
  have hA : ∀ q, s.heap.size ≤ q → AW G s.heap.size q := fun q h => Or.inr h
  have hl := lv_entry ([.ref (gA G 65), .int (nI w), .int (nI n0), .int (nI law), .int (nI sd), .int (nI ct)]) (n := 10) (Nat.le_of_ble_eq_true rfl)
  rw [lg_entry_eq]
  generalize (lg_sl ([.ref (gA G 65), .int (nI w), .int (nI n0), .int (nI law), .int (nI sd), .int (nI ct)]) ++ List.replicate (10 - (lg_sl ([.ref (gA G 65), .int (nI w), .int (nI n0), .int (nI law), .int (nI sd), .int (nI ct)])).length) Slot.unset).toArray = ls at hl ⊢
  have hl : lv_has ls 10 [(0, .ref (gA G 65)), (1, .int (nI w)), (2, .int (nI n0)), (3, .int (nI law)), (4, .int (nI sd)), (5, .int (nI ct))] := hl
  have q0 := hts (.fieldLink RX11 29 "WoodForTwoModel" "ways" "[J") (List.mem_of_getElem? (i := 1) rfl)
  have q1 := hts (.fieldLink RX11 188 "WoodForTwoModel" "all" "J") (List.mem_of_getElem? (i := 2) rfl)
  have iX11 : ∀ w ∈ wsX110, w ∈ wsX11_safeWays := fun _ h => List.mem_cons_of_mem _ (List.mem_append_right _ (h))
  generalize hQ0 : MQ bl _ _ s _ _ _ = Q0
  obtain ⟨b0, b1, b2, b3, b4, b5, b6, b7, b8, b9, b10, b11, b12⟩ := id hB1
  refine lv_iconst (v := 0) hx hb dX11_safeWays_0 (by decide) ?_
  refine lv_istore (lv' := [(6, .int 0), (0, .ref (gA G 65)), (1, .int (nI w)), (2, .int (nI n0)), (3, .int (nI law)), (4, .int (nI sd)), (5, .int (nI ct))]) hx hb dX11_safeWays_1 hl (by decide) rfl (fun ls hl => ?_)
  rw [show S = (rj S 72 (gj S 72)) from (rj_id S 72).symm] at hW
  have L3 : ∀ (n : Nat) (v : Nat) (rx : Nat → Int64) (H : Heap) (locs : List Loc) (ls : Array Slot), (1000 - v) < n → v ≤ 1000 → (∀ u, u < v → rx u = 0) → Wd D (AW G s.heap.size) s G (rj S 72 rx) H locs → lv_has ls 10 [(6, .int (nI v)), (0, .ref (gA G 65)), (1, .int (nI w)), (2, .int (nI n0)), (3, .int (nI law)), (4, .int (nI sd)), (5, .int (nI ct))] → W pP l eE (headSpec wsX11_safeWays rmX11_safeWays).room s mM ([.ref (gA G 65), .int (nI w), .int (nI n0), .int (nI law), .int (nI sd), .int (nI ct)] : List Value).toArray bl mT cD H locs 0 0 Q0 (F0 mM 3 ls []) := by
    intro n
    induction n with
    | zero => intro v rx H locs ls hm; exact absurd hm (Nat.not_lt_zero _)
    | succ n ih3 =>
      intro v rx H locs ls hm3 hv hz hW hl
      refine lv_iload hx hb dX11_safeWays_3 (lv_at hl 0 rfl) ?_
      refine lv_sipush (v := 999) hx hb dX11_safeWays_5 (by decide) ?_
      refine lv_icmp_gt (tgt := 25) hx hb dX11_safeWays_8 (by decide) (fun c8 => ?_) (fun c8 => ?_)
      · skip
        have hve : v = 1000 := by
          have h9 := (n_lt (a := 999) (b := v) (by omega) (by omega)).mp c8
          omega
        refine lv_aload_n hx hb dX11_safeWays_25 rfl (lv_at hl 1 rfl) ?_
        refine r_getr (ci := 10) (C := RX11) (T := TX11) (N := 20) hx hb hts iX11 hown hW rfl 65 15 rfl (g_lt hG (by decide)) (g_kd hG (by decide) rfl) (by decide) q0 (fun _ h9 => h9) (hP _ (List.mem_of_getElem? (i := 66) rfl)) rfl rfl dX11_safeWays_26 ?_
        refine lv_iload_n hx hb dX11_safeWays_29 rfl (lv_at hl 2 rfl) ?_
        refine lv_lconst (v := 1) hx hb dX11_safeWays_30 (by decide) ?_
        refine r_last hx hb hW 72 rfl (g_lt hG (by decide)) (g_kd hG (by decide) rfl) (g_ix hG (c := 1000) (by decide) rfl (n_inI (by omega) (by decide))) (rj S 72 (va_up rx ((nI w)).toNatClampNeg 1)) rx (e_js _ _ _) (e_js _ _ _) rfl rfl c_j dX11_safeWays_31 (fun H locs hW => ?_)
        rw [show ((nI w)).toNatClampNeg = w from n_clamp (by omega)] at hW
        refine lv_aload_n hx hb dX11_safeWays_32 rfl (lv_at hl 1 rfl) ?_
        refine lv_lconst (v := 1) hx hb dX11_safeWays_33 (by decide) ?_
        have ez : (1 : Int64) = (lN (tot (Qc B law) ^ 0)) := by rw [Nat.pow_zero]; rfl
        refine W.eq (g2 := F0 mM 34 ls [.long (lN (tot (Qc B law) ^ 0)), .ref (gA G 65)]) (by rw [← ez]) ?_
        refine r_putl (ci := 10) (C := RX11) (T := TX11) (N := 20) hx hb hts iX11 tyX11 tyX11_ok nmX11 hown hW rfl 65 17 rfl (g_lt hG (by decide)) (g_kd hG (by decide) rfl) (by decide) q1 (fun _ h9 => h9) rfl (tyX11_ok 17 (by decide)) rfl rfl (rj (rj S 72 (va_up rx w 1)) 65 (va_up (gj S 65) 17 (lN (tot (Qc B law) ^ 0)))) (gj S 65) (va_up (gj S 65) 17 (lN (tot (Qc B law) ^ 0))) (e_jn (by decide) rfl) (e_js _ _ _) rfl rfl rfl (Nat.le_of_ble_eq_true rfl) rfl c_j0 dX11_safeWays_34 (fun H locs hW => ?_)
        refine lv_iconst (v := 1) hx hb dX11_safeWays_37 (by decide) ?_
        refine lv_istore (lv' := [(6, .int 1), (0, .ref (gA G 65)), (1, .int (nI w)), (2, .int (nI n0)), (3, .int (nI law)), (4, .int (nI sd)), (5, .int (nI ct))]) hx hb dX11_safeWays_38 hl (by decide) rfl (fun ls hl => ?_)
        have L40 : ∀ (n : Nat) (j : Nat) (T : Sg) (V0 : Nat → Nat) (H : Heap) (locs : List Loc) (ls : Array Slot), (n0 - j) < n → j ≤ n0 → (∀ v, v < 1000 → gj T 72 v = lN (V0 v)) → (∀ g, dot 1000 V0 g = fwd (Qc B law) w sd ct g j) → gj T 65 17 = lN (tot (Qc B law) ^ j) → ChW S T → Wd D (AW G s.heap.size) s G T H locs → lv_has ls 10 [(6, .int (nI (j + 1))), (0, .ref (gA G 65)), (2, .int (nI n0)), (3, .int (nI law)), (4, .int (nI sd)), (5, .int (nI ct))] → W pP l eE (headSpec wsX11_safeWays rmX11_safeWays).room s mM ([.ref (gA G 65), .int (nI w), .int (nI n0), .int (nI law), .int (nI sd), .int (nI ct)] : List Value).toArray bl mT cD H locs 0 0 Q0 (F0 mM 40 ls []) := by
          intro n
          induction n with
          | zero => intro j T V0 H locs ls hm; exact absurd hm (Nat.not_lt_zero _)
          | succ n ih40 =>
            intro j T V0 H locs ls hm40 hj hwy hd hAl hCT hW hl
            have hP_T : GrP G T := fun q hq => by rw [hCT.1]; exact hP q hq
            have hM_T : ∀ k, k < 140 → gj T 66 k = lN (B k) := fun k hk => by rw [hCT.2.2 66 (by decide)]; exact hM k hk
            refine lv_iload hx hb dX11_safeWays_40 (lv_at hl 0 rfl) ?_
            refine lv_iload_n hx hb dX11_safeWays_42 rfl (lv_at hl 2 rfl) ?_
            refine lv_icmp_gt (tgt := 129) hx hb dX11_safeWays_43 (by decide) (fun c43 => ?_) (fun c43 => ?_)
            · skip
              have hjn : j = n0 := by
                have h9 := (n_lt (a := n0) (b := j + 1) (by omega) (by omega)).mp c43
                omega
              refine lv_lconst (v := 0) hx hb dX11_safeWays_129 (by decide) ?_
              refine lv_lstore (lv' := [(6, .long 0), (0, .ref (gA G 65)), (2, .int (nI n0)), (3, .int (nI law)), (4, .int (nI sd)), (5, .int (nI ct))]) hx hb dX11_safeWays_130 hl (by decide) rfl (fun ls hl => ?_)
              refine lv_iconst (v := 0) hx hb dX11_safeWays_132 (by decide) ?_
              refine lv_istore (lv' := [(8, .int 0), (6, .long 0), (0, .ref (gA G 65)), (2, .int (nI n0)), (3, .int (nI law)), (4, .int (nI sd)), (5, .int (nI ct))]) hx hb dX11_safeWays_133 hl (by decide) rfl (fun ls hl => ?_)
              have L135 : ∀ (n : Nat) (i : Nat) (H : Heap) (locs : List Loc) (ls : Array Slot), (1000 - i) < n → i ≤ 1000 → Wd D (AW G s.heap.size) s G T H locs → lv_has ls 10 [(8, .int (nI i)), (6, .long (lN (sT i V0))), (0, .ref (gA G 65))] → W pP l eE (headSpec wsX11_safeWays rmX11_safeWays).room s mM ([.ref (gA G 65), .int (nI w), .int (nI n0), .int (nI law), .int (nI sd), .int (nI ct)] : List Value).toArray bl mT cD H locs 0 0 Q0 (F0 mM 135 ls []) := by
                intro n
                induction n with
                | zero => intro i H locs ls hm; exact absurd hm (Nat.not_lt_zero _)
                | succ n ih135 =>
                  intro i H locs ls hm135 hi hW hl
                  refine lv_iload hx hb dX11_safeWays_135 (lv_at hl 0 rfl) ?_
                  refine lv_sipush (v := 999) hx hb dX11_safeWays_137 (by decide) ?_
                  refine lv_icmp_gt (tgt := 161) hx hb dX11_safeWays_140 (by decide) (fun c140 => ?_) (fun c140 => ?_)
                  · skip
                    have hve : i = 1000 := by
                      have h9 := (n_lt (a := 999) (b := i) (by omega) (by omega)).mp c140
                      omega
                    refine lv_lload hx hb dX11_safeWays_161 (lv_at hl 1 rfl) ?_
                    rw [← hQ0]
                    refine r_lret hx hb hr hlocks hW ?_ dX11_safeWays_163
                    subst hve
                    refine ⟨?_, by rw [← hjn]; exact hAl, hCT⟩
                    rw [show sT 1000 V0 = dot 1000 V0 (fun _ => 1) from by unfold dot; exact sT_cg _ (fun i _ => (Nat.mul_one _).symm), hd, hjn]
                    congr 1
                    unfold fwd
                    by_cases e : sd = 0
                    · rw [if_pos (Or.inl e), if_pos e]; rfl
                    · rw [if_neg (by omega), if_neg e]; unfold fCut; rw [show n0 - (sd - 1) = n0 + 1 - sd by omega]
                  · skip
                    have hvl : i < 1000 := by
                      have h9 : ¬ 999 < i := fun z => c140 ((n_lt (a := 999) (b := i) (by omega) (by omega)).mpr z)
                      omega
                    refine lv_lload hx hb dX11_safeWays_143 (lv_at hl 1 rfl) ?_
                    refine lv_aload_n hx hb dX11_safeWays_145 rfl (lv_at hl 2 rfl) ?_
                    refine r_getr (ci := 10) (C := RX11) (T := TX11) (N := 20) hx hb hts iX11 hown hW rfl 65 15 rfl (g_lt hG (by decide)) (g_kd hG (by decide) rfl) (by decide) q0 (fun _ h9 => h9) (hP_T _ (List.mem_of_getElem? (i := 66) rfl)) rfl rfl dX11_safeWays_146 ?_
                    refine lv_iload hx hb dX11_safeWays_149 (lv_at hl 0 rfl) ?_
                    refine r_lald hx hb hW 72 rfl (g_lt hG (by decide)) (g_kd hG (by decide) rfl) (g_ix hG (c := 1000) (by decide) rfl (n_inI (by omega) (by decide))) (lN (V0 i)) (by rw [n_clamp (by omega)]; exact hwy i hvl) dX11_safeWays_151 ?_
                    refine lv_ladd hx hb dX11_safeWays_152 ?_
                    rw [show (((lN (sT i V0)) + (lN (V0 i))) : Int64) = (lN ((sT i V0) + (V0 i))) from lN_add (sT i V0) (V0 i)]
                    refine lv_lstore (lv' := [(6, .long (lN ((sT i V0) + (V0 i)))), (8, .int (nI i)), (0, .ref (gA G 65))]) hx hb dX11_safeWays_153 hl (by decide) rfl (fun ls hl => ?_)
                    refine lv_iinc (v := (nI (i + 1))) (lv' := [(8, .int (nI (i + 1))), (6, .long (lN ((sT i V0) + (V0 i)))), (0, .ref (gA G 65))]) hx hb dX11_safeWays_155 hl (k := 1) rfl (nI_1 i) (by decide) rfl (fun ls hl => ?_)
                    refine lv_goto (tgt := 135) hx hb dX11_safeWays_158 (by decide) ?_
                    exact ih135 (i + 1) _ _ ls (by omega) (by omega) hW (lv_sub hl [0, 1, 2] rfl)
              exact L135 _ 0 _ _ ls (Nat.lt_succ_self _) (Nat.zero_le _) hW (lv_sub hl [0, 1, 2] rfl)
            · skip
              have hjl : j < n0 := by
                have h9 : ¬ n0 < j + 1 := fun z => c43 ((n_lt (a := n0) (b := j + 1) (by omega) (by omega)).mpr z)
                omega
              refine lv_sipush (v := 999) hx hb dX11_safeWays_46 (by decide) ?_
              have ez : (999 : Int32) = (nI 1000 - 1) := by decide
              refine W.eq (g2 := F0 mM 49 ls [.int (nI 1000 - 1)]) (by rw [← ez]) ?_
              refine lv_istore (lv' := [(7, .int (nI 1000 - 1)), (6, .int (nI (j + 1))), (0, .ref (gA G 65)), (2, .int (nI n0)), (3, .int (nI law)), (4, .int (nI sd)), (5, .int (nI ct))]) hx hb dX11_safeWays_49 hl (by decide) rfl (fun ls hl => ?_)
              rw [show T = (rj T 72 (gj T 72)) from (rj_id T 72).symm] at hW
              have L51 : ∀ (n : Nat) (u : Nat) (W2 : Nat → Nat) (rx : Nat → Int64) (H : Heap) (locs : List Loc) (ls : Array Slot), u < n → u ≤ 1000 → (u = 1000 ∨ j + 1 = sd) → (∀ v, v < 1000 → rx v = lN (W2 v)) → (∀ v, v < u → W2 v = V0 v) → (∀ g, dot 1000 W2 g + sT u (fun v => V0 v * g (min 999 (v + ct))) = sT u (fun v => V0 v * g v) + sT 1000 (fun v => V0 v * g (min 999 (v + ct)))) → Wd D (AW G s.heap.size) s G (rj T 72 rx) H locs → lv_has ls 10 [(7, .int (nI u - 1)), (6, .int (nI (j + 1))), (0, .ref (gA G 65)), (2, .int (nI n0)), (3, .int (nI law)), (4, .int (nI sd)), (5, .int (nI ct))] → W pP l eE (headSpec wsX11_safeWays rmX11_safeWays).room s mM ([.ref (gA G 65), .int (nI w), .int (nI n0), .int (nI law), .int (nI sd), .int (nI ct)] : List Value).toArray bl mT cD H locs 0 0 Q0 (F0 mM 51 ls []) := by
                intro n
                induction n with
                | zero => intro u W2 rx H locs ls hm; exact absurd hm (Nat.not_lt_zero _)
                | succ n ih51 =>
                  intro u W2 rx H locs ls hm51 hu huj hrx hlow hdi hW hl
                  refine lv_iload hx hb dX11_safeWays_51 (lv_at hl 0 rfl) ?_
                  refine lv_if_lt (tgt := 118) hx hb dX11_safeWays_53 (by decide) (fun c53 => ?_) (fun c53 => ?_)
                  · skip
                    rw [t_lt, show (0 : Int32).toInt = 0 from by decide] at c53
                    have hc53 : u = 0 := by rw [t_sub (by rw [n_toInt (by omega), show (1 : Int32).toInt = 1 from by decide]; omega) (by rw [n_toInt (by omega), show (1 : Int32).toInt = 1 from by decide]; omega), n_toInt (by omega), show (1 : Int32).toInt = 1 from by decide] at c53; omega
                    refine lv_aload_n hx hb dX11_safeWays_118 rfl (lv_at hl 2 rfl) ?_
                    refine lv_iload_n hx hb dX11_safeWays_119 rfl (lv_at hl 4 rfl) ?_
                    have hu0 : u = 0 := by omega
                    have hjs : j + 1 = sd := by omega
                    have hsh : ∀ g, dot 1000 W2 g = dot 1000 V0 (fun v => g (min 999 (v + ct))) := fun g => by have a := hdi g; rw [hu0] at a; show _ = sT 1000 (fun v => V0 v * g (min 999 (v + ct))); have b : dot 1000 W2 g + 0 = 0 + sT 1000 (fun v => V0 v * g (min 999 (v + ct))) := a; omega
                    refine r_callv hW hA (va_runV (As := [.int (nI law)]) (rest := []) ⟨hx, hb, hml, hown, hts⟩ (t_X11_goNight l D G (rj T 72 rx) _ hG hP_T B c hB1 hc (fun k hk => (congrFun (e_jn (by decide) rfl) k).trans (hM_T k hk)) law hl2 W2 (tot (Qc B law) ^ j) (fun v hv => (congrFun (e_js _ _ _) v).trans (hrx v hv)) ((congrFun (e_jn (by decide) rfl) 17).trans hAl)) (cwV 1 hts gX11_safeWays_X11_goNight rfl rfl rfl (by decide +kernel) ⟨Nat.le_of_ble_eq_true rfl, Nat.le_of_ble_eq_true rfl⟩) (r_preV (k := 65) hA hW (ci := 10) (C := RX11) (T := TX11) (N := 20) rfl rfl (g_lt hG (by decide)) (g_kd hG (by decide) rfl) rfl rfl) rfl rfl hl.1 rfl (lv_room (Nat.le_of_ble_eq_true rfl)) dX11_safeWays_120 ⟨Nat.zero_le _, Nat.zero_le _⟩) (fun S120 H locs hp120 hW => ?_)
                    obtain ⟨W1, hw120, hd120, hA120, hC120⟩ := hp120
                    refine lv_iinc (v := (nI (j + 1 + 1))) (lv' := [(6, .int (nI (j + 1 + 1))), (7, .int (nI u - 1)), (0, .ref (gA G 65)), (2, .int (nI n0)), (3, .int (nI law)), (4, .int (nI sd)), (5, .int (nI ct))]) hx hb dX11_safeWays_123 hl (k := 1) rfl (nI_1 (j + 1)) (by decide) rfl (fun ls hl => ?_)
                    refine lv_goto (tgt := 40) hx hb dX11_safeWays_126 (by decide) ?_
                    exact ih40 (j + 1) S120 W1 _ _ ls (by omega) (by omega) hw120 (fun g => by rw [hd120 g]; rw [hsh]; exact (hd _).trans (fwd_at hjs)) (by rw [hA120, Nat.pow_succ]) (ChW.tr hCT (ChW.tr (ChW.rj ChW.rf (by decide)) hC120)) hW (lv_sub hl [0, 2, 3, 4, 5, 6] rfl)
                  · skip
                    rw [t_lt, show (0 : Int32).toInt = 0 from by decide] at c53
                    have hc53 : 1 ≤ u := by rw [t_sub (by rw [n_toInt (by omega), show (1 : Int32).toInt = 1 from by decide]; omega) (by rw [n_toInt (by omega), show (1 : Int32).toInt = 1 from by decide]; omega), n_toInt (by omega), show (1 : Int32).toInt = 1 from by decide] at c53; omega
                    have hu1 : 1 ≤ u := by omega
                    have e7 : nI u - 1 = nI (u - 1) := n_sub (b := 1) hu1
                    have hl : lv_has ls 10 [(7, .int (nI (u - 1))), (6, .int (nI (j + 1))), (0, .ref (gA G 65)), (2, .int (nI n0)), (3, .int (nI law)), (4, .int (nI sd)), (5, .int (nI ct))] := by rw [← e7]; exact hl
                    refine lv_iload hx hb dX11_safeWays_56 (lv_at hl 1 rfl) ?_
                    refine lv_iload hx hb dX11_safeWays_58 (lv_at hl 5 rfl) ?_
                    refine lv_icmp_ne (tgt := 118) hx hb dX11_safeWays_60 (by decide) (fun c60 => ?_) (fun c60 => ?_)
                    · skip
                      have hjs : j + 1 ≠ sd := fun z => c60 (by rw [z])
                      refine lv_aload_n hx hb dX11_safeWays_118 rfl (lv_at hl 2 rfl) ?_
                      refine lv_iload_n hx hb dX11_safeWays_119 rfl (lv_at hl 4 rfl) ?_
                      have hu0 : u = 1000 := by omega
                      have hsh : ∀ g, dot 1000 W2 g = dot 1000 V0 g := fun g => by have a := hdi g; rw [hu0] at a; show _ = sT 1000 (fun v => V0 v * g v); omega
                      refine r_callv hW hA (va_runV (As := [.int (nI law)]) (rest := []) ⟨hx, hb, hml, hown, hts⟩ (t_X11_goNight l D G (rj T 72 rx) _ hG hP_T B c hB1 hc (fun k hk => (congrFun (e_jn (by decide) rfl) k).trans (hM_T k hk)) law hl2 W2 (tot (Qc B law) ^ j) (fun v hv => (congrFun (e_js _ _ _) v).trans (hrx v hv)) ((congrFun (e_jn (by decide) rfl) 17).trans hAl)) (cwV 1 hts gX11_safeWays_X11_goNight rfl rfl rfl (by decide +kernel) ⟨Nat.le_of_ble_eq_true rfl, Nat.le_of_ble_eq_true rfl⟩) (r_preV (k := 65) hA hW (ci := 10) (C := RX11) (T := TX11) (N := 20) rfl rfl (g_lt hG (by decide)) (g_kd hG (by decide) rfl) rfl rfl) rfl rfl hl.1 rfl (lv_room (Nat.le_of_ble_eq_true rfl)) dX11_safeWays_120 ⟨Nat.zero_le _, Nat.zero_le _⟩) (fun S120 H locs hp120 hW => ?_)
                      obtain ⟨W1, hw120, hd120, hA120, hC120⟩ := hp120
                      refine lv_iinc (v := (nI (j + 1 + 1))) (lv' := [(6, .int (nI (j + 1 + 1))), (7, .int (nI (u - 1))), (0, .ref (gA G 65)), (2, .int (nI n0)), (3, .int (nI law)), (4, .int (nI sd)), (5, .int (nI ct))]) hx hb dX11_safeWays_123 hl (k := 1) rfl (nI_1 (j + 1)) (by decide) rfl (fun ls hl => ?_)
                      refine lv_goto (tgt := 40) hx hb dX11_safeWays_126 (by decide) ?_
                      exact ih40 (j + 1) S120 W1 _ _ ls (by omega) (by omega) hw120 (fun g => by rw [hd120 g]; rw [hsh]; exact (hd _).trans (fwd_no hjs)) (by rw [hA120, Nat.pow_succ]) (ChW.tr hCT (ChW.tr (ChW.rj ChW.rf (by decide)) hC120)) hW (lv_sub hl [0, 2, 3, 4, 5, 6] rfl)
                    · skip
                      have hjs : j + 1 = sd := (n_eq (by omega) (by omega)).mp c60
                      refine lv_aload_n hx hb dX11_safeWays_63 rfl (lv_at hl 2 rfl) ?_
                      refine r_getr (ci := 10) (C := RX11) (T := TX11) (N := 20) hx hb hts iX11 hown hW rfl 65 15 rfl (g_lt hG (by decide)) (g_kd hG (by decide) rfl) (by decide) q0 (fun _ h9 => h9) (hP_T _ (List.mem_of_getElem? (i := 66) rfl)) rfl rfl dX11_safeWays_64 ?_
                      refine lv_iload hx hb dX11_safeWays_67 (lv_at hl 0 rfl) ?_
                      refine r_lald hx hb hW 72 rfl (g_lt hG (by decide)) (g_kd hG (by decide) rfl) (g_ix hG (c := 1000) (by decide) rfl (n_inI (by omega) (by decide))) (lN (V0 (u - 1))) ((congrFun (e_js _ _ _) _).trans (by rw [n_clamp (by omega)]; exact (by rw [hrx (u - 1) (by omega), hlow (u - 1) (by omega)]))) dX11_safeWays_69 ?_
                      refine lv_lstore (lv' := [(8, .long (lN (V0 (u - 1)))), (7, .int (nI (u - 1))), (6, .int (nI (j + 1))), (0, .ref (gA G 65)), (2, .int (nI n0)), (3, .int (nI law)), (4, .int (nI sd)), (5, .int (nI ct))]) hx hb dX11_safeWays_70 hl (by decide) rfl (fun ls hl => ?_)
                      refine lv_aload_n hx hb dX11_safeWays_72 rfl (lv_at hl 3 rfl) ?_
                      refine r_getr (ci := 10) (C := RX11) (T := TX11) (N := 20) hx hb hts iX11 hown hW rfl 65 15 rfl (g_lt hG (by decide)) (g_kd hG (by decide) rfl) (by decide) q0 (fun _ h9 => h9) (hP_T _ (List.mem_of_getElem? (i := 66) rfl)) rfl rfl dX11_safeWays_73 ?_
                      refine lv_iload hx hb dX11_safeWays_76 (lv_at hl 1 rfl) ?_
                      refine lv_lconst (v := 0) hx hb dX11_safeWays_78 (by decide) ?_
                      refine r_last hx hb hW 72 rfl (g_lt hG (by decide)) (g_kd hG (by decide) rfl) (g_ix hG (c := 1000) (by decide) rfl (n_inI (by omega) (by decide))) (rj T 72 (va_up rx ((nI (u - 1))).toNatClampNeg 0)) rx (e_js _ _ _) (e_js _ _ _) rfl rfl c_j dX11_safeWays_79 (fun H locs hW => ?_)
                      rw [show ((nI (u - 1))).toNatClampNeg = (u - 1) from n_clamp (by omega)] at hW
                      refine lv_aload_n hx hb dX11_safeWays_80 rfl (lv_at hl 3 rfl) ?_
                      refine r_getr (ci := 10) (C := RX11) (T := TX11) (N := 20) hx hb hts iX11 hown hW rfl 65 15 rfl (g_lt hG (by decide)) (g_kd hG (by decide) rfl) (by decide) q0 (fun _ h9 => h9) (hP_T _ (List.mem_of_getElem? (i := 66) rfl)) rfl rfl dX11_safeWays_81 ?_
                      refine lv_iload hx hb dX11_safeWays_84 (lv_at hl 1 rfl) ?_
                      refine lv_iload hx hb dX11_safeWays_86 (lv_at hl 7 rfl) ?_
                      refine lv_iadd hx hb dX11_safeWays_88 ?_
                      rw [show (((nI (u - 1)) + (nI ct)) : Int32) = (nI ((u - 1) + ct)) from n_add (u - 1) ct]
                      refine lv_sipush (v := 999) hx hb dX11_safeWays_89 (by decide) ?_
                      refine lv_icmp_le (tgt := 101) hx hb dX11_safeWays_92 (by decide) (fun c92 => ?_) (fun c92 => ?_)
                      · skip
                        rw [t_le, show (999 : Int32).toInt = 999 from by decide] at c92
                        rw [n_toInt (by omega)] at c92
                        refine lv_iload hx hb dX11_safeWays_101 (lv_at hl 1 rfl) ?_
                        refine lv_iload hx hb dX11_safeWays_103 (lv_at hl 7 rfl) ?_
                        refine lv_iadd hx hb dX11_safeWays_105 ?_
                        rw [show (((nI (u - 1)) + (nI ct)) : Int32) = (nI ((u - 1) + ct)) from n_add (u - 1) ct]
                        have ez : ((nI ((u - 1) + ct)) : Int32) = (nI (min 999 ((u - 1) + ct))) := by rw [show (min 999 ((u - 1) + ct)) = (u - 1) + ct by omega]
                        refine W.eq (g2 := F0 mM 106 ls [.int (nI (min 999 ((u - 1) + ct))), .ref (gA G 72)]) (by rw [← ez]) ?_
                        refine lv_dup2_11 hx hb dX11_safeWays_106 rfl rfl ?_
                        refine r_lald hx hb hW 72 rfl (g_lt hG (by decide)) (g_kd hG (by decide) rfl) (g_ix hG (c := 1000) (by decide) rfl (n_inI (by omega) (by decide))) (lN (if (min 999 ((u - 1) + ct)) = u - 1 then 0 else W2 (min 999 ((u - 1) + ct)))) ((congrFun (e_js _ _ _) _).trans (by rw [n_clamp (by omega)]; exact (up_if (hrx _ (by omega))))) dX11_safeWays_107 ?_
                        refine lv_lload hx hb dX11_safeWays_108 (lv_at hl 0 rfl) ?_
                        refine lv_ladd hx hb dX11_safeWays_110 ?_
                        rw [show (((lN (if (min 999 ((u - 1) + ct)) = u - 1 then 0 else W2 (min 999 ((u - 1) + ct)))) + (lN (V0 (u - 1)))) : Int64) = (lN ((if (min 999 ((u - 1) + ct)) = u - 1 then 0 else W2 (min 999 ((u - 1) + ct))) + (V0 (u - 1)))) from lN_add (if (min 999 ((u - 1) + ct)) = u - 1 then 0 else W2 (min 999 ((u - 1) + ct))) (V0 (u - 1))]
                        refine r_last hx hb hW 72 rfl (g_lt hG (by decide)) (g_kd hG (by decide) rfl) (g_ix hG (c := 1000) (by decide) rfl (n_inI (by omega) (by decide))) (rj T 72 (va_up (va_up rx (u - 1) 0) ((nI (min 999 ((u - 1) + ct)))).toNatClampNeg (lN ((if (min 999 ((u - 1) + ct)) = u - 1 then 0 else W2 (min 999 ((u - 1) + ct))) + (V0 (u - 1)))))) (va_up rx (u - 1) 0) (e_js _ _ _) (e_js _ _ _) rfl rfl c_j dX11_safeWays_111 (fun H locs hW => ?_)
                        rw [show ((nI (min 999 ((u - 1) + ct)))).toNatClampNeg = (min 999 ((u - 1) + ct)) from n_clamp (by omega)] at hW
                        refine lv_iinc (v := (nI (u - 1) - 1)) (lv' := [(7, .int (nI (u - 1) - 1)), (8, .long (lN (V0 (u - 1)))), (6, .int (nI (j + 1))), (0, .ref (gA G 65)), (2, .int (nI n0)), (3, .int (nI law)), (4, .int (nI sd)), (5, .int (nI ct))]) hx hb dX11_safeWays_112 hl (k := 1) rfl (n_m1 _) (by decide) rfl (fun ls hl => ?_)
                        refine lv_goto (tgt := 51) hx hb dX11_safeWays_115 (by decide) ?_
                        exact ih51 (u - 1) (fun i => if i = (min 999 ((u - 1) + ct)) then (fun i => if i = u - 1 then 0 else W2 i) i + V0 (u - 1) else (fun i => if i = u - 1 then 0 else W2 i) i) (va_up (va_up rx (u - 1) 0) (min 999 ((u - 1) + ct)) (lN ((if (min 999 ((u - 1) + ct)) = u - 1 then 0 else W2 (min 999 ((u - 1) + ct))) + (V0 (u - 1))))) _ _ ls (by omega) (by omega) (Or.inr hjs) (fun i hi => by
                                                                                by_cases ei : i = (min 999 ((u - 1) + ct))
                                                                                · rw [ei, up_s, if_pos rfl]
                                                                                · rw [up_n _ _ ei, if_neg ei]
                                                                                  by_cases e2 : i = u - 1
                                                                                  · rw [e2, up_s]; dsimp only; rw [if_pos rfl]; rfl
                                                                                  · rw [up_n _ _ e2]; dsimp only; rw [if_neg e2]; exact hrx i hi) (fun i hi => by dsimp only; rw [if_neg (by omega), if_neg (by omega)]; exact hlow i (by omega)) (fun g => by
                                                                                have a1 := dot_up (r := (fun i => if i = u - 1 then 0 else W2 i)) (g := g) (x := V0 (u - 1)) (t := (min 999 ((u - 1) + ct))) (n := 1000) (by omega)
                                                                                have a2 := dot_zero (r := W2) (g := g) (t := u - 1) 1000 (by omega)
                                                                                have a3 := hdi g
                                                                                rw [hlow (u - 1) (by omega)] at a2
                                                                                have a4 : sT u (fun v => V0 v * g (min 999 (v + ct))) = sT (u - 1) (fun v => V0 v * g (min 999 (v + ct))) + V0 (u - 1) * g (min 999 ((u - 1) + ct)) := sT_p hu1
                                                                                have a5 : sT u (fun v => V0 v * g v) = sT (u - 1) (fun v => V0 v * g v) + V0 (u - 1) * g (u - 1) := sT_p hu1
                                                                                rw [a1]; omega) hW (lv_sub hl [0, 2, 3, 4, 5, 6, 7] rfl)
                      · skip
                        rw [t_le, show (999 : Int32).toInt = 999 from by decide] at c92
                        rw [n_toInt (by omega)] at c92
                        refine lv_sipush (v := 999) hx hb dX11_safeWays_95 (by decide) ?_
                        refine lv_goto (tgt := 106) hx hb dX11_safeWays_98 (by decide) ?_
                        have ez : (999 : Int32) = (nI (min 999 ((u - 1) + ct))) := by rw [show (min 999 ((u - 1) + ct)) = 999 by omega]; rfl
                        refine W.eq (g2 := F0 mM 106 ls [.int (nI (min 999 ((u - 1) + ct))), .ref (gA G 72)]) (by rw [← ez]) ?_
                        refine lv_dup2_11 hx hb dX11_safeWays_106 rfl rfl ?_
                        refine r_lald hx hb hW 72 rfl (g_lt hG (by decide)) (g_kd hG (by decide) rfl) (g_ix hG (c := 1000) (by decide) rfl (n_inI (by omega) (by decide))) (lN (if (min 999 ((u - 1) + ct)) = u - 1 then 0 else W2 (min 999 ((u - 1) + ct)))) ((congrFun (e_js _ _ _) _).trans (by rw [n_clamp (by omega)]; exact (up_if (hrx _ (by omega))))) dX11_safeWays_107 ?_
                        refine lv_lload hx hb dX11_safeWays_108 (lv_at hl 0 rfl) ?_
                        refine lv_ladd hx hb dX11_safeWays_110 ?_
                        rw [show (((lN (if (min 999 ((u - 1) + ct)) = u - 1 then 0 else W2 (min 999 ((u - 1) + ct)))) + (lN (V0 (u - 1)))) : Int64) = (lN ((if (min 999 ((u - 1) + ct)) = u - 1 then 0 else W2 (min 999 ((u - 1) + ct))) + (V0 (u - 1)))) from lN_add (if (min 999 ((u - 1) + ct)) = u - 1 then 0 else W2 (min 999 ((u - 1) + ct))) (V0 (u - 1))]
                        refine r_last hx hb hW 72 rfl (g_lt hG (by decide)) (g_kd hG (by decide) rfl) (g_ix hG (c := 1000) (by decide) rfl (n_inI (by omega) (by decide))) (rj T 72 (va_up (va_up rx (u - 1) 0) ((nI (min 999 ((u - 1) + ct)))).toNatClampNeg (lN ((if (min 999 ((u - 1) + ct)) = u - 1 then 0 else W2 (min 999 ((u - 1) + ct))) + (V0 (u - 1)))))) (va_up rx (u - 1) 0) (e_js _ _ _) (e_js _ _ _) rfl rfl c_j dX11_safeWays_111 (fun H locs hW => ?_)
                        rw [show ((nI (min 999 ((u - 1) + ct)))).toNatClampNeg = (min 999 ((u - 1) + ct)) from n_clamp (by omega)] at hW
                        refine lv_iinc (v := (nI (u - 1) - 1)) (lv' := [(7, .int (nI (u - 1) - 1)), (8, .long (lN (V0 (u - 1)))), (6, .int (nI (j + 1))), (0, .ref (gA G 65)), (2, .int (nI n0)), (3, .int (nI law)), (4, .int (nI sd)), (5, .int (nI ct))]) hx hb dX11_safeWays_112 hl (k := 1) rfl (n_m1 _) (by decide) rfl (fun ls hl => ?_)
                        refine lv_goto (tgt := 51) hx hb dX11_safeWays_115 (by decide) ?_
                        exact ih51 (u - 1) (fun i => if i = (min 999 ((u - 1) + ct)) then (fun i => if i = u - 1 then 0 else W2 i) i + V0 (u - 1) else (fun i => if i = u - 1 then 0 else W2 i) i) (va_up (va_up rx (u - 1) 0) (min 999 ((u - 1) + ct)) (lN ((if (min 999 ((u - 1) + ct)) = u - 1 then 0 else W2 (min 999 ((u - 1) + ct))) + (V0 (u - 1))))) _ _ ls (by omega) (by omega) (Or.inr hjs) (fun i hi => by
                                                                                by_cases ei : i = (min 999 ((u - 1) + ct))
                                                                                · rw [ei, up_s, if_pos rfl]
                                                                                · rw [up_n _ _ ei, if_neg ei]
                                                                                  by_cases e2 : i = u - 1
                                                                                  · rw [e2, up_s]; dsimp only; rw [if_pos rfl]; rfl
                                                                                  · rw [up_n _ _ e2]; dsimp only; rw [if_neg e2]; exact hrx i hi) (fun i hi => by dsimp only; rw [if_neg (by omega), if_neg (by omega)]; exact hlow i (by omega)) (fun g => by
                                                                                have a1 := dot_up (r := (fun i => if i = u - 1 then 0 else W2 i)) (g := g) (x := V0 (u - 1)) (t := (min 999 ((u - 1) + ct))) (n := 1000) (by omega)
                                                                                have a2 := dot_zero (r := W2) (g := g) (t := u - 1) 1000 (by omega)
                                                                                have a3 := hdi g
                                                                                rw [hlow (u - 1) (by omega)] at a2
                                                                                have a4 : sT u (fun v => V0 v * g (min 999 (v + ct))) = sT (u - 1) (fun v => V0 v * g (min 999 (v + ct))) + V0 (u - 1) * g (min 999 ((u - 1) + ct)) := sT_p hu1
                                                                                have a5 : sT u (fun v => V0 v * g v) = sT (u - 1) (fun v => V0 v * g v) + V0 (u - 1) * g (u - 1) := sT_p hu1
                                                                                rw [a1]; omega) hW (lv_sub hl [0, 2, 3, 4, 5, 6, 7] rfl)
              exact L51 _ 1000 V0 (gj T 72) _ _ ls (Nat.lt_succ_self _) (Nat.le_refl _) (Or.inl rfl) hwy (fun _ _ => rfl) (fun g => rfl) hW (lv_sub hl [0, 1, 2, 3, 4, 5, 6] rfl)
        exact L40 _ 0 (rj (rj S 72 (va_up rx w 1)) 65 (va_up (gj S 65) 17 (lN (tot (Qc B law) ^ 0)))) (fun v => if v = w then 1 else 0) _ _ ls (Nat.lt_succ_self _) (Nat.zero_le _) (fun v hv => by
                                                                                rw [show gj (rj (rj S 72 (va_up rx w 1)) 65 (va_up (gj S 65) 17 (lN (tot (Qc B law) ^ 0)))) 72 = _ from (e_jn (by decide) (e_js _ _ _))]
                                                                                by_cases ev : v = w
                                                                                · rw [ev, up_s, if_pos rfl]; rfl
                                                                                · rw [up_n _ _ ev, if_neg ev]; exact hz v (by omega)) (fun g => by rw [dot_1 (by omega)]; unfold fwd; rw [if_pos (by omega)]; rfl) (congrFun (e_js _ _ _) 17) (ChW.rj (ChW.rj ChW.rf (by decide)) (by decide)) hW (lv_sub hl [0, 1, 3, 4, 5, 6] rfl)
      · skip
        have hvl : v < 1000 := by
          have h9 : ¬ 999 < v := fun z => c8 ((n_lt (a := 999) (b := v) (by omega) (by omega)).mpr z)
          omega
        refine lv_aload_n hx hb dX11_safeWays_11 rfl (lv_at hl 1 rfl) ?_
        refine r_getr (ci := 10) (C := RX11) (T := TX11) (N := 20) hx hb hts iX11 hown hW rfl 65 15 rfl (g_lt hG (by decide)) (g_kd hG (by decide) rfl) (by decide) q0 (fun _ h9 => h9) (hP _ (List.mem_of_getElem? (i := 66) rfl)) rfl rfl dX11_safeWays_12 ?_
        refine lv_iload hx hb dX11_safeWays_15 (lv_at hl 0 rfl) ?_
        refine lv_lconst (v := 0) hx hb dX11_safeWays_17 (by decide) ?_
        refine r_last hx hb hW 72 rfl (g_lt hG (by decide)) (g_kd hG (by decide) rfl) (g_ix hG (c := 1000) (by decide) rfl (n_inI (by omega) (by decide))) (rj S 72 (va_up rx ((nI v)).toNatClampNeg 0)) rx (e_js _ _ _) (e_js _ _ _) rfl rfl c_j dX11_safeWays_18 (fun H locs hW => ?_)
        rw [show ((nI v)).toNatClampNeg = v from n_clamp (by omega)] at hW
        refine lv_iinc (v := (nI (v + 1))) (lv' := [(6, .int (nI (v + 1))), (0, .ref (gA G 65)), (1, .int (nI w)), (2, .int (nI n0)), (3, .int (nI law)), (4, .int (nI sd)), (5, .int (nI ct))]) hx hb dX11_safeWays_19 hl (k := 0) rfl (nI_1 v) (by decide) rfl (fun ls hl => ?_)
        refine lv_goto (tgt := 3) hx hb dX11_safeWays_22 (by decide) ?_
        exact ih3 (v + 1) (va_up rx v 0) _ _ ls (by omega) (by omega) (fun u hu => by
                                                                                by_cases eu : u = v
                                                                                · rw [eu, up_s]
                                                                                · rw [up_n _ _ eu]; exact hz u (by omega)) hW (lv_sub hl [0, 1, 2, 3, 4, 5, 6] rfl)
  exact L3 _ 0 (gj S 72) _ _ ls (Nat.lt_succ_self _) (Nat.zero_le _) (fun u hu => absurd hu (Nat.not_lt_zero _)) hW (lv_sub hl [0, 1, 2, 3, 4, 5, 6] rfl)
