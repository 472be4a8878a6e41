theorem s_chm : ∀ i, i < 10 → ∀ j, j < 6 → nI (chN i j) = chI i j := by decide +kernel
/-- the reference is at a, no fault so far -/
def AtM (S : Sg) (T : Nat → Nat) (ts a : Nat) : Prop := TpM S T ts ∧ gi S 65 8 = nI a ∧ a ≤ ts ∧ gi S 65 12 = 0
def OkM (S S' : Sg) (T : Nat → Nat) (ts a : Nat) : Prop := AtM S' T ts a ∧ (∀ j, j ≠ 8 → j ≠ 9 → j ≠ 10 → j ≠ 11 → gi S' 65 j = gi S 65 j) ∧ Ch (fun k => k = 65) S S'
def FlM (S S' : Sg) (f p : Nat) : Prop := gi S' 65 12 = nI f ∧ gi S' 65 13 = nI p ∧ (∀ j, j < 8 ∨ 13 < j → gi S' 65 j = gi S 65 j) ∧ Ch (fun k => k = 65) S S'
theorem tE_ne {T : Nat → Nat} {ts a v : Nat} (h : tS T ts a = v) (hv : v ≠ 4) : tS T ts a ≠ 4 := by omega
def rmX11_isName : Jvm.Room := { frames := 0, cells := 0, slots := 0, locals := 0 }
set_option maxHeartbeats 4000000 in
set_option maxRecDepth 100000 in
theorem t_X11_isName (l : Launch) (D : Dc) (G : Gg) (S : Sg) (z : Nat) (hG : GrG G) (hP : GrP G S) (T : Nat → Nat) (ts : Nat) (ht4 : ts ≤ 400) (hTB : ∀ i, i < ts → T i ≤ 255) (a : Nat) (ha : a ≤ ts) (hX : TpM S T ts) (hTk : TkM S T ts a) (i : Nat) (hi : i < 10) : MI l yX11_isName wsX11_isName rmX11_isName D G S z [.ref (gA G 65), .int (nI (sLen.getD i 0)), .int (chI i 0), .int (chI i 1), .int (chI i 2), .int (chI i 3), .int (chI i 4), .int (chI i 5)] (fun r S' => S' = S ∧ ((r = 1 ∧ isW T ts a i) ∨ (r = 0 ∧ ¬ isW T ts a i))) := by
  refine Met.ofW (cc := cX11_isName) (maxL := 10) (ret := (some .boolean)) (by decide +kernel) rfl ?_
  intro pP eE s mM args bl mT cD s₁ bD hml hv
  obtain ⟨rfl, hv⟩ := hv
  have hz := hv.1
  subst hz
  have hx := bD.exec
  have hb := bD.bytes
  have hr := bD.returns
  have hts := atoms_spec (ws := wsX11_isName) bD.pre
  have hown : s.vm.findClass RX11 = some mM.cls := findClass_of_methodNamed bD.named
  have hlocks := bD.notSynchronized
  have hW := Wd.start hv
  have hA : ∀ q, s.heap.size ≤ q → AW G s.heap.size q := fun q h => Or.inr h
  have hl := lv_entry ([.ref (gA G 65), .int (nI (sLen.getD i 0)), .int (chI i 0), .int (chI i 1), .int (chI i 2), .int (chI i 3), .int (chI i 4), .int (chI i 5)]) (n := 10) (Nat.le_of_ble_eq_true rfl)
  rw [lg_entry_eq]
  generalize (lg_sl ([.ref (gA G 65), .int (nI (sLen.getD i 0)), .int (chI i 0), .int (chI i 1), .int (chI i 2), .int (chI i 3), .int (chI i 4), .int (chI i 5)]) ++ List.replicate (10 - (lg_sl ([.ref (gA G 65), .int (nI (sLen.getD i 0)), .int (chI i 0), .int (chI i 1), .int (chI i 2), .int (chI i 3), .int (chI i 4), .int (chI i 5)])).length) Slot.unset).toArray = ls at hl ⊢
  have hl : lv_has ls 10 [(0, .ref (gA G 65)), (1, .int (nI (sLen.getD i 0))), (2, .int (chI i 0)), (3, .int (chI i 1)), (4, .int (chI i 2)), (5, .int (chI i 3)), (6, .int (chI i 4)), (7, .int (chI i 5))] := hl
  have q0 := hts (.fieldLink RX11 100 "WoodForTwoModel" "token" "I") (List.mem_of_getElem? (i := 1) rfl)
  have q1 := hts (.fieldLink RX11 26 "WoodForTwoModel" "tape" "[I") (List.mem_of_getElem? (i := 4) rfl)
  have q2 := hts (.fieldLink RX11 94 "WoodForTwoModel" "first" "I") (List.mem_of_getElem? (i := 3) rfl)
  have q3 := hts (.fieldLink RX11 91 "WoodForTwoModel" "at" "I") (List.mem_of_getElem? (i := 2) rfl)
  have iX11 : ∀ w ∈ wsX110, w ∈ wsX11_isName := fun _ h => List.mem_cons_of_mem _ (List.mem_append_right _ (h))
  generalize hQ0 : MQ bl _ _ s _ _ _ = Q0
  have hle := tE_le (T := T) ha
  have htl := tS_le (T := T) (ts := ts) (a := a)
  have hl6 := (s_len i hi).2
  refine lv_aload_n hx hb dX11_isName_0 rfl (lv_at hl 0 rfl) ?_
  refine r_geti (ci := 10) (C := RX11) (T := TX11) (N := 20) hx hb hts iX11 hown hW rfl 65 10 rfl (g_lt hG (by decide)) (g_kd hG (by decide) rfl) (by decide) q0 (fun _ h9 => h9) (nI (tS T ts a)) hTk.2.1 rfl rfl dX11_isName_1 ?_
  refine lv_iconst (v := 1) hx hb dX11_isName_4 (by decide) ?_
  refine lv_icmp_ne (tgt := 25) hx hb dX11_isName_5 (by decide) (fun c5 => ?_) (fun c5 => ?_)
  · skip
    have hs1 : ¬ tS T ts a = 1 := fun z => c5 (by rw [z]; rfl)
    refine lv_iconst (v := 0) hx hb dX11_isName_25 (by decide) ?_
    refine lv_istore (lv' := [(8, .int 0), (0, .ref (gA G 65)), (1, .int (nI (sLen.getD i 0))), (2, .int (chI i 0)), (3, .int (chI i 1)), (4, .int (chI i 2)), (5, .int (chI i 3)), (6, .int (chI i 4)), (7, .int (chI i 5))]) hx hb dX11_isName_26 hl (by decide) rfl (fun ls hl => ?_)
    refine lv_iconst (v := 0) hx hb dX11_isName_28 (by decide) ?_
    refine lv_istore (lv' := [(9, .int 0), (8, .int 0), (0, .ref (gA G 65)), (1, .int (nI (sLen.getD i 0))), (2, .int (chI i 0)), (3, .int (chI i 1)), (4, .int (chI i 2)), (5, .int (chI i 3)), (6, .int (chI i 4)), (7, .int (chI i 5))]) hx hb dX11_isName_29 hl (by decide) rfl (fun ls hl => ?_)
    have L31 : ∀ (n : Nat) (k : Nat) (b0 : Int32) (H : Heap) (locs : List Loc) (ls : Array Slot), (sLen.getD i 0 - k) < n → k ≤ sLen.getD i 0 → ((b0 = 1 ∧ tS T ts a = 1 ∧ tE T ts a - SK T ts a = sLen.getD i 0 ∧ ∀ j, j < k → T (SK T ts a + j) = chN i j) ∨ (b0 = 0 ∧ ¬ isW T ts a i)) → Wd D (AW G s.heap.size) s G S H locs → lv_has ls 10 [(9, .int (nI k)), (8, .int b0), (0, .ref (gA G 65)), (1, .int (nI (sLen.getD i 0))), (2, .int (chI i 0)), (3, .int (chI i 1)), (4, .int (chI i 2)), (5, .int (chI i 3)), (6, .int (chI i 4)), (7, .int (chI i 5))] → W pP l eE (headSpec wsX11_isName rmX11_isName).room s mM ([.ref (gA G 65), .int (nI (sLen.getD i 0)), .int (chI i 0), .int (chI i 1), .int (chI i 2), .int (chI i 3), .int (chI i 4), .int (chI i 5)] : List Value).toArray bl mT cD H locs 0 0 Q0 (F0 mM 31 ls []) := by
      intro n
      induction n with
      | zero => intro k b0 H locs ls hm; exact absurd hm (Nat.not_lt_zero _)
      | succ n ih31 =>
        intro k b0 H locs ls hm31 hk hbv hW hl
        refine lv_iload hx hb dX11_isName_31 (lv_at hl 0 rfl) ?_
        refine lv_iload_n hx hb dX11_isName_33 rfl (lv_at hl 3 rfl) ?_
        refine lv_icmp_ge (tgt := 124) hx hb dX11_isName_34 (by decide) (fun c34 => ?_) (fun c34 => ?_)
        · skip
          have hge := (n_le (a := sLen.getD i 0) (b := k) (by omega) (by omega)).mp c34
          rcases hbv with ⟨rfl, hs1, hlen, hall⟩ | ⟨rfl, hno⟩
          · skip
            refine lv_iload hx hb dX11_isName_124 (lv_at hl 1 rfl) ?_
            rw [← hQ0]
            refine r_zret hx hb hr hlocks hW (Or.inr rfl) ?_ dX11_isName_126
            exact ⟨rfl, Or.inl ⟨rfl, hs1, hlen, fun j hj => hall j (by omega)⟩⟩
          · skip
            refine lv_iload hx hb dX11_isName_124 (lv_at hl 1 rfl) ?_
            rw [← hQ0]
            refine r_zret hx hb hr hlocks hW (Or.inl rfl) ?_ dX11_isName_126
            exact ⟨rfl, Or.inr ⟨rfl, hno⟩⟩
        · skip
          have hkl : k < sLen.getD i 0 := by
            have h9 : ¬ sLen.getD i 0 ≤ k := fun z => c34 ((n_le (a := sLen.getD i 0) (b := k) (by omega) (by omega)).mpr z)
            omega
          rcases hbv with ⟨rfl, hs1, hlen, hall⟩ | ⟨rfl, hno⟩
          · skip
            refine lv_iload hx hb dX11_isName_37 (lv_at hl 1 rfl) ?_
            refine lv_if_eq (tgt := 124) hx hb dX11_isName_39 (by decide) (fun c39 => ?_) (fun c39 => ?_)
            · exact absurd c39 (by decide)
            · skip
              refine lv_aload_n hx hb dX11_isName_42 rfl (lv_at hl 2 rfl) ?_
              refine r_getr (ci := 10) (C := RX11) (T := TX11) (N := 20) hx hb hts iX11 hown hW rfl 65 6 rfl (g_lt hG (by decide)) (g_kd hG (by decide) rfl) (by decide) q1 (fun _ h9 => h9) (hP _ (List.mem_of_getElem? (i := 65) rfl)) rfl rfl dX11_isName_43 ?_
              refine lv_aload_n hx hb dX11_isName_46 rfl (lv_at hl 2 rfl) ?_
              refine r_geti (ci := 10) (C := RX11) (T := TX11) (N := 20) hx hb hts iX11 hown hW rfl 65 9 rfl (g_lt hG (by decide)) (g_kd hG (by decide) rfl) (by decide) q2 (fun _ h9 => h9) (nI (SK T ts a)) hTk.1 rfl rfl dX11_isName_47 ?_
              refine lv_iload hx hb dX11_isName_50 (lv_at hl 0 rfl) ?_
              refine lv_iadd hx hb dX11_isName_52 ?_
              rw [show (((nI (SK T ts a)) + (nI k)) : Int32) = (nI ((SK T ts a) + k)) from n_add (SK T ts a) k]
              refine r_iald hx hb hW 71 rfl (g_lt hG (by decide)) (g_kd hG (by decide) rfl) (g_ix hG (c := 400) (by decide) rfl (n_inI (by omega) (by decide))) (nI (T (SK T ts a + k))) (by rw [n_clamp (by omega)]; exact hX.2 _ (by omega)) dX11_isName_53 ?_
              refine lv_iload hx hb dX11_isName_54 (lv_at hl 0 rfl) ?_
              refine lv_if_ne (tgt := 63) hx hb dX11_isName_56 (by decide) (fun c56 => ?_) (fun c56 => ?_)
              · skip
                rw [t_eq, show (0 : Int32).toInt = 0 from by decide] at c56
                rw [n_toInt (by omega)] at c56
                refine lv_iload hx hb dX11_isName_63 (lv_at hl 0 rfl) ?_
                refine lv_iconst (v := 1) hx hb dX11_isName_65 (by decide) ?_
                refine lv_icmp_ne (tgt := 73) hx hb dX11_isName_66 (by decide) (fun c66 => ?_) (fun c66 => ?_)
                · skip
                  rw [t_eq, show (1 : Int32).toInt = 1 from by decide] at c66
                  rw [n_toInt (by omega)] at c66
                  refine lv_iload hx hb dX11_isName_73 (lv_at hl 0 rfl) ?_
                  refine lv_iconst (v := 2) hx hb dX11_isName_75 (by decide) ?_
                  refine lv_icmp_ne (tgt := 84) hx hb dX11_isName_76 (by decide) (fun c76 => ?_) (fun c76 => ?_)
                  · skip
                    rw [t_eq, show (2 : Int32).toInt = 2 from by decide] at c76
                    rw [n_toInt (by omega)] at c76
                    refine lv_iload hx hb dX11_isName_84 (lv_at hl 0 rfl) ?_
                    refine lv_iconst (v := 3) hx hb dX11_isName_86 (by decide) ?_
                    refine lv_icmp_ne (tgt := 95) hx hb dX11_isName_87 (by decide) (fun c87 => ?_) (fun c87 => ?_)
                    · skip
                      rw [t_eq, show (3 : Int32).toInt = 3 from by decide] at c87
                      rw [n_toInt (by omega)] at c87
                      refine lv_iload hx hb dX11_isName_95 (lv_at hl 0 rfl) ?_
                      refine lv_iconst (v := 4) hx hb dX11_isName_97 (by decide) ?_
                      refine lv_icmp_ne (tgt := 106) hx hb dX11_isName_98 (by decide) (fun c98 => ?_) (fun c98 => ?_)
                      · skip
                        rw [t_eq, show (4 : Int32).toInt = 4 from by decide] at c98
                        rw [n_toInt (by omega)] at c98
                        refine lv_iload hx hb dX11_isName_106 (lv_at hl 9 rfl) ?_
                        have hkm : k = 5 := by omega
                        refine W.eq (g2 := F0 mM 108 ls [.int (chI i k), .int (nI (T (SK T ts a + k)))]) (by rw [hkm]) ?_
                        refine lv_icmp_ne (tgt := 115) hx hb dX11_isName_108 (by decide) (fun c108 => ?_) (fun c108 => ?_)
                        · skip
                          have hne : ¬ T (SK T ts a + k) = chN i k := fun z => c108 (by rw [z]; exact s_chm i hi k (by omega))
                          refine lv_iconst (v := 0) hx hb dX11_isName_115 (by decide) ?_
                          refine lv_istore (lv' := [(8, .int 0), (9, .int (nI k)), (0, .ref (gA G 65)), (1, .int (nI (sLen.getD i 0))), (2, .int (chI i 0)), (3, .int (chI i 1)), (4, .int (chI i 2)), (5, .int (chI i 3)), (6, .int (chI i 4)), (7, .int (chI i 5))]) hx hb dX11_isName_116 hl (by decide) rfl (fun ls hl => ?_)
                          refine lv_iinc (v := (nI (k + 1))) (lv' := [(9, .int (nI (k + 1))), (8, .int 0), (0, .ref (gA G 65)), (1, .int (nI (sLen.getD i 0))), (2, .int (chI i 0)), (3, .int (chI i 1)), (4, .int (chI i 2)), (5, .int (chI i 3)), (6, .int (chI i 4)), (7, .int (chI i 5))]) hx hb dX11_isName_118 hl (k := 1) rfl (nI_1 k) (by decide) rfl (fun ls hl => ?_)
                          refine lv_goto (tgt := 31) hx hb dX11_isName_121 (by decide) ?_
                          exact ih31 (k + 1) 0 _ _ ls (by omega) hkl (Or.inr ⟨rfl, fun z => hne (z.2.2 k hkl)⟩) hW (lv_sub hl [0, 1, 2, 3, 4, 5, 6, 7, 8, 9] rfl)
                        · skip
                          have hye : T (SK T ts a + k) = chN i k := (n_eq (by have := hTB (SK T ts a + k) (by omega); omega) (by have := (s_chn i hi k (by omega)).1; omega)).mp (c108.trans (s_chm i hi k (by omega)).symm)
                          refine lv_iconst (v := 1) hx hb dX11_isName_111 (by decide) ?_
                          refine lv_goto (tgt := 116) hx hb dX11_isName_112 (by decide) ?_
                          refine lv_istore (lv' := [(8, .int 1), (9, .int (nI k)), (0, .ref (gA G 65)), (1, .int (nI (sLen.getD i 0))), (2, .int (chI i 0)), (3, .int (chI i 1)), (4, .int (chI i 2)), (5, .int (chI i 3)), (6, .int (chI i 4)), (7, .int (chI i 5))]) hx hb dX11_isName_116 hl (by decide) rfl (fun ls hl => ?_)
                          refine lv_iinc (v := (nI (k + 1))) (lv' := [(9, .int (nI (k + 1))), (8, .int 1), (0, .ref (gA G 65)), (1, .int (nI (sLen.getD i 0))), (2, .int (chI i 0)), (3, .int (chI i 1)), (4, .int (chI i 2)), (5, .int (chI i 3)), (6, .int (chI i 4)), (7, .int (chI i 5))]) hx hb dX11_isName_118 hl (k := 1) rfl (nI_1 k) (by decide) rfl (fun ls hl => ?_)
                          refine lv_goto (tgt := 31) hx hb dX11_isName_121 (by decide) ?_
                          exact ih31 (k + 1) 1 _ _ ls (by omega) hkl (Or.inl ⟨rfl, hs1, hlen, fun j hj => by rcases Nat.lt_or_eq_of_le (Nat.lt_succ_iff.mp hj) with z | z; exact hall j z; rw [z]; exact hye⟩) hW (lv_sub hl [0, 1, 2, 3, 4, 5, 6, 7, 8, 9] rfl)
                      · skip
                        rw [t_eq, show (4 : Int32).toInt = 4 from by decide] at c98
                        rw [n_toInt (by omega)] at c98
                        refine lv_iload hx hb dX11_isName_101 (lv_at hl 8 rfl) ?_
                        refine lv_goto (tgt := 108) hx hb dX11_isName_103 (by decide) ?_
                        have hkm : k = 4 := by omega
                        refine W.eq (g2 := F0 mM 108 ls [.int (chI i k), .int (nI (T (SK T ts a + k)))]) (by rw [hkm]) ?_
                        refine lv_icmp_ne (tgt := 115) hx hb dX11_isName_108 (by decide) (fun c108 => ?_) (fun c108 => ?_)
                        · skip
                          have hne : ¬ T (SK T ts a + k) = chN i k := fun z => c108 (by rw [z]; exact s_chm i hi k (by omega))
                          refine lv_iconst (v := 0) hx hb dX11_isName_115 (by decide) ?_
                          refine lv_istore (lv' := [(8, .int 0), (9, .int (nI k)), (0, .ref (gA G 65)), (1, .int (nI (sLen.getD i 0))), (2, .int (chI i 0)), (3, .int (chI i 1)), (4, .int (chI i 2)), (5, .int (chI i 3)), (6, .int (chI i 4)), (7, .int (chI i 5))]) hx hb dX11_isName_116 hl (by decide) rfl (fun ls hl => ?_)
                          refine lv_iinc (v := (nI (k + 1))) (lv' := [(9, .int (nI (k + 1))), (8, .int 0), (0, .ref (gA G 65)), (1, .int (nI (sLen.getD i 0))), (2, .int (chI i 0)), (3, .int (chI i 1)), (4, .int (chI i 2)), (5, .int (chI i 3)), (6, .int (chI i 4)), (7, .int (chI i 5))]) hx hb dX11_isName_118 hl (k := 1) rfl (nI_1 k) (by decide) rfl (fun ls hl => ?_)
                          refine lv_goto (tgt := 31) hx hb dX11_isName_121 (by decide) ?_
                          exact ih31 (k + 1) 0 _ _ ls (by omega) hkl (Or.inr ⟨rfl, fun z => hne (z.2.2 k hkl)⟩) hW (lv_sub hl [0, 1, 2, 3, 4, 5, 6, 7, 8, 9] rfl)
                        · skip
                          have hye : T (SK T ts a + k) = chN i k := (n_eq (by have := hTB (SK T ts a + k) (by omega); omega) (by have := (s_chn i hi k (by omega)).1; omega)).mp (c108.trans (s_chm i hi k (by omega)).symm)
                          refine lv_iconst (v := 1) hx hb dX11_isName_111 (by decide) ?_
                          refine lv_goto (tgt := 116) hx hb dX11_isName_112 (by decide) ?_
                          refine lv_istore (lv' := [(8, .int 1), (9, .int (nI k)), (0, .ref (gA G 65)), (1, .int (nI (sLen.getD i 0))), (2, .int (chI i 0)), (3, .int (chI i 1)), (4, .int (chI i 2)), (5, .int (chI i 3)), (6, .int (chI i 4)), (7, .int (chI i 5))]) hx hb dX11_isName_116 hl (by decide) rfl (fun ls hl => ?_)
                          refine lv_iinc (v := (nI (k + 1))) (lv' := [(9, .int (nI (k + 1))), (8, .int 1), (0, .ref (gA G 65)), (1, .int (nI (sLen.getD i 0))), (2, .int (chI i 0)), (3, .int (chI i 1)), (4, .int (chI i 2)), (5, .int (chI i 3)), (6, .int (chI i 4)), (7, .int (chI i 5))]) hx hb dX11_isName_118 hl (k := 1) rfl (nI_1 k) (by decide) rfl (fun ls hl => ?_)
                          refine lv_goto (tgt := 31) hx hb dX11_isName_121 (by decide) ?_
                          exact ih31 (k + 1) 1 _ _ ls (by omega) hkl (Or.inl ⟨rfl, hs1, hlen, fun j hj => by rcases Nat.lt_or_eq_of_le (Nat.lt_succ_iff.mp hj) with z | z; exact hall j z; rw [z]; exact hye⟩) hW (lv_sub hl [0, 1, 2, 3, 4, 5, 6, 7, 8, 9] rfl)
                    · skip
                      rw [t_eq, show (3 : Int32).toInt = 3 from by decide] at c87
                      rw [n_toInt (by omega)] at c87
                      refine lv_iload hx hb dX11_isName_90 (lv_at hl 7 rfl) ?_
                      refine lv_goto (tgt := 108) hx hb dX11_isName_92 (by decide) ?_
                      have hkm : k = 3 := by omega
                      refine W.eq (g2 := F0 mM 108 ls [.int (chI i k), .int (nI (T (SK T ts a + k)))]) (by rw [hkm]) ?_
                      refine lv_icmp_ne (tgt := 115) hx hb dX11_isName_108 (by decide) (fun c108 => ?_) (fun c108 => ?_)
                      · skip
                        have hne : ¬ T (SK T ts a + k) = chN i k := fun z => c108 (by rw [z]; exact s_chm i hi k (by omega))
                        refine lv_iconst (v := 0) hx hb dX11_isName_115 (by decide) ?_
                        refine lv_istore (lv' := [(8, .int 0), (9, .int (nI k)), (0, .ref (gA G 65)), (1, .int (nI (sLen.getD i 0))), (2, .int (chI i 0)), (3, .int (chI i 1)), (4, .int (chI i 2)), (5, .int (chI i 3)), (6, .int (chI i 4)), (7, .int (chI i 5))]) hx hb dX11_isName_116 hl (by decide) rfl (fun ls hl => ?_)
                        refine lv_iinc (v := (nI (k + 1))) (lv' := [(9, .int (nI (k + 1))), (8, .int 0), (0, .ref (gA G 65)), (1, .int (nI (sLen.getD i 0))), (2, .int (chI i 0)), (3, .int (chI i 1)), (4, .int (chI i 2)), (5, .int (chI i 3)), (6, .int (chI i 4)), (7, .int (chI i 5))]) hx hb dX11_isName_118 hl (k := 1) rfl (nI_1 k) (by decide) rfl (fun ls hl => ?_)
                        refine lv_goto (tgt := 31) hx hb dX11_isName_121 (by decide) ?_
                        exact ih31 (k + 1) 0 _ _ ls (by omega) hkl (Or.inr ⟨rfl, fun z => hne (z.2.2 k hkl)⟩) hW (lv_sub hl [0, 1, 2, 3, 4, 5, 6, 7, 8, 9] rfl)
                      · skip
                        have hye : T (SK T ts a + k) = chN i k := (n_eq (by have := hTB (SK T ts a + k) (by omega); omega) (by have := (s_chn i hi k (by omega)).1; omega)).mp (c108.trans (s_chm i hi k (by omega)).symm)
                        refine lv_iconst (v := 1) hx hb dX11_isName_111 (by decide) ?_
                        refine lv_goto (tgt := 116) hx hb dX11_isName_112 (by decide) ?_
                        refine lv_istore (lv' := [(8, .int 1), (9, .int (nI k)), (0, .ref (gA G 65)), (1, .int (nI (sLen.getD i 0))), (2, .int (chI i 0)), (3, .int (chI i 1)), (4, .int (chI i 2)), (5, .int (chI i 3)), (6, .int (chI i 4)), (7, .int (chI i 5))]) hx hb dX11_isName_116 hl (by decide) rfl (fun ls hl => ?_)
                        refine lv_iinc (v := (nI (k + 1))) (lv' := [(9, .int (nI (k + 1))), (8, .int 1), (0, .ref (gA G 65)), (1, .int (nI (sLen.getD i 0))), (2, .int (chI i 0)), (3, .int (chI i 1)), (4, .int (chI i 2)), (5, .int (chI i 3)), (6, .int (chI i 4)), (7, .int (chI i 5))]) hx hb dX11_isName_118 hl (k := 1) rfl (nI_1 k) (by decide) rfl (fun ls hl => ?_)
                        refine lv_goto (tgt := 31) hx hb dX11_isName_121 (by decide) ?_
                        exact ih31 (k + 1) 1 _ _ ls (by omega) hkl (Or.inl ⟨rfl, hs1, hlen, fun j hj => by rcases Nat.lt_or_eq_of_le (Nat.lt_succ_iff.mp hj) with z | z; exact hall j z; rw [z]; exact hye⟩) hW (lv_sub hl [0, 1, 2, 3, 4, 5, 6, 7, 8, 9] rfl)
                  · skip
                    rw [t_eq, show (2 : Int32).toInt = 2 from by decide] at c76
                    rw [n_toInt (by omega)] at c76
                    refine lv_iload hx hb dX11_isName_79 (lv_at hl 6 rfl) ?_
                    refine lv_goto (tgt := 108) hx hb dX11_isName_81 (by decide) ?_
                    have hkm : k = 2 := by omega
                    refine W.eq (g2 := F0 mM 108 ls [.int (chI i k), .int (nI (T (SK T ts a + k)))]) (by rw [hkm]) ?_
                    refine lv_icmp_ne (tgt := 115) hx hb dX11_isName_108 (by decide) (fun c108 => ?_) (fun c108 => ?_)
                    · skip
                      have hne : ¬ T (SK T ts a + k) = chN i k := fun z => c108 (by rw [z]; exact s_chm i hi k (by omega))
                      refine lv_iconst (v := 0) hx hb dX11_isName_115 (by decide) ?_
                      refine lv_istore (lv' := [(8, .int 0), (9, .int (nI k)), (0, .ref (gA G 65)), (1, .int (nI (sLen.getD i 0))), (2, .int (chI i 0)), (3, .int (chI i 1)), (4, .int (chI i 2)), (5, .int (chI i 3)), (6, .int (chI i 4)), (7, .int (chI i 5))]) hx hb dX11_isName_116 hl (by decide) rfl (fun ls hl => ?_)
                      refine lv_iinc (v := (nI (k + 1))) (lv' := [(9, .int (nI (k + 1))), (8, .int 0), (0, .ref (gA G 65)), (1, .int (nI (sLen.getD i 0))), (2, .int (chI i 0)), (3, .int (chI i 1)), (4, .int (chI i 2)), (5, .int (chI i 3)), (6, .int (chI i 4)), (7, .int (chI i 5))]) hx hb dX11_isName_118 hl (k := 1) rfl (nI_1 k) (by decide) rfl (fun ls hl => ?_)
                      refine lv_goto (tgt := 31) hx hb dX11_isName_121 (by decide) ?_
                      exact ih31 (k + 1) 0 _ _ ls (by omega) hkl (Or.inr ⟨rfl, fun z => hne (z.2.2 k hkl)⟩) hW (lv_sub hl [0, 1, 2, 3, 4, 5, 6, 7, 8, 9] rfl)
                    · skip
                      have hye : T (SK T ts a + k) = chN i k := (n_eq (by have := hTB (SK T ts a + k) (by omega); omega) (by have := (s_chn i hi k (by omega)).1; omega)).mp (c108.trans (s_chm i hi k (by omega)).symm)
                      refine lv_iconst (v := 1) hx hb dX11_isName_111 (by decide) ?_
                      refine lv_goto (tgt := 116) hx hb dX11_isName_112 (by decide) ?_
                      refine lv_istore (lv' := [(8, .int 1), (9, .int (nI k)), (0, .ref (gA G 65)), (1, .int (nI (sLen.getD i 0))), (2, .int (chI i 0)), (3, .int (chI i 1)), (4, .int (chI i 2)), (5, .int (chI i 3)), (6, .int (chI i 4)), (7, .int (chI i 5))]) hx hb dX11_isName_116 hl (by decide) rfl (fun ls hl => ?_)
                      refine lv_iinc (v := (nI (k + 1))) (lv' := [(9, .int (nI (k + 1))), (8, .int 1), (0, .ref (gA G 65)), (1, .int (nI (sLen.getD i 0))), (2, .int (chI i 0)), (3, .int (chI i 1)), (4, .int (chI i 2)), (5, .int (chI i 3)), (6, .int (chI i 4)), (7, .int (chI i 5))]) hx hb dX11_isName_118 hl (k := 1) rfl (nI_1 k) (by decide) rfl (fun ls hl => ?_)
                      refine lv_goto (tgt := 31) hx hb dX11_isName_121 (by decide) ?_
                      exact ih31 (k + 1) 1 _ _ ls (by omega) hkl (Or.inl ⟨rfl, hs1, hlen, fun j hj => by rcases Nat.lt_or_eq_of_le (Nat.lt_succ_iff.mp hj) with z | z; exact hall j z; rw [z]; exact hye⟩) hW (lv_sub hl [0, 1, 2, 3, 4, 5, 6, 7, 8, 9] rfl)
                · skip
                  rw [t_eq, show (1 : Int32).toInt = 1 from by decide] at c66
                  rw [n_toInt (by omega)] at c66
                  refine lv_iload_n hx hb dX11_isName_69 rfl (lv_at hl 5 rfl) ?_
                  refine lv_goto (tgt := 108) hx hb dX11_isName_70 (by decide) ?_
                  have hkm : k = 1 := by omega
                  refine W.eq (g2 := F0 mM 108 ls [.int (chI i k), .int (nI (T (SK T ts a + k)))]) (by rw [hkm]) ?_
                  refine lv_icmp_ne (tgt := 115) hx hb dX11_isName_108 (by decide) (fun c108 => ?_) (fun c108 => ?_)
                  · skip
                    have hne : ¬ T (SK T ts a + k) = chN i k := fun z => c108 (by rw [z]; exact s_chm i hi k (by omega))
                    refine lv_iconst (v := 0) hx hb dX11_isName_115 (by decide) ?_
                    refine lv_istore (lv' := [(8, .int 0), (9, .int (nI k)), (0, .ref (gA G 65)), (1, .int (nI (sLen.getD i 0))), (2, .int (chI i 0)), (3, .int (chI i 1)), (4, .int (chI i 2)), (5, .int (chI i 3)), (6, .int (chI i 4)), (7, .int (chI i 5))]) hx hb dX11_isName_116 hl (by decide) rfl (fun ls hl => ?_)
                    refine lv_iinc (v := (nI (k + 1))) (lv' := [(9, .int (nI (k + 1))), (8, .int 0), (0, .ref (gA G 65)), (1, .int (nI (sLen.getD i 0))), (2, .int (chI i 0)), (3, .int (chI i 1)), (4, .int (chI i 2)), (5, .int (chI i 3)), (6, .int (chI i 4)), (7, .int (chI i 5))]) hx hb dX11_isName_118 hl (k := 1) rfl (nI_1 k) (by decide) rfl (fun ls hl => ?_)
                    refine lv_goto (tgt := 31) hx hb dX11_isName_121 (by decide) ?_
                    exact ih31 (k + 1) 0 _ _ ls (by omega) hkl (Or.inr ⟨rfl, fun z => hne (z.2.2 k hkl)⟩) hW (lv_sub hl [0, 1, 2, 3, 4, 5, 6, 7, 8, 9] rfl)
                  · skip
                    have hye : T (SK T ts a + k) = chN i k := (n_eq (by have := hTB (SK T ts a + k) (by omega); omega) (by have := (s_chn i hi k (by omega)).1; omega)).mp (c108.trans (s_chm i hi k (by omega)).symm)
                    refine lv_iconst (v := 1) hx hb dX11_isName_111 (by decide) ?_
                    refine lv_goto (tgt := 116) hx hb dX11_isName_112 (by decide) ?_
                    refine lv_istore (lv' := [(8, .int 1), (9, .int (nI k)), (0, .ref (gA G 65)), (1, .int (nI (sLen.getD i 0))), (2, .int (chI i 0)), (3, .int (chI i 1)), (4, .int (chI i 2)), (5, .int (chI i 3)), (6, .int (chI i 4)), (7, .int (chI i 5))]) hx hb dX11_isName_116 hl (by decide) rfl (fun ls hl => ?_)
                    refine lv_iinc (v := (nI (k + 1))) (lv' := [(9, .int (nI (k + 1))), (8, .int 1), (0, .ref (gA G 65)), (1, .int (nI (sLen.getD i 0))), (2, .int (chI i 0)), (3, .int (chI i 1)), (4, .int (chI i 2)), (5, .int (chI i 3)), (6, .int (chI i 4)), (7, .int (chI i 5))]) hx hb dX11_isName_118 hl (k := 1) rfl (nI_1 k) (by decide) rfl (fun ls hl => ?_)
                    refine lv_goto (tgt := 31) hx hb dX11_isName_121 (by decide) ?_
                    exact ih31 (k + 1) 1 _ _ ls (by omega) hkl (Or.inl ⟨rfl, hs1, hlen, fun j hj => by rcases Nat.lt_or_eq_of_le (Nat.lt_succ_iff.mp hj) with z | z; exact hall j z; rw [z]; exact hye⟩) hW (lv_sub hl [0, 1, 2, 3, 4, 5, 6, 7, 8, 9] rfl)
              · skip
                rw [t_eq, show (0 : Int32).toInt = 0 from by decide] at c56
                rw [n_toInt (by omega)] at c56
                refine lv_iload_n hx hb dX11_isName_59 rfl (lv_at hl 4 rfl) ?_
                refine lv_goto (tgt := 108) hx hb dX11_isName_60 (by decide) ?_
                have hkm : k = 0 := by omega
                refine W.eq (g2 := F0 mM 108 ls [.int (chI i k), .int (nI (T (SK T ts a + k)))]) (by rw [hkm]) ?_
                refine lv_icmp_ne (tgt := 115) hx hb dX11_isName_108 (by decide) (fun c108 => ?_) (fun c108 => ?_)
                · skip
                  have hne : ¬ T (SK T ts a + k) = chN i k := fun z => c108 (by rw [z]; exact s_chm i hi k (by omega))
                  refine lv_iconst (v := 0) hx hb dX11_isName_115 (by decide) ?_
                  refine lv_istore (lv' := [(8, .int 0), (9, .int (nI k)), (0, .ref (gA G 65)), (1, .int (nI (sLen.getD i 0))), (2, .int (chI i 0)), (3, .int (chI i 1)), (4, .int (chI i 2)), (5, .int (chI i 3)), (6, .int (chI i 4)), (7, .int (chI i 5))]) hx hb dX11_isName_116 hl (by decide) rfl (fun ls hl => ?_)
                  refine lv_iinc (v := (nI (k + 1))) (lv' := [(9, .int (nI (k + 1))), (8, .int 0), (0, .ref (gA G 65)), (1, .int (nI (sLen.getD i 0))), (2, .int (chI i 0)), (3, .int (chI i 1)), (4, .int (chI i 2)), (5, .int (chI i 3)), (6, .int (chI i 4)), (7, .int (chI i 5))]) hx hb dX11_isName_118 hl (k := 1) rfl (nI_1 k) (by decide) rfl (fun ls hl => ?_)
                  refine lv_goto (tgt := 31) hx hb dX11_isName_121 (by decide) ?_
                  exact ih31 (k + 1) 0 _ _ ls (by omega) hkl (Or.inr ⟨rfl, fun z => hne (z.2.2 k hkl)⟩) hW (lv_sub hl [0, 1, 2, 3, 4, 5, 6, 7, 8, 9] rfl)
                · skip
                  have hye : T (SK T ts a + k) = chN i k := (n_eq (by have := hTB (SK T ts a + k) (by omega); omega) (by have := (s_chn i hi k (by omega)).1; omega)).mp (c108.trans (s_chm i hi k (by omega)).symm)
                  refine lv_iconst (v := 1) hx hb dX11_isName_111 (by decide) ?_
                  refine lv_goto (tgt := 116) hx hb dX11_isName_112 (by decide) ?_
                  refine lv_istore (lv' := [(8, .int 1), (9, .int (nI k)), (0, .ref (gA G 65)), (1, .int (nI (sLen.getD i 0))), (2, .int (chI i 0)), (3, .int (chI i 1)), (4, .int (chI i 2)), (5, .int (chI i 3)), (6, .int (chI i 4)), (7, .int (chI i 5))]) hx hb dX11_isName_116 hl (by decide) rfl (fun ls hl => ?_)
                  refine lv_iinc (v := (nI (k + 1))) (lv' := [(9, .int (nI (k + 1))), (8, .int 1), (0, .ref (gA G 65)), (1, .int (nI (sLen.getD i 0))), (2, .int (chI i 0)), (3, .int (chI i 1)), (4, .int (chI i 2)), (5, .int (chI i 3)), (6, .int (chI i 4)), (7, .int (chI i 5))]) hx hb dX11_isName_118 hl (k := 1) rfl (nI_1 k) (by decide) rfl (fun ls hl => ?_)
                  refine lv_goto (tgt := 31) hx hb dX11_isName_121 (by decide) ?_
                  exact ih31 (k + 1) 1 _ _ ls (by omega) hkl (Or.inl ⟨rfl, hs1, hlen, fun j hj => by rcases Nat.lt_or_eq_of_le (Nat.lt_succ_iff.mp hj) with z | z; exact hall j z; rw [z]; exact hye⟩) hW (lv_sub hl [0, 1, 2, 3, 4, 5, 6, 7, 8, 9] rfl)
          · skip
            refine lv_iload hx hb dX11_isName_37 (lv_at hl 1 rfl) ?_
            refine lv_if_eq (tgt := 124) hx hb dX11_isName_39 (by decide) (fun c39 => ?_) (fun c39 => ?_)
            · skip
              refine lv_iload hx hb dX11_isName_124 (lv_at hl 1 rfl) ?_
              rw [← hQ0]
              refine r_zret hx hb hr hlocks hW (Or.inl rfl) ?_ dX11_isName_126
              exact ⟨rfl, Or.inr ⟨rfl, hno⟩⟩
            · exact absurd (by decide) c39
    exact L31 _ 0 0 _ _ ls (Nat.lt_succ_self _) (Nat.zero_le _) (Or.inr ⟨rfl, fun z => hs1 z.1⟩) hW (lv_sub hl [0, 1, 2, 3, 4, 5, 6, 7, 8, 9] rfl)
  · skip
    have hs1 : tS T ts a = 1 := (n_eq (b := 1) (by omega) (by decide)).mp c5
    refine lv_aload_n hx hb dX11_isName_8 rfl (lv_at hl 0 rfl) ?_
    refine r_geti (ci := 10) (C := RX11) (T := TX11) (N := 20) hx hb hts iX11 hown hW rfl 65 8 rfl (g_lt hG (by decide)) (g_kd hG (by decide) rfl) (by decide) q3 (fun _ h9 => h9) (nI (tE T ts a)) (hTk.2.2.1 (by omega)) rfl rfl dX11_isName_9 ?_
    refine lv_aload_n hx hb dX11_isName_12 rfl (lv_at hl 0 rfl) ?_
    refine r_geti (ci := 10) (C := RX11) (T := TX11) (N := 20) hx hb hts iX11 hown hW rfl 65 9 rfl (g_lt hG (by decide)) (g_kd hG (by decide) rfl) (by decide) q2 (fun _ h9 => h9) (nI (SK T ts a)) hTk.1 rfl rfl dX11_isName_13 ?_
    refine lv_isub hx hb dX11_isName_16 ?_
    rw [show (((nI (tE T ts a)) - (nI (SK T ts a))) : Int32) = (nI (tE T ts a - SK T ts a)) from n_sub (tE_ge ha)]
    refine lv_iload_n hx hb dX11_isName_17 rfl (lv_at hl 1 rfl) ?_
    refine lv_icmp_ne (tgt := 25) hx hb dX11_isName_18 (by decide) (fun c18 => ?_) (fun c18 => ?_)
    · skip
      have hlen : ¬ tE T ts a - SK T ts a = sLen.getD i 0 := fun z => c18 (by rw [z])
      refine lv_iconst (v := 0) hx hb dX11_isName_25 (by decide) ?_
      refine lv_istore (lv' := [(8, .int 0), (0, .ref (gA G 65)), (1, .int (nI (sLen.getD i 0))), (2, .int (chI i 0)), (3, .int (chI i 1)), (4, .int (chI i 2)), (5, .int (chI i 3)), (6, .int (chI i 4)), (7, .int (chI i 5))]) hx hb dX11_isName_26 hl (by decide) rfl (fun ls hl => ?_)
      refine lv_iconst (v := 0) hx hb dX11_isName_28 (by decide) ?_
      refine lv_istore (lv' := [(9, .int 0), (8, .int 0), (0, .ref (gA G 65)), (1, .int (nI (sLen.getD i 0))), (2, .int (chI i 0)), (3, .int (chI i 1)), (4, .int (chI i 2)), (5, .int (chI i 3)), (6, .int (chI i 4)), (7, .int (chI i 5))]) hx hb dX11_isName_29 hl (by decide) rfl (fun ls hl => ?_)
      have L31 : ∀ (n : Nat) (k : Nat) (b0 : Int32) (H : Heap) (locs : List Loc) (ls : Array Slot), (sLen.getD i 0 - k) < n → k ≤ sLen.getD i 0 → ((b0 = 1 ∧ tS T ts a = 1 ∧ tE T ts a - SK T ts a = sLen.getD i 0 ∧ ∀ j, j < k → T (SK T ts a + j) = chN i j) ∨ (b0 = 0 ∧ ¬ isW T ts a i)) → Wd D (AW G s.heap.size) s G S H locs → lv_has ls 10 [(9, .int (nI k)), (8, .int b0), (0, .ref (gA G 65)), (1, .int (nI (sLen.getD i 0))), (2, .int (chI i 0)), (3, .int (chI i 1)), (4, .int (chI i 2)), (5, .int (chI i 3)), (6, .int (chI i 4)), (7, .int (chI i 5))] → W pP l eE (headSpec wsX11_isName rmX11_isName).room s mM ([.ref (gA G 65), .int (nI (sLen.getD i 0)), .int (chI i 0), .int (chI i 1), .int (chI i 2), .int (chI i 3), .int (chI i 4), .int (chI i 5)] : List Value).toArray bl mT cD H locs 0 0 Q0 (F0 mM 31 ls []) := by
        intro n
        induction n with
        | zero => intro k b0 H locs ls hm; exact absurd hm (Nat.not_lt_zero _)
        | succ n ih31 =>
          intro k b0 H locs ls hm31 hk hbv hW hl
          refine lv_iload hx hb dX11_isName_31 (lv_at hl 0 rfl) ?_
          refine lv_iload_n hx hb dX11_isName_33 rfl (lv_at hl 3 rfl) ?_
          refine lv_icmp_ge (tgt := 124) hx hb dX11_isName_34 (by decide) (fun c34 => ?_) (fun c34 => ?_)
          · skip
            have hge := (n_le (a := sLen.getD i 0) (b := k) (by omega) (by omega)).mp c34
            rcases hbv with ⟨rfl, hs1, hlen, hall⟩ | ⟨rfl, hno⟩
            · skip
              refine lv_iload hx hb dX11_isName_124 (lv_at hl 1 rfl) ?_
              rw [← hQ0]
              refine r_zret hx hb hr hlocks hW (Or.inr rfl) ?_ dX11_isName_126
              exact ⟨rfl, Or.inl ⟨rfl, hs1, hlen, fun j hj => hall j (by omega)⟩⟩
            · skip
              refine lv_iload hx hb dX11_isName_124 (lv_at hl 1 rfl) ?_
              rw [← hQ0]
              refine r_zret hx hb hr hlocks hW (Or.inl rfl) ?_ dX11_isName_126
              exact ⟨rfl, Or.inr ⟨rfl, hno⟩⟩
          · skip
            have hkl : k < sLen.getD i 0 := by
              have h9 : ¬ sLen.getD i 0 ≤ k := fun z => c34 ((n_le (a := sLen.getD i 0) (b := k) (by omega) (by omega)).mpr z)
              omega
            rcases hbv with ⟨rfl, hs1, hlen, hall⟩ | ⟨rfl, hno⟩
            · skip
              refine lv_iload hx hb dX11_isName_37 (lv_at hl 1 rfl) ?_
              refine lv_if_eq (tgt := 124) hx hb dX11_isName_39 (by decide) (fun c39 => ?_) (fun c39 => ?_)
              · exact absurd c39 (by decide)
              · skip
                refine lv_aload_n hx hb dX11_isName_42 rfl (lv_at hl 2 rfl) ?_
                refine r_getr (ci := 10) (C := RX11) (T := TX11) (N := 20) hx hb hts iX11 hown hW rfl 65 6 rfl (g_lt hG (by decide)) (g_kd hG (by decide) rfl) (by decide) q1 (fun _ h9 => h9) (hP _ (List.mem_of_getElem? (i := 65) rfl)) rfl rfl dX11_isName_43 ?_
                refine lv_aload_n hx hb dX11_isName_46 rfl (lv_at hl 2 rfl) ?_
                refine r_geti (ci := 10) (C := RX11) (T := TX11) (N := 20) hx hb hts iX11 hown hW rfl 65 9 rfl (g_lt hG (by decide)) (g_kd hG (by decide) rfl) (by decide) q2 (fun _ h9 => h9) (nI (SK T ts a)) hTk.1 rfl rfl dX11_isName_47 ?_
                refine lv_iload hx hb dX11_isName_50 (lv_at hl 0 rfl) ?_
                refine lv_iadd hx hb dX11_isName_52 ?_
                rw [show (((nI (SK T ts a)) + (nI k)) : Int32) = (nI ((SK T ts a) + k)) from n_add (SK T ts a) k]
                refine r_iald hx hb hW 71 rfl (g_lt hG (by decide)) (g_kd hG (by decide) rfl) (g_ix hG (c := 400) (by decide) rfl (n_inI (by omega) (by decide))) (nI (T (SK T ts a + k))) (by rw [n_clamp (by omega)]; exact hX.2 _ (by omega)) dX11_isName_53 ?_
                refine lv_iload hx hb dX11_isName_54 (lv_at hl 0 rfl) ?_
                refine lv_if_ne (tgt := 63) hx hb dX11_isName_56 (by decide) (fun c56 => ?_) (fun c56 => ?_)
                · skip
                  rw [t_eq, show (0 : Int32).toInt = 0 from by decide] at c56
                  rw [n_toInt (by omega)] at c56
                  refine lv_iload hx hb dX11_isName_63 (lv_at hl 0 rfl) ?_
                  refine lv_iconst (v := 1) hx hb dX11_isName_65 (by decide) ?_
                  refine lv_icmp_ne (tgt := 73) hx hb dX11_isName_66 (by decide) (fun c66 => ?_) (fun c66 => ?_)
                  · skip
                    rw [t_eq, show (1 : Int32).toInt = 1 from by decide] at c66
                    rw [n_toInt (by omega)] at c66
                    refine lv_iload hx hb dX11_isName_73 (lv_at hl 0 rfl) ?_
                    refine lv_iconst (v := 2) hx hb dX11_isName_75 (by decide) ?_
                    refine lv_icmp_ne (tgt := 84) hx hb dX11_isName_76 (by decide) (fun c76 => ?_) (fun c76 => ?_)
                    · skip
                      rw [t_eq, show (2 : Int32).toInt = 2 from by decide] at c76
                      rw [n_toInt (by omega)] at c76
                      refine lv_iload hx hb dX11_isName_84 (lv_at hl 0 rfl) ?_
                      refine lv_iconst (v := 3) hx hb dX11_isName_86 (by decide) ?_
                      refine lv_icmp_ne (tgt := 95) hx hb dX11_isName_87 (by decide) (fun c87 => ?_) (fun c87 => ?_)
                      · skip
                        rw [t_eq, show (3 : Int32).toInt = 3 from by decide] at c87
                        rw [n_toInt (by omega)] at c87
                        refine lv_iload hx hb dX11_isName_95 (lv_at hl 0 rfl) ?_
                        refine lv_iconst (v := 4) hx hb dX11_isName_97 (by decide) ?_
                        refine lv_icmp_ne (tgt := 106) hx hb dX11_isName_98 (by decide) (fun c98 => ?_) (fun c98 => ?_)
                        · skip
                          rw [t_eq, show (4 : Int32).toInt = 4 from by decide] at c98
                          rw [n_toInt (by omega)] at c98
                          refine lv_iload hx hb dX11_isName_106 (lv_at hl 9 rfl) ?_
                          have hkm : k = 5 := by omega
                          refine W.eq (g2 := F0 mM 108 ls [.int (chI i k), .int (nI (T (SK T ts a + k)))]) (by rw [hkm]) ?_
                          refine lv_icmp_ne (tgt := 115) hx hb dX11_isName_108 (by decide) (fun c108 => ?_) (fun c108 => ?_)
                          · skip
                            have hne : ¬ T (SK T ts a + k) = chN i k := fun z => c108 (by rw [z]; exact s_chm i hi k (by omega))
                            refine lv_iconst (v := 0) hx hb dX11_isName_115 (by decide) ?_
                            refine lv_istore (lv' := [(8, .int 0), (9, .int (nI k)), (0, .ref (gA G 65)), (1, .int (nI (sLen.getD i 0))), (2, .int (chI i 0)), (3, .int (chI i 1)), (4, .int (chI i 2)), (5, .int (chI i 3)), (6, .int (chI i 4)), (7, .int (chI i 5))]) hx hb dX11_isName_116 hl (by decide) rfl (fun ls hl => ?_)
                            refine lv_iinc (v := (nI (k + 1))) (lv' := [(9, .int (nI (k + 1))), (8, .int 0), (0, .ref (gA G 65)), (1, .int (nI (sLen.getD i 0))), (2, .int (chI i 0)), (3, .int (chI i 1)), (4, .int (chI i 2)), (5, .int (chI i 3)), (6, .int (chI i 4)), (7, .int (chI i 5))]) hx hb dX11_isName_118 hl (k := 1) rfl (nI_1 k) (by decide) rfl (fun ls hl => ?_)
                            refine lv_goto (tgt := 31) hx hb dX11_isName_121 (by decide) ?_
                            exact ih31 (k + 1) 0 _ _ ls (by omega) hkl (Or.inr ⟨rfl, fun z => hne (z.2.2 k hkl)⟩) hW (lv_sub hl [0, 1, 2, 3, 4, 5, 6, 7, 8, 9] rfl)
                          · skip
                            have hye : T (SK T ts a + k) = chN i k := (n_eq (by have := hTB (SK T ts a + k) (by omega); omega) (by have := (s_chn i hi k (by omega)).1; omega)).mp (c108.trans (s_chm i hi k (by omega)).symm)
                            refine lv_iconst (v := 1) hx hb dX11_isName_111 (by decide) ?_
                            refine lv_goto (tgt := 116) hx hb dX11_isName_112 (by decide) ?_
                            refine lv_istore (lv' := [(8, .int 1), (9, .int (nI k)), (0, .ref (gA G 65)), (1, .int (nI (sLen.getD i 0))), (2, .int (chI i 0)), (3, .int (chI i 1)), (4, .int (chI i 2)), (5, .int (chI i 3)), (6, .int (chI i 4)), (7, .int (chI i 5))]) hx hb dX11_isName_116 hl (by decide) rfl (fun ls hl => ?_)
                            refine lv_iinc (v := (nI (k + 1))) (lv' := [(9, .int (nI (k + 1))), (8, .int 1), (0, .ref (gA G 65)), (1, .int (nI (sLen.getD i 0))), (2, .int (chI i 0)), (3, .int (chI i 1)), (4, .int (chI i 2)), (5, .int (chI i 3)), (6, .int (chI i 4)), (7, .int (chI i 5))]) hx hb dX11_isName_118 hl (k := 1) rfl (nI_1 k) (by decide) rfl (fun ls hl => ?_)
                            refine lv_goto (tgt := 31) hx hb dX11_isName_121 (by decide) ?_
                            exact ih31 (k + 1) 1 _ _ ls (by omega) hkl (Or.inl ⟨rfl, hs1, hlen, fun j hj => by rcases Nat.lt_or_eq_of_le (Nat.lt_succ_iff.mp hj) with z | z; exact hall j z; rw [z]; exact hye⟩) hW (lv_sub hl [0, 1, 2, 3, 4, 5, 6, 7, 8, 9] rfl)
                        · skip
                          rw [t_eq, show (4 : Int32).toInt = 4 from by decide] at c98
                          rw [n_toInt (by omega)] at c98
                          refine lv_iload hx hb dX11_isName_101 (lv_at hl 8 rfl) ?_
                          refine lv_goto (tgt := 108) hx hb dX11_isName_103 (by decide) ?_
                          have hkm : k = 4 := by omega
                          refine W.eq (g2 := F0 mM 108 ls [.int (chI i k), .int (nI (T (SK T ts a + k)))]) (by rw [hkm]) ?_
                          refine lv_icmp_ne (tgt := 115) hx hb dX11_isName_108 (by decide) (fun c108 => ?_) (fun c108 => ?_)
                          · skip
                            have hne : ¬ T (SK T ts a + k) = chN i k := fun z => c108 (by rw [z]; exact s_chm i hi k (by omega))
                            refine lv_iconst (v := 0) hx hb dX11_isName_115 (by decide) ?_
                            refine lv_istore (lv' := [(8, .int 0), (9, .int (nI k)), (0, .ref (gA G 65)), (1, .int (nI (sLen.getD i 0))), (2, .int (chI i 0)), (3, .int (chI i 1)), (4, .int (chI i 2)), (5, .int (chI i 3)), (6, .int (chI i 4)), (7, .int (chI i 5))]) hx hb dX11_isName_116 hl (by decide) rfl (fun ls hl => ?_)
                            refine lv_iinc (v := (nI (k + 1))) (lv' := [(9, .int (nI (k + 1))), (8, .int 0), (0, .ref (gA G 65)), (1, .int (nI (sLen.getD i 0))), (2, .int (chI i 0)), (3, .int (chI i 1)), (4, .int (chI i 2)), (5, .int (chI i 3)), (6, .int (chI i 4)), (7, .int (chI i 5))]) hx hb dX11_isName_118 hl (k := 1) rfl (nI_1 k) (by decide) rfl (fun ls hl => ?_)
                            refine lv_goto (tgt := 31) hx hb dX11_isName_121 (by decide) ?_
                            exact ih31 (k + 1) 0 _ _ ls (by omega) hkl (Or.inr ⟨rfl, fun z => hne (z.2.2 k hkl)⟩) hW (lv_sub hl [0, 1, 2, 3, 4, 5, 6, 7, 8, 9] rfl)
                          · skip
                            have hye : T (SK T ts a + k) = chN i k := (n_eq (by have := hTB (SK T ts a + k) (by omega); omega) (by have := (s_chn i hi k (by omega)).1; omega)).mp (c108.trans (s_chm i hi k (by omega)).symm)
                            refine lv_iconst (v := 1) hx hb dX11_isName_111 (by decide) ?_
                            refine lv_goto (tgt := 116) hx hb dX11_isName_112 (by decide) ?_
                            refine lv_istore (lv' := [(8, .int 1), (9, .int (nI k)), (0, .ref (gA G 65)), (1, .int (nI (sLen.getD i 0))), (2, .int (chI i 0)), (3, .int (chI i 1)), (4, .int (chI i 2)), (5, .int (chI i 3)), (6, .int (chI i 4)), (7, .int (chI i 5))]) hx hb dX11_isName_116 hl (by decide) rfl (fun ls hl => ?_)
                            refine lv_iinc (v := (nI (k + 1))) (lv' := [(9, .int (nI (k + 1))), (8, .int 1), (0, .ref (gA G 65)), (1, .int (nI (sLen.getD i 0))), (2, .int (chI i 0)), (3, .int (chI i 1)), (4, .int (chI i 2)), (5, .int (chI i 3)), (6, .int (chI i 4)), (7, .int (chI i 5))]) hx hb dX11_isName_118 hl (k := 1) rfl (nI_1 k) (by decide) rfl (fun ls hl => ?_)
                            refine lv_goto (tgt := 31) hx hb dX11_isName_121 (by decide) ?_
                            exact ih31 (k + 1) 1 _ _ ls (by omega) hkl (Or.inl ⟨rfl, hs1, hlen, fun j hj => by rcases Nat.lt_or_eq_of_le (Nat.lt_succ_iff.mp hj) with z | z; exact hall j z; rw [z]; exact hye⟩) hW (lv_sub hl [0, 1, 2, 3, 4, 5, 6, 7, 8, 9] rfl)
                      · skip
                        rw [t_eq, show (3 : Int32).toInt = 3 from by decide] at c87
                        rw [n_toInt (by omega)] at c87
                        refine lv_iload hx hb dX11_isName_90 (lv_at hl 7 rfl) ?_
                        refine lv_goto (tgt := 108) hx hb dX11_isName_92 (by decide) ?_
                        have hkm : k = 3 := by omega
                        refine W.eq (g2 := F0 mM 108 ls [.int (chI i k), .int (nI (T (SK T ts a + k)))]) (by rw [hkm]) ?_
                        refine lv_icmp_ne (tgt := 115) hx hb dX11_isName_108 (by decide) (fun c108 => ?_) (fun c108 => ?_)
                        · skip
                          have hne : ¬ T (SK T ts a + k) = chN i k := fun z => c108 (by rw [z]; exact s_chm i hi k (by omega))
                          refine lv_iconst (v := 0) hx hb dX11_isName_115 (by decide) ?_
                          refine lv_istore (lv' := [(8, .int 0), (9, .int (nI k)), (0, .ref (gA G 65)), (1, .int (nI (sLen.getD i 0))), (2, .int (chI i 0)), (3, .int (chI i 1)), (4, .int (chI i 2)), (5, .int (chI i 3)), (6, .int (chI i 4)), (7, .int (chI i 5))]) hx hb dX11_isName_116 hl (by decide) rfl (fun ls hl => ?_)
                          refine lv_iinc (v := (nI (k + 1))) (lv' := [(9, .int (nI (k + 1))), (8, .int 0), (0, .ref (gA G 65)), (1, .int (nI (sLen.getD i 0))), (2, .int (chI i 0)), (3, .int (chI i 1)), (4, .int (chI i 2)), (5, .int (chI i 3)), (6, .int (chI i 4)), (7, .int (chI i 5))]) hx hb dX11_isName_118 hl (k := 1) rfl (nI_1 k) (by decide) rfl (fun ls hl => ?_)
                          refine lv_goto (tgt := 31) hx hb dX11_isName_121 (by decide) ?_
                          exact ih31 (k + 1) 0 _ _ ls (by omega) hkl (Or.inr ⟨rfl, fun z => hne (z.2.2 k hkl)⟩) hW (lv_sub hl [0, 1, 2, 3, 4, 5, 6, 7, 8, 9] rfl)
                        · skip
                          have hye : T (SK T ts a + k) = chN i k := (n_eq (by have := hTB (SK T ts a + k) (by omega); omega) (by have := (s_chn i hi k (by omega)).1; omega)).mp (c108.trans (s_chm i hi k (by omega)).symm)
                          refine lv_iconst (v := 1) hx hb dX11_isName_111 (by decide) ?_
                          refine lv_goto (tgt := 116) hx hb dX11_isName_112 (by decide) ?_
                          refine lv_istore (lv' := [(8, .int 1), (9, .int (nI k)), (0, .ref (gA G 65)), (1, .int (nI (sLen.getD i 0))), (2, .int (chI i 0)), (3, .int (chI i 1)), (4, .int (chI i 2)), (5, .int (chI i 3)), (6, .int (chI i 4)), (7, .int (chI i 5))]) hx hb dX11_isName_116 hl (by decide) rfl (fun ls hl => ?_)
                          refine lv_iinc (v := (nI (k + 1))) (lv' := [(9, .int (nI (k + 1))), (8, .int 1), (0, .ref (gA G 65)), (1, .int (nI (sLen.getD i 0))), (2, .int (chI i 0)), (3, .int (chI i 1)), (4, .int (chI i 2)), (5, .int (chI i 3)), (6, .int (chI i 4)), (7, .int (chI i 5))]) hx hb dX11_isName_118 hl (k := 1) rfl (nI_1 k) (by decide) rfl (fun ls hl => ?_)
                          refine lv_goto (tgt := 31) hx hb dX11_isName_121 (by decide) ?_
                          exact ih31 (k + 1) 1 _ _ ls (by omega) hkl (Or.inl ⟨rfl, hs1, hlen, fun j hj => by rcases Nat.lt_or_eq_of_le (Nat.lt_succ_iff.mp hj) with z | z; exact hall j z; rw [z]; exact hye⟩) hW (lv_sub hl [0, 1, 2, 3, 4, 5, 6, 7, 8, 9] rfl)
                    · skip
                      rw [t_eq, show (2 : Int32).toInt = 2 from by decide] at c76
                      rw [n_toInt (by omega)] at c76
                      refine lv_iload hx hb dX11_isName_79 (lv_at hl 6 rfl) ?_
                      refine lv_goto (tgt := 108) hx hb dX11_isName_81 (by decide) ?_
                      have hkm : k = 2 := by omega
                      refine W.eq (g2 := F0 mM 108 ls [.int (chI i k), .int (nI (T (SK T ts a + k)))]) (by rw [hkm]) ?_
                      refine lv_icmp_ne (tgt := 115) hx hb dX11_isName_108 (by decide) (fun c108 => ?_) (fun c108 => ?_)
                      · skip
                        have hne : ¬ T (SK T ts a + k) = chN i k := fun z => c108 (by rw [z]; exact s_chm i hi k (by omega))
                        refine lv_iconst (v := 0) hx hb dX11_isName_115 (by decide) ?_
                        refine lv_istore (lv' := [(8, .int 0), (9, .int (nI k)), (0, .ref (gA G 65)), (1, .int (nI (sLen.getD i 0))), (2, .int (chI i 0)), (3, .int (chI i 1)), (4, .int (chI i 2)), (5, .int (chI i 3)), (6, .int (chI i 4)), (7, .int (chI i 5))]) hx hb dX11_isName_116 hl (by decide) rfl (fun ls hl => ?_)
                        refine lv_iinc (v := (nI (k + 1))) (lv' := [(9, .int (nI (k + 1))), (8, .int 0), (0, .ref (gA G 65)), (1, .int (nI (sLen.getD i 0))), (2, .int (chI i 0)), (3, .int (chI i 1)), (4, .int (chI i 2)), (5, .int (chI i 3)), (6, .int (chI i 4)), (7, .int (chI i 5))]) hx hb dX11_isName_118 hl (k := 1) rfl (nI_1 k) (by decide) rfl (fun ls hl => ?_)
                        refine lv_goto (tgt := 31) hx hb dX11_isName_121 (by decide) ?_
                        exact ih31 (k + 1) 0 _ _ ls (by omega) hkl (Or.inr ⟨rfl, fun z => hne (z.2.2 k hkl)⟩) hW (lv_sub hl [0, 1, 2, 3, 4, 5, 6, 7, 8, 9] rfl)
                      · skip
                        have hye : T (SK T ts a + k) = chN i k := (n_eq (by have := hTB (SK T ts a + k) (by omega); omega) (by have := (s_chn i hi k (by omega)).1; omega)).mp (c108.trans (s_chm i hi k (by omega)).symm)
                        refine lv_iconst (v := 1) hx hb dX11_isName_111 (by decide) ?_
                        refine lv_goto (tgt := 116) hx hb dX11_isName_112 (by decide) ?_
                        refine lv_istore (lv' := [(8, .int 1), (9, .int (nI k)), (0, .ref (gA G 65)), (1, .int (nI (sLen.getD i 0))), (2, .int (chI i 0)), (3, .int (chI i 1)), (4, .int (chI i 2)), (5, .int (chI i 3)), (6, .int (chI i 4)), (7, .int (chI i 5))]) hx hb dX11_isName_116 hl (by decide) rfl (fun ls hl => ?_)
                        refine lv_iinc (v := (nI (k + 1))) (lv' := [(9, .int (nI (k + 1))), (8, .int 1), (0, .ref (gA G 65)), (1, .int (nI (sLen.getD i 0))), (2, .int (chI i 0)), (3, .int (chI i 1)), (4, .int (chI i 2)), (5, .int (chI i 3)), (6, .int (chI i 4)), (7, .int (chI i 5))]) hx hb dX11_isName_118 hl (k := 1) rfl (nI_1 k) (by decide) rfl (fun ls hl => ?_)
                        refine lv_goto (tgt := 31) hx hb dX11_isName_121 (by decide) ?_
                        exact ih31 (k + 1) 1 _ _ ls (by omega) hkl (Or.inl ⟨rfl, hs1, hlen, fun j hj => by rcases Nat.lt_or_eq_of_le (Nat.lt_succ_iff.mp hj) with z | z; exact hall j z; rw [z]; exact hye⟩) hW (lv_sub hl [0, 1, 2, 3, 4, 5, 6, 7, 8, 9] rfl)
                  · skip
                    rw [t_eq, show (1 : Int32).toInt = 1 from by decide] at c66
                    rw [n_toInt (by omega)] at c66
                    refine lv_iload_n hx hb dX11_isName_69 rfl (lv_at hl 5 rfl) ?_
                    refine lv_goto (tgt := 108) hx hb dX11_isName_70 (by decide) ?_
                    have hkm : k = 1 := by omega
                    refine W.eq (g2 := F0 mM 108 ls [.int (chI i k), .int (nI (T (SK T ts a + k)))]) (by rw [hkm]) ?_
                    refine lv_icmp_ne (tgt := 115) hx hb dX11_isName_108 (by decide) (fun c108 => ?_) (fun c108 => ?_)
                    · skip
                      have hne : ¬ T (SK T ts a + k) = chN i k := fun z => c108 (by rw [z]; exact s_chm i hi k (by omega))
                      refine lv_iconst (v := 0) hx hb dX11_isName_115 (by decide) ?_
                      refine lv_istore (lv' := [(8, .int 0), (9, .int (nI k)), (0, .ref (gA G 65)), (1, .int (nI (sLen.getD i 0))), (2, .int (chI i 0)), (3, .int (chI i 1)), (4, .int (chI i 2)), (5, .int (chI i 3)), (6, .int (chI i 4)), (7, .int (chI i 5))]) hx hb dX11_isName_116 hl (by decide) rfl (fun ls hl => ?_)
                      refine lv_iinc (v := (nI (k + 1))) (lv' := [(9, .int (nI (k + 1))), (8, .int 0), (0, .ref (gA G 65)), (1, .int (nI (sLen.getD i 0))), (2, .int (chI i 0)), (3, .int (chI i 1)), (4, .int (chI i 2)), (5, .int (chI i 3)), (6, .int (chI i 4)), (7, .int (chI i 5))]) hx hb dX11_isName_118 hl (k := 1) rfl (nI_1 k) (by decide) rfl (fun ls hl => ?_)
                      refine lv_goto (tgt := 31) hx hb dX11_isName_121 (by decide) ?_
                      exact ih31 (k + 1) 0 _ _ ls (by omega) hkl (Or.inr ⟨rfl, fun z => hne (z.2.2 k hkl)⟩) hW (lv_sub hl [0, 1, 2, 3, 4, 5, 6, 7, 8, 9] rfl)
                    · skip
                      have hye : T (SK T ts a + k) = chN i k := (n_eq (by have := hTB (SK T ts a + k) (by omega); omega) (by have := (s_chn i hi k (by omega)).1; omega)).mp (c108.trans (s_chm i hi k (by omega)).symm)
                      refine lv_iconst (v := 1) hx hb dX11_isName_111 (by decide) ?_
                      refine lv_goto (tgt := 116) hx hb dX11_isName_112 (by decide) ?_
                      refine lv_istore (lv' := [(8, .int 1), (9, .int (nI k)), (0, .ref (gA G 65)), (1, .int (nI (sLen.getD i 0))), (2, .int (chI i 0)), (3, .int (chI i 1)), (4, .int (chI i 2)), (5, .int (chI i 3)), (6, .int (chI i 4)), (7, .int (chI i 5))]) hx hb dX11_isName_116 hl (by decide) rfl (fun ls hl => ?_)
                      refine lv_iinc (v := (nI (k + 1))) (lv' := [(9, .int (nI (k + 1))), (8, .int 1), (0, .ref (gA G 65)), (1, .int (nI (sLen.getD i 0))), (2, .int (chI i 0)), (3, .int (chI i 1)), (4, .int (chI i 2)), (5, .int (chI i 3)), (6, .int (chI i 4)), (7, .int (chI i 5))]) hx hb dX11_isName_118 hl (k := 1) rfl (nI_1 k) (by decide) rfl (fun ls hl => ?_)
                      refine lv_goto (tgt := 31) hx hb dX11_isName_121 (by decide) ?_
                      exact ih31 (k + 1) 1 _ _ ls (by omega) hkl (Or.inl ⟨rfl, hs1, hlen, fun j hj => by rcases Nat.lt_or_eq_of_le (Nat.lt_succ_iff.mp hj) with z | z; exact hall j z; rw [z]; exact hye⟩) hW (lv_sub hl [0, 1, 2, 3, 4, 5, 6, 7, 8, 9] rfl)
                · skip
                  rw [t_eq, show (0 : Int32).toInt = 0 from by decide] at c56
                  rw [n_toInt (by omega)] at c56
                  refine lv_iload_n hx hb dX11_isName_59 rfl (lv_at hl 4 rfl) ?_
                  refine lv_goto (tgt := 108) hx hb dX11_isName_60 (by decide) ?_
                  have hkm : k = 0 := by omega
                  refine W.eq (g2 := F0 mM 108 ls [.int (chI i k), .int (nI (T (SK T ts a + k)))]) (by rw [hkm]) ?_
                  refine lv_icmp_ne (tgt := 115) hx hb dX11_isName_108 (by decide) (fun c108 => ?_) (fun c108 => ?_)
                  · skip
                    have hne : ¬ T (SK T ts a + k) = chN i k := fun z => c108 (by rw [z]; exact s_chm i hi k (by omega))
                    refine lv_iconst (v := 0) hx hb dX11_isName_115 (by decide) ?_
                    refine lv_istore (lv' := [(8, .int 0), (9, .int (nI k)), (0, .ref (gA G 65)), (1, .int (nI (sLen.getD i 0))), (2, .int (chI i 0)), (3, .int (chI i 1)), (4, .int (chI i 2)), (5, .int (chI i 3)), (6, .int (chI i 4)), (7, .int (chI i 5))]) hx hb dX11_isName_116 hl (by decide) rfl (fun ls hl => ?_)
                    refine lv_iinc (v := (nI (k + 1))) (lv' := [(9, .int (nI (k + 1))), (8, .int 0), (0, .ref (gA G 65)), (1, .int (nI (sLen.getD i 0))), (2, .int (chI i 0)), (3, .int (chI i 1)), (4, .int (chI i 2)), (5, .int (chI i 3)), (6, .int (chI i 4)), (7, .int (chI i 5))]) hx hb dX11_isName_118 hl (k := 1) rfl (nI_1 k) (by decide) rfl (fun ls hl => ?_)
                    refine lv_goto (tgt := 31) hx hb dX11_isName_121 (by decide) ?_
                    exact ih31 (k + 1) 0 _ _ ls (by omega) hkl (Or.inr ⟨rfl, fun z => hne (z.2.2 k hkl)⟩) hW (lv_sub hl [0, 1, 2, 3, 4, 5, 6, 7, 8, 9] rfl)
                  · skip
                    have hye : T (SK T ts a + k) = chN i k := (n_eq (by have := hTB (SK T ts a + k) (by omega); omega) (by have := (s_chn i hi k (by omega)).1; omega)).mp (c108.trans (s_chm i hi k (by omega)).symm)
                    refine lv_iconst (v := 1) hx hb dX11_isName_111 (by decide) ?_
                    refine lv_goto (tgt := 116) hx hb dX11_isName_112 (by decide) ?_
                    refine lv_istore (lv' := [(8, .int 1), (9, .int (nI k)), (0, .ref (gA G 65)), (1, .int (nI (sLen.getD i 0))), (2, .int (chI i 0)), (3, .int (chI i 1)), (4, .int (chI i 2)), (5, .int (chI i 3)), (6, .int (chI i 4)), (7, .int (chI i 5))]) hx hb dX11_isName_116 hl (by decide) rfl (fun ls hl => ?_)
                    refine lv_iinc (v := (nI (k + 1))) (lv' := [(9, .int (nI (k + 1))), (8, .int 1), (0, .ref (gA G 65)), (1, .int (nI (sLen.getD i 0))), (2, .int (chI i 0)), (3, .int (chI i 1)), (4, .int (chI i 2)), (5, .int (chI i 3)), (6, .int (chI i 4)), (7, .int (chI i 5))]) hx hb dX11_isName_118 hl (k := 1) rfl (nI_1 k) (by decide) rfl (fun ls hl => ?_)
                    refine lv_goto (tgt := 31) hx hb dX11_isName_121 (by decide) ?_
                    exact ih31 (k + 1) 1 _ _ ls (by omega) hkl (Or.inl ⟨rfl, hs1, hlen, fun j hj => by rcases Nat.lt_or_eq_of_le (Nat.lt_succ_iff.mp hj) with z | z; exact hall j z; rw [z]; exact hye⟩) hW (lv_sub hl [0, 1, 2, 3, 4, 5, 6, 7, 8, 9] rfl)
            · skip
              refine lv_iload hx hb dX11_isName_37 (lv_at hl 1 rfl) ?_
              refine lv_if_eq (tgt := 124) hx hb dX11_isName_39 (by decide) (fun c39 => ?_) (fun c39 => ?_)
              · skip
                refine lv_iload hx hb dX11_isName_124 (lv_at hl 1 rfl) ?_
                rw [← hQ0]
                refine r_zret hx hb hr hlocks hW (Or.inl rfl) ?_ dX11_isName_126
                exact ⟨rfl, Or.inr ⟨rfl, hno⟩⟩
              · exact absurd (by decide) c39
      exact L31 _ 0 0 _ _ ls (Nat.lt_succ_self _) (Nat.zero_le _) (Or.inr ⟨rfl, fun z => hlen z.2.1⟩) hW (lv_sub hl [0, 1, 2, 3, 4, 5, 6, 7, 8, 9] rfl)
    · skip
      have hlen : tE T ts a - SK T ts a = sLen.getD i 0 := (n_eq (by omega) (by omega)).mp c18
      refine lv_iconst (v := 1) hx hb dX11_isName_21 (by decide) ?_
      refine lv_goto (tgt := 26) hx hb dX11_isName_22 (by decide) ?_
      refine lv_istore (lv' := [(8, .int 1), (0, .ref (gA G 65)), (1, .int (nI (sLen.getD i 0))), (2, .int (chI i 0)), (3, .int (chI i 1)), (4, .int (chI i 2)), (5, .int (chI i 3)), (6, .int (chI i 4)), (7, .int (chI i 5))]) hx hb dX11_isName_26 hl (by decide) rfl (fun ls hl => ?_)
      refine lv_iconst (v := 0) hx hb dX11_isName_28 (by decide) ?_
      refine lv_istore (lv' := [(9, .int 0), (8, .int 1), (0, .ref (gA G 65)), (1, .int (nI (sLen.getD i 0))), (2, .int (chI i 0)), (3, .int (chI i 1)), (4, .int (chI i 2)), (5, .int (chI i 3)), (6, .int (chI i 4)), (7, .int (chI i 5))]) hx hb dX11_isName_29 hl (by decide) rfl (fun ls hl => ?_)
      have L31 : ∀ (n : Nat) (k : Nat) (b0 : Int32) (H : Heap) (locs : List Loc) (ls : Array Slot), (sLen.getD i 0 - k) < n → k ≤ sLen.getD i 0 → ((b0 = 1 ∧ tS T ts a = 1 ∧ tE T ts a - SK T ts a = sLen.getD i 0 ∧ ∀ j, j < k → T (SK T ts a + j) = chN i j) ∨ (b0 = 0 ∧ ¬ isW T ts a i)) → Wd D (AW G s.heap.size) s G S H locs → lv_has ls 10 [(9, .int (nI k)), (8, .int b0), (0, .ref (gA G 65)), (1, .int (nI (sLen.getD i 0))), (2, .int (chI i 0)), (3, .int (chI i 1)), (4, .int (chI i 2)), (5, .int (chI i 3)), (6, .int (chI i 4)), (7, .int (chI i 5))] → W pP l eE (headSpec wsX11_isName rmX11_isName).room s mM ([.ref (gA G 65), .int (nI (sLen.getD i 0)), .int (chI i 0), .int (chI i 1), .int (chI i 2), .int (chI i 3), .int (chI i 4), .int (chI i 5)] : List Value).toArray bl mT cD H locs 0 0 Q0 (F0 mM 31 ls []) := by
        intro n
        induction n with
        | zero => intro k b0 H locs ls hm; exact absurd hm (Nat.not_lt_zero _)
        | succ n ih31 =>
          intro k b0 H locs ls hm31 hk hbv hW hl
          refine lv_iload hx hb dX11_isName_31 (lv_at hl 0 rfl) ?_
          refine lv_iload_n hx hb dX11_isName_33 rfl (lv_at hl 3 rfl) ?_
          refine lv_icmp_ge (tgt := 124) hx hb dX11_isName_34 (by decide) (fun c34 => ?_) (fun c34 => ?_)
          · skip
            have hge := (n_le (a := sLen.getD i 0) (b := k) (by omega) (by omega)).mp c34
            rcases hbv with ⟨rfl, hs1, hlen, hall⟩ | ⟨rfl, hno⟩
            · skip
              refine lv_iload hx hb dX11_isName_124 (lv_at hl 1 rfl) ?_
              rw [← hQ0]
              refine r_zret hx hb hr hlocks hW (Or.inr rfl) ?_ dX11_isName_126
              exact ⟨rfl, Or.inl ⟨rfl, hs1, hlen, fun j hj => hall j (by omega)⟩⟩
            · skip
              refine lv_iload hx hb dX11_isName_124 (lv_at hl 1 rfl) ?_
              rw [← hQ0]
              refine r_zret hx hb hr hlocks hW (Or.inl rfl) ?_ dX11_isName_126
              exact ⟨rfl, Or.inr ⟨rfl, hno⟩⟩
          · skip
            have hkl : k < sLen.getD i 0 := by
              have h9 : ¬ sLen.getD i 0 ≤ k := fun z => c34 ((n_le (a := sLen.getD i 0) (b := k) (by omega) (by omega)).mpr z)
              omega
            rcases hbv with ⟨rfl, hs1, hlen, hall⟩ | ⟨rfl, hno⟩
            · skip
              refine lv_iload hx hb dX11_isName_37 (lv_at hl 1 rfl) ?_
              refine lv_if_eq (tgt := 124) hx hb dX11_isName_39 (by decide) (fun c39 => ?_) (fun c39 => ?_)
              · exact absurd c39 (by decide)
              · skip
                refine lv_aload_n hx hb dX11_isName_42 rfl (lv_at hl 2 rfl) ?_
                refine r_getr (ci := 10) (C := RX11) (T := TX11) (N := 20) hx hb hts iX11 hown hW rfl 65 6 rfl (g_lt hG (by decide)) (g_kd hG (by decide) rfl) (by decide) q1 (fun _ h9 => h9) (hP _ (List.mem_of_getElem? (i := 65) rfl)) rfl rfl dX11_isName_43 ?_
                refine lv_aload_n hx hb dX11_isName_46 rfl (lv_at hl 2 rfl) ?_
                refine r_geti (ci := 10) (C := RX11) (T := TX11) (N := 20) hx hb hts iX11 hown hW rfl 65 9 rfl (g_lt hG (by decide)) (g_kd hG (by decide) rfl) (by decide) q2 (fun _ h9 => h9) (nI (SK T ts a)) hTk.1 rfl rfl dX11_isName_47 ?_
                refine lv_iload hx hb dX11_isName_50 (lv_at hl 0 rfl) ?_
                refine lv_iadd hx hb dX11_isName_52 ?_
                rw [show (((nI (SK T ts a)) + (nI k)) : Int32) = (nI ((SK T ts a) + k)) from n_add (SK T ts a) k]
                refine r_iald hx hb hW 71 rfl (g_lt hG (by decide)) (g_kd hG (by decide) rfl) (g_ix hG (c := 400) (by decide) rfl (n_inI (by omega) (by decide))) (nI (T (SK T ts a + k))) (by rw [n_clamp (by omega)]; exact hX.2 _ (by omega)) dX11_isName_53 ?_
                refine lv_iload hx hb dX11_isName_54 (lv_at hl 0 rfl) ?_
                refine lv_if_ne (tgt := 63) hx hb dX11_isName_56 (by decide) (fun c56 => ?_) (fun c56 => ?_)
                · skip
                  rw [t_eq, show (0 : Int32).toInt = 0 from by decide] at c56
                  rw [n_toInt (by omega)] at c56
                  refine lv_iload hx hb dX11_isName_63 (lv_at hl 0 rfl) ?_
                  refine lv_iconst (v := 1) hx hb dX11_isName_65 (by decide) ?_
                  refine lv_icmp_ne (tgt := 73) hx hb dX11_isName_66 (by decide) (fun c66 => ?_) (fun c66 => ?_)
                  · skip
                    rw [t_eq, show (1 : Int32).toInt = 1 from by decide] at c66
                    rw [n_toInt (by omega)] at c66
                    refine lv_iload hx hb dX11_isName_73 (lv_at hl 0 rfl) ?_
                    refine lv_iconst (v := 2) hx hb dX11_isName_75 (by decide) ?_
                    refine lv_icmp_ne (tgt := 84) hx hb dX11_isName_76 (by decide) (fun c76 => ?_) (fun c76 => ?_)
                    · skip
                      rw [t_eq, show (2 : Int32).toInt = 2 from by decide] at c76
                      rw [n_toInt (by omega)] at c76
                      refine lv_iload hx hb dX11_isName_84 (lv_at hl 0 rfl) ?_
                      refine lv_iconst (v := 3) hx hb dX11_isName_86 (by decide) ?_
                      refine lv_icmp_ne (tgt := 95) hx hb dX11_isName_87 (by decide) (fun c87 => ?_) (fun c87 => ?_)
                      · skip
                        rw [t_eq, show (3 : Int32).toInt = 3 from by decide] at c87
                        rw [n_toInt (by omega)] at c87
                        refine lv_iload hx hb dX11_isName_95 (lv_at hl 0 rfl) ?_
                        refine lv_iconst (v := 4) hx hb dX11_isName_97 (by decide) ?_
                        refine lv_icmp_ne (tgt := 106) hx hb dX11_isName_98 (by decide) (fun c98 => ?_) (fun c98 => ?_)
                        · skip
                          rw [t_eq, show (4 : Int32).toInt = 4 from by decide] at c98
                          rw [n_toInt (by omega)] at c98
                          refine lv_iload hx hb dX11_isName_106 (lv_at hl 9 rfl) ?_
                          have hkm : k = 5 := by omega
                          refine W.eq (g2 := F0 mM 108 ls [.int (chI i k), .int (nI (T (SK T ts a + k)))]) (by rw [hkm]) ?_
                          refine lv_icmp_ne (tgt := 115) hx hb dX11_isName_108 (by decide) (fun c108 => ?_) (fun c108 => ?_)
                          · skip
                            have hne : ¬ T (SK T ts a + k) = chN i k := fun z => c108 (by rw [z]; exact s_chm i hi k (by omega))
                            refine lv_iconst (v := 0) hx hb dX11_isName_115 (by decide) ?_
                            refine lv_istore (lv' := [(8, .int 0), (9, .int (nI k)), (0, .ref (gA G 65)), (1, .int (nI (sLen.getD i 0))), (2, .int (chI i 0)), (3, .int (chI i 1)), (4, .int (chI i 2)), (5, .int (chI i 3)), (6, .int (chI i 4)), (7, .int (chI i 5))]) hx hb dX11_isName_116 hl (by decide) rfl (fun ls hl => ?_)
                            refine lv_iinc (v := (nI (k + 1))) (lv' := [(9, .int (nI (k + 1))), (8, .int 0), (0, .ref (gA G 65)), (1, .int (nI (sLen.getD i 0))), (2, .int (chI i 0)), (3, .int (chI i 1)), (4, .int (chI i 2)), (5, .int (chI i 3)), (6, .int (chI i 4)), (7, .int (chI i 5))]) hx hb dX11_isName_118 hl (k := 1) rfl (nI_1 k) (by decide) rfl (fun ls hl => ?_)
                            refine lv_goto (tgt := 31) hx hb dX11_isName_121 (by decide) ?_
                            exact ih31 (k + 1) 0 _ _ ls (by omega) hkl (Or.inr ⟨rfl, fun z => hne (z.2.2 k hkl)⟩) hW (lv_sub hl [0, 1, 2, 3, 4, 5, 6, 7, 8, 9] rfl)
                          · skip
                            have hye : T (SK T ts a + k) = chN i k := (n_eq (by have := hTB (SK T ts a + k) (by omega); omega) (by have := (s_chn i hi k (by omega)).1; omega)).mp (c108.trans (s_chm i hi k (by omega)).symm)
                            refine lv_iconst (v := 1) hx hb dX11_isName_111 (by decide) ?_
                            refine lv_goto (tgt := 116) hx hb dX11_isName_112 (by decide) ?_
                            refine lv_istore (lv' := [(8, .int 1), (9, .int (nI k)), (0, .ref (gA G 65)), (1, .int (nI (sLen.getD i 0))), (2, .int (chI i 0)), (3, .int (chI i 1)), (4, .int (chI i 2)), (5, .int (chI i 3)), (6, .int (chI i 4)), (7, .int (chI i 5))]) hx hb dX11_isName_116 hl (by decide) rfl (fun ls hl => ?_)
                            refine lv_iinc (v := (nI (k + 1))) (lv' := [(9, .int (nI (k + 1))), (8, .int 1), (0, .ref (gA G 65)), (1, .int (nI (sLen.getD i 0))), (2, .int (chI i 0)), (3, .int (chI i 1)), (4, .int (chI i 2)), (5, .int (chI i 3)), (6, .int (chI i 4)), (7, .int (chI i 5))]) hx hb dX11_isName_118 hl (k := 1) rfl (nI_1 k) (by decide) rfl (fun ls hl => ?_)
                            refine lv_goto (tgt := 31) hx hb dX11_isName_121 (by decide) ?_
                            exact ih31 (k + 1) 1 _ _ ls (by omega) hkl (Or.inl ⟨rfl, hs1, hlen, fun j hj => by rcases Nat.lt_or_eq_of_le (Nat.lt_succ_iff.mp hj) with z | z; exact hall j z; rw [z]; exact hye⟩) hW (lv_sub hl [0, 1, 2, 3, 4, 5, 6, 7, 8, 9] rfl)
                        · skip
                          rw [t_eq, show (4 : Int32).toInt = 4 from by decide] at c98
                          rw [n_toInt (by omega)] at c98
                          refine lv_iload hx hb dX11_isName_101 (lv_at hl 8 rfl) ?_
                          refine lv_goto (tgt := 108) hx hb dX11_isName_103 (by decide) ?_
                          have hkm : k = 4 := by omega
                          refine W.eq (g2 := F0 mM 108 ls [.int (chI i k), .int (nI (T (SK T ts a + k)))]) (by rw [hkm]) ?_
                          refine lv_icmp_ne (tgt := 115) hx hb dX11_isName_108 (by decide) (fun c108 => ?_) (fun c108 => ?_)
                          · skip
                            have hne : ¬ T (SK T ts a + k) = chN i k := fun z => c108 (by rw [z]; exact s_chm i hi k (by omega))
                            refine lv_iconst (v := 0) hx hb dX11_isName_115 (by decide) ?_
                            refine lv_istore (lv' := [(8, .int 0), (9, .int (nI k)), (0, .ref (gA G 65)), (1, .int (nI (sLen.getD i 0))), (2, .int (chI i 0)), (3, .int (chI i 1)), (4, .int (chI i 2)), (5, .int (chI i 3)), (6, .int (chI i 4)), (7, .int (chI i 5))]) hx hb dX11_isName_116 hl (by decide) rfl (fun ls hl => ?_)
                            refine lv_iinc (v := (nI (k + 1))) (lv' := [(9, .int (nI (k + 1))), (8, .int 0), (0, .ref (gA G 65)), (1, .int (nI (sLen.getD i 0))), (2, .int (chI i 0)), (3, .int (chI i 1)), (4, .int (chI i 2)), (5, .int (chI i 3)), (6, .int (chI i 4)), (7, .int (chI i 5))]) hx hb dX11_isName_118 hl (k := 1) rfl (nI_1 k) (by decide) rfl (fun ls hl => ?_)
                            refine lv_goto (tgt := 31) hx hb dX11_isName_121 (by decide) ?_
                            exact ih31 (k + 1) 0 _ _ ls (by omega) hkl (Or.inr ⟨rfl, fun z => hne (z.2.2 k hkl)⟩) hW (lv_sub hl [0, 1, 2, 3, 4, 5, 6, 7, 8, 9] rfl)
                          · skip
                            have hye : T (SK T ts a + k) = chN i k := (n_eq (by have := hTB (SK T ts a + k) (by omega); omega) (by have := (s_chn i hi k (by omega)).1; omega)).mp (c108.trans (s_chm i hi k (by omega)).symm)
                            refine lv_iconst (v := 1) hx hb dX11_isName_111 (by decide) ?_
                            refine lv_goto (tgt := 116) hx hb dX11_isName_112 (by decide) ?_
                            refine lv_istore (lv' := [(8, .int 1), (9, .int (nI k)), (0, .ref (gA G 65)), (1, .int (nI (sLen.getD i 0))), (2, .int (chI i 0)), (3, .int (chI i 1)), (4, .int (chI i 2)), (5, .int (chI i 3)), (6, .int (chI i 4)), (7, .int (chI i 5))]) hx hb dX11_isName_116 hl (by decide) rfl (fun ls hl => ?_)
                            refine lv_iinc (v := (nI (k + 1))) (lv' := [(9, .int (nI (k + 1))), (8, .int 1), (0, .ref (gA G 65)), (1, .int (nI (sLen.getD i 0))), (2, .int (chI i 0)), (3, .int (chI i 1)), (4, .int (chI i 2)), (5, .int (chI i 3)), (6, .int (chI i 4)), (7, .int (chI i 5))]) hx hb dX11_isName_118 hl (k := 1) rfl (nI_1 k) (by decide) rfl (fun ls hl => ?_)
                            refine lv_goto (tgt := 31) hx hb dX11_isName_121 (by decide) ?_
                            exact ih31 (k + 1) 1 _ _ ls (by omega) hkl (Or.inl ⟨rfl, hs1, hlen, fun j hj => by rcases Nat.lt_or_eq_of_le (Nat.lt_succ_iff.mp hj) with z | z; exact hall j z; rw [z]; exact hye⟩) hW (lv_sub hl [0, 1, 2, 3, 4, 5, 6, 7, 8, 9] rfl)
                      · skip
                        rw [t_eq, show (3 : Int32).toInt = 3 from by decide] at c87
                        rw [n_toInt (by omega)] at c87
                        refine lv_iload hx hb dX11_isName_90 (lv_at hl 7 rfl) ?_
                        refine lv_goto (tgt := 108) hx hb dX11_isName_92 (by decide) ?_
                        have hkm : k = 3 := by omega
                        refine W.eq (g2 := F0 mM 108 ls [.int (chI i k), .int (nI (T (SK T ts a + k)))]) (by rw [hkm]) ?_
                        refine lv_icmp_ne (tgt := 115) hx hb dX11_isName_108 (by decide) (fun c108 => ?_) (fun c108 => ?_)
                        · skip
                          have hne : ¬ T (SK T ts a + k) = chN i k := fun z => c108 (by rw [z]; exact s_chm i hi k (by omega))
                          refine lv_iconst (v := 0) hx hb dX11_isName_115 (by decide) ?_
                          refine lv_istore (lv' := [(8, .int 0), (9, .int (nI k)), (0, .ref (gA G 65)), (1, .int (nI (sLen.getD i 0))), (2, .int (chI i 0)), (3, .int (chI i 1)), (4, .int (chI i 2)), (5, .int (chI i 3)), (6, .int (chI i 4)), (7, .int (chI i 5))]) hx hb dX11_isName_116 hl (by decide) rfl (fun ls hl => ?_)
                          refine lv_iinc (v := (nI (k + 1))) (lv' := [(9, .int (nI (k + 1))), (8, .int 0), (0, .ref (gA G 65)), (1, .int (nI (sLen.getD i 0))), (2, .int (chI i 0)), (3, .int (chI i 1)), (4, .int (chI i 2)), (5, .int (chI i 3)), (6, .int (chI i 4)), (7, .int (chI i 5))]) hx hb dX11_isName_118 hl (k := 1) rfl (nI_1 k) (by decide) rfl (fun ls hl => ?_)
                          refine lv_goto (tgt := 31) hx hb dX11_isName_121 (by decide) ?_
                          exact ih31 (k + 1) 0 _ _ ls (by omega) hkl (Or.inr ⟨rfl, fun z => hne (z.2.2 k hkl)⟩) hW (lv_sub hl [0, 1, 2, 3, 4, 5, 6, 7, 8, 9] rfl)
                        · skip
                          have hye : T (SK T ts a + k) = chN i k := (n_eq (by have := hTB (SK T ts a + k) (by omega); omega) (by have := (s_chn i hi k (by omega)).1; omega)).mp (c108.trans (s_chm i hi k (by omega)).symm)
                          refine lv_iconst (v := 1) hx hb dX11_isName_111 (by decide) ?_
                          refine lv_goto (tgt := 116) hx hb dX11_isName_112 (by decide) ?_
                          refine lv_istore (lv' := [(8, .int 1), (9, .int (nI k)), (0, .ref (gA G 65)), (1, .int (nI (sLen.getD i 0))), (2, .int (chI i 0)), (3, .int (chI i 1)), (4, .int (chI i 2)), (5, .int (chI i 3)), (6, .int (chI i 4)), (7, .int (chI i 5))]) hx hb dX11_isName_116 hl (by decide) rfl (fun ls hl => ?_)
                          refine lv_iinc (v := (nI (k + 1))) (lv' := [(9, .int (nI (k + 1))), (8, .int 1), (0, .ref (gA G 65)), (1, .int (nI (sLen.getD i 0))), (2, .int (chI i 0)), (3, .int (chI i 1)), (4, .int (chI i 2)), (5, .int (chI i 3)), (6, .int (chI i 4)), (7, .int (chI i 5))]) hx hb dX11_isName_118 hl (k := 1) rfl (nI_1 k) (by decide) rfl (fun ls hl => ?_)
                          refine lv_goto (tgt := 31) hx hb dX11_isName_121 (by decide) ?_
                          exact ih31 (k + 1) 1 _ _ ls (by omega) hkl (Or.inl ⟨rfl, hs1, hlen, fun j hj => by rcases Nat.lt_or_eq_of_le (Nat.lt_succ_iff.mp hj) with z | z; exact hall j z; rw [z]; exact hye⟩) hW (lv_sub hl [0, 1, 2, 3, 4, 5, 6, 7, 8, 9] rfl)
                    · skip
                      rw [t_eq, show (2 : Int32).toInt = 2 from by decide] at c76
                      rw [n_toInt (by omega)] at c76
                      refine lv_iload hx hb dX11_isName_79 (lv_at hl 6 rfl) ?_
                      refine lv_goto (tgt := 108) hx hb dX11_isName_81 (by decide) ?_
                      have hkm : k = 2 := by omega
                      refine W.eq (g2 := F0 mM 108 ls [.int (chI i k), .int (nI (T (SK T ts a + k)))]) (by rw [hkm]) ?_
                      refine lv_icmp_ne (tgt := 115) hx hb dX11_isName_108 (by decide) (fun c108 => ?_) (fun c108 => ?_)
                      · skip
                        have hne : ¬ T (SK T ts a + k) = chN i k := fun z => c108 (by rw [z]; exact s_chm i hi k (by omega))
                        refine lv_iconst (v := 0) hx hb dX11_isName_115 (by decide) ?_
                        refine lv_istore (lv' := [(8, .int 0), (9, .int (nI k)), (0, .ref (gA G 65)), (1, .int (nI (sLen.getD i 0))), (2, .int (chI i 0)), (3, .int (chI i 1)), (4, .int (chI i 2)), (5, .int (chI i 3)), (6, .int (chI i 4)), (7, .int (chI i 5))]) hx hb dX11_isName_116 hl (by decide) rfl (fun ls hl => ?_)
                        refine lv_iinc (v := (nI (k + 1))) (lv' := [(9, .int (nI (k + 1))), (8, .int 0), (0, .ref (gA G 65)), (1, .int (nI (sLen.getD i 0))), (2, .int (chI i 0)), (3, .int (chI i 1)), (4, .int (chI i 2)), (5, .int (chI i 3)), (6, .int (chI i 4)), (7, .int (chI i 5))]) hx hb dX11_isName_118 hl (k := 1) rfl (nI_1 k) (by decide) rfl (fun ls hl => ?_)
                        refine lv_goto (tgt := 31) hx hb dX11_isName_121 (by decide) ?_
                        exact ih31 (k + 1) 0 _ _ ls (by omega) hkl (Or.inr ⟨rfl, fun z => hne (z.2.2 k hkl)⟩) hW (lv_sub hl [0, 1, 2, 3, 4, 5, 6, 7, 8, 9] rfl)
                      · skip
                        have hye : T (SK T ts a + k) = chN i k := (n_eq (by have := hTB (SK T ts a + k) (by omega); omega) (by have := (s_chn i hi k (by omega)).1; omega)).mp (c108.trans (s_chm i hi k (by omega)).symm)
                        refine lv_iconst (v := 1) hx hb dX11_isName_111 (by decide) ?_
                        refine lv_goto (tgt := 116) hx hb dX11_isName_112 (by decide) ?_
                        refine lv_istore (lv' := [(8, .int 1), (9, .int (nI k)), (0, .ref (gA G 65)), (1, .int (nI (sLen.getD i 0))), (2, .int (chI i 0)), (3, .int (chI i 1)), (4, .int (chI i 2)), (5, .int (chI i 3)), (6, .int (chI i 4)), (7, .int (chI i 5))]) hx hb dX11_isName_116 hl (by decide) rfl (fun ls hl => ?_)
                        refine lv_iinc (v := (nI (k + 1))) (lv' := [(9, .int (nI (k + 1))), (8, .int 1), (0, .ref (gA G 65)), (1, .int (nI (sLen.getD i 0))), (2, .int (chI i 0)), (3, .int (chI i 1)), (4, .int (chI i 2)), (5, .int (chI i 3)), (6, .int (chI i 4)), (7, .int (chI i 5))]) hx hb dX11_isName_118 hl (k := 1) rfl (nI_1 k) (by decide) rfl (fun ls hl => ?_)
                        refine lv_goto (tgt := 31) hx hb dX11_isName_121 (by decide) ?_
                        exact ih31 (k + 1) 1 _ _ ls (by omega) hkl (Or.inl ⟨rfl, hs1, hlen, fun j hj => by rcases Nat.lt_or_eq_of_le (Nat.lt_succ_iff.mp hj) with z | z; exact hall j z; rw [z]; exact hye⟩) hW (lv_sub hl [0, 1, 2, 3, 4, 5, 6, 7, 8, 9] rfl)
                  · skip
                    rw [t_eq, show (1 : Int32).toInt = 1 from by decide] at c66
                    rw [n_toInt (by omega)] at c66
                    refine lv_iload_n hx hb dX11_isName_69 rfl (lv_at hl 5 rfl) ?_
                    refine lv_goto (tgt := 108) hx hb dX11_isName_70 (by decide) ?_
                    have hkm : k = 1 := by omega
                    refine W.eq (g2 := F0 mM 108 ls [.int (chI i k), .int (nI (T (SK T ts a + k)))]) (by rw [hkm]) ?_
                    refine lv_icmp_ne (tgt := 115) hx hb dX11_isName_108 (by decide) (fun c108 => ?_) (fun c108 => ?_)
                    · skip
                      have hne : ¬ T (SK T ts a + k) = chN i k := fun z => c108 (by rw [z]; exact s_chm i hi k (by omega))
                      refine lv_iconst (v := 0) hx hb dX11_isName_115 (by decide) ?_
                      refine lv_istore (lv' := [(8, .int 0), (9, .int (nI k)), (0, .ref (gA G 65)), (1, .int (nI (sLen.getD i 0))), (2, .int (chI i 0)), (3, .int (chI i 1)), (4, .int (chI i 2)), (5, .int (chI i 3)), (6, .int (chI i 4)), (7, .int (chI i 5))]) hx hb dX11_isName_116 hl (by decide) rfl (fun ls hl => ?_)
                      refine lv_iinc (v := (nI (k + 1))) (lv' := [(9, .int (nI (k + 1))), (8, .int 0), (0, .ref (gA G 65)), (1, .int (nI (sLen.getD i 0))), (2, .int (chI i 0)), (3, .int (chI i 1)), (4, .int (chI i 2)), (5, .int (chI i 3)), (6, .int (chI i 4)), (7, .int (chI i 5))]) hx hb dX11_isName_118 hl (k := 1) rfl (nI_1 k) (by decide) rfl (fun ls hl => ?_)
                      refine lv_goto (tgt := 31) hx hb dX11_isName_121 (by decide) ?_
                      exact ih31 (k + 1) 0 _ _ ls (by omega) hkl (Or.inr ⟨rfl, fun z => hne (z.2.2 k hkl)⟩) hW (lv_sub hl [0, 1, 2, 3, 4, 5, 6, 7, 8, 9] rfl)
                    · skip
                      have hye : T (SK T ts a + k) = chN i k := (n_eq (by have := hTB (SK T ts a + k) (by omega); omega) (by have := (s_chn i hi k (by omega)).1; omega)).mp (c108.trans (s_chm i hi k (by omega)).symm)
                      refine lv_iconst (v := 1) hx hb dX11_isName_111 (by decide) ?_
                      refine lv_goto (tgt := 116) hx hb dX11_isName_112 (by decide) ?_
                      refine lv_istore (lv' := [(8, .int 1), (9, .int (nI k)), (0, .ref (gA G 65)), (1, .int (nI (sLen.getD i 0))), (2, .int (chI i 0)), (3, .int (chI i 1)), (4, .int (chI i 2)), (5, .int (chI i 3)), (6, .int (chI i 4)), (7, .int (chI i 5))]) hx hb dX11_isName_116 hl (by decide) rfl (fun ls hl => ?_)
                      refine lv_iinc (v := (nI (k + 1))) (lv' := [(9, .int (nI (k + 1))), (8, .int 1), (0, .ref (gA G 65)), (1, .int (nI (sLen.getD i 0))), (2, .int (chI i 0)), (3, .int (chI i 1)), (4, .int (chI i 2)), (5, .int (chI i 3)), (6, .int (chI i 4)), (7, .int (chI i 5))]) hx hb dX11_isName_118 hl (k := 1) rfl (nI_1 k) (by decide) rfl (fun ls hl => ?_)
                      refine lv_goto (tgt := 31) hx hb dX11_isName_121 (by decide) ?_
                      exact ih31 (k + 1) 1 _ _ ls (by omega) hkl (Or.inl ⟨rfl, hs1, hlen, fun j hj => by rcases Nat.lt_or_eq_of_le (Nat.lt_succ_iff.mp hj) with z | z; exact hall j z; rw [z]; exact hye⟩) hW (lv_sub hl [0, 1, 2, 3, 4, 5, 6, 7, 8, 9] rfl)
                · skip
                  rw [t_eq, show (0 : Int32).toInt = 0 from by decide] at c56
                  rw [n_toInt (by omega)] at c56
                  refine lv_iload_n hx hb dX11_isName_59 rfl (lv_at hl 4 rfl) ?_
                  refine lv_goto (tgt := 108) hx hb dX11_isName_60 (by decide) ?_
                  have hkm : k = 0 := by omega
                  refine W.eq (g2 := F0 mM 108 ls [.int (chI i k), .int (nI (T (SK T ts a + k)))]) (by rw [hkm]) ?_
                  refine lv_icmp_ne (tgt := 115) hx hb dX11_isName_108 (by decide) (fun c108 => ?_) (fun c108 => ?_)
                  · skip
                    have hne : ¬ T (SK T ts a + k) = chN i k := fun z => c108 (by rw [z]; exact s_chm i hi k (by omega))
                    refine lv_iconst (v := 0) hx hb dX11_isName_115 (by decide) ?_
                    refine lv_istore (lv' := [(8, .int 0), (9, .int (nI k)), (0, .ref (gA G 65)), (1, .int (nI (sLen.getD i 0))), (2, .int (chI i 0)), (3, .int (chI i 1)), (4, .int (chI i 2)), (5, .int (chI i 3)), (6, .int (chI i 4)), (7, .int (chI i 5))]) hx hb dX11_isName_116 hl (by decide) rfl (fun ls hl => ?_)
                    refine lv_iinc (v := (nI (k + 1))) (lv' := [(9, .int (nI (k + 1))), (8, .int 0), (0, .ref (gA G 65)), (1, .int (nI (sLen.getD i 0))), (2, .int (chI i 0)), (3, .int (chI i 1)), (4, .int (chI i 2)), (5, .int (chI i 3)), (6, .int (chI i 4)), (7, .int (chI i 5))]) hx hb dX11_isName_118 hl (k := 1) rfl (nI_1 k) (by decide) rfl (fun ls hl => ?_)
                    refine lv_goto (tgt := 31) hx hb dX11_isName_121 (by decide) ?_
                    exact ih31 (k + 1) 0 _ _ ls (by omega) hkl (Or.inr ⟨rfl, fun z => hne (z.2.2 k hkl)⟩) hW (lv_sub hl [0, 1, 2, 3, 4, 5, 6, 7, 8, 9] rfl)
                  · skip
                    have hye : T (SK T ts a + k) = chN i k := (n_eq (by have := hTB (SK T ts a + k) (by omega); omega) (by have := (s_chn i hi k (by omega)).1; omega)).mp (c108.trans (s_chm i hi k (by omega)).symm)
                    refine lv_iconst (v := 1) hx hb dX11_isName_111 (by decide) ?_
                    refine lv_goto (tgt := 116) hx hb dX11_isName_112 (by decide) ?_
                    refine lv_istore (lv' := [(8, .int 1), (9, .int (nI k)), (0, .ref (gA G 65)), (1, .int (nI (sLen.getD i 0))), (2, .int (chI i 0)), (3, .int (chI i 1)), (4, .int (chI i 2)), (5, .int (chI i 3)), (6, .int (chI i 4)), (7, .int (chI i 5))]) hx hb dX11_isName_116 hl (by decide) rfl (fun ls hl => ?_)
                    refine lv_iinc (v := (nI (k + 1))) (lv' := [(9, .int (nI (k + 1))), (8, .int 1), (0, .ref (gA G 65)), (1, .int (nI (sLen.getD i 0))), (2, .int (chI i 0)), (3, .int (chI i 1)), (4, .int (chI i 2)), (5, .int (chI i 3)), (6, .int (chI i 4)), (7, .int (chI i 5))]) hx hb dX11_isName_118 hl (k := 1) rfl (nI_1 k) (by decide) rfl (fun ls hl => ?_)
                    refine lv_goto (tgt := 31) hx hb dX11_isName_121 (by decide) ?_
                    exact ih31 (k + 1) 1 _ _ ls (by omega) hkl (Or.inl ⟨rfl, hs1, hlen, fun j hj => by rcases Nat.lt_or_eq_of_le (Nat.lt_succ_iff.mp hj) with z | z; exact hall j z; rw [z]; exact hye⟩) hW (lv_sub hl [0, 1, 2, 3, 4, 5, 6, 7, 8, 9] rfl)
            · skip
              refine lv_iload hx hb dX11_isName_37 (lv_at hl 1 rfl) ?_
              refine lv_if_eq (tgt := 124) hx hb dX11_isName_39 (by decide) (fun c39 => ?_) (fun c39 => ?_)
              · skip
                refine lv_iload hx hb dX11_isName_124 (lv_at hl 1 rfl) ?_
                rw [← hQ0]
                refine r_zret hx hb hr hlocks hW (Or.inl rfl) ?_ dX11_isName_126
                exact ⟨rfl, Or.inr ⟨rfl, hno⟩⟩
              · exact absurd (by decide) c39
      exact L31 _ 0 1 _ _ ls (Nat.lt_succ_self _) (Nat.zero_le _) (Or.inl ⟨rfl, hs1, hlen, fun j hj => absurd hj (Nat.not_lt_zero _)⟩) hW (lv_sub hl [0, 1, 2, 3, 4, 5, 6, 7, 8, 9] rfl)

def rmX11_want : Jvm.Room := { frames := 0, cells := 0, slots := 0, locals := 0 }
set_option maxHeartbeats 4000000 in
set_option maxRecDepth 100000 in
theorem t_X11_want_ok (l : Launch) (D : Dc) (G : Gg) (S : Sg) (z : Nat) (hG : GrG G) (hP : GrP G S) (f : Nat) (h12 : gi S 65 12 = 0) : MI l yX11_want wsX11_want rmX11_want D G S z [.ref (gA G 65), .int 1, .int (nI f)] (fun r S' => r = 1 ∧ S' = S) := by
  refine Met.ofW (cc := cX11_want) (maxL := 3) (ret := (some .boolean)) (by decide +kernel) rfl ?_
  intro pP eE s mM args bl mT cD s₁ bD hml hv
  obtain ⟨rfl, hv⟩ := hv
  have hz := hv.1
  subst hz
  have hx := bD.exec
  have hb := bD.bytes
  have hr := bD.returns
  have hts := atoms_spec (ws := wsX11_want) bD.pre
  have hown : s.vm.findClass RX11 = some mM.cls := findClass_of_methodNamed bD.named
  have hlocks := bD.notSynchronized
  have hW := Wd.start hv
  have hA : ∀ q, s.heap.size ≤ q → AW G s.heap.size q := fun q h => Or.inr h
  have hl := lv_entry ([.ref (gA G 65), .int 1, .int (nI f)]) (n := 3) (Nat.le_of_ble_eq_true rfl)
  rw [lg_entry_eq]
  generalize (lg_sl ([.ref (gA G 65), .int 1, .int (nI f)]) ++ List.replicate (3 - (lg_sl ([.ref (gA G 65), .int 1, .int (nI f)])).length) Slot.unset).toArray = ls at hl ⊢
  have hl : lv_has ls 3 [(0, .ref (gA G 65)), (1, .int 1), (2, .int (nI f))] := hl
  have q0 := hts (.fieldLink RX11 109 "WoodForTwoModel" "faultOf" "I") (List.mem_of_getElem? (i := 1) rfl)
  have iX11 : ∀ w ∈ wsX110, w ∈ wsX11_want := fun _ h => List.mem_cons_of_mem _ (List.mem_append_right _ (h))
  refine lv_iload_n hx hb dX11_want_0 rfl (lv_at hl 1 rfl) ?_
  refine lv_if_ne (tgt := 24) hx hb dX11_want_1 (by decide) (fun c1 => ?_) (fun c1 => ?_)
  · skip
    refine lv_aload_n hx hb dX11_want_24 rfl (lv_at hl 0 rfl) ?_
    refine r_geti (ci := 10) (C := RX11) (T := TX11) (N := 20) hx hb hts iX11 hown hW rfl 65 12 rfl (g_lt hG (by decide)) (g_kd hG (by decide) rfl) (by decide) q0 (fun _ h9 => h9) 0 h12 rfl rfl dX11_want_25 ?_
    refine lv_if_ne (tgt := 35) hx hb dX11_want_28 (by decide) (fun c28 => ?_) (fun c28 => ?_)
    · exact absurd (by decide) c28
    · skip
      refine lv_iconst (v := 1) hx hb dX11_want_31 (by decide) ?_
      refine lv_goto (tgt := 36) hx hb dX11_want_32 (by decide) ?_
      refine r_zret hx hb hr hlocks hW (Or.inr rfl) ?_ dX11_want_36
      exact ⟨rfl, rfl⟩
  · exact absurd c1 (by decide)

set_option maxHeartbeats 4000000 in
set_option maxRecDepth 100000 in
theorem t_X11_want_no (l : Launch) (D : Dc) (G : Gg) (S : Sg) (z : Nat) (hG : GrG G) (hP : GrP G S) (f : Nat) (h12 : gi S 65 12 = 0) (hf0 : nI f ≠ 0) : MI l yX11_want wsX11_want rmX11_want D G S z [.ref (gA G 65), .int 0, .int (nI f)] (fun r S' => r = 0 ∧ S' = ri S 65 (va_up (va_up (gi S 65) 12 (nI f)) 13 (gi S 65 9))) := by
  refine Met.ofW (cc := cX11_want) (maxL := 3) (ret := (some .boolean)) (by decide +kernel) rfl ?_
  intro pP eE s mM args bl mT cD s₁ bD hml hv
  obtain ⟨rfl, hv⟩ := hv
  have hz := hv.1
  subst hz
  have hx := bD.exec
  have hb := bD.bytes
  have hr := bD.returns
  have hts := atoms_spec (ws := wsX11_want) bD.pre
  have hown : s.vm.findClass RX11 = some mM.cls := findClass_of_methodNamed bD.named
  have hlocks := bD.notSynchronized
  have hW := Wd.start hv
  have hA : ∀ q, s.heap.size ≤ q → AW G s.heap.size q := fun q h => Or.inr h
  have hl := lv_entry ([.ref (gA G 65), .int 0, .int (nI f)]) (n := 3) (Nat.le_of_ble_eq_true rfl)
  rw [lg_entry_eq]
  generalize (lg_sl ([.ref (gA G 65), .int 0, .int (nI f)]) ++ List.replicate (3 - (lg_sl ([.ref (gA G 65), .int 0, .int (nI f)])).length) Slot.unset).toArray = ls at hl ⊢
  have hl : lv_has ls 3 [(0, .ref (gA G 65)), (1, .int 0), (2, .int (nI f))] := hl
  have q0 := hts (.fieldLink RX11 109 "WoodForTwoModel" "faultOf" "I") (List.mem_of_getElem? (i := 1) rfl)
  have q1 := hts (.fieldLink RX11 94 "WoodForTwoModel" "first" "I") (List.mem_of_getElem? (i := 2) rfl)
  have q2 := hts (.fieldLink RX11 112 "WoodForTwoModel" "faultAt" "I") (List.mem_of_getElem? (i := 3) rfl)
  have iX11 : ∀ w ∈ wsX110, w ∈ wsX11_want := fun _ h => List.mem_cons_of_mem _ (List.mem_append_right _ (h))
  refine lv_iload_n hx hb dX11_want_0 rfl (lv_at hl 1 rfl) ?_
  refine lv_if_ne (tgt := 24) hx hb dX11_want_1 (by decide) (fun c1 => ?_) (fun c1 => ?_)
  · exact absurd (by decide) c1
  · skip
    refine lv_aload_n hx hb dX11_want_4 rfl (lv_at hl 0 rfl) ?_
    refine r_geti (ci := 10) (C := RX11) (T := TX11) (N := 20) hx hb hts iX11 hown hW rfl 65 12 rfl (g_lt hG (by decide)) (g_kd hG (by decide) rfl) (by decide) q0 (fun _ h9 => h9) 0 h12 rfl rfl dX11_want_5 ?_
    refine lv_if_ne (tgt := 24) hx hb dX11_want_8 (by decide) (fun c8 => ?_) (fun c8 => ?_)
    · exact absurd (by decide) c8
    · skip
      refine lv_aload_n hx hb dX11_want_11 rfl (lv_at hl 0 rfl) ?_
      refine lv_iload_n hx hb dX11_want_12 rfl (lv_at hl 2 rfl) ?_
      refine r_puti (ci := 10) (C := RX11) (T := TX11) (N := 20) hx hb hts iX11 tyX11 tyX11_ok nmX11 hown hW rfl 65 12 rfl (g_lt hG (by decide)) (g_kd hG (by decide) rfl) (by decide) q0 (fun _ h9 => h9) rfl (tyX11_ok 12 (by decide)) rfl rfl (ri S 65 (va_up (gi S 65) 12 (nI f))) (gi S 65) (va_up (gi S 65) 12 (nI f)) rfl (e_is _ _ _) rfl rfl rfl (Nat.le_of_ble_eq_true rfl) rfl c_i0 dX11_want_13 (fun H locs hW => ?_)
      refine lv_aload_n hx hb dX11_want_16 rfl (lv_at hl 0 rfl) ?_
      refine lv_aload_n hx hb dX11_want_17 rfl (lv_at hl 0 rfl) ?_
      refine r_geti (ci := 10) (C := RX11) (T := TX11) (N := 20) hx hb hts iX11 hown hW rfl 65 9 rfl (g_lt hG (by decide)) (g_kd hG (by decide) rfl) (by decide) q1 (fun _ h9 => h9) (gi S 65 9) (congrFun (e_is _ _ _) 9) rfl rfl dX11_want_18 ?_
      refine r_puti (ci := 10) (C := RX11) (T := TX11) (N := 20) hx hb hts iX11 tyX11 tyX11_ok nmX11 hown hW rfl 65 13 rfl (g_lt hG (by decide)) (g_kd hG (by decide) rfl) (by decide) q2 (fun _ h9 => h9) rfl (tyX11_ok 13 (by decide)) rfl rfl (ri S 65 (va_up (va_up (gi S 65) 12 (nI f)) 13 (gi S 65 9))) (va_up (gi S 65) 12 (nI f)) (va_up (va_up (gi S 65) 12 (nI f)) 13 (gi S 65 9)) (e_is _ _ _) (e_is _ _ _) rfl rfl rfl (Nat.le_of_ble_eq_true rfl) rfl c_i dX11_want_21 (fun H locs hW => ?_)
      refine lv_aload_n hx hb dX11_want_24 rfl (lv_at hl 0 rfl) ?_
      refine r_geti (ci := 10) (C := RX11) (T := TX11) (N := 20) hx hb hts iX11 hown hW rfl 65 12 rfl (g_lt hG (by decide)) (g_kd hG (by decide) rfl) (by decide) q0 (fun _ h9 => h9) (nI f) (congrFun (e_is _ _ _) 12) rfl rfl dX11_want_25 ?_
      refine lv_if_ne (tgt := 35) hx hb dX11_want_28 (by decide) (fun c28 => ?_) (fun c28 => ?_)
      · skip
        refine lv_iconst (v := 0) hx hb dX11_want_35 (by decide) ?_
        refine r_zret hx hb hr hlocks hW (Or.inl rfl) ?_ dX11_want_36
        exact ⟨rfl, rfl⟩
      · exact absurd c28 hf0

set_option maxHeartbeats 4000000 in
set_option maxRecDepth 100000 in
theorem t_X11_want_past1 (l : Launch) (D : Dc) (G : Gg) (S : Sg) (z : Nat) (hG : GrG G) (hP : GrP G S) (f : Nat) (h12 : gi S 65 12 ≠ 0) : MI l yX11_want wsX11_want rmX11_want D G S z [.ref (gA G 65), .int 1, .int (nI f)] (fun r S' => r = 0 ∧ S' = S) := by
  refine Met.ofW (cc := cX11_want) (maxL := 3) (ret := (some .boolean)) (by decide +kernel) rfl ?_
  intro pP eE s mM args bl mT cD s₁ bD hml hv
  obtain ⟨rfl, hv⟩ := hv
  have hz := hv.1
  subst hz
  have hx := bD.exec
  have hb := bD.bytes
  have hr := bD.returns
  have hts := atoms_spec (ws := wsX11_want) bD.pre
  have hown : s.vm.findClass RX11 = some mM.cls := findClass_of_methodNamed bD.named
  have hlocks := bD.notSynchronized
  have hW := Wd.start hv
  have hA : ∀ q, s.heap.size ≤ q → AW G s.heap.size q := fun q h => Or.inr h
  have hl := lv_entry ([.ref (gA G 65), .int 1, .int (nI f)]) (n := 3) (Nat.le_of_ble_eq_true rfl)
  rw [lg_entry_eq]
  generalize (lg_sl ([.ref (gA G 65), .int 1, .int (nI f)]) ++ List.replicate (3 - (lg_sl ([.ref (gA G 65), .int 1, .int (nI f)])).length) Slot.unset).toArray = ls at hl ⊢
  have hl : lv_has ls 3 [(0, .ref (gA G 65)), (1, .int 1), (2, .int (nI f))] := hl
  have q0 := hts (.fieldLink RX11 109 "WoodForTwoModel" "faultOf" "I") (List.mem_of_getElem? (i := 1) rfl)
  have iX11 : ∀ w ∈ wsX110, w ∈ wsX11_want := fun _ h => List.mem_cons_of_mem _ (List.mem_append_right _ (h))
  refine lv_iload_n hx hb dX11_want_0 rfl (lv_at hl 1 rfl) ?_
  refine lv_if_ne (tgt := 24) hx hb dX11_want_1 (by decide) (fun c1 => ?_) (fun c1 => ?_)
  · skip
    refine lv_aload_n hx hb dX11_want_24 rfl (lv_at hl 0 rfl) ?_
    refine r_geti (ci := 10) (C := RX11) (T := TX11) (N := 20) hx hb hts iX11 hown hW rfl 65 12 rfl (g_lt hG (by decide)) (g_kd hG (by decide) rfl) (by decide) q0 (fun _ h9 => h9) (gi S 65 12) rfl rfl rfl dX11_want_25 ?_
    refine lv_if_ne (tgt := 35) hx hb dX11_want_28 (by decide) (fun c28 => ?_) (fun c28 => ?_)
    · skip
      refine lv_iconst (v := 0) hx hb dX11_want_35 (by decide) ?_
      refine r_zret hx hb hr hlocks hW (Or.inl rfl) ?_ dX11_want_36
      exact ⟨rfl, rfl⟩
    · exact absurd c28 h12
  · exact absurd c1 (by decide)

set_option maxHeartbeats 4000000 in
set_option maxRecDepth 100000 in
theorem t_X11_want_past0 (l : Launch) (D : Dc) (G : Gg) (S : Sg) (z : Nat) (hG : GrG G) (hP : GrP G S) (f : Nat) (h12 : gi S 65 12 ≠ 0) : MI l yX11_want wsX11_want rmX11_want D G S z [.ref (gA G 65), .int 0, .int (nI f)] (fun r S' => r = 0 ∧ S' = S) := by
  refine Met.ofW (cc := cX11_want) (maxL := 3) (ret := (some .boolean)) (by decide +kernel) rfl ?_
  intro pP eE s mM args bl mT cD s₁ bD hml hv
  obtain ⟨rfl, hv⟩ := hv
  have hz := hv.1
  subst hz
  have hx := bD.exec
  have hb := bD.bytes
  have hr := bD.returns
  have hts := atoms_spec (ws := wsX11_want) bD.pre
  have hown : s.vm.findClass RX11 = some mM.cls := findClass_of_methodNamed bD.named
  have hlocks := bD.notSynchronized
  have hW := Wd.start hv
  have hA : ∀ q, s.heap.size ≤ q → AW G s.heap.size q := fun q h => Or.inr h
  have hl := lv_entry ([.ref (gA G 65), .int 0, .int (nI f)]) (n := 3) (Nat.le_of_ble_eq_true rfl)
  rw [lg_entry_eq]
  generalize (lg_sl ([.ref (gA G 65), .int 0, .int (nI f)]) ++ List.replicate (3 - (lg_sl ([.ref (gA G 65), .int 0, .int (nI f)])).length) Slot.unset).toArray = ls at hl ⊢
  have hl : lv_has ls 3 [(0, .ref (gA G 65)), (1, .int 0), (2, .int (nI f))] := hl
  have q0 := hts (.fieldLink RX11 109 "WoodForTwoModel" "faultOf" "I") (List.mem_of_getElem? (i := 1) rfl)
  have iX11 : ∀ w ∈ wsX110, w ∈ wsX11_want := fun _ h => List.mem_cons_of_mem _ (List.mem_append_right _ (h))
  refine lv_iload_n hx hb dX11_want_0 rfl (lv_at hl 1 rfl) ?_
  refine lv_if_ne (tgt := 24) hx hb dX11_want_1 (by decide) (fun c1 => ?_) (fun c1 => ?_)
  · exact absurd (by decide) c1
  · skip
    refine lv_aload_n hx hb dX11_want_4 rfl (lv_at hl 0 rfl) ?_
    refine r_geti (ci := 10) (C := RX11) (T := TX11) (N := 20) hx hb hts iX11 hown hW rfl 65 12 rfl (g_lt hG (by decide)) (g_kd hG (by decide) rfl) (by decide) q0 (fun _ h9 => h9) (gi S 65 12) rfl rfl rfl dX11_want_5 ?_
    refine lv_if_ne (tgt := 24) hx hb dX11_want_8 (by decide) (fun c8 => ?_) (fun c8 => ?_)
    · skip
      refine lv_aload_n hx hb dX11_want_24 rfl (lv_at hl 0 rfl) ?_
      refine r_geti (ci := 10) (C := RX11) (T := TX11) (N := 20) hx hb hts iX11 hown hW rfl 65 12 rfl (g_lt hG (by decide)) (g_kd hG (by decide) rfl) (by decide) q0 (fun _ h9 => h9) (gi S 65 12) rfl rfl rfl dX11_want_25 ?_
      refine lv_if_ne (tgt := 35) hx hb dX11_want_28 (by decide) (fun c28 => ?_) (fun c28 => ?_)
      · skip
        refine lv_iconst (v := 0) hx hb dX11_want_35 (by decide) ?_
        refine r_zret hx hb hr hlocks hW (Or.inl rfl) ?_ dX11_want_36
        exact ⟨rfl, rfl⟩
      · exact absurd c28 h12
    · exact absurd c8 h12
