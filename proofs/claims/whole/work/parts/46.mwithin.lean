def wOK3 (x : Nat → Int32) (j : Nat) : Prop := (j % 3 = 0 → 1 ≤ (x j).toInt ∧ (x j).toInt ≤ 9) ∧ (j % 3 ≠ 0 → 0 ≤ (x j).toInt ∧ (x j).toInt ≤ 999)
def wOK0 (x : Nat → Int32) (j : Nat) : Prop := 0 ≤ (x j).toInt ∧ (x j).toInt ≤ 999
theorem wOK3_nt {x : Nat → Int32} {m : Nat} : (∀ j, j < 3 * m → wOK3 x j) ↔ ∀ k, k < m → ntOK x k := by
  constructor
  · intro h k hk
    have a := (h (3 * k) (by omega)).1 (by omega)
    have b := (h (3 * k + 1) (by omega)).2 (by omega)
    have d := (h (3 * k + 2) (by omega)).2 (by omega)
    exact ⟨a, b, d⟩
  · intro h j hj
    have a := h (j / 3) (by omega)
    obtain ⟨a1, a2, a3⟩ := a
    rcases (show j = 3 * (j / 3) ∨ j = 3 * (j / 3) + 1 ∨ j = 3 * (j / 3) + 2 by omega) with e | e | e
    · rw [← e] at a1
      exact ⟨fun _ => a1, fun z => absurd (by omega : j % 3 = 0) z⟩
    · rw [← e] at a2
      exact ⟨fun z => absurd z (by omega), fun _ => a2⟩
    · rw [← e] at a3
      exact ⟨fun z => absurd z (by omega), fun _ => a3⟩
theorem n_rem {a b : Nat} (ha : a < 2147483648) (hb : b < 2147483648) (h0 : 0 < b) : nI a - nI a / nI b * nI b = nI (a % b) := by
  have h : a / b * b ≤ a := Nat.div_mul_le_self a b
  rw [n_div ha h0 hb, n_mul, n_sub h]
  congr 1
  have := Nat.div_add_mod a b
  rw [Nat.mul_comm] at this
  omega
theorem sh0 (w s : Int64) : w ||| ((0 : Int64) <<< s) = w := by
  apply Int64.toBitVec_inj.mp
  rw [Int64.toBitVec_or, Int64.toBitVec_shiftLeft]
  simp
def rmX11_areWithin : Jvm.Room := { frames := 1, cells := 0, slots := 0, locals := 25 }
set_option maxHeartbeats 4000000 in
set_option maxRecDepth 100000 in
theorem t_X11_areWithin_3 (l : Launch) (D : Dc) (G : Gg) (S : Sg) (z : Nat) (hG : GrG G) (hP : GrP G S) (it : Nat → Nat → Int32) (la le : Nat → Int32) (hRX : RowsM S it la le) (r cn : Nat) (hr8 : r < 8) (hc40 : cn ≤ 40) : MI l yX11_areWithin wsX11_areWithin rmX11_areWithin D G S z [.ref (gA G 65), .int (nI r), .int (nI cn), .int 0, .int 999, .int 3] (fun r' S' => S' = S ∧ ((r' = 1 ∧ ∀ j, j < cn → wOK3 (it r) j) ∨ (r' = 0 ∧ ¬ ∀ j, j < cn → wOK3 (it r) j))) := by
  refine Met.ofW (cc := cX11_areWithin) (maxL := 8) (ret := (some .boolean)) (by decide +kernel) rfl ?_
  intro pP eE s mM args bl mT cD s₁ bD hml hv
  obtain ⟨rfl, hv⟩ := hv
  have hz := hv.1
  subst hz
  have hx := bD.exec
  have hb := bD.bytes
  have hr := bD.returns
  have hts := atoms_spec (ws := wsX11_areWithin) bD.pre
  have hown : s.vm.findClass RX11 = some mM.cls := findClass_of_methodNamed bD.named
  have hlocks := bD.notSynchronized
  have hW := Wd.start hv
  have hA : ∀ q, s.heap.size ≤ q → AW G s.heap.size q := fun q h => Or.inr h
  have hl := lv_entry ([.ref (gA G 65), .int (nI r), .int (nI cn), .int 0, .int 999, .int 3]) (n := 8) (Nat.le_of_ble_eq_true rfl)
  rw [lg_entry_eq]
  generalize (lg_sl ([.ref (gA G 65), .int (nI r), .int (nI cn), .int 0, .int 999, .int 3]) ++ List.replicate (8 - (lg_sl ([.ref (gA G 65), .int (nI r), .int (nI cn), .int 0, .int 999, .int 3])).length) Slot.unset).toArray = ls at hl ⊢
  have hl : lv_has ls 8 [(0, .ref (gA G 65)), (1, .int (nI r)), (2, .int (nI cn)), (3, .int 0), (4, .int 999), (5, .int 3)] := hl
  have q0 := hts (.fieldLink RX11 13 "WoodForTwoModel" "items" "[I") (List.mem_of_getElem? (i := 1) rfl)
  have q1 := hts (.constantLong RX11 184 (9)) (List.mem_of_getElem? (i := 2) rfl)
  have iX11 : ∀ w ∈ wsX110, w ∈ wsX11_areWithin := fun _ h => List.mem_cons_of_mem _ (List.mem_append_right _ (h))
  generalize hQ0 : MQ bl _ _ s _ _ _ = Q0
  refine lv_iconst (v := 1) hx hb dX11_areWithin_0 (by decide) ?_
  refine lv_istore (lv' := [(6, .int 1), (0, .ref (gA G 65)), (1, .int (nI r)), (2, .int (nI cn)), (3, .int 0), (4, .int 999), (5, .int 3)]) hx hb dX11_areWithin_1 hl (by decide) rfl (fun ls hl => ?_)
  refine lv_iconst (v := 0) hx hb dX11_areWithin_3 (by decide) ?_
  refine lv_istore (lv' := [(7, .int 0), (6, .int 1), (0, .ref (gA G 65)), (1, .int (nI r)), (2, .int (nI cn)), (3, .int 0), (4, .int 999), (5, .int 3)]) hx hb dX11_areWithin_4 hl (by decide) rfl (fun ls hl => ?_)
  have L6 : ∀ (n : Nat) (k : Nat) (b0 : Int32) (H : Heap) (locs : List Loc) (ls : Array Slot), (cn - k) < n → k ≤ cn → ((b0 = 1 ∧ ∀ j, j < k → wOK3 (it r) j) ∨ (b0 = 0 ∧ ¬ ∀ j, j < k → wOK3 (it r) j)) → Wd D (AW G s.heap.size) s G S H locs → lv_has ls 8 [(7, .int (nI k)), (6, .int b0), (0, .ref (gA G 65)), (1, .int (nI r)), (2, .int (nI cn)), (3, .int 0), (4, .int 999), (5, .int 3)] → W pP l eE (headSpec wsX11_areWithin rmX11_areWithin).room s mM ([.ref (gA G 65), .int (nI r), .int (nI cn), .int 0, .int 999, .int 3] : List Value).toArray bl mT cD H locs 0 0 Q0 (F0 mM 6 ls []) := by
    intro n
    induction n with
    | zero => intro k b0 H locs ls hm; exact absurd hm (Nat.not_lt_zero _)
    | succ n ih6 =>
      intro k b0 H locs ls hm6 hk hbv hW hl
      refine lv_iload hx hb dX11_areWithin_6 (lv_at hl 0 rfl) ?_
      refine lv_iload_n hx hb dX11_areWithin_8 rfl (lv_at hl 4 rfl) ?_
      refine lv_icmp_ge (tgt := 90) hx hb dX11_areWithin_9 (by decide) (fun c9 => ?_) (fun c9 => ?_)
      · skip
        have hke : k = cn := by
          have h9 := (n_le (a := cn) (b := k) (by omega) (by omega)).mp c9
          omega
        rcases hbv with ⟨rfl, hbb⟩ | ⟨rfl, hbb⟩
        · skip
          refine lv_iload hx hb dX11_areWithin_90 (lv_at hl 1 rfl) ?_
          rw [← hQ0]
          refine r_zret hx hb hr hlocks hW (Or.inr rfl) ?_ dX11_areWithin_92
          rw [hke] at hbb
          exact ⟨rfl, Or.inl ⟨rfl, hbb⟩⟩
        · skip
          refine lv_iload hx hb dX11_areWithin_90 (lv_at hl 1 rfl) ?_
          rw [← hQ0]
          refine r_zret hx hb hr hlocks hW (Or.inl rfl) ?_ dX11_areWithin_92
          rw [hke] at hbb
          exact ⟨rfl, Or.inr ⟨rfl, hbb⟩⟩
      · skip
        have hkl : k < cn := by
          have h9 : ¬ cn ≤ k := fun z => c9 ((n_le (a := cn) (b := k) (by omega) (by omega)).mpr z)
          omega
        rcases hbv with ⟨rfl, hbb⟩ | ⟨rfl, hbb⟩
        · skip
          refine lv_iload hx hb dX11_areWithin_12 (lv_at hl 1 rfl) ?_
          refine lv_if_eq (tgt := 81) hx hb dX11_areWithin_14 (by decide) (fun c14 => ?_) (fun c14 => ?_)
          · exact absurd c14 (by decide)
          · skip
            refine lv_aload_n hx hb dX11_areWithin_17 rfl (lv_at hl 2 rfl) ?_
            refine r_getr (ci := 10) (C := RX11) (T := TX11) (N := 20) hx hb hts iX11 hown hW rfl 65 1 rfl (g_lt hG (by decide)) (g_kd hG (by decide) rfl) (by decide) q0 (fun _ h9 => h9) (hP _ (List.mem_of_getElem? (i := 61) rfl)) rfl rfl dX11_areWithin_18 ?_
            refine lv_bipush (v := 40) hx hb dX11_areWithin_21 (by decide) ?_
            refine lv_iload_n hx hb dX11_areWithin_23 rfl (lv_at hl 3 rfl) ?_
            refine lv_imul hx hb dX11_areWithin_24 ?_
            rw [show ((40 * (nI r)) : Int32) = (nI (40 * r)) from n_mul 40 r]
            refine lv_iload hx hb dX11_areWithin_25 (lv_at hl 0 rfl) ?_
            refine lv_iadd hx hb dX11_areWithin_27 ?_
            rw [show (((nI (40 * r)) + (nI k)) : Int32) = (nI ((40 * r) + k)) from n_add (40 * r) k]
            refine r_iald hx hb hW 67 rfl (g_lt hG (by decide)) (g_kd hG (by decide) rfl) (g_ix hG (c := 320) (by decide) rfl (n_inI (by omega) (by decide))) (it r k) (by rw [n_clamp (by omega)]; exact (hRX r hr8).2.2 k (by omega)) dX11_areWithin_28 ?_
            refine lv_i2l hx hb dX11_areWithin_29 rfl ?_
            refine lv_iload hx hb dX11_areWithin_30 (lv_at hl 7 rfl) ?_
            refine lv_if_le (tgt := 47) hx hb dX11_areWithin_32 (by decide) (fun c32 => ?_) (fun c32 => ?_)
            · exact absurd c32 (by decide)
            · skip
              refine lv_iload hx hb dX11_areWithin_35 (lv_at hl 0 rfl) ?_
              refine lv_iload hx hb dX11_areWithin_37 (lv_at hl 7 rfl) ?_
              refine lv_irem hx hb dX11_areWithin_39 (by decide) ?_
              rw [show (((nI k) - (nI k) / 3 * 3) : Int32) = (nI (k % 3)) from n_rem (b := 3) (by omega) (by decide) (by decide)]
              refine lv_if_ne (tgt := 47) hx hb dX11_areWithin_40 (by decide) (fun c40 => ?_) (fun c40 => ?_)
              · skip
                rw [t_eq, show (0 : Int32).toInt = 0 from by decide] at c40
                rw [n_toInt (by omega)] at c40
                have c40 : k % 3 ≠ 0 := by omega
                refine lv_iload_n hx hb dX11_areWithin_47 rfl (lv_at hl 5 rfl) ?_
                refine lv_i2l hx hb dX11_areWithin_48 rfl ?_
                refine lv_iload hx hb dX11_areWithin_49 (lv_at hl 7 rfl) ?_
                refine lv_if_le (tgt := 68) hx hb dX11_areWithin_51 (by decide) (fun c51 => ?_) (fun c51 => ?_)
                · exact absurd c51 (by decide)
                · skip
                  refine lv_iload hx hb dX11_areWithin_54 (lv_at hl 0 rfl) ?_
                  refine lv_iload hx hb dX11_areWithin_56 (lv_at hl 7 rfl) ?_
                  refine lv_irem hx hb dX11_areWithin_58 (by decide) ?_
                  rw [show (((nI k) - (nI k) / 3 * 3) : Int32) = (nI (k % 3)) from n_rem (b := 3) (by omega) (by decide) (by decide)]
                  refine lv_if_ne (tgt := 68) hx hb dX11_areWithin_59 (by decide) (fun c59 => ?_) (fun c59 => ?_)
                  · skip
                    rw [t_eq, show (0 : Int32).toInt = 0 from by decide] at c59
                    rw [n_toInt (by omega)] at c59
                    refine lv_iload hx hb dX11_areWithin_68 (lv_at hl 6 rfl) ?_
                    refine lv_i2l hx hb dX11_areWithin_70 rfl ?_
                    refine r_calli hW hA (va_runS (As := [.long (Int32.toInt64 (it r k)), .long (Int32.toInt64 0), .long (Int32.toInt64 999)]) (rest := []) ⟨hx, hb, hml, hown, hts⟩ (t_X11_in l D G S _ (Int32.toInt64 (it r k)) (Int32.toInt64 0) (Int32.toInt64 999) ((it r k)).toInt 0 999 (Int32.toInt_toInt64 _) (by decide) (by decide)) (va_cwS 3 hts gX11_areWithin_X11_in rfl rfl rfl (by decide +kernel) ⟨Nat.le_of_ble_eq_true rfl, Nat.le_of_ble_eq_true rfl⟩) (r_preS hA hW) rfl rfl hl.1 rfl (lv_room (Nat.le_of_ble_eq_true rfl)) dX11_areWithin_71 ⟨Nat.zero_le _, Nat.zero_le _⟩) (fun r71 S71 H locs hp71 hW => ?_)
                    obtain ⟨hs71, hp71⟩ := hp71
                    rw [hs71] at hW
                    rcases hp71 with ⟨rfl, h71⟩ | ⟨rfl, h71⟩
                    · skip
                      refine lv_if_eq (tgt := 81) hx hb dX11_areWithin_74 (by decide) (fun c74 => ?_) (fun c74 => ?_)
                      · exact absurd c74 (by decide)
                      · skip
                        refine lv_iconst (v := 1) hx hb dX11_areWithin_77 (by decide) ?_
                        refine lv_goto (tgt := 82) hx hb dX11_areWithin_78 (by decide) ?_
                        refine lv_istore (lv' := [(6, .int 1), (7, .int (nI k)), (0, .ref (gA G 65)), (1, .int (nI r)), (2, .int (nI cn)), (3, .int 0), (4, .int 999), (5, .int 3)]) hx hb dX11_areWithin_82 hl (by decide) rfl (fun ls hl => ?_)
                        refine lv_iinc (v := (nI (k + 1))) (lv' := [(7, .int (nI (k + 1))), (6, .int 1), (0, .ref (gA G 65)), (1, .int (nI r)), (2, .int (nI cn)), (3, .int 0), (4, .int 999), (5, .int 3)]) hx hb dX11_areWithin_84 hl (k := 1) rfl (nI_1 k) (by decide) rfl (fun ls hl => ?_)
                        refine lv_goto (tgt := 6) hx hb dX11_areWithin_87 (by decide) ?_
                        exact ih6 (k + 1) 1 _ _ ls (by omega) hkl (Or.inl ⟨rfl, fun j hj => by rcases Nat.lt_or_eq_of_le (Nat.lt_succ_iff.mp hj) with z | z; exact hbb j z; rw [z]; exact ⟨fun z => absurd z c40, fun _ => by omega⟩⟩) hW (lv_sub hl [0, 1, 2, 3, 4, 5, 6, 7] rfl)
                    · skip
                      refine lv_if_eq (tgt := 81) hx hb dX11_areWithin_74 (by decide) (fun c74 => ?_) (fun c74 => ?_)
                      · skip
                        refine lv_iconst (v := 0) hx hb dX11_areWithin_81 (by decide) ?_
                        refine lv_istore (lv' := [(6, .int 0), (7, .int (nI k)), (0, .ref (gA G 65)), (1, .int (nI r)), (2, .int (nI cn)), (3, .int 0), (4, .int 999), (5, .int 3)]) hx hb dX11_areWithin_82 hl (by decide) rfl (fun ls hl => ?_)
                        refine lv_iinc (v := (nI (k + 1))) (lv' := [(7, .int (nI (k + 1))), (6, .int 0), (0, .ref (gA G 65)), (1, .int (nI r)), (2, .int (nI cn)), (3, .int 0), (4, .int 999), (5, .int 3)]) hx hb dX11_areWithin_84 hl (k := 1) rfl (nI_1 k) (by decide) rfl (fun ls hl => ?_)
                        refine lv_goto (tgt := 6) hx hb dX11_areWithin_87 (by decide) ?_
                        exact ih6 (k + 1) 0 _ _ ls (by omega) hkl (Or.inr ⟨rfl, fun z => h71 ((z k (Nat.lt_succ_self k)).2 c40)⟩) hW (lv_sub hl [0, 1, 2, 3, 4, 5, 6, 7] rfl)
                      · exact absurd (by decide) c74
                  · skip
                    rw [t_eq, show (0 : Int32).toInt = 0 from by decide] at c59
                    exfalso; rw [n_toInt (by omega)] at c59; omega --stop
              · skip
                rw [t_eq, show (0 : Int32).toInt = 0 from by decide] at c40
                rw [n_toInt (by omega)] at c40
                have c40 : k % 3 = 0 := by omega
                refine lv_lconst (v := 1) hx hb dX11_areWithin_43 (by decide) ?_
                refine lv_goto (tgt := 49) hx hb dX11_areWithin_44 (by decide) ?_
                refine lv_iload hx hb dX11_areWithin_49 (lv_at hl 7 rfl) ?_
                refine lv_if_le (tgt := 68) hx hb dX11_areWithin_51 (by decide) (fun c51 => ?_) (fun c51 => ?_)
                · exact absurd c51 (by decide)
                · skip
                  refine lv_iload hx hb dX11_areWithin_54 (lv_at hl 0 rfl) ?_
                  refine lv_iload hx hb dX11_areWithin_56 (lv_at hl 7 rfl) ?_
                  refine lv_irem hx hb dX11_areWithin_58 (by decide) ?_
                  rw [show (((nI k) - (nI k) / 3 * 3) : Int32) = (nI (k % 3)) from n_rem (b := 3) (by omega) (by decide) (by decide)]
                  refine lv_if_ne (tgt := 68) hx hb dX11_areWithin_59 (by decide) (fun c59 => ?_) (fun c59 => ?_)
                  · skip
                    rw [t_eq, show (0 : Int32).toInt = 0 from by decide] at c59
                    exfalso; rw [n_toInt (by omega)] at c59; omega --stop
                  · skip
                    rw [t_eq, show (0 : Int32).toInt = 0 from by decide] at c59
                    rw [n_toInt (by omega)] at c59
                    refine lv_ldc2 (v := (9)) hx hb hown q1 dX11_areWithin_62 ?_
                    refine lv_goto (tgt := 71) hx hb dX11_areWithin_65 (by decide) ?_
                    refine r_calli hW hA (va_runS (As := [.long (Int32.toInt64 (it r k)), .long 1, .long (9)]) (rest := []) ⟨hx, hb, hml, hown, hts⟩ (t_X11_in l D G S _ (Int32.toInt64 (it r k)) 1 (9) ((it r k)).toInt 1 9 (Int32.toInt_toInt64 _) (by decide) (by decide)) (va_cwS 3 hts gX11_areWithin_X11_in rfl rfl rfl (by decide +kernel) ⟨Nat.le_of_ble_eq_true rfl, Nat.le_of_ble_eq_true rfl⟩) (r_preS hA hW) rfl rfl hl.1 rfl (lv_room (Nat.le_of_ble_eq_true rfl)) dX11_areWithin_71 ⟨Nat.zero_le _, Nat.zero_le _⟩) (fun r71 S71 H locs hp71 hW => ?_)
                    obtain ⟨hs71, hp71⟩ := hp71
                    rw [hs71] at hW
                    rcases hp71 with ⟨rfl, h71⟩ | ⟨rfl, h71⟩
                    · skip
                      refine lv_if_eq (tgt := 81) hx hb dX11_areWithin_74 (by decide) (fun c74 => ?_) (fun c74 => ?_)
                      · exact absurd c74 (by decide)
                      · skip
                        refine lv_iconst (v := 1) hx hb dX11_areWithin_77 (by decide) ?_
                        refine lv_goto (tgt := 82) hx hb dX11_areWithin_78 (by decide) ?_
                        refine lv_istore (lv' := [(6, .int 1), (7, .int (nI k)), (0, .ref (gA G 65)), (1, .int (nI r)), (2, .int (nI cn)), (3, .int 0), (4, .int 999), (5, .int 3)]) hx hb dX11_areWithin_82 hl (by decide) rfl (fun ls hl => ?_)
                        refine lv_iinc (v := (nI (k + 1))) (lv' := [(7, .int (nI (k + 1))), (6, .int 1), (0, .ref (gA G 65)), (1, .int (nI r)), (2, .int (nI cn)), (3, .int 0), (4, .int 999), (5, .int 3)]) hx hb dX11_areWithin_84 hl (k := 1) rfl (nI_1 k) (by decide) rfl (fun ls hl => ?_)
                        refine lv_goto (tgt := 6) hx hb dX11_areWithin_87 (by decide) ?_
                        exact ih6 (k + 1) 1 _ _ ls (by omega) hkl (Or.inl ⟨rfl, fun j hj => by rcases Nat.lt_or_eq_of_le (Nat.lt_succ_iff.mp hj) with z | z; exact hbb j z; rw [z]; exact ⟨fun _ => by omega, fun z => absurd c40 z⟩⟩) hW (lv_sub hl [0, 1, 2, 3, 4, 5, 6, 7] rfl)
                    · skip
                      refine lv_if_eq (tgt := 81) hx hb dX11_areWithin_74 (by decide) (fun c74 => ?_) (fun c74 => ?_)
                      · skip
                        refine lv_iconst (v := 0) hx hb dX11_areWithin_81 (by decide) ?_
                        refine lv_istore (lv' := [(6, .int 0), (7, .int (nI k)), (0, .ref (gA G 65)), (1, .int (nI r)), (2, .int (nI cn)), (3, .int 0), (4, .int 999), (5, .int 3)]) hx hb dX11_areWithin_82 hl (by decide) rfl (fun ls hl => ?_)
                        refine lv_iinc (v := (nI (k + 1))) (lv' := [(7, .int (nI (k + 1))), (6, .int 0), (0, .ref (gA G 65)), (1, .int (nI r)), (2, .int (nI cn)), (3, .int 0), (4, .int 999), (5, .int 3)]) hx hb dX11_areWithin_84 hl (k := 1) rfl (nI_1 k) (by decide) rfl (fun ls hl => ?_)
                        refine lv_goto (tgt := 6) hx hb dX11_areWithin_87 (by decide) ?_
                        exact ih6 (k + 1) 0 _ _ ls (by omega) hkl (Or.inr ⟨rfl, fun z => h71 ((z k (Nat.lt_succ_self k)).1 c40)⟩) hW (lv_sub hl [0, 1, 2, 3, 4, 5, 6, 7] rfl)
                      · exact absurd (by decide) c74
        · skip
          refine lv_iload hx hb dX11_areWithin_12 (lv_at hl 1 rfl) ?_
          refine lv_if_eq (tgt := 81) hx hb dX11_areWithin_14 (by decide) (fun c14 => ?_) (fun c14 => ?_)
          · skip
            refine lv_iconst (v := 0) hx hb dX11_areWithin_81 (by decide) ?_
            refine lv_istore (lv' := [(6, .int 0), (7, .int (nI k)), (0, .ref (gA G 65)), (1, .int (nI r)), (2, .int (nI cn)), (3, .int 0), (4, .int 999), (5, .int 3)]) hx hb dX11_areWithin_82 hl (by decide) rfl (fun ls hl => ?_)
            refine lv_iinc (v := (nI (k + 1))) (lv' := [(7, .int (nI (k + 1))), (6, .int 0), (0, .ref (gA G 65)), (1, .int (nI r)), (2, .int (nI cn)), (3, .int 0), (4, .int 999), (5, .int 3)]) hx hb dX11_areWithin_84 hl (k := 1) rfl (nI_1 k) (by decide) rfl (fun ls hl => ?_)
            refine lv_goto (tgt := 6) hx hb dX11_areWithin_87 (by decide) ?_
            exact ih6 (k + 1) 0 _ _ ls (by omega) hkl (Or.inr ⟨rfl, fun z => hbb (fun j hj => z j (by omega))⟩) hW (lv_sub hl [0, 1, 2, 3, 4, 5, 6, 7] rfl)
          · exact absurd (by decide) c14
  exact L6 _ 0 1 _ _ ls (Nat.lt_succ_self _) (Nat.zero_le _) (Or.inl ⟨rfl, fun j hj => absurd hj (Nat.not_lt_zero _)⟩) hW (lv_sub hl [0, 1, 2, 3, 4, 5, 6, 7] rfl)

set_option maxHeartbeats 4000000 in
set_option maxRecDepth 100000 in
theorem t_X11_areWithin_0 (l : Launch) (D : Dc) (G : Gg) (S : Sg) (z : Nat) (hG : GrG G) (hP : GrP G S) (it : Nat → Nat → Int32) (la le : Nat → Int32) (hRX : RowsM S it la le) (r cn : Nat) (hr8 : r < 8) (hc40 : cn ≤ 40) : MI l yX11_areWithin wsX11_areWithin rmX11_areWithin D G S z [.ref (gA G 65), .int (nI r), .int (nI cn), .int 0, .int 999, .int 0] (fun r' S' => S' = S ∧ ((r' = 1 ∧ ∀ j, j < cn → wOK0 (it r) j) ∨ (r' = 0 ∧ ¬ ∀ j, j < cn → wOK0 (it r) j))) := by
  refine Met.ofW (cc := cX11_areWithin) (maxL := 8) (ret := (some .boolean)) (by decide +kernel) rfl ?_
  intro pP eE s mM args bl mT cD s₁ bD hml hv
  obtain ⟨rfl, hv⟩ := hv
  have hz := hv.1
  subst hz
  have hx := bD.exec
  have hb := bD.bytes
  have hr := bD.returns
  have hts := atoms_spec (ws := wsX11_areWithin) bD.pre
  have hown : s.vm.findClass RX11 = some mM.cls := findClass_of_methodNamed bD.named
  have hlocks := bD.notSynchronized
  have hW := Wd.start hv
  have hA : ∀ q, s.heap.size ≤ q → AW G s.heap.size q := fun q h => Or.inr h
  have hl := lv_entry ([.ref (gA G 65), .int (nI r), .int (nI cn), .int 0, .int 999, .int 0]) (n := 8) (Nat.le_of_ble_eq_true rfl)
  rw [lg_entry_eq]
  generalize (lg_sl ([.ref (gA G 65), .int (nI r), .int (nI cn), .int 0, .int 999, .int 0]) ++ List.replicate (8 - (lg_sl ([.ref (gA G 65), .int (nI r), .int (nI cn), .int 0, .int 999, .int 0])).length) Slot.unset).toArray = ls at hl ⊢
  have hl : lv_has ls 8 [(0, .ref (gA G 65)), (1, .int (nI r)), (2, .int (nI cn)), (3, .int 0), (4, .int 999), (5, .int 0)] := hl
  have q0 := hts (.fieldLink RX11 13 "WoodForTwoModel" "items" "[I") (List.mem_of_getElem? (i := 1) rfl)
  have iX11 : ∀ w ∈ wsX110, w ∈ wsX11_areWithin := fun _ h => List.mem_cons_of_mem _ (List.mem_append_right _ (h))
  generalize hQ0 : MQ bl _ _ s _ _ _ = Q0
  refine lv_iconst (v := 1) hx hb dX11_areWithin_0 (by decide) ?_
  refine lv_istore (lv' := [(6, .int 1), (0, .ref (gA G 65)), (1, .int (nI r)), (2, .int (nI cn)), (3, .int 0), (4, .int 999), (5, .int 0)]) hx hb dX11_areWithin_1 hl (by decide) rfl (fun ls hl => ?_)
  refine lv_iconst (v := 0) hx hb dX11_areWithin_3 (by decide) ?_
  refine lv_istore (lv' := [(7, .int 0), (6, .int 1), (0, .ref (gA G 65)), (1, .int (nI r)), (2, .int (nI cn)), (3, .int 0), (4, .int 999), (5, .int 0)]) hx hb dX11_areWithin_4 hl (by decide) rfl (fun ls hl => ?_)
  have L6 : ∀ (n : Nat) (k : Nat) (b0 : Int32) (H : Heap) (locs : List Loc) (ls : Array Slot), (cn - k) < n → k ≤ cn → ((b0 = 1 ∧ ∀ j, j < k → wOK0 (it r) j) ∨ (b0 = 0 ∧ ¬ ∀ j, j < k → wOK0 (it r) j)) → Wd D (AW G s.heap.size) s G S H locs → lv_has ls 8 [(7, .int (nI k)), (6, .int b0), (0, .ref (gA G 65)), (1, .int (nI r)), (2, .int (nI cn)), (3, .int 0), (4, .int 999), (5, .int 0)] → W pP l eE (headSpec wsX11_areWithin rmX11_areWithin).room s mM ([.ref (gA G 65), .int (nI r), .int (nI cn), .int 0, .int 999, .int 0] : List Value).toArray bl mT cD H locs 0 0 Q0 (F0 mM 6 ls []) := by
    intro n
    induction n with
    | zero => intro k b0 H locs ls hm; exact absurd hm (Nat.not_lt_zero _)
    | succ n ih6 =>
      intro k b0 H locs ls hm6 hk hbv hW hl
      refine lv_iload hx hb dX11_areWithin_6 (lv_at hl 0 rfl) ?_
      refine lv_iload_n hx hb dX11_areWithin_8 rfl (lv_at hl 4 rfl) ?_
      refine lv_icmp_ge (tgt := 90) hx hb dX11_areWithin_9 (by decide) (fun c9 => ?_) (fun c9 => ?_)
      · skip
        have hke : k = cn := by
          have h9 := (n_le (a := cn) (b := k) (by omega) (by omega)).mp c9
          omega
        rcases hbv with ⟨rfl, hbb⟩ | ⟨rfl, hbb⟩
        · skip
          refine lv_iload hx hb dX11_areWithin_90 (lv_at hl 1 rfl) ?_
          rw [← hQ0]
          refine r_zret hx hb hr hlocks hW (Or.inr rfl) ?_ dX11_areWithin_92
          rw [hke] at hbb
          exact ⟨rfl, Or.inl ⟨rfl, hbb⟩⟩
        · skip
          refine lv_iload hx hb dX11_areWithin_90 (lv_at hl 1 rfl) ?_
          rw [← hQ0]
          refine r_zret hx hb hr hlocks hW (Or.inl rfl) ?_ dX11_areWithin_92
          rw [hke] at hbb
          exact ⟨rfl, Or.inr ⟨rfl, hbb⟩⟩
      · skip
        have hkl : k < cn := by
          have h9 : ¬ cn ≤ k := fun z => c9 ((n_le (a := cn) (b := k) (by omega) (by omega)).mpr z)
          omega
        rcases hbv with ⟨rfl, hbb⟩ | ⟨rfl, hbb⟩
        · skip
          refine lv_iload hx hb dX11_areWithin_12 (lv_at hl 1 rfl) ?_
          refine lv_if_eq (tgt := 81) hx hb dX11_areWithin_14 (by decide) (fun c14 => ?_) (fun c14 => ?_)
          · exact absurd c14 (by decide)
          · skip
            refine lv_aload_n hx hb dX11_areWithin_17 rfl (lv_at hl 2 rfl) ?_
            refine r_getr (ci := 10) (C := RX11) (T := TX11) (N := 20) hx hb hts iX11 hown hW rfl 65 1 rfl (g_lt hG (by decide)) (g_kd hG (by decide) rfl) (by decide) q0 (fun _ h9 => h9) (hP _ (List.mem_of_getElem? (i := 61) rfl)) rfl rfl dX11_areWithin_18 ?_
            refine lv_bipush (v := 40) hx hb dX11_areWithin_21 (by decide) ?_
            refine lv_iload_n hx hb dX11_areWithin_23 rfl (lv_at hl 3 rfl) ?_
            refine lv_imul hx hb dX11_areWithin_24 ?_
            rw [show ((40 * (nI r)) : Int32) = (nI (40 * r)) from n_mul 40 r]
            refine lv_iload hx hb dX11_areWithin_25 (lv_at hl 0 rfl) ?_
            refine lv_iadd hx hb dX11_areWithin_27 ?_
            rw [show (((nI (40 * r)) + (nI k)) : Int32) = (nI ((40 * r) + k)) from n_add (40 * r) k]
            refine r_iald hx hb hW 67 rfl (g_lt hG (by decide)) (g_kd hG (by decide) rfl) (g_ix hG (c := 320) (by decide) rfl (n_inI (by omega) (by decide))) (it r k) (by rw [n_clamp (by omega)]; exact (hRX r hr8).2.2 k (by omega)) dX11_areWithin_28 ?_
            refine lv_i2l hx hb dX11_areWithin_29 rfl ?_
            refine lv_iload hx hb dX11_areWithin_30 (lv_at hl 7 rfl) ?_
            refine lv_if_le (tgt := 47) hx hb dX11_areWithin_32 (by decide) (fun c32 => ?_) (fun c32 => ?_)
            · skip
              refine lv_iload_n hx hb dX11_areWithin_47 rfl (lv_at hl 5 rfl) ?_
              refine lv_i2l hx hb dX11_areWithin_48 rfl ?_
              refine lv_iload hx hb dX11_areWithin_49 (lv_at hl 7 rfl) ?_
              refine lv_if_le (tgt := 68) hx hb dX11_areWithin_51 (by decide) (fun c51 => ?_) (fun c51 => ?_)
              · skip
                refine lv_iload hx hb dX11_areWithin_68 (lv_at hl 6 rfl) ?_
                refine lv_i2l hx hb dX11_areWithin_70 rfl ?_
                refine r_calli hW hA (va_runS (As := [.long (Int32.toInt64 (it r k)), .long (Int32.toInt64 0), .long (Int32.toInt64 999)]) (rest := []) ⟨hx, hb, hml, hown, hts⟩ (t_X11_in l D G S _ (Int32.toInt64 (it r k)) (Int32.toInt64 0) (Int32.toInt64 999) ((it r k)).toInt 0 999 (Int32.toInt_toInt64 _) (by decide) (by decide)) (va_cwS 3 hts gX11_areWithin_X11_in rfl rfl rfl (by decide +kernel) ⟨Nat.le_of_ble_eq_true rfl, Nat.le_of_ble_eq_true rfl⟩) (r_preS hA hW) rfl rfl hl.1 rfl (lv_room (Nat.le_of_ble_eq_true rfl)) dX11_areWithin_71 ⟨Nat.zero_le _, Nat.zero_le _⟩) (fun r71 S71 H locs hp71 hW => ?_)
                obtain ⟨hs71, hp71⟩ := hp71
                rw [hs71] at hW
                rcases hp71 with ⟨rfl, h71⟩ | ⟨rfl, h71⟩
                · skip
                  refine lv_if_eq (tgt := 81) hx hb dX11_areWithin_74 (by decide) (fun c74 => ?_) (fun c74 => ?_)
                  · exact absurd c74 (by decide)
                  · skip
                    refine lv_iconst (v := 1) hx hb dX11_areWithin_77 (by decide) ?_
                    refine lv_goto (tgt := 82) hx hb dX11_areWithin_78 (by decide) ?_
                    refine lv_istore (lv' := [(6, .int 1), (7, .int (nI k)), (0, .ref (gA G 65)), (1, .int (nI r)), (2, .int (nI cn)), (3, .int 0), (4, .int 999), (5, .int 0)]) hx hb dX11_areWithin_82 hl (by decide) rfl (fun ls hl => ?_)
                    refine lv_iinc (v := (nI (k + 1))) (lv' := [(7, .int (nI (k + 1))), (6, .int 1), (0, .ref (gA G 65)), (1, .int (nI r)), (2, .int (nI cn)), (3, .int 0), (4, .int 999), (5, .int 0)]) hx hb dX11_areWithin_84 hl (k := 1) rfl (nI_1 k) (by decide) rfl (fun ls hl => ?_)
                    refine lv_goto (tgt := 6) hx hb dX11_areWithin_87 (by decide) ?_
                    exact ih6 (k + 1) 1 _ _ ls (by omega) hkl (Or.inl ⟨rfl, fun j hj => by rcases Nat.lt_or_eq_of_le (Nat.lt_succ_iff.mp hj) with z | z; exact hbb j z; rw [z]; exact ⟨by omega, by omega⟩⟩) hW (lv_sub hl [0, 1, 2, 3, 4, 5, 6, 7] rfl)
                · skip
                  refine lv_if_eq (tgt := 81) hx hb dX11_areWithin_74 (by decide) (fun c74 => ?_) (fun c74 => ?_)
                  · skip
                    refine lv_iconst (v := 0) hx hb dX11_areWithin_81 (by decide) ?_
                    refine lv_istore (lv' := [(6, .int 0), (7, .int (nI k)), (0, .ref (gA G 65)), (1, .int (nI r)), (2, .int (nI cn)), (3, .int 0), (4, .int 999), (5, .int 0)]) hx hb dX11_areWithin_82 hl (by decide) rfl (fun ls hl => ?_)
                    refine lv_iinc (v := (nI (k + 1))) (lv' := [(7, .int (nI (k + 1))), (6, .int 0), (0, .ref (gA G 65)), (1, .int (nI r)), (2, .int (nI cn)), (3, .int 0), (4, .int 999), (5, .int 0)]) hx hb dX11_areWithin_84 hl (k := 1) rfl (nI_1 k) (by decide) rfl (fun ls hl => ?_)
                    refine lv_goto (tgt := 6) hx hb dX11_areWithin_87 (by decide) ?_
                    exact ih6 (k + 1) 0 _ _ ls (by omega) hkl (Or.inr ⟨rfl, fun z => h71 (z k (Nat.lt_succ_self k))⟩) hW (lv_sub hl [0, 1, 2, 3, 4, 5, 6, 7] rfl)
                  · exact absurd (by decide) c74
              · exact absurd (by decide) c51
            · exact absurd (by decide) c32
        · skip
          refine lv_iload hx hb dX11_areWithin_12 (lv_at hl 1 rfl) ?_
          refine lv_if_eq (tgt := 81) hx hb dX11_areWithin_14 (by decide) (fun c14 => ?_) (fun c14 => ?_)
          · skip
            refine lv_iconst (v := 0) hx hb dX11_areWithin_81 (by decide) ?_
            refine lv_istore (lv' := [(6, .int 0), (7, .int (nI k)), (0, .ref (gA G 65)), (1, .int (nI r)), (2, .int (nI cn)), (3, .int 0), (4, .int 999), (5, .int 0)]) hx hb dX11_areWithin_82 hl (by decide) rfl (fun ls hl => ?_)
            refine lv_iinc (v := (nI (k + 1))) (lv' := [(7, .int (nI (k + 1))), (6, .int 0), (0, .ref (gA G 65)), (1, .int (nI r)), (2, .int (nI cn)), (3, .int 0), (4, .int 999), (5, .int 0)]) hx hb dX11_areWithin_84 hl (k := 1) rfl (nI_1 k) (by decide) rfl (fun ls hl => ?_)
            refine lv_goto (tgt := 6) hx hb dX11_areWithin_87 (by decide) ?_
            exact ih6 (k + 1) 0 _ _ ls (by omega) hkl (Or.inr ⟨rfl, fun z => hbb (fun j hj => z j (by omega))⟩) hW (lv_sub hl [0, 1, 2, 3, 4, 5, 6, 7] rfl)
          · exact absurd (by decide) c14
  exact L6 _ 0 1 _ _ ls (Nat.lt_succ_self _) (Nat.zero_le _) (Or.inl ⟨rfl, fun j hj => absurd hj (Nat.not_lt_zero _)⟩) hW (lv_sub hl [0, 1, 2, 3, 4, 5, 6, 7] rfl)
