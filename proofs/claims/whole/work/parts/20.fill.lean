def rmJ7_fill_53178 : Jvm.Room := { frames := 0, cells := 0, slots := 0, locals := 0 }
set_option maxHeartbeats 4000000 in
set_option maxRecDepth 100000 in
theorem t_J7_fill_53178 (l : Launch) (D : Dc) (G : Gg) (S : Sg) (z : Nat) (k n0 : Nat) (hk : k < gN G) (hkd : gK G k = 12) (hz : gZ G k = n0) (hn : n0 < 2147483648) (a1 : Int32) : MV l yJ7_fill_53178 wsJ7_fill_53178 rmJ7_fill_53178 D G S z [.ref (gA G k), .int a1] (fun S' => S' = ri S k (flR (gi S k) n0 a1)) := by
  refine Met.ofW (cc := cJ7_fill_53178) (maxL := 4) (ret := none) (by decide +kernel) rfl ?_
  intro pP eE s mM args bl mT cD s₁ bD hml hv
  obtain ⟨rfl, hv⟩ := hv
  have hz := hv.1
  subst hz
  have hx := bD.exec
  have hb := bD.bytes
  have hr := bD.returns
  have hts := atoms_spec (ws := wsJ7_fill_53178) bD.pre
  have hown : s.vm.findClass RJ7 = some mM.cls := findClass_of_methodNamed bD.named
  have hlocks := bD.notSynchronized
  have hW := Wd.start hv
  have hA : ∀ q, s.heap.size ≤ q → AW G s.heap.size q := fun q h => Or.inr h
  have hl := lv_entry ([.ref (gA G k), .int a1]) (n := 4) (Nat.le_of_ble_eq_true rfl)
  rw [lg_entry_eq]
  generalize (lg_sl ([.ref (gA G k), .int a1]) ++ List.replicate (4 - (lg_sl ([.ref (gA G k), .int a1])).length) Slot.unset).toArray = ls at hl ⊢
  have hl : lv_has ls 4 [(0, .ref (gA G k)), (1, .int a1)] := hl
  generalize hQ0 : MQ bl _ _ s _ _ _ = Q0
  refine lv_iconst (v := 0) hx hb dJ7_fill_53178_0 (by decide) ?_
  refine lv_istore_n (lv' := [(2, .int 0), (0, .ref (gA G k)), (1, .int a1)]) hx hb dJ7_fill_53178_1 rfl hl (by decide) rfl (fun ls hl => ?_)
  refine lv_aload_n hx hb dJ7_fill_53178_2 rfl (lv_at hl 1 rfl) ?_
  refine r_alen hx hb hW k rfl hk 12 1 hkd rfl rfl rfl (nI n0) (by rw [hz]) dJ7_fill_53178_3 ?_
  refine lv_istore_n (lv' := [(3, .int (nI n0)), (2, .int 0), (0, .ref (gA G k)), (1, .int a1)]) hx hb dJ7_fill_53178_4 rfl hl (by decide) rfl (fun ls hl => ?_)
  rw [show S = ri S k (flR (gi S k) 0 a1) from by rw [flR_0, ri_id]] at hW
  have L5 : ∀ (n : Nat) (i : Nat) (H : Heap) (locs : List Loc) (ls : Array Slot), (n0 - i) < n → i ≤ n0 → Wd D (AW G s.heap.size) s G (ri S k (flR (gi S k) i a1)) H locs → lv_has ls 4 [(2, .int (nI i)), (3, .int (nI n0)), (0, .ref (gA G k)), (1, .int a1)] → W pP l eE (headSpec wsJ7_fill_53178 rmJ7_fill_53178).room s mM ([.ref (gA G k), .int a1] : List Value).toArray bl mT cD H locs 0 0 Q0 (F0 mM 5 ls []) := by
    intro n
    induction n with
    | zero => intro i H locs ls hm; exact absurd hm (Nat.not_lt_zero _)
    | succ n ih5 =>
      intro i H locs ls hm5 hi hW hl
      refine lv_iload_n hx hb dJ7_fill_53178_5 rfl (lv_at hl 0 rfl) ?_
      refine lv_iload_n hx hb dJ7_fill_53178_6 rfl (lv_at hl 1 rfl) ?_
      refine lv_icmp_ge (tgt := 20) hx hb dJ7_fill_53178_7 (by decide) (fun c7 => ?_) (fun c7 => ?_)
      · skip
        have hge : n0 ≤ i := (n_le hn (by omega)).mp c7
        rw [← hQ0]
        refine r_vret hx hb hr hlocks hW ?_ dJ7_fill_53178_20
        have hin : i = n0 := by omega
        subst hin
        rfl
      · skip
        have hlt : i < n0 := by
          have h9 : ¬ n0 ≤ i := fun q => c7 ((n_le hn (by omega)).mpr q)
          omega
        refine lv_aload_n hx hb dJ7_fill_53178_10 rfl (lv_at hl 2 rfl) ?_
        refine lv_iload_n hx hb dJ7_fill_53178_11 rfl (lv_at hl 0 rfl) ?_
        refine lv_iload_n hx hb dJ7_fill_53178_12 rfl (lv_at hl 3 rfl) ?_
        refine r_iast hx hb hW k rfl hk hkd (by rw [hz]; exact n_inI hlt hn) (ri S k (va_up (flR (gi S k) i a1) ((nI i)).toNatClampNeg a1)) (flR (gi S k) i a1) (e_is _ _ _) (e_is _ _ _) rfl rfl c_i dJ7_fill_53178_13 (fun H locs hW => ?_)
        rw [n_clamp (by omega), flR_s] at hW
        refine lv_iinc (v := (nI (i + 1))) (lv' := [(2, .int (nI (i + 1))), (3, .int (nI n0)), (0, .ref (gA G k)), (1, .int a1)]) hx hb dJ7_fill_53178_14 hl (k := 0) rfl (nI_1 i) (by decide) rfl (fun ls hl => ?_)
        refine lv_goto (tgt := 5) hx hb dJ7_fill_53178_17 (by decide) ?_
        exact ih5 (i + 1) _ _ ls (by omega) hlt hW (lv_sub hl [0, 1, 2, 3] rfl)
  exact L5 _ 0 _ _ ls (Nat.lt_succ_self _) (Nat.zero_le _) hW (lv_sub hl [1, 0, 2, 3] rfl)

def rmJ7_fill_d0a16 : Jvm.Room := { frames := 0, cells := 0, slots := 0, locals := 0 }
set_option maxHeartbeats 4000000 in
set_option maxRecDepth 100000 in
theorem t_J7_fill_d0a16 (l : Launch) (D : Dc) (G : Gg) (S : Sg) (z : Nat) (k n0 : Nat) (hk : k < gN G) (hkd : gK G k = 13) (hz : gZ G k = n0) (hn : n0 < 2147483648) (a1 : Int64) : MV l yJ7_fill_d0a16 wsJ7_fill_d0a16 rmJ7_fill_d0a16 D G S z [.ref (gA G k), .long a1] (fun S' => S' = rj S k (flR (gj S k) n0 a1)) := by
  refine Met.ofW (cc := cJ7_fill_d0a16) (maxL := 5) (ret := none) (by decide +kernel) rfl ?_
  intro pP eE s mM args bl mT cD s₁ bD hml hv
  obtain ⟨rfl, hv⟩ := hv
  have hz := hv.1
  subst hz
  have hx := bD.exec
  have hb := bD.bytes
  have hr := bD.returns
  have hts := atoms_spec (ws := wsJ7_fill_d0a16) bD.pre
  have hown : s.vm.findClass RJ7 = some mM.cls := findClass_of_methodNamed bD.named
  have hlocks := bD.notSynchronized
  have hW := Wd.start hv
  have hA : ∀ q, s.heap.size ≤ q → AW G s.heap.size q := fun q h => Or.inr h
  have hl := lv_entry ([.ref (gA G k), .long a1]) (n := 5) (Nat.le_of_ble_eq_true rfl)
  rw [lg_entry_eq]
  generalize (lg_sl ([.ref (gA G k), .long a1]) ++ List.replicate (5 - (lg_sl ([.ref (gA G k), .long a1])).length) Slot.unset).toArray = ls at hl ⊢
  have hl : lv_has ls 5 [(0, .ref (gA G k)), (1, .long a1)] := hl
  generalize hQ0 : MQ bl _ _ s _ _ _ = Q0
  refine lv_iconst (v := 0) hx hb dJ7_fill_d0a16_0 (by decide) ?_
  refine lv_istore_n (lv' := [(3, .int 0), (0, .ref (gA G k)), (1, .long a1)]) hx hb dJ7_fill_d0a16_1 rfl hl (by decide) rfl (fun ls hl => ?_)
  refine lv_aload_n hx hb dJ7_fill_d0a16_2 rfl (lv_at hl 1 rfl) ?_
  refine r_alen hx hb hW k rfl hk 13 2 hkd rfl rfl rfl (nI n0) (by rw [hz]) dJ7_fill_d0a16_3 ?_
  refine lv_istore (lv' := [(4, .int (nI n0)), (3, .int 0), (0, .ref (gA G k)), (1, .long a1)]) hx hb dJ7_fill_d0a16_4 hl (by decide) rfl (fun ls hl => ?_)
  rw [show S = rj S k (flR (gj S k) 0 a1) from by rw [flR_0, rj_id]] at hW
  have L6 : ∀ (n : Nat) (i : Nat) (H : Heap) (locs : List Loc) (ls : Array Slot), (n0 - i) < n → i ≤ n0 → Wd D (AW G s.heap.size) s G (rj S k (flR (gj S k) i a1)) H locs → lv_has ls 5 [(3, .int (nI i)), (4, .int (nI n0)), (0, .ref (gA G k)), (1, .long a1)] → W pP l eE (headSpec wsJ7_fill_d0a16 rmJ7_fill_d0a16).room s mM ([.ref (gA G k), .long a1] : List Value).toArray bl mT cD H locs 0 0 Q0 (F0 mM 6 ls []) := by
    intro n
    induction n with
    | zero => intro i H locs ls hm; exact absurd hm (Nat.not_lt_zero _)
    | succ n ih6 =>
      intro i H locs ls hm6 hi hW hl
      refine lv_iload_n hx hb dJ7_fill_d0a16_6 rfl (lv_at hl 0 rfl) ?_
      refine lv_iload hx hb dJ7_fill_d0a16_7 (lv_at hl 1 rfl) ?_
      refine lv_icmp_ge (tgt := 22) hx hb dJ7_fill_d0a16_9 (by decide) (fun c9 => ?_) (fun c9 => ?_)
      · skip
        have hge : n0 ≤ i := (n_le hn (by omega)).mp c9
        rw [← hQ0]
        refine r_vret hx hb hr hlocks hW ?_ dJ7_fill_d0a16_22
        have hin : i = n0 := by omega
        subst hin
        rfl
      · skip
        have hlt : i < n0 := by
          have h9 : ¬ n0 ≤ i := fun q => c9 ((n_le hn (by omega)).mpr q)
          omega
        refine lv_aload_n hx hb dJ7_fill_d0a16_12 rfl (lv_at hl 2 rfl) ?_
        refine lv_iload_n hx hb dJ7_fill_d0a16_13 rfl (lv_at hl 0 rfl) ?_
        refine lv_lload_n hx hb dJ7_fill_d0a16_14 rfl (lv_at hl 3 rfl) ?_
        refine r_last hx hb hW k rfl hk hkd (by rw [hz]; exact n_inI hlt hn) (rj S k (va_up (flR (gj S k) i a1) ((nI i)).toNatClampNeg a1)) (flR (gj S k) i a1) (e_js _ _ _) (e_js _ _ _) rfl rfl c_j dJ7_fill_d0a16_15 (fun H locs hW => ?_)
        rw [n_clamp (by omega), flR_s] at hW
        refine lv_iinc (v := (nI (i + 1))) (lv' := [(3, .int (nI (i + 1))), (4, .int (nI n0)), (0, .ref (gA G k)), (1, .long a1)]) hx hb dJ7_fill_d0a16_16 hl (k := 0) rfl (nI_1 i) (by decide) rfl (fun ls hl => ?_)
        refine lv_goto (tgt := 6) hx hb dJ7_fill_d0a16_19 (by decide) ?_
        exact ih6 (i + 1) _ _ ls (by omega) hlt hW (lv_sub hl [0, 1, 2, 3] rfl)
  exact L6 _ 0 _ _ ls (Nat.lt_succ_self _) (Nat.zero_le _) hW (lv_sub hl [1, 0, 2, 3] rfl)
