section RW6
variable {p : Program} {l : Launch} {e : Env} {R : Room} {s : State} {m : MethodId} {args : Array Value} {below : List Frame} {meth : Method} {c : Code} {H : Heap} {locs : List Loc} {cells slots : Nat} {Q : State → Prop}
variable {cc : ByteArray} {pc : Nat} {ls : Array Slot} {rest : List Value} {D : Dc} {A : Nat → Prop} {a : Nat} {G : Gg} {S : Sg}
theorem r_nret {post : Int32 → Sg → Prop} {v : Int32} {ty : FieldType} (hexec : p.tables.exec = Jvm.exec) (hb : c.code = cc) (hr : meth.sig.returnType = some ty) (hn : narrow ty (.int v) = .int v) (hlocks : meth.locks = false) (hW : Wd D (AW G s.heap.size) s G S H locs) (hp : post v S) (hdg : decode cc pc = .ok (.ireturn, 1)) :
    W p l e R s m args below meth c H locs 0 0 (MQ below (va_Qi post (PostW D G (AW G s.heap.size)) (AW G s.heap.size)) args s 0 0 (AW G s.heap.size)) (F0 m pc ls [.int v]) :=
  W.zret hexec hb hr hn (fun t ht hV => ⟨⟨v, S, rfl, hp, hW.post ht hV⟩, hW.2.2.2.1.F ht⟩) hW.2.2.2.1.2.2 hdg hlocks
theorem r_preK (hA : ∀ q, s.heap.size ≤ q → A q) {As : List Value} (hW : Wd D A s G S H locs) {i : Nat} (hi : i < 10) : PreV s H "java/lang/String" (D.2.2.1 i) (va_Pc (.ref (D.2.2.1 i) :: As) (PreW D G S H.size)) As :=
  ⟨PreW.blind, vk_recv hW.2.2.2.2.1 hi hW.2.2.2.1, fun U hU hV => ⟨rfl, by rw [hU], by rw [hU]; exact hW.2.1, va_K.moved hV.alike hW.1, ⟨hW.2.2.1.1, fun _ _ _ => trivial⟩, ((hW.2.2.2.2.kept (fun a h1 h2 => by rw [hU]; exact hW.2.2.2.1.2.1 a h1 h2)).narrow (hW.free hA)).warm hV⟩⟩
end RW6
def chI (i j : Nat) : Int32 := (sByt.getD i []).getD j 0
theorem s_len : ∀ i, i < 10 → Int32.ofNat (sLen.getD i 0) >>> ((0 : Int32) &&& 31) = nI (sLen.getD i 0) ∧ sLen.getD i 0 ≤ 6 := by decide +kernel
theorem s_chr : ∀ i, i < 10 → ∀ j, j < 6 → ((255 &&& (chI i j)).toUInt32 % 65536).toInt32 = chI i j ∧ ((chI i j &&& 255).toUInt32 % 65536).toInt32 = chI i j ∧ narrow .char (.int (chI i j)) = .int (chI i j) := by decide +kernel
def rmJ0_coder_7d493 : Jvm.Room := { frames := 0, cells := 0, slots := 0, locals := 0 }
set_option maxHeartbeats 4000000 in
set_option maxRecDepth 100000 in
theorem t_J0_coder_7d493 (l : Launch) (D : Dc) (G : Gg) (S : Sg) (z : Nat) (i : Nat) (hi : i < 10) : MI l yJ0_coder_7d493 wsJ0_coder_7d493 rmJ0_coder_7d493 D G S z [.ref (D.2.2.1 i)] (fun r S' => S' = S ∧ r = 0) := by
  refine Met.ofW (cc := cJ0_coder_7d493) (maxL := 1) (ret := (some .byte)) (by decide +kernel) rfl ?_
  intro pP eE s mM args bl mT cD s₁ bD hml hv
  obtain ⟨rfl, hv⟩ := hv
  have hz := hv.1
  subst hz
  have hx := bD.exec
  have hb := bD.bytes
  have hr := bD.returns
  have hts := atoms_spec (ws := wsJ0_coder_7d493) bD.pre
  have hown : s.vm.findClass RJ0 = some mM.cls := findClass_of_methodNamed bD.named
  have hlocks := bD.notSynchronized
  have hW := Wd.start hv
  have hA : ∀ q, s.heap.size ≤ q → AW G s.heap.size q := fun q h => Or.inr h
  have hl := lv_entry ([.ref (D.2.2.1 i)]) (n := 1) (Nat.le_of_ble_eq_true rfl)
  rw [lg_entry_eq]
  generalize (lg_sl ([.ref (D.2.2.1 i)]) ++ List.replicate (1 - (lg_sl ([.ref (D.2.2.1 i)])).length) Slot.unset).toArray = ls at hl ⊢
  have hl : lv_has ls 1 [(0, .ref (D.2.2.1 i))] := hl
  have q0 := hts (.fieldLink RJ0 38 "java/lang/String" "COMPACT_STRINGS" "Z") (List.mem_of_getElem? (i := 1) rfl)
  have q1 := hts (.fieldLink RJ0 15 "java/lang/String" "coder" "B") (List.mem_of_getElem? (i := 2) rfl)
  refine va_gets hx hb hW.2.2.2.2.2.2.1 hW.2.2.2.1 hown q0 (fun _ h9 => h9) dJ0_coder_7d493_0 ?_
  refine lv_if_eq (tgt := 13) hx hb dJ0_coder_7d493_3 (by decide) (fun c3 => ?_) (fun c3 => ?_)
  · exact absurd c3 (by decide)
  · skip
    refine lv_aload_n hx hb dJ0_coder_7d493_6 rfl (lv_at hl 0 rfl) ?_
    refine vk_getf hx hb (hW.2.2.2.2.1.1 i hi).2.1 hW.2.2.2.1 hown q1 (fun _ h9 => h9) dJ0_coder_7d493_7 ?_
    refine lv_goto (tgt := 14) hx hb dJ0_coder_7d493_10 (by decide) ?_
    refine r_nret hx hb hr rfl hlocks hW ?_ dJ0_coder_7d493_14
    exact ⟨rfl, rfl⟩

def rmJ0_isLatin1_aae02 : Jvm.Room := { frames := 0, cells := 0, slots := 0, locals := 0 }
set_option maxHeartbeats 4000000 in
set_option maxRecDepth 100000 in
theorem t_J0_isLatin1_aae02 (l : Launch) (D : Dc) (G : Gg) (S : Sg) (z : Nat) (i : Nat) (hi : i < 10) : MI l yJ0_isLatin1_aae02 wsJ0_isLatin1_aae02 rmJ0_isLatin1_aae02 D G S z [.ref (D.2.2.1 i)] (fun r S' => S' = S ∧ r = 1) := by
  refine Met.ofW (cc := cJ0_isLatin1_aae02) (maxL := 1) (ret := (some .boolean)) (by decide +kernel) rfl ?_
  intro pP eE s mM args bl mT cD s₁ bD hml hv
  obtain ⟨rfl, hv⟩ := hv
  have hz := hv.1
  subst hz
  have hx := bD.exec
  have hb := bD.bytes
  have hr := bD.returns
  have hts := atoms_spec (ws := wsJ0_isLatin1_aae02) bD.pre
  have hown : s.vm.findClass RJ0 = some mM.cls := findClass_of_methodNamed bD.named
  have hlocks := bD.notSynchronized
  have hW := Wd.start hv
  have hA : ∀ q, s.heap.size ≤ q → AW G s.heap.size q := fun q h => Or.inr h
  have hl := lv_entry ([.ref (D.2.2.1 i)]) (n := 1) (Nat.le_of_ble_eq_true rfl)
  rw [lg_entry_eq]
  generalize (lg_sl ([.ref (D.2.2.1 i)]) ++ List.replicate (1 - (lg_sl ([.ref (D.2.2.1 i)])).length) Slot.unset).toArray = ls at hl ⊢
  have hl : lv_has ls 1 [(0, .ref (D.2.2.1 i))] := hl
  have q0 := hts (.fieldLink RJ0 38 "java/lang/String" "COMPACT_STRINGS" "Z") (List.mem_of_getElem? (i := 1) rfl)
  have q1 := hts (.fieldLink RJ0 15 "java/lang/String" "coder" "B") (List.mem_of_getElem? (i := 2) rfl)
  refine va_gets hx hb hW.2.2.2.2.2.2.1 hW.2.2.2.1 hown q0 (fun _ h9 => h9) dJ0_isLatin1_aae02_0 ?_
  refine lv_if_eq (tgt := 17) hx hb dJ0_isLatin1_aae02_3 (by decide) (fun c3 => ?_) (fun c3 => ?_)
  · exact absurd c3 (by decide)
  · skip
    refine lv_aload_n hx hb dJ0_isLatin1_aae02_6 rfl (lv_at hl 0 rfl) ?_
    refine vk_getf hx hb (hW.2.2.2.2.1.1 i hi).2.1 hW.2.2.2.1 hown q1 (fun _ h9 => h9) dJ0_isLatin1_aae02_7 ?_
    refine lv_if_ne (tgt := 17) hx hb dJ0_isLatin1_aae02_10 (by decide) (fun c10 => ?_) (fun c10 => ?_)
    · exact absurd (by decide) c10
    · skip
      refine lv_iconst (v := 1) hx hb dJ0_isLatin1_aae02_13 (by decide) ?_
      refine lv_goto (tgt := 18) hx hb dJ0_isLatin1_aae02_14 (by decide) ?_
      refine r_zret hx hb hr hlocks hW (Or.inr rfl) ?_ dJ0_isLatin1_aae02_18
      exact ⟨rfl, rfl⟩

def rmJ0_length_8abf5 : Jvm.Room := { frames := 1, cells := 0, slots := 0, locals := 20 }
set_option maxHeartbeats 4000000 in
set_option maxRecDepth 100000 in
theorem t_J0_length_8abf5 (l : Launch) (D : Dc) (G : Gg) (S : Sg) (z : Nat) (i : Nat) (hi : i < 10) : MI l yJ0_length_8abf5 wsJ0_length_8abf5 rmJ0_length_8abf5 D G S z [.ref (D.2.2.1 i)] (fun r S' => S' = S ∧ r = nI (sLen.getD i 0)) := by
  refine Met.ofW (cc := cJ0_length_8abf5) (maxL := 1) (ret := (some .int)) (by decide +kernel) rfl ?_
  intro pP eE s mM args bl mT cD s₁ bD hml hv
  obtain ⟨rfl, hv⟩ := hv
  have hz := hv.1
  subst hz
  have hx := bD.exec
  have hb := bD.bytes
  have hr := bD.returns
  have hts := atoms_spec (ws := wsJ0_length_8abf5) bD.pre
  have hown : s.vm.findClass RJ0 = some mM.cls := findClass_of_methodNamed bD.named
  have hlocks := bD.notSynchronized
  have hW := Wd.start hv
  have hA : ∀ q, s.heap.size ≤ q → AW G s.heap.size q := fun q h => Or.inr h
  have hl := lv_entry ([.ref (D.2.2.1 i)]) (n := 1) (Nat.le_of_ble_eq_true rfl)
  rw [lg_entry_eq]
  generalize (lg_sl ([.ref (D.2.2.1 i)]) ++ List.replicate (1 - (lg_sl ([.ref (D.2.2.1 i)])).length) Slot.unset).toArray = ls at hl ⊢
  have hl : lv_has ls 1 [(0, .ref (D.2.2.1 i))] := hl
  have q0 := hts (.fieldLink RJ0 9 "java/lang/String" "value" "[B") (List.mem_of_getElem? (i := 1) rfl)
  refine lv_aload_n hx hb dJ0_length_8abf5_0 rfl (lv_at hl 0 rfl) ?_
  refine vk_getf hx hb (hW.2.2.2.2.1.1 i hi).2.2.1 hW.2.2.2.1 hown q0 (fun _ h9 => h9) dJ0_length_8abf5_1 ?_
  refine va_tlen hx hb (hW.2.2.2.2.1.1 i hi).2.2.2 hW.2.2.2.1 rfl dJ0_length_8abf5_4 ?_
  refine lv_aload_n hx hb dJ0_length_8abf5_5 rfl (lv_at hl 0 rfl) ?_
  refine r_calli hW hA (va_runV (As := []) (rest := [.int (Int32.ofNat (sLen.getD i 0))]) ⟨hx, hb, hml, hown, hts⟩ (t_J0_coder_7d493 l D G S _ i hi) (cwV 0 hts gJ0_length_8abf5_J0_coder_7d493 rfl rfl rfl (by decide +kernel) ⟨Nat.le_of_ble_eq_true rfl, Nat.le_of_ble_eq_true rfl⟩) (r_preK hA hW hi) rfl rfl hl.1 rfl (lv_room (Nat.le_of_ble_eq_true rfl)) dJ0_length_8abf5_6 ⟨Nat.zero_le _, Nat.zero_le _⟩) (fun r6 S6 H locs hp6 hW => ?_)
  obtain ⟨hs6, rfl⟩ := hp6
  rw [hs6] at hW
  refine lv_ishr hx hb dJ0_length_8abf5_9 ?_
  refine r_iret hx hb hr hlocks hW ?_ dJ0_length_8abf5_10
  exact ⟨rfl, (s_len i hi).1⟩

def rmJ3_checkIndex_8e157 : Jvm.Room := { frames := 0, cells := 0, slots := 0, locals := 0 }
set_option maxHeartbeats 4000000 in
set_option maxRecDepth 100000 in
theorem t_J3_checkIndex_n (l : Launch) (D : Dc) (G : Gg) (S : Sg) (z : Nat) (j k : Nat) (hjk : j < k) (hk9 : k < 2147483648) : MI l yJ3_checkIndex_8e157 wsJ3_checkIndex_8e157 rmJ3_checkIndex_8e157 D G S z [.int (nI j), .int (nI k), .null] (fun r S' => S' = S ∧ r = nI j) := by
  refine Met.ofW (cc := cJ3_checkIndex_8e157) (maxL := 3) (ret := (some .int)) (by decide +kernel) rfl ?_
  intro pP eE s mM args bl mT cD s₁ bD hml hv
  obtain ⟨rfl, hv⟩ := hv
  have hz := hv.1
  subst hz
  have hx := bD.exec
  have hb := bD.bytes
  have hr := bD.returns
  have hts := atoms_spec (ws := wsJ3_checkIndex_8e157) bD.pre
  have hown : s.vm.findClass RJ3 = some mM.cls := findClass_of_methodNamed bD.named
  have hlocks := bD.notSynchronized
  have hW := Wd.start hv
  have hA : ∀ q, s.heap.size ≤ q → AW G s.heap.size q := fun q h => Or.inr h
  have hl := lv_entry ([.int (nI j), .int (nI k), .null]) (n := 3) (Nat.le_of_ble_eq_true rfl)
  rw [lg_entry_eq]
  generalize (lg_sl ([.int (nI j), .int (nI k), .null]) ++ List.replicate (3 - (lg_sl ([.int (nI j), .int (nI k), .null])).length) Slot.unset).toArray = ls at hl ⊢
  have hl : lv_has ls 3 [(0, .int (nI j)), (1, .int (nI k)), (2, .null)] := hl
  refine lv_iload_n hx hb dJ3_checkIndex_8e157_0 rfl (lv_at hl 0 rfl) ?_
  refine lv_if_lt (tgt := 9) hx hb dJ3_checkIndex_8e157_1 (by decide) (fun c1 => ?_) (fun c1 => ?_)
  · skip
    rw [t_lt, show (0 : Int32).toInt = 0 from by decide] at c1
    exfalso; rw [n_toInt (by omega)] at c1; omega --stop
  · skip
    rw [t_lt, show (0 : Int32).toInt = 0 from by decide] at c1
    refine lv_iload_n hx hb dJ3_checkIndex_8e157_4 rfl (lv_at hl 0 rfl) ?_
    refine lv_iload_n hx hb dJ3_checkIndex_8e157_5 rfl (lv_at hl 1 rfl) ?_
    refine lv_icmp_lt (tgt := 16) hx hb dJ3_checkIndex_8e157_6 (by decide) (fun c6 => ?_) (fun c6 => ?_)
    · skip
      refine lv_iload_n hx hb dJ3_checkIndex_8e157_16 rfl (lv_at hl 0 rfl) ?_
      refine r_iret hx hb hr hlocks hW ?_ dJ3_checkIndex_8e157_17
      exact ⟨rfl, rfl⟩
    · skip
      exact absurd ((n_lt (by omega) (by omega)).mpr hjk) c6 --stop

set_option maxHeartbeats 4000000 in
set_option maxRecDepth 100000 in
theorem t_J3_checkIndex_r (l : Launch) (D : Dc) (G : Gg) (S : Sg) (z : Nat) (j k : Nat) (hjk : j < k) (hk9 : k < 2147483648) (t0 : Nat) : MI l yJ3_checkIndex_8e157 wsJ3_checkIndex_8e157 rmJ3_checkIndex_8e157 D G S z [.int (nI j), .int (nI k), .ref t0] (fun r S' => S' = S ∧ r = nI j) := by
  refine Met.ofW (cc := cJ3_checkIndex_8e157) (maxL := 3) (ret := (some .int)) (by decide +kernel) rfl ?_
  intro pP eE s mM args bl mT cD s₁ bD hml hv
  obtain ⟨rfl, hv⟩ := hv
  have hz := hv.1
  subst hz
  have hx := bD.exec
  have hb := bD.bytes
  have hr := bD.returns
  have hts := atoms_spec (ws := wsJ3_checkIndex_8e157) bD.pre
  have hown : s.vm.findClass RJ3 = some mM.cls := findClass_of_methodNamed bD.named
  have hlocks := bD.notSynchronized
  have hW := Wd.start hv
  have hA : ∀ q, s.heap.size ≤ q → AW G s.heap.size q := fun q h => Or.inr h
  have hl := lv_entry ([.int (nI j), .int (nI k), .ref t0]) (n := 3) (Nat.le_of_ble_eq_true rfl)
  rw [lg_entry_eq]
  generalize (lg_sl ([.int (nI j), .int (nI k), .ref t0]) ++ List.replicate (3 - (lg_sl ([.int (nI j), .int (nI k), .ref t0])).length) Slot.unset).toArray = ls at hl ⊢
  have hl : lv_has ls 3 [(0, .int (nI j)), (1, .int (nI k)), (2, .ref t0)] := hl
  refine lv_iload_n hx hb dJ3_checkIndex_8e157_0 rfl (lv_at hl 0 rfl) ?_
  refine lv_if_lt (tgt := 9) hx hb dJ3_checkIndex_8e157_1 (by decide) (fun c1 => ?_) (fun c1 => ?_)
  · skip
    rw [t_lt, show (0 : Int32).toInt = 0 from by decide] at c1
    exfalso; rw [n_toInt (by omega)] at c1; omega --stop
  · skip
    rw [t_lt, show (0 : Int32).toInt = 0 from by decide] at c1
    refine lv_iload_n hx hb dJ3_checkIndex_8e157_4 rfl (lv_at hl 0 rfl) ?_
    refine lv_iload_n hx hb dJ3_checkIndex_8e157_5 rfl (lv_at hl 1 rfl) ?_
    refine lv_icmp_lt (tgt := 16) hx hb dJ3_checkIndex_8e157_6 (by decide) (fun c6 => ?_) (fun c6 => ?_)
    · skip
      refine lv_iload_n hx hb dJ3_checkIndex_8e157_16 rfl (lv_at hl 0 rfl) ?_
      refine r_iret hx hb hr hlocks hW ?_ dJ3_checkIndex_8e157_17
      exact ⟨rfl, rfl⟩
    · skip
      exact absurd ((n_lt (by omega) (by omega)).mpr hjk) c6 --stop

def rmJ0_checkIndex_df160 : Jvm.Room := { frames := 1, cells := 0, slots := 0, locals := 22 }
set_option maxHeartbeats 4000000 in
set_option maxRecDepth 100000 in
theorem t_J0_checkIndex_df160 (l : Launch) (D : Dc) (G : Gg) (S : Sg) (z : Nat) (j k : Nat) (hjk : j < k) (hk9 : k < 2147483648) : MV l yJ0_checkIndex_df160 wsJ0_checkIndex_df160 rmJ0_checkIndex_df160 D G S z [.int (nI j), .int (nI k)] (fun S' => S' = S) := by
  refine Met.ofW (cc := cJ0_checkIndex_df160) (maxL := 2) (ret := none) (by decide +kernel) rfl ?_
  intro pP eE s mM args bl mT cD s₁ bD hml hv
  obtain ⟨rfl, hv⟩ := hv
  have hz := hv.1
  subst hz
  have hx := bD.exec
  have hb := bD.bytes
  have hr := bD.returns
  have hts := atoms_spec (ws := wsJ0_checkIndex_df160) bD.pre
  have hown : s.vm.findClass RJ0 = some mM.cls := findClass_of_methodNamed bD.named
  have hlocks := bD.notSynchronized
  have hW := Wd.start hv
  have hA : ∀ q, s.heap.size ≤ q → AW G s.heap.size q := fun q h => Or.inr h
  have hl := lv_entry ([.int (nI j), .int (nI k)]) (n := 2) (Nat.le_of_ble_eq_true rfl)
  rw [lg_entry_eq]
  generalize (lg_sl ([.int (nI j), .int (nI k)]) ++ List.replicate (2 - (lg_sl ([.int (nI j), .int (nI k)])).length) Slot.unset).toArray = ls at hl ⊢
  have hl : lv_has ls 2 [(0, .int (nI j)), (1, .int (nI k))] := hl
  have q0 := hts (.fieldLink RJ0 1053 "jdk/internal/util/Preconditions" "SIOOBE_FORMATTER" "Ljava/util/function/BiFunction;") (List.mem_of_getElem? (i := 1) rfl)
  refine lv_iload_n hx hb dJ0_checkIndex_df160_0 rfl (lv_at hl 0 rfl) ?_
  refine lv_iload_n hx hb dJ0_checkIndex_df160_1 rfl (lv_at hl 1 rfl) ?_
  rcases hW.2.2.2.2.2.2.2.1 with hz | ⟨t0, hz⟩
  · refine va_gets hx hb hz hW.2.2.2.1 hown q0 (fun _ h9 => h9) dJ0_checkIndex_df160_2 ?_
    refine r_calli hW hA (va_runS (As := [.int (nI j), .int (nI k), .null]) (rest := []) ⟨hx, hb, hml, hown, hts⟩ (t_J3_checkIndex_n l D G S _ j k hjk hk9) (va_cwS 3 hts gJ0_checkIndex_df160_J3_checkIndex_8e157 rfl rfl rfl (by decide +kernel) ⟨Nat.le_of_ble_eq_true rfl, Nat.le_of_ble_eq_true rfl⟩) (r_preS hA hW) rfl rfl hl.1 rfl (lv_room (Nat.le_of_ble_eq_true rfl)) dJ0_checkIndex_df160_5 ⟨Nat.zero_le _, Nat.zero_le _⟩) (fun r5 S5 H locs hp5 hW => ?_)
    obtain ⟨hs5, rfl⟩ := hp5
    rw [hs5] at hW
    refine lv_pop hx hb dJ0_checkIndex_df160_8 rfl ?_
    refine r_vret hx hb hr hlocks hW ?_ dJ0_checkIndex_df160_9
    rfl
  · refine va_gets hx hb hz hW.2.2.2.1 hown q0 (fun _ h9 => h9) dJ0_checkIndex_df160_2 ?_
    refine r_calli hW hA (va_runS (As := [.int (nI j), .int (nI k), .ref t0]) (rest := []) ⟨hx, hb, hml, hown, hts⟩ (t_J3_checkIndex_r l D G S _ j k hjk hk9 t0) (va_cwS 3 hts gJ0_checkIndex_df160_J3_checkIndex_8e157 rfl rfl rfl (by decide +kernel) ⟨Nat.le_of_ble_eq_true rfl, Nat.le_of_ble_eq_true rfl⟩) (r_preS hA hW) rfl rfl hl.1 rfl (lv_room (Nat.le_of_ble_eq_true rfl)) dJ0_checkIndex_df160_5 ⟨Nat.zero_le _, Nat.zero_le _⟩) (fun r5 S5 H locs hp5 hW => ?_)
    obtain ⟨hs5, rfl⟩ := hp5
    rw [hs5] at hW
    refine lv_pop hx hb dJ0_checkIndex_df160_8 rfl ?_
    refine r_vret hx hb hr hlocks hW ?_ dJ0_checkIndex_df160_9
    rfl

def rmJ1_charAt_3b067 : Jvm.Room := { frames := 2, cells := 0, slots := 0, locals := 43 }
set_option maxHeartbeats 4000000 in
set_option maxRecDepth 100000 in
theorem t_J1_charAt_3b067 (l : Launch) (D : Dc) (G : Gg) (S : Sg) (z : Nat) (i : Nat) (hi : i < 10) (j : Nat) (hj : j < sLen.getD i 0) : MI l yJ1_charAt_3b067 wsJ1_charAt_3b067 rmJ1_charAt_3b067 D G S z [.ref (D.2.2.2 i), .int (nI j)] (fun r S' => S' = S ∧ r = chI i j) := by
  refine Met.ofW (cc := cJ1_charAt_3b067) (maxL := 2) (ret := (some .char)) (by decide +kernel) rfl ?_
  intro pP eE s mM args bl mT cD s₁ bD hml hv
  obtain ⟨rfl, hv⟩ := hv
  have hz := hv.1
  subst hz
  have hx := bD.exec
  have hb := bD.bytes
  have hr := bD.returns
  have hts := atoms_spec (ws := wsJ1_charAt_3b067) bD.pre
  have hown : s.vm.findClass RJ1 = some mM.cls := findClass_of_methodNamed bD.named
  have hlocks := bD.notSynchronized
  have hW := Wd.start hv
  have hA : ∀ q, s.heap.size ≤ q → AW G s.heap.size q := fun q h => Or.inr h
  have hl := lv_entry ([.ref (D.2.2.2 i), .int (nI j)]) (n := 2) (Nat.le_of_ble_eq_true rfl)
  rw [lg_entry_eq]
  generalize (lg_sl ([.ref (D.2.2.2 i), .int (nI j)]) ++ List.replicate (2 - (lg_sl ([.ref (D.2.2.2 i), .int (nI j)])).length) Slot.unset).toArray = ls at hl ⊢
  have hl : lv_has ls 2 [(0, .ref (D.2.2.2 i)), (1, .int (nI j))] := hl
  have hl6 := (s_len i hi).2
  refine lv_iload_n hx hb dJ1_charAt_3b067_0 rfl (lv_at hl 1 rfl) ?_
  refine lv_aload_n hx hb dJ1_charAt_3b067_1 rfl (lv_at hl 0 rfl) ?_
  refine va_tlen hx hb (hW.2.2.2.2.1.1 i hi).2.2.2 hW.2.2.2.1 rfl dJ1_charAt_3b067_2 ?_
  refine r_callv hW hA (va_runS (As := [.int (nI j), .int (nI (sLen.getD i 0))]) (rest := []) ⟨hx, hb, hml, hown, hts⟩ (t_J0_checkIndex_df160 l D G S _ j (sLen.getD i 0) hj (by omega)) (va_cwS 2 hts gJ1_charAt_3b067_J0_checkIndex_df160 rfl rfl rfl (by decide +kernel) ⟨Nat.le_of_ble_eq_true rfl, Nat.le_of_ble_eq_true rfl⟩) (r_preS hA hW) rfl rfl hl.1 rfl (lv_room (Nat.le_of_ble_eq_true rfl)) dJ1_charAt_3b067_3 ⟨Nat.zero_le _, Nat.zero_le _⟩) (fun S3 H locs hp3 hW => ?_)
  rw [hp3] at hW
  refine lv_aload_n hx hb dJ1_charAt_3b067_6 rfl (lv_at hl 0 rfl) ?_
  refine lv_iload_n hx hb dJ1_charAt_3b067_7 rfl (lv_at hl 1 rfl) ?_
  refine va_tb hx hb (hW.2.2.2.2.1.1 i hi).2.2.2 hW.2.2.2.1 (n_inI hj (by omega)) (v := .int (chI i j)) (by rw [n_clamp (by omega)]; rfl) dJ1_charAt_3b067_8 ?_
  refine lv_sipush (v := 255) hx hb dJ1_charAt_3b067_9 (by decide) ?_
  refine lv_iand hx hb dJ1_charAt_3b067_12 ?_
  refine lv_i2c (v := (chI i j)) hx hb dJ1_charAt_3b067_13 (s_chr i hi j (by omega)).2.1 ?_
  refine r_nret hx hb hr (s_chr i hi j (by omega)).2.2 hlocks hW ?_ dJ1_charAt_3b067_14
  exact ⟨rfl, rfl⟩

def rmJ0_charAt_5068e : Jvm.Room := { frames := 3, cells := 0, slots := 0, locals := 64 }
set_option maxHeartbeats 4000000 in
set_option maxRecDepth 100000 in
theorem t_J0_charAt_5068e (l : Launch) (D : Dc) (G : Gg) (S : Sg) (z : Nat) (i : Nat) (hi : i < 10) (j : Nat) (hj : j < sLen.getD i 0) : MI l yJ0_charAt_5068e wsJ0_charAt_5068e rmJ0_charAt_5068e D G S z [.ref (D.2.2.1 i), .int (nI j)] (fun r S' => S' = S ∧ r = chI i j) := by
  refine Met.ofW (cc := cJ0_charAt_5068e) (maxL := 2) (ret := (some .char)) (by decide +kernel) rfl ?_
  intro pP eE s mM args bl mT cD s₁ bD hml hv
  obtain ⟨rfl, hv⟩ := hv
  have hz := hv.1
  subst hz
  have hx := bD.exec
  have hb := bD.bytes
  have hr := bD.returns
  have hts := atoms_spec (ws := wsJ0_charAt_5068e) bD.pre
  have hown : s.vm.findClass RJ0 = some mM.cls := findClass_of_methodNamed bD.named
  have hlocks := bD.notSynchronized
  have hW := Wd.start hv
  have hA : ∀ q, s.heap.size ≤ q → AW G s.heap.size q := fun q h => Or.inr h
  have hl := lv_entry ([.ref (D.2.2.1 i), .int (nI j)]) (n := 2) (Nat.le_of_ble_eq_true rfl)
  rw [lg_entry_eq]
  generalize (lg_sl ([.ref (D.2.2.1 i), .int (nI j)]) ++ List.replicate (2 - (lg_sl ([.ref (D.2.2.1 i), .int (nI j)])).length) Slot.unset).toArray = ls at hl ⊢
  have hl : lv_has ls 2 [(0, .ref (D.2.2.1 i)), (1, .int (nI j))] := hl
  have q0 := hts (.fieldLink RJ0 9 "java/lang/String" "value" "[B") (List.mem_of_getElem? (i := 1) rfl)
  have hl6 := (s_len i hi).2
  refine lv_aload_n hx hb dJ0_charAt_5068e_0 rfl (lv_at hl 0 rfl) ?_
  refine r_calli hW hA (va_runV (As := []) (rest := []) ⟨hx, hb, hml, hown, hts⟩ (t_J0_isLatin1_aae02 l D G S _ i hi) (cwV 0 hts gJ0_charAt_5068e_J0_isLatin1_aae02 rfl rfl rfl (by decide +kernel) ⟨Nat.le_of_ble_eq_true rfl, Nat.le_of_ble_eq_true rfl⟩) (r_preK hA hW hi) rfl rfl hl.1 rfl (lv_room (Nat.le_of_ble_eq_true rfl)) dJ0_charAt_5068e_1 ⟨Nat.zero_le _, Nat.zero_le _⟩) (fun r1 S1 H locs hp1 hW => ?_)
  obtain ⟨hs1, rfl⟩ := hp1
  rw [hs1] at hW
  refine lv_if_eq (tgt := 16) hx hb dJ0_charAt_5068e_4 (by decide) (fun c4 => ?_) (fun c4 => ?_)
  · exact absurd c4 (by decide)
  · skip
    refine lv_aload_n hx hb dJ0_charAt_5068e_7 rfl (lv_at hl 0 rfl) ?_
    refine vk_getf hx hb (hW.2.2.2.2.1.1 i hi).2.2.1 hW.2.2.2.1 hown q0 (fun _ h9 => h9) dJ0_charAt_5068e_8 ?_
    refine lv_iload_n hx hb dJ0_charAt_5068e_11 rfl (lv_at hl 1 rfl) ?_
    refine r_calli hW hA (va_runS (As := [.ref (D.2.2.2 i), .int (nI j)]) (rest := []) ⟨hx, hb, hml, hown, hts⟩ (t_J1_charAt_3b067 l D G S _ i hi j hj) (va_cwS 2 hts gJ0_charAt_5068e_J1_charAt_3b067 rfl rfl rfl (by decide +kernel) ⟨Nat.le_of_ble_eq_true rfl, Nat.le_of_ble_eq_true rfl⟩) (r_preS hA hW) rfl rfl hl.1 rfl (lv_room (Nat.le_of_ble_eq_true rfl)) dJ0_charAt_5068e_12 ⟨Nat.zero_le _, Nat.zero_le _⟩) (fun r12 S12 H locs hp12 hW => ?_)
    obtain ⟨hs12, rfl⟩ := hp12
    rw [hs12] at hW
    refine r_nret hx hb hr (s_chr i hi j (by omega)).2.2 hlocks hW ?_ dJ0_charAt_5068e_15
    exact ⟨rfl, rfl⟩
