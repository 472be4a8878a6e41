/-! bodies: a party of any kind, asked for its size and its mark -/
def pnm : Nat → String
  | 0 => "number"
  | 1 => "heads"
  | _ => "toil"
section RW5
variable {p : Program} {l : Launch} {e : Env} {R : Room} {s : State} {m : MethodId} {args : Array Value} {below : List Frame} {meth : Method} {c : Code} {H : Heap} {locs : List Loc} {cells slots : Nat} {Q : State → Prop}
variable {cc : ByteArray} {pc : Nat} {ls : Array Slot} {rest : List Value} {D : Dc} {A : Nat → Prop} {a : Nat} {G : Gg} {S : Sg}
theorem r_getP (hexec : p.tables.exec = Jvm.exec) (hb : c.code = cc) {own ref : String} {index : Nat} {Ts : List Cond} (hts : ∀ w ∈ Ts, w.before args s = true) (h1 : ∀ w ∈ wsX10, w ∈ Ts) (h2 : ∀ w ∈ wsX20, w ∈ Ts) (h3 : ∀ w ∈ wsX30, w ∈ Ts) (h7 : ∀ w ∈ wsX70, w ∈ Ts) (h9 : ∀ w ∈ wsX90, w ∈ Ts) (hown : s.vm.findClass own = some m.cls) (hW : Wd D A s G S H locs) (k f : Nat) (ha : gA G k = a) (hk : k < gN G) (hkd : KdP G k) (hf : f < 3) (hlink : (Cond.fieldLink own index ref (pnm f) "I").before args s = true) (hsame : ∀ x, s.fieldFound? "WoodForTwo$Party" (pnm f) "I" = some x → s.fieldFound? ref (pnm f) "I" = some x) (x : Int32) (ex : gi S k f = x) (hdg : decode cc pc = .ok (.getfield index, 3))
    (kk : W p l e R s m args below meth c H locs cells slots Q (F0 m (pc + 3) ls (.int x :: rest))) : W p l e R s m args below meth c H locs cells slots Q (F0 m pc ls (.ref a :: rest)) := by
  rcases (show f = 0 ∨ f = 1 ∨ f = 2 by omega) with rfl | rfl | rfl <;> rcases hkd with h | h | h | h | h
  · exact r_geti (ci := 1) (C := RX1) (T := TX1) (N := 3) hexec hb hts h1 hown hW rfl k 0 ha hk h (by decide) hlink hsame x ex rfl rfl hdg kk
  · exact r_geti (ci := 2) (C := RX2) (T := TX2) (N := 3) hexec hb hts h2 hown hW rfl k 0 ha hk h (by decide) hlink hsame x ex rfl rfl hdg kk
  · exact r_geti (ci := 3) (C := RX3) (T := TX3) (N := 3) hexec hb hts h3 hown hW rfl k 0 ha hk h (by decide) hlink hsame x ex rfl rfl hdg kk
  · exact r_geti (ci := 6) (C := RX7) (T := TX7) (N := 3) hexec hb hts h7 hown hW rfl k 0 ha hk h (by decide) hlink hsame x ex rfl rfl hdg kk
  · exact r_geti (ci := 8) (C := RX9) (T := TX9) (N := 3) hexec hb hts h9 hown hW rfl k 0 ha hk h (by decide) hlink hsame x ex rfl rfl hdg kk
  · exact r_geti (ci := 1) (C := RX1) (T := TX1) (N := 3) hexec hb hts h1 hown hW rfl k 1 ha hk h (by decide) hlink hsame x ex rfl rfl hdg kk
  · exact r_geti (ci := 2) (C := RX2) (T := TX2) (N := 3) hexec hb hts h2 hown hW rfl k 1 ha hk h (by decide) hlink hsame x ex rfl rfl hdg kk
  · exact r_geti (ci := 3) (C := RX3) (T := TX3) (N := 3) hexec hb hts h3 hown hW rfl k 1 ha hk h (by decide) hlink hsame x ex rfl rfl hdg kk
  · exact r_geti (ci := 6) (C := RX7) (T := TX7) (N := 3) hexec hb hts h7 hown hW rfl k 1 ha hk h (by decide) hlink hsame x ex rfl rfl hdg kk
  · exact r_geti (ci := 8) (C := RX9) (T := TX9) (N := 3) hexec hb hts h9 hown hW rfl k 1 ha hk h (by decide) hlink hsame x ex rfl rfl hdg kk
  · exact r_geti (ci := 1) (C := RX1) (T := TX1) (N := 3) hexec hb hts h1 hown hW rfl k 2 ha hk h (by decide) hlink hsame x ex rfl rfl hdg kk
  · exact r_geti (ci := 2) (C := RX2) (T := TX2) (N := 3) hexec hb hts h2 hown hW rfl k 2 ha hk h (by decide) hlink hsame x ex rfl rfl hdg kk
  · exact r_geti (ci := 3) (C := RX3) (T := TX3) (N := 3) hexec hb hts h3 hown hW rfl k 2 ha hk h (by decide) hlink hsame x ex rfl rfl hdg kk
  · exact r_geti (ci := 6) (C := RX7) (T := TX7) (N := 3) hexec hb hts h7 hown hW rfl k 2 ha hk h (by decide) hlink hsame x ex rfl rfl hdg kk
  · exact r_geti (ci := 8) (C := RX9) (T := TX9) (N := 3) hexec hb hts h9 hown hW rfl k 2 ha hk h (by decide) hlink hsame x ex rfl rfl hdg kk
theorem r_preP (hA : ∀ q, s.heap.size ≤ q → A q) {As : List Value} (hW : Wd D A s G S H locs) {k : Nat} (hk : k < gN G) (hkd : KdP G k) : ∃ (C : String) (cC : ClassId), ClassAt s C cC ∧ PreV s H C (gA G k) (va_Pc (.ref (gA G k) :: As) (PreW D G S H.size)) As := by
  rcases hkd with h | h | h | h | h
  · exact ⟨RX1, _, (hW.1.1 1 (RX1, TX1, 3) rfl).2, r_preV (k := k) hA hW (ci := 1) (C := RX1) (T := TX1) (N := 3) rfl rfl hk h rfl rfl⟩
  · exact ⟨RX2, _, (hW.1.1 2 (RX2, TX2, 3) rfl).2, r_preV (k := k) hA hW (ci := 2) (C := RX2) (T := TX2) (N := 3) rfl rfl hk h rfl rfl⟩
  · exact ⟨RX3, _, (hW.1.1 3 (RX3, TX3, 3) rfl).2, r_preV (k := k) hA hW (ci := 3) (C := RX3) (T := TX3) (N := 3) rfl rfl hk h rfl rfl⟩
  · exact ⟨RX7, _, (hW.1.1 6 (RX7, TX7, 3) rfl).2, r_preV (k := k) hA hW (ci := 6) (C := RX7) (T := TX7) (N := 3) rfl rfl hk h rfl rfl⟩
  · exact ⟨RX9, _, (hW.1.1 8 (RX9, TX9, 3) rfl).2, r_preV (k := k) hA hW (ci := 8) (C := RX9) (T := TX9) (N := 3) rfl rfl hk h rfl rfl⟩
end RW5
def AskS (S : Sg) (h q b law t p m tl : Nat) : Prop := gi S h 2 = nI b ∧ gi S h 3 = nI law ∧ gi S h 4 = nI t ∧ gi S q 0 = nI p ∧ gi S q 1 = nI m ∧ gi S q 2 = nI tl ∧ 0 ≤ (gi S 30 1).toInt ∧ law ≤ 2 ∧ 1 ≤ m ∧ m ≤ 9 ∧ t ≤ 9 ∧ b ≤ 9 ∧ p < 16 ∧ tl ≤ 99
theorem trc_0 {S : Sg} {b : Int32} (h : 0 ≤ (gi S 30 1).toInt) : 0 ≤ (gi (trc S b) 30 1).toInt := by
  have e : gi (trc S b) 30 1 = bgN (gi S 30 1) := by unfold trc; rw [gi_ri, up_s, up_s]
  rw [e]
  unfold bgN
  split
  · rw [t_add (by rw [show (1 : Int32).toInt = 1 from by decide]; omega) (by rw [show (1 : Int32).toInt = 1 from by decide]; omega), show (1 : Int32).toInt = 1 from by decide]; omega
  · exact h
theorem AskS.trc {S : Sg} {h q b law t p m tl : Nat} {x : Int32} (hQ : AskS S h q b law t p m tl) (hh : PassR h) (h75 : 75 ≤ q) : AskS (trc S x) h q b law t p m tl := by
  obtain ⟨a1, a2, a3, a4, a5, a6, a7, a8⟩ := hQ
  refine ⟨?_, ?_, ?_, ?_, ?_, ?_, trc_0 a7, a8⟩ <;> (rw [trc_i (by omega) (by omega)]; assumption)
theorem GrP.trc {G : Gg} {S : Sg} {x : Int32} (hP : GrP G S) : GrP G (trc S x) := hP
def mkV (kd p d m tl : Nat) : Int64 := if kd = 3 then lN p + 10 * lN d - 1000 else if kd = 6 then lN p - (lN m - 100) else if kd = 8 then lN p + lN tl else lN p + 10 * lN d
def szV (kd p d m tl : Nat) : Int64 := if kd = 1 then -(lN m + mkV 1 p d m tl) else if kd = 2 then lN m + mkV 2 p d m tl else if kd = 3 then 2 * (lN m + mkV 3 p d m tl) else if kd = 6 then lN m - 100 else lN m
def mkT (kd : Nat) : List Int32 := if kd = 3 then [24, 21, 20] else if kd = 6 then [23, 20, 13, 10] else if kd = 8 then [22, 20] else [21, 20]
def szT (kd : Nat) : List Int32 := if kd = 1 then [12, 11, 10, 21, 20] else if kd = 2 then [11, 10, 21, 20] else if kd = 3 then [14, 11, 10, 24, 21, 20] else if kd = 6 then [13, 10] else [10]
def trcs (S : Sg) (l : List Int32) : Sg := l.foldl trc S
def trQ (q : Int32 × (Nat → Int32)) (b : Int32) : Int32 × (Nat → Int32) := (bgN q.1, bgR q.2 q.1 b)
theorem trcs_q (l : List Int32) : ∀ S : Sg, (gi (trcs S l) 30 1, gi (trcs S l) 31) = l.foldl trQ (gi S 30 1, gi S 31) := by
  induction l with
  | nil => exact fun S => rfl
  | cons x l ih =>
    intro S
    show (gi (trcs (trc S x) l) 30 1, gi (trcs (trc S x) l) 31) = l.foldl trQ (trQ (gi S 30 1, gi S 31) x)
    rw [ih]
    have e1 : gi (trc S x) 30 1 = bgN (gi S 30 1) := by unfold trc; rw [gi_ri, up_s, up_s]
    have e2 : gi (trc S x) 31 = bgR (gi S 31) (gi S 30 1) x := by unfold trc; rw [gi_ri, up_n _ _ (by decide), gi_ri, up_s]
    rw [e1, e2]; rfl
theorem trcs_c (l : List Int32) : ∀ S : Sg, Ch (fun k => k = 30 ∨ k = 31) S (trcs S l) := by
  induction l with
  | nil => exact fun S => Ch.rf
  | cons x l ih => exact fun S => Ch.tr (Ch.ri (Ch.ri Ch.rf (by omega)) (by omega)) (ih (trc S x))
def rmX4_sizeAsked : Jvm.Room := { frames := 1, cells := 0, slots := 0, locals := 21 }
set_option maxHeartbeats 4000000 in
set_option maxRecDepth 100000 in
theorem t_X4_sizeAsked (l : Launch) (D : Dc) (G : Gg) (S : Sg) (z : Nat) (hG : GrG G) (hP : GrP G S) (h : Nat) (hh : PassR h) (q : Nat) (h75 : 75 ≤ q) (hq : q < gN G) (hkP : KdP G q) (b law t p m tl : Nat) (hQ : AskS S h q b law t p m tl) : ML l yX4_sizeAsked wsX4_sizeAsked rmX4_sizeAsked D G S z [.ref (gA G q), .ref (gA G h), .ref (gA G 30)] (fun r S' => r = (lN m) ∧ S' = (trc S 10)) := by
  refine Met.ofW (cc := cX4_sizeAsked) (maxL := 3) (ret := (some .long)) (by decide +kernel) rfl ?_
  intro pP eE s mM args bl mT cD s₁ bD hml hv
  obtain ⟨rfl, hv⟩ := hv
  have hz := hv.1
  subst hz
  have hx := bD.exec
  have hb := bD.bytes
  have hr := bD.returns
  have hts := atoms_spec (ws := wsX4_sizeAsked) bD.pre
  have hown : s.vm.findClass RX4 = some mM.cls := findClass_of_methodNamed bD.named
  have hlocks := bD.notSynchronized
  have hW := Wd.start hv
  have hA : ∀ q, s.heap.size ≤ q → AW G s.heap.size q := fun q h => Or.inr h
  have hl := lv_entry ([.ref (gA G q), .ref (gA G h), .ref (gA G 30)]) (n := 3) (Nat.le_of_ble_eq_true rfl)
  rw [lg_entry_eq]
  generalize (lg_sl ([.ref (gA G q), .ref (gA G h), .ref (gA G 30)]) ++ List.replicate (3 - (lg_sl ([.ref (gA G q), .ref (gA G h), .ref (gA G 30)])).length) Slot.unset).toArray = ls at hl ⊢
  have hl : lv_has ls 3 [(0, .ref (gA G q)), (1, .ref (gA G h)), (2, .ref (gA G 30))] := hl
  have q0 := hts (.fieldLink RX4 13 "WoodForTwo$Party" "heads" "I") (List.mem_of_getElem? (i := 1) rfl)
  have iX1 : ∀ w ∈ wsX10, w ∈ wsX4_sizeAsked := fun _ h => List.mem_cons_of_mem _ (List.mem_append_left _ (List.mem_append_left _ (List.mem_append_left _ (List.mem_append_left _ (List.mem_append_left _ (List.mem_append_right _ (h)))))))
  have iX2 : ∀ w ∈ wsX20, w ∈ wsX4_sizeAsked := fun _ h => List.mem_cons_of_mem _ (List.mem_append_left _ (List.mem_append_left _ (List.mem_append_left _ (List.mem_append_left _ (List.mem_append_right _ (h))))))
  have iX3 : ∀ w ∈ wsX30, w ∈ wsX4_sizeAsked := fun _ h => List.mem_cons_of_mem _ (List.mem_append_left _ (List.mem_append_left _ (List.mem_append_left _ (List.mem_append_right _ (h)))))
  have iX7 : ∀ w ∈ wsX70, w ∈ wsX4_sizeAsked := fun _ h => List.mem_cons_of_mem _ (List.mem_append_left _ (List.mem_append_left _ (List.mem_append_right _ (h))))
  have iX9 : ∀ w ∈ wsX90, w ∈ wsX4_sizeAsked := fun _ h => List.mem_cons_of_mem _ (List.mem_append_left _ (List.mem_append_right _ (h)))
  refine lv_aload_n hx hb dX4_sizeAsked_0 rfl (lv_at hl 2 rfl) ?_
  refine lv_bipush (v := 10) hx hb dX4_sizeAsked_1 (by decide) ?_
  refine r_callv hW hA (va_runV (As := [.int 10]) (rest := []) ⟨hx, hb, hml, hown, hts⟩ (t_X8_begin l D G S _ hG hP 10 hQ.2.2.2.2.2.2.1) (cwV 1 hts gX4_sizeAsked_X8_begin rfl rfl rfl (by decide +kernel) ⟨Nat.le_of_ble_eq_true rfl, Nat.le_of_ble_eq_true rfl⟩) (r_preV (k := 30) hA hW (ci := 7) (C := RX8) (T := TX8) (N := 2) rfl rfl (g_lt hG (by decide)) (g_kd hG (by decide) rfl) rfl rfl) rfl rfl hl.1 rfl (lv_room (Nat.le_of_ble_eq_true rfl)) dX4_sizeAsked_3 ⟨Nat.zero_le _, Nat.zero_le _⟩) (fun S3 H locs hp3 hW => ?_)
  rw [hp3] at hW
  refine lv_aload_n hx hb dX4_sizeAsked_6 rfl (lv_at hl 0 rfl) ?_
  refine r_getP hx hb hts iX1 iX2 iX3 iX7 iX9 hown hW q 1 rfl hq hkP (by decide) q0 (fun _ h9 => h9) (nI m) (AskS.trc hQ hh h75).2.2.2.2.1 dX4_sizeAsked_7 ?_
  refine lv_i2l hx hb dX4_sizeAsked_10 rfl ?_
  refine r_lret hx hb hr hlocks hW ?_ dX4_sizeAsked_11
  exact ⟨(lN_of (by have := hQ.2.2.2.2.2.2.2; omega)), rfl⟩

def rmX4_markAsked : Jvm.Room := { frames := 1, cells := 0, slots := 0, locals := 21 }
set_option maxHeartbeats 4000000 in
set_option maxRecDepth 100000 in
theorem t_X4_markAsked (l : Launch) (D : Dc) (G : Gg) (S : Sg) (z : Nat) (hG : GrG G) (hP : GrP G S) (h : Nat) (hh : PassR h) (q : Nat) (h75 : 75 ≤ q) (hq : q < gN G) (hkP : KdP G q) (b law t p m tl : Nat) (hQ : AskS S h q b law t p m tl) : ML l yX4_markAsked wsX4_markAsked rmX4_markAsked D G S z [.ref (gA G q), .ref (gA G h), .ref (gA G 30)] (fun r S' => r = (lN p) ∧ S' = (trc S 20)) := by
  refine Met.ofW (cc := cX4_markAsked) (maxL := 3) (ret := (some .long)) (by decide +kernel) rfl ?_
  intro pP eE s mM args bl mT cD s₁ bD hml hv
  obtain ⟨rfl, hv⟩ := hv
  have hz := hv.1
  subst hz
  have hx := bD.exec
  have hb := bD.bytes
  have hr := bD.returns
  have hts := atoms_spec (ws := wsX4_markAsked) bD.pre
  have hown : s.vm.findClass RX4 = some mM.cls := findClass_of_methodNamed bD.named
  have hlocks := bD.notSynchronized
  have hW := Wd.start hv
  have hA : ∀ q, s.heap.size ≤ q → AW G s.heap.size q := fun q h => Or.inr h
  have hl := lv_entry ([.ref (gA G q), .ref (gA G h), .ref (gA G 30)]) (n := 3) (Nat.le_of_ble_eq_true rfl)
  rw [lg_entry_eq]
  generalize (lg_sl ([.ref (gA G q), .ref (gA G h), .ref (gA G 30)]) ++ List.replicate (3 - (lg_sl ([.ref (gA G q), .ref (gA G h), .ref (gA G 30)])).length) Slot.unset).toArray = ls at hl ⊢
  have hl : lv_has ls 3 [(0, .ref (gA G q)), (1, .ref (gA G h)), (2, .ref (gA G 30))] := hl
  have q0 := hts (.fieldLink RX4 7 "WoodForTwo$Party" "number" "I") (List.mem_of_getElem? (i := 1) rfl)
  have iX1 : ∀ w ∈ wsX10, w ∈ wsX4_markAsked := fun _ h => List.mem_cons_of_mem _ (List.mem_append_left _ (List.mem_append_left _ (List.mem_append_left _ (List.mem_append_left _ (List.mem_append_left _ (List.mem_append_right _ (h)))))))
  have iX2 : ∀ w ∈ wsX20, w ∈ wsX4_markAsked := fun _ h => List.mem_cons_of_mem _ (List.mem_append_left _ (List.mem_append_left _ (List.mem_append_left _ (List.mem_append_left _ (List.mem_append_right _ (h))))))
  have iX3 : ∀ w ∈ wsX30, w ∈ wsX4_markAsked := fun _ h => List.mem_cons_of_mem _ (List.mem_append_left _ (List.mem_append_left _ (List.mem_append_left _ (List.mem_append_right _ (h)))))
  have iX7 : ∀ w ∈ wsX70, w ∈ wsX4_markAsked := fun _ h => List.mem_cons_of_mem _ (List.mem_append_left _ (List.mem_append_left _ (List.mem_append_right _ (h))))
  have iX9 : ∀ w ∈ wsX90, w ∈ wsX4_markAsked := fun _ h => List.mem_cons_of_mem _ (List.mem_append_left _ (List.mem_append_right _ (h)))
  refine lv_aload_n hx hb dX4_markAsked_0 rfl (lv_at hl 2 rfl) ?_
  refine lv_bipush (v := 20) hx hb dX4_markAsked_1 (by decide) ?_
  refine r_callv hW hA (va_runV (As := [.int 20]) (rest := []) ⟨hx, hb, hml, hown, hts⟩ (t_X8_begin l D G S _ hG hP 20 hQ.2.2.2.2.2.2.1) (cwV 1 hts gX4_markAsked_X8_begin rfl rfl rfl (by decide +kernel) ⟨Nat.le_of_ble_eq_true rfl, Nat.le_of_ble_eq_true rfl⟩) (r_preV (k := 30) hA hW (ci := 7) (C := RX8) (T := TX8) (N := 2) rfl rfl (g_lt hG (by decide)) (g_kd hG (by decide) rfl) rfl rfl) rfl rfl hl.1 rfl (lv_room (Nat.le_of_ble_eq_true rfl)) dX4_markAsked_3 ⟨Nat.zero_le _, Nat.zero_le _⟩) (fun S3 H locs hp3 hW => ?_)
  rw [hp3] at hW
  refine lv_aload_n hx hb dX4_markAsked_6 rfl (lv_at hl 0 rfl) ?_
  refine r_getP hx hb hts iX1 iX2 iX3 iX7 iX9 hown hW q 0 rfl hq hkP (by decide) q0 (fun _ h9 => h9) (nI p) (AskS.trc hQ hh h75).2.2.2.1 dX4_markAsked_7 ?_
  refine lv_i2l hx hb dX4_markAsked_10 rfl ?_
  refine r_lret hx hb hr hlocks hW ?_ dX4_markAsked_11
  exact ⟨(lN_of (by have := hQ.2.2.2.2.2.2.2; omega)), rfl⟩

def rmX2_markAsked : Jvm.Room := { frames := 2, cells := 0, slots := 0, locals := 43 }
set_option maxHeartbeats 4000000 in
set_option maxRecDepth 100000 in
theorem t_X2_markAsked (l : Launch) (D : Dc) (G : Gg) (S : Sg) (z : Nat) (hG : GrG G) (hP : GrP G S) (h : Nat) (hh : PassR h) (q : Nat) (h75 : 75 ≤ q) (hq : q < gN G) (hkP : KdP G q) (b law t p m tl : Nat) (hQ : AskS S h q b law t p m tl) : ML l yX2_markAsked wsX2_markAsked rmX2_markAsked D G S z [.ref (gA G q), .ref (gA G h), .ref (gA G 30)] (fun r S' => r = (lN p + 10 * lN (dueN t b law m)) ∧ S' = (trc (trc S 21) 20)) := by
  refine Met.ofW (cc := cX2_markAsked) (maxL := 5) (ret := (some .long)) (by decide +kernel) rfl ?_
  intro pP eE s mM args bl mT cD s₁ bD hml hv
  obtain ⟨rfl, hv⟩ := hv
  have hz := hv.1
  subst hz
  have hx := bD.exec
  have hb := bD.bytes
  have hr := bD.returns
  have hts := atoms_spec (ws := wsX2_markAsked) bD.pre
  have hown : s.vm.findClass RX2 = some mM.cls := findClass_of_methodNamed bD.named
  have hlocks := bD.notSynchronized
  have hW := Wd.start hv
  have hA : ∀ q, s.heap.size ≤ q → AW G s.heap.size q := fun q h => Or.inr h
  have hl := lv_entry ([.ref (gA G q), .ref (gA G h), .ref (gA G 30)]) (n := 5) (Nat.le_of_ble_eq_true rfl)
  rw [lg_entry_eq]
  generalize (lg_sl ([.ref (gA G q), .ref (gA G h), .ref (gA G 30)]) ++ List.replicate (5 - (lg_sl ([.ref (gA G q), .ref (gA G h), .ref (gA G 30)])).length) Slot.unset).toArray = ls at hl ⊢
  have hl : lv_has ls 5 [(0, .ref (gA G q)), (1, .ref (gA G h)), (2, .ref (gA G 30))] := hl
  have q0 := hts (.constantLong RX2 23 (10)) (List.mem_of_getElem? (i := 1) rfl)
  have q1 := hts (.fieldLink RX2 25 "WoodForTwo$Pass" "law" "I") (List.mem_of_getElem? (i := 2) rfl)
  have q2 := hts (.sameField "WoodForTwo$Keeper" "WoodForTwo$Party" "heads" "I") (List.mem_of_getElem? (i := 4) rfl)
  have q3 := hts (.fieldLink RX2 31 "WoodForTwo$Keeper" "heads" "I") (List.mem_of_getElem? (i := 3) rfl)
  have iX5 : ∀ w ∈ wsX50, w ∈ wsX2_markAsked := fun _ h => List.mem_cons_of_mem _ (List.mem_append_left _ (List.mem_append_left _ (List.mem_append_left _ (List.mem_append_left _ (List.mem_append_left _ (List.mem_append_left _ (List.mem_append_right _ (h))))))))
  have iX1 : ∀ w ∈ wsX10, w ∈ wsX2_markAsked := fun _ h => List.mem_cons_of_mem _ (List.mem_append_left _ (List.mem_append_left _ (List.mem_append_left _ (List.mem_append_left _ (List.mem_append_left _ (List.mem_append_right _ (h)))))))
  have iX2 : ∀ w ∈ wsX20, w ∈ wsX2_markAsked := fun _ h => List.mem_cons_of_mem _ (List.mem_append_left _ (List.mem_append_left _ (List.mem_append_left _ (List.mem_append_left _ (List.mem_append_right _ (h))))))
  have iX3 : ∀ w ∈ wsX30, w ∈ wsX2_markAsked := fun _ h => List.mem_cons_of_mem _ (List.mem_append_left _ (List.mem_append_left _ (List.mem_append_left _ (List.mem_append_right _ (h)))))
  have iX7 : ∀ w ∈ wsX70, w ∈ wsX2_markAsked := fun _ h => List.mem_cons_of_mem _ (List.mem_append_left _ (List.mem_append_left _ (List.mem_append_right _ (h))))
  have iX9 : ∀ w ∈ wsX90, w ∈ wsX2_markAsked := fun _ h => List.mem_cons_of_mem _ (List.mem_append_left _ (List.mem_append_right _ (h)))
  refine lv_aload_n hx hb dX2_markAsked_0 rfl (lv_at hl 2 rfl) ?_
  refine lv_bipush (v := 21) hx hb dX2_markAsked_1 (by decide) ?_
  refine r_callv hW hA (va_runV (As := [.int 21]) (rest := []) ⟨hx, hb, hml, hown, hts⟩ (t_X8_begin l D G S _ hG hP 21 hQ.2.2.2.2.2.2.1) (cwV 1 hts gX2_markAsked_X8_begin rfl rfl rfl (by decide +kernel) ⟨Nat.le_of_ble_eq_true rfl, Nat.le_of_ble_eq_true rfl⟩) (r_preV (k := 30) hA hW (ci := 7) (C := RX8) (T := TX8) (N := 2) rfl rfl (g_lt hG (by decide)) (g_kd hG (by decide) rfl) rfl rfl) rfl rfl hl.1 rfl (lv_room (Nat.le_of_ble_eq_true rfl)) dX2_markAsked_3 ⟨Nat.zero_le _, Nat.zero_le _⟩) (fun S3 H locs hp3 hW => ?_)
  rw [hp3] at hW
  refine lv_aload_n hx hb dX2_markAsked_6 rfl (lv_at hl 0 rfl) ?_
  refine lv_aload_n hx hb dX2_markAsked_7 rfl (lv_at hl 1 rfl) ?_
  refine lv_aload_n hx hb dX2_markAsked_8 rfl (lv_at hl 2 rfl) ?_
  obtain ⟨C9, cC9, hat9, hpre9⟩ := r_preP (As := [.ref (gA G h), .ref (gA G 30)]) hA hW hq hkP
  refine r_calll hW hA (va_runSU (As := [.ref (gA G h), .ref (gA G 30)]) (rest := []) hat9 ⟨hx, hb, hml, hown, hts⟩ (t_X4_markAsked l D G (trc S 21) _ hG (GrP.trc hP) h hh q h75 hq hkP b law t p m tl (AskS.trc hQ hh h75)) (va_cwSU 2 hts gX2_markAsked_X4_markAsked_s22 rfl rfl rfl (by decide +kernel) ⟨Nat.le_of_ble_eq_true rfl, Nat.le_of_ble_eq_true rfl⟩) hpre9 rfl rfl hl.1 rfl (lv_room (Nat.le_of_ble_eq_true rfl)) dX2_markAsked_9 ⟨Nat.zero_le _, Nat.zero_le _⟩) (fun r9 S9 H locs hp9 hW => ?_)
  obtain ⟨rfl, hs9⟩ := hp9
  rw [hs9] at hW
  refine lv_lstore_n (lv' := [(3, .long (lN p)), (0, .ref (gA G q)), (1, .ref (gA G h)), (2, .ref (gA G 30))]) hx hb dX2_markAsked_12 rfl hl (by decide) rfl (fun ls hl => ?_)
  refine lv_lload_n hx hb dX2_markAsked_13 rfl (lv_at hl 0 rfl) ?_
  refine lv_ldc2 (v := (10)) hx hb hown q0 dX2_markAsked_14 ?_
  refine lv_aload_n hx hb dX2_markAsked_17 rfl (lv_at hl 2 rfl) ?_
  refine lv_aload_n hx hb dX2_markAsked_18 rfl (lv_at hl 2 rfl) ?_
  refine r_geti (ci := 4) (C := RX5) (T := TX5) (N := 16) hx hb hts iX5 hown hW rfl h 3 rfl (p_lt hG hh (i := 0) (by decide)) (p_kd hG hh) (by decide) q1 (fun _ h9 => h9) (nI law) (AskS.trc (AskS.trc hQ hh h75) hh h75).2.1 rfl rfl dX2_markAsked_19 ?_
  refine lv_aload_n hx hb dX2_markAsked_22 rfl (lv_at hl 1 rfl) ?_
  refine r_getP hx hb hts iX1 iX2 iX3 iX7 iX9 hown hW q 1 rfl hq hkP (by decide) q3 (fun x9 h9 => u_same q2 x9 h9) (nI m) (AskS.trc (AskS.trc hQ hh h75) hh h75).2.2.2.2.1 dX2_markAsked_23 ?_
  refine r_calli hW hA (va_runV (As := [.int (nI law), .int (nI m)]) (rest := [.long (10), .long (lN p)]) ⟨hx, hb, hml, hown, hts⟩ (t_X5_owed l D G (trc (trc S 21) 20) _ hG (GrP.trc (GrP.trc hP)) h hh law m t b hQ.2.2.2.2.2.2.2.1 hQ.2.2.2.2.2.2.2.2.1 hQ.2.2.2.2.2.2.2.2.2.1 hQ.2.2.2.2.2.2.2.2.2.2.1 hQ.2.2.2.2.2.2.2.2.2.2.2.1 (AskS.trc (AskS.trc hQ hh h75) hh h75).1 (AskS.trc (AskS.trc hQ hh h75) hh h75).2.2.1) (cwV 2 hts gX2_markAsked_X5_owed rfl rfl rfl (by decide +kernel) ⟨Nat.le_of_ble_eq_true rfl, Nat.le_of_ble_eq_true rfl⟩) (r_preV (k := h) hA hW (ci := 4) (C := RX5) (T := TX5) (N := 16) rfl rfl (p_lt hG hh (i := 0) (by decide)) (p_kd hG hh) rfl rfl) rfl rfl hl.1 rfl (lv_room (Nat.le_of_ble_eq_true rfl)) dX2_markAsked_26 ⟨Nat.zero_le _, Nat.zero_le _⟩) (fun r26 S26 H locs hp26 hW => ?_)
  obtain ⟨hs26, rfl⟩ := hp26
  rw [hs26] at hW
  refine lv_i2l hx hb dX2_markAsked_29 rfl ?_
  refine lv_lmul hx hb dX2_markAsked_30 ?_
  refine lv_ladd hx hb dX2_markAsked_31 ?_
  refine r_lret hx hb hr hlocks hW ?_ dX2_markAsked_32
  refine ⟨?_, rfl⟩
  rw [lN_of (by have := hQ.2.2.2.2.2.2.2; have := due_le (t := t) (b := b) (law := law) (m := m) (by omega) (by omega) (by omega); omega)]

def rmX3_markAsked : Jvm.Room := { frames := 3, cells := 0, slots := 0, locals := 67 }
set_option maxHeartbeats 4000000 in
set_option maxRecDepth 100000 in
theorem t_X3_markAsked (l : Launch) (D : Dc) (G : Gg) (S : Sg) (z : Nat) (hG : GrG G) (hP : GrP G S) (h : Nat) (hh : PassR h) (q : Nat) (h75 : 75 ≤ q) (hq : q < gN G) (hkP : KdP G q) (b law t p m tl : Nat) (hQ : AskS S h q b law t p m tl) : ML l yX3_markAsked wsX3_markAsked rmX3_markAsked D G S z [.ref (gA G q), .ref (gA G h), .ref (gA G 30)] (fun r S' => r = (lN p + 10 * lN (dueN t b law m) - 1000) ∧ S' = (trc (trc (trc S 24) 21) 20)) := by
  refine Met.ofW (cc := cX3_markAsked) (maxL := 3) (ret := (some .long)) (by decide +kernel) rfl ?_
  intro pP eE s mM args bl mT cD s₁ bD hml hv
  obtain ⟨rfl, hv⟩ := hv
  have hz := hv.1
  subst hz
  have hx := bD.exec
  have hb := bD.bytes
  have hr := bD.returns
  have hts := atoms_spec (ws := wsX3_markAsked) bD.pre
  have hown : s.vm.findClass RX3 = some mM.cls := findClass_of_methodNamed bD.named
  have hlocks := bD.notSynchronized
  have hW := Wd.start hv
  have hA : ∀ q, s.heap.size ≤ q → AW G s.heap.size q := fun q h => Or.inr h
  have hl := lv_entry ([.ref (gA G q), .ref (gA G h), .ref (gA G 30)]) (n := 3) (Nat.le_of_ble_eq_true rfl)
  rw [lg_entry_eq]
  generalize (lg_sl ([.ref (gA G q), .ref (gA G h), .ref (gA G 30)]) ++ List.replicate (3 - (lg_sl ([.ref (gA G q), .ref (gA G h), .ref (gA G 30)])).length) Slot.unset).toArray = ls at hl ⊢
  have hl : lv_has ls 3 [(0, .ref (gA G q)), (1, .ref (gA G h)), (2, .ref (gA G 30))] := hl
  have q0 := hts (.constantLong RX3 22 (1000)) (List.mem_of_getElem? (i := 1) rfl)
  refine lv_aload_n hx hb dX3_markAsked_0 rfl (lv_at hl 2 rfl) ?_
  refine lv_bipush (v := 24) hx hb dX3_markAsked_1 (by decide) ?_
  refine r_callv hW hA (va_runV (As := [.int 24]) (rest := []) ⟨hx, hb, hml, hown, hts⟩ (t_X8_begin l D G S _ hG hP 24 hQ.2.2.2.2.2.2.1) (cwV 1 hts gX3_markAsked_X8_begin rfl rfl rfl (by decide +kernel) ⟨Nat.le_of_ble_eq_true rfl, Nat.le_of_ble_eq_true rfl⟩) (r_preV (k := 30) hA hW (ci := 7) (C := RX8) (T := TX8) (N := 2) rfl rfl (g_lt hG (by decide)) (g_kd hG (by decide) rfl) rfl rfl) rfl rfl hl.1 rfl (lv_room (Nat.le_of_ble_eq_true rfl)) dX3_markAsked_3 ⟨Nat.zero_le _, Nat.zero_le _⟩) (fun S3 H locs hp3 hW => ?_)
  rw [hp3] at hW
  refine lv_aload_n hx hb dX3_markAsked_6 rfl (lv_at hl 0 rfl) ?_
  refine lv_aload_n hx hb dX3_markAsked_7 rfl (lv_at hl 1 rfl) ?_
  refine lv_aload_n hx hb dX3_markAsked_8 rfl (lv_at hl 2 rfl) ?_
  obtain ⟨C9, cC9, hat9, hpre9⟩ := r_preP (As := [.ref (gA G h), .ref (gA G 30)]) hA hW hq hkP
  refine r_calll hW hA (va_runSU (As := [.ref (gA G h), .ref (gA G 30)]) (rest := []) hat9 ⟨hx, hb, hml, hown, hts⟩ (t_X2_markAsked l D G (trc S 24) _ hG (GrP.trc hP) h hh q h75 hq hkP b law t p m tl (AskS.trc hQ hh h75)) (va_cwSU 2 hts gX3_markAsked_X2_markAsked_s19 rfl rfl rfl (by decide +kernel) ⟨Nat.le_of_ble_eq_true rfl, Nat.le_of_ble_eq_true rfl⟩) hpre9 rfl rfl hl.1 rfl (lv_room (Nat.le_of_ble_eq_true rfl)) dX3_markAsked_9 ⟨Nat.zero_le _, Nat.zero_le _⟩) (fun r9 S9 H locs hp9 hW => ?_)
  obtain ⟨rfl, hs9⟩ := hp9
  rw [hs9] at hW
  refine lv_ldc2 (v := (1000)) hx hb hown q0 dX3_markAsked_12 ?_
  refine lv_lsub hx hb dX3_markAsked_15 ?_
  refine r_lret hx hb hr hlocks hW ?_ dX3_markAsked_16
  exact ⟨rfl, rfl⟩

def rmX7_sizeAsked : Jvm.Room := { frames := 2, cells := 0, slots := 0, locals := 43 }
set_option maxHeartbeats 4000000 in
set_option maxRecDepth 100000 in
theorem t_X7_sizeAsked (l : Launch) (D : Dc) (G : Gg) (S : Sg) (z : Nat) (hG : GrG G) (hP : GrP G S) (h : Nat) (hh : PassR h) (q : Nat) (h75 : 75 ≤ q) (hq : q < gN G) (hkP : KdP G q) (b law t p m tl : Nat) (hQ : AskS S h q b law t p m tl) : ML l yX7_sizeAsked wsX7_sizeAsked rmX7_sizeAsked D G S z [.ref (gA G q), .ref (gA G h), .ref (gA G 30)] (fun r S' => r = (lN m - 100) ∧ S' = (trc (trc S 13) 10)) := by
  refine Met.ofW (cc := cX7_sizeAsked) (maxL := 3) (ret := (some .long)) (by decide +kernel) rfl ?_
  intro pP eE s mM args bl mT cD s₁ bD hml hv
  obtain ⟨rfl, hv⟩ := hv
  have hz := hv.1
  subst hz
  have hx := bD.exec
  have hb := bD.bytes
  have hr := bD.returns
  have hts := atoms_spec (ws := wsX7_sizeAsked) bD.pre
  have hown : s.vm.findClass RX7 = some mM.cls := findClass_of_methodNamed bD.named
  have hlocks := bD.notSynchronized
  have hW := Wd.start hv
  have hA : ∀ q, s.heap.size ≤ q → AW G s.heap.size q := fun q h => Or.inr h
  have hl := lv_entry ([.ref (gA G q), .ref (gA G h), .ref (gA G 30)]) (n := 3) (Nat.le_of_ble_eq_true rfl)
  rw [lg_entry_eq]
  generalize (lg_sl ([.ref (gA G q), .ref (gA G h), .ref (gA G 30)]) ++ List.replicate (3 - (lg_sl ([.ref (gA G q), .ref (gA G h), .ref (gA G 30)])).length) Slot.unset).toArray = ls at hl ⊢
  have hl : lv_has ls 3 [(0, .ref (gA G q)), (1, .ref (gA G h)), (2, .ref (gA G 30))] := hl
  have q0 := hts (.constantLong RX7 17 (100)) (List.mem_of_getElem? (i := 1) rfl)
  refine lv_aload_n hx hb dX7_sizeAsked_0 rfl (lv_at hl 2 rfl) ?_
  refine lv_bipush (v := 13) hx hb dX7_sizeAsked_1 (by decide) ?_
  refine r_callv hW hA (va_runV (As := [.int 13]) (rest := []) ⟨hx, hb, hml, hown, hts⟩ (t_X8_begin l D G S _ hG hP 13 hQ.2.2.2.2.2.2.1) (cwV 1 hts gX7_sizeAsked_X8_begin rfl rfl rfl (by decide +kernel) ⟨Nat.le_of_ble_eq_true rfl, Nat.le_of_ble_eq_true rfl⟩) (r_preV (k := 30) hA hW (ci := 7) (C := RX8) (T := TX8) (N := 2) rfl rfl (g_lt hG (by decide)) (g_kd hG (by decide) rfl) rfl rfl) rfl rfl hl.1 rfl (lv_room (Nat.le_of_ble_eq_true rfl)) dX7_sizeAsked_3 ⟨Nat.zero_le _, Nat.zero_le _⟩) (fun S3 H locs hp3 hW => ?_)
  rw [hp3] at hW
  refine lv_aload_n hx hb dX7_sizeAsked_6 rfl (lv_at hl 0 rfl) ?_
  refine lv_aload_n hx hb dX7_sizeAsked_7 rfl (lv_at hl 1 rfl) ?_
  refine lv_aload_n hx hb dX7_sizeAsked_8 rfl (lv_at hl 2 rfl) ?_
  obtain ⟨C9, cC9, hat9, hpre9⟩ := r_preP (As := [.ref (gA G h), .ref (gA G 30)]) hA hW hq hkP
  refine r_calll hW hA (va_runSU (As := [.ref (gA G h), .ref (gA G 30)]) (rest := []) hat9 ⟨hx, hb, hml, hown, hts⟩ (t_X4_sizeAsked l D G (trc S 13) _ hG (GrP.trc hP) h hh q h75 hq hkP b law t p m tl (AskS.trc hQ hh h75)) (va_cwSU 2 hts gX7_sizeAsked_X4_sizeAsked_s13 rfl rfl rfl (by decide +kernel) ⟨Nat.le_of_ble_eq_true rfl, Nat.le_of_ble_eq_true rfl⟩) hpre9 rfl rfl hl.1 rfl (lv_room (Nat.le_of_ble_eq_true rfl)) dX7_sizeAsked_9 ⟨Nat.zero_le _, Nat.zero_le _⟩) (fun r9 S9 H locs hp9 hW => ?_)
  obtain ⟨rfl, hs9⟩ := hp9
  rw [hs9] at hW
  refine lv_ldc2 (v := (100)) hx hb hown q0 dX7_sizeAsked_12 ?_
  refine lv_lsub hx hb dX7_sizeAsked_15 ?_
  refine r_lret hx hb hr hlocks hW ?_ dX7_sizeAsked_16
  exact ⟨rfl, rfl⟩

def rmX7_markAsked : Jvm.Room := { frames := 3, cells := 0, slots := 0, locals := 65 }
set_option maxHeartbeats 4000000 in
set_option maxRecDepth 100000 in
theorem t_X7_markAsked (l : Launch) (D : Dc) (G : Gg) (S : Sg) (z : Nat) (hG : GrG G) (hP : GrP G S) (h : Nat) (hh : PassR h) (q : Nat) (h75 : 75 ≤ q) (hq : q < gN G) (hkP : KdP G q) (b law t p m tl : Nat) (hQ : AskS S h q b law t p m tl) (hk : gK G q = 6) : ML l yX7_markAsked wsX7_markAsked rmX7_markAsked D G S z [.ref (gA G q), .ref (gA G h), .ref (gA G 30)] (fun r S' => r = (lN p - (lN m - 100)) ∧ S' = (trc (trc (trc (trc S 23) 20) 13) 10)) := by
  refine Met.ofW (cc := cX7_markAsked) (maxL := 5) (ret := (some .long)) (by decide +kernel) rfl ?_
  intro pP eE s mM args bl mT cD s₁ bD hml hv
  obtain ⟨rfl, hv⟩ := hv
  have hz := hv.1
  subst hz
  have hx := bD.exec
  have hb := bD.bytes
  have hr := bD.returns
  have hts := atoms_spec (ws := wsX7_markAsked) bD.pre
  have hown : s.vm.findClass RX7 = some mM.cls := findClass_of_methodNamed bD.named
  have hlocks := bD.notSynchronized
  have hW := Wd.start hv
  have hA : ∀ q, s.heap.size ≤ q → AW G s.heap.size q := fun q h => Or.inr h
  have hl := lv_entry ([.ref (gA G q), .ref (gA G h), .ref (gA G 30)]) (n := 5) (Nat.le_of_ble_eq_true rfl)
  rw [lg_entry_eq]
  generalize (lg_sl ([.ref (gA G q), .ref (gA G h), .ref (gA G 30)]) ++ List.replicate (5 - (lg_sl ([.ref (gA G q), .ref (gA G h), .ref (gA G 30)])).length) Slot.unset).toArray = ls at hl ⊢
  have hl : lv_has ls 5 [(0, .ref (gA G q)), (1, .ref (gA G h)), (2, .ref (gA G 30))] := hl
  refine lv_aload_n hx hb dX7_markAsked_0 rfl (lv_at hl 2 rfl) ?_
  refine lv_bipush (v := 23) hx hb dX7_markAsked_1 (by decide) ?_
  refine r_callv hW hA (va_runV (As := [.int 23]) (rest := []) ⟨hx, hb, hml, hown, hts⟩ (t_X8_begin l D G S _ hG hP 23 hQ.2.2.2.2.2.2.1) (cwV 1 hts gX7_markAsked_X8_begin rfl rfl rfl (by decide +kernel) ⟨Nat.le_of_ble_eq_true rfl, Nat.le_of_ble_eq_true rfl⟩) (r_preV (k := 30) hA hW (ci := 7) (C := RX8) (T := TX8) (N := 2) rfl rfl (g_lt hG (by decide)) (g_kd hG (by decide) rfl) rfl rfl) rfl rfl hl.1 rfl (lv_room (Nat.le_of_ble_eq_true rfl)) dX7_markAsked_3 ⟨Nat.zero_le _, Nat.zero_le _⟩) (fun S3 H locs hp3 hW => ?_)
  rw [hp3] at hW
  refine lv_aload_n hx hb dX7_markAsked_6 rfl (lv_at hl 0 rfl) ?_
  refine lv_aload_n hx hb dX7_markAsked_7 rfl (lv_at hl 1 rfl) ?_
  refine lv_aload_n hx hb dX7_markAsked_8 rfl (lv_at hl 2 rfl) ?_
  obtain ⟨C9, cC9, hat9, hpre9⟩ := r_preP (As := [.ref (gA G h), .ref (gA G 30)]) hA hW hq hkP
  refine r_calll hW hA (va_runSU (As := [.ref (gA G h), .ref (gA G 30)]) (rest := []) hat9 ⟨hx, hb, hml, hown, hts⟩ (t_X4_markAsked l D G (trc S 23) _ hG (GrP.trc hP) h hh q h75 hq hkP b law t p m tl (AskS.trc hQ hh h75)) (va_cwSU 2 hts gX7_markAsked_X4_markAsked_s19 rfl rfl rfl (by decide +kernel) ⟨Nat.le_of_ble_eq_true rfl, Nat.le_of_ble_eq_true rfl⟩) hpre9 rfl rfl hl.1 rfl (lv_room (Nat.le_of_ble_eq_true rfl)) dX7_markAsked_9 ⟨Nat.zero_le _, Nat.zero_le _⟩) (fun r9 S9 H locs hp9 hW => ?_)
  obtain ⟨rfl, hs9⟩ := hp9
  rw [hs9] at hW
  refine lv_lstore_n (lv' := [(3, .long (lN p)), (0, .ref (gA G q)), (1, .ref (gA G h)), (2, .ref (gA G 30))]) hx hb dX7_markAsked_12 rfl hl (by decide) rfl (fun ls hl => ?_)
  refine lv_lload_n hx hb dX7_markAsked_13 rfl (lv_at hl 0 rfl) ?_
  refine lv_aload_n hx hb dX7_markAsked_14 rfl (lv_at hl 1 rfl) ?_
  refine lv_aload_n hx hb dX7_markAsked_15 rfl (lv_at hl 2 rfl) ?_
  refine lv_aload_n hx hb dX7_markAsked_16 rfl (lv_at hl 3 rfl) ?_
  refine r_calll hW hA (va_runV (As := [.ref (gA G h), .ref (gA G 30)]) (rest := [.long (lN p)]) ⟨hx, hb, hml, hown, hts⟩ (t_X7_sizeAsked l D G (trc (trc S 23) 20) _ hG (GrP.trc (GrP.trc hP)) h hh q h75 hq hkP b law t p m tl (AskS.trc (AskS.trc hQ hh h75) hh h75)) (cwV 2 hts gX7_markAsked_X7_sizeAsked rfl rfl rfl (by decide +kernel) ⟨Nat.le_of_ble_eq_true rfl, Nat.le_of_ble_eq_true rfl⟩) (r_preV (k := q) hA hW (ci := 6) (C := RX7) (T := TX7) (N := 3) rfl rfl hq hk rfl rfl) rfl rfl hl.1 rfl (lv_room (Nat.le_of_ble_eq_true rfl)) dX7_markAsked_17 ⟨Nat.zero_le _, Nat.zero_le _⟩) (fun r17 S17 H locs hp17 hW => ?_)
  obtain ⟨rfl, hs17⟩ := hp17
  rw [hs17] at hW
  refine lv_lsub hx hb dX7_markAsked_20 ?_
  refine r_lret hx hb hr hlocks hW ?_ dX7_markAsked_21
  exact ⟨rfl, rfl⟩

def rmX9_markAsked : Jvm.Room := { frames := 2, cells := 0, slots := 0, locals := 43 }
set_option maxHeartbeats 4000000 in
set_option maxRecDepth 100000 in
theorem t_X9_markAsked (l : Launch) (D : Dc) (G : Gg) (S : Sg) (z : Nat) (hG : GrG G) (hP : GrP G S) (h : Nat) (hh : PassR h) (q : Nat) (h75 : 75 ≤ q) (hq : q < gN G) (hkP : KdP G q) (b law t p m tl : Nat) (hQ : AskS S h q b law t p m tl) : ML l yX9_markAsked wsX9_markAsked rmX9_markAsked D G S z [.ref (gA G q), .ref (gA G h), .ref (gA G 30)] (fun r S' => r = (lN p + lN tl) ∧ S' = (trc (trc S 22) 20)) := by
  refine Met.ofW (cc := cX9_markAsked) (maxL := 3) (ret := (some .long)) (by decide +kernel) rfl ?_
  intro pP eE s mM args bl mT cD s₁ bD hml hv
  obtain ⟨rfl, hv⟩ := hv
  have hz := hv.1
  subst hz
  have hx := bD.exec
  have hb := bD.bytes
  have hr := bD.returns
  have hts := atoms_spec (ws := wsX9_markAsked) bD.pre
  have hown : s.vm.findClass RX9 = some mM.cls := findClass_of_methodNamed bD.named
  have hlocks := bD.notSynchronized
  have hW := Wd.start hv
  have hA : ∀ q, s.heap.size ≤ q → AW G s.heap.size q := fun q h => Or.inr h
  have hl := lv_entry ([.ref (gA G q), .ref (gA G h), .ref (gA G 30)]) (n := 3) (Nat.le_of_ble_eq_true rfl)
  rw [lg_entry_eq]
  generalize (lg_sl ([.ref (gA G q), .ref (gA G h), .ref (gA G 30)]) ++ List.replicate (3 - (lg_sl ([.ref (gA G q), .ref (gA G h), .ref (gA G 30)])).length) Slot.unset).toArray = ls at hl ⊢
  have hl : lv_has ls 3 [(0, .ref (gA G q)), (1, .ref (gA G h)), (2, .ref (gA G 30))] := hl
  have q0 := hts (.sameField "WoodForTwo$Weigher" "WoodForTwo$Party" "toil" "I") (List.mem_of_getElem? (i := 2) rfl)
  have q1 := hts (.fieldLink RX9 7 "WoodForTwo$Weigher" "toil" "I") (List.mem_of_getElem? (i := 1) rfl)
  have iX1 : ∀ w ∈ wsX10, w ∈ wsX9_markAsked := fun _ h => List.mem_cons_of_mem _ (List.mem_append_left _ (List.mem_append_left _ (List.mem_append_left _ (List.mem_append_left _ (List.mem_append_left _ (List.mem_append_right _ (h)))))))
  have iX2 : ∀ w ∈ wsX20, w ∈ wsX9_markAsked := fun _ h => List.mem_cons_of_mem _ (List.mem_append_left _ (List.mem_append_left _ (List.mem_append_left _ (List.mem_append_left _ (List.mem_append_right _ (h))))))
  have iX3 : ∀ w ∈ wsX30, w ∈ wsX9_markAsked := fun _ h => List.mem_cons_of_mem _ (List.mem_append_left _ (List.mem_append_left _ (List.mem_append_left _ (List.mem_append_right _ (h)))))
  have iX7 : ∀ w ∈ wsX70, w ∈ wsX9_markAsked := fun _ h => List.mem_cons_of_mem _ (List.mem_append_left _ (List.mem_append_left _ (List.mem_append_right _ (h))))
  have iX9 : ∀ w ∈ wsX90, w ∈ wsX9_markAsked := fun _ h => List.mem_cons_of_mem _ (List.mem_append_left _ (List.mem_append_right _ (h)))
  refine lv_aload_n hx hb dX9_markAsked_0 rfl (lv_at hl 2 rfl) ?_
  refine lv_bipush (v := 22) hx hb dX9_markAsked_1 (by decide) ?_
  refine r_callv hW hA (va_runV (As := [.int 22]) (rest := []) ⟨hx, hb, hml, hown, hts⟩ (t_X8_begin l D G S _ hG hP 22 hQ.2.2.2.2.2.2.1) (cwV 1 hts gX9_markAsked_X8_begin rfl rfl rfl (by decide +kernel) ⟨Nat.le_of_ble_eq_true rfl, Nat.le_of_ble_eq_true rfl⟩) (r_preV (k := 30) hA hW (ci := 7) (C := RX8) (T := TX8) (N := 2) rfl rfl (g_lt hG (by decide)) (g_kd hG (by decide) rfl) rfl rfl) rfl rfl hl.1 rfl (lv_room (Nat.le_of_ble_eq_true rfl)) dX9_markAsked_3 ⟨Nat.zero_le _, Nat.zero_le _⟩) (fun S3 H locs hp3 hW => ?_)
  rw [hp3] at hW
  refine lv_aload_n hx hb dX9_markAsked_6 rfl (lv_at hl 0 rfl) ?_
  refine lv_aload_n hx hb dX9_markAsked_7 rfl (lv_at hl 1 rfl) ?_
  refine lv_aload_n hx hb dX9_markAsked_8 rfl (lv_at hl 2 rfl) ?_
  obtain ⟨C9, cC9, hat9, hpre9⟩ := r_preP (As := [.ref (gA G h), .ref (gA G 30)]) hA hW hq hkP
  refine r_calll hW hA (va_runSU (As := [.ref (gA G h), .ref (gA G 30)]) (rest := []) hat9 ⟨hx, hb, hml, hown, hts⟩ (t_X4_markAsked l D G (trc S 22) _ hG (GrP.trc hP) h hh q h75 hq hkP b law t p m tl (AskS.trc hQ hh h75)) (va_cwSU 2 hts gX9_markAsked_X4_markAsked_s19 rfl rfl rfl (by decide +kernel) ⟨Nat.le_of_ble_eq_true rfl, Nat.le_of_ble_eq_true rfl⟩) hpre9 rfl rfl hl.1 rfl (lv_room (Nat.le_of_ble_eq_true rfl)) dX9_markAsked_9 ⟨Nat.zero_le _, Nat.zero_le _⟩) (fun r9 S9 H locs hp9 hW => ?_)
  obtain ⟨rfl, hs9⟩ := hp9
  rw [hs9] at hW
  refine lv_aload_n hx hb dX9_markAsked_12 rfl (lv_at hl 0 rfl) ?_
  refine r_getP hx hb hts iX1 iX2 iX3 iX7 iX9 hown hW q 2 rfl hq hkP (by decide) q1 (fun x9 h9 => u_same q0 x9 h9) (nI tl) (AskS.trc (AskS.trc hQ hh h75) hh h75).2.2.2.2.2.1 dX9_markAsked_13 ?_
  refine lv_i2l hx hb dX9_markAsked_16 rfl ?_
  refine lv_ladd hx hb dX9_markAsked_17 ?_
  refine r_lret hx hb hr hlocks hW ?_ dX9_markAsked_18
  exact ⟨by rw [lN_of (by have := hQ.2.2.2.2.2.2.2; omega)], rfl⟩

def rmX2_sizeAsked : Jvm.Room := { frames := 4, cells := 0, slots := 0, locals := 89 }
set_option maxHeartbeats 4000000 in
set_option maxRecDepth 100000 in
theorem t_X2_sizeAsked_1 (l : Launch) (D : Dc) (G : Gg) (S : Sg) (z : Nat) (hG : GrG G) (hP : GrP G S) (h : Nat) (hh : PassR h) (q : Nat) (h75 : 75 ≤ q) (hq : q < gN G) (hkP : KdP G q) (b law t p m tl : Nat) (hQ : AskS S h q b law t p m tl) (hk : gK G q = 1) : ML l yX2_sizeAsked wsX2_sizeAsked rmX2_sizeAsked D G S z [.ref (gA G q), .ref (gA G h), .ref (gA G 30)] (fun r S' => r = (lN m + (lN p + 10 * lN (dueN t b law m))) ∧ S' = (trc (trc (trc (trc S 11) 10) 21) 20)) := by
  refine Met.ofW (cc := cX2_sizeAsked) (maxL := 5) (ret := (some .long)) (by decide +kernel) rfl ?_
  intro pP eE s mM args bl mT cD s₁ bD hml hv
  obtain ⟨rfl, hv⟩ := hv
  have hz := hv.1
  subst hz
  have hx := bD.exec
  have hb := bD.bytes
  have hr := bD.returns
  have hts := atoms_spec (ws := wsX2_sizeAsked) bD.pre
  have hown : s.vm.findClass RX2 = some mM.cls := findClass_of_methodNamed bD.named
  have hlocks := bD.notSynchronized
  have hW := Wd.start hv
  have hA : ∀ q, s.heap.size ≤ q → AW G s.heap.size q := fun q h => Or.inr h
  have hl := lv_entry ([.ref (gA G q), .ref (gA G h), .ref (gA G 30)]) (n := 5) (Nat.le_of_ble_eq_true rfl)
  rw [lg_entry_eq]
  generalize (lg_sl ([.ref (gA G q), .ref (gA G h), .ref (gA G 30)]) ++ List.replicate (5 - (lg_sl ([.ref (gA G q), .ref (gA G h), .ref (gA G 30)])).length) Slot.unset).toArray = ls at hl ⊢
  have hl : lv_has ls 5 [(0, .ref (gA G q)), (1, .ref (gA G h)), (2, .ref (gA G 30))] := hl
  refine lv_aload_n hx hb dX2_sizeAsked_0 rfl (lv_at hl 2 rfl) ?_
  refine lv_bipush (v := 11) hx hb dX2_sizeAsked_1 (by decide) ?_
  refine r_callv hW hA (va_runV (As := [.int 11]) (rest := []) ⟨hx, hb, hml, hown, hts⟩ (t_X8_begin l D G S _ hG hP 11 hQ.2.2.2.2.2.2.1) (cwV 1 hts gX2_sizeAsked_X8_begin rfl rfl rfl (by decide +kernel) ⟨Nat.le_of_ble_eq_true rfl, Nat.le_of_ble_eq_true rfl⟩) (r_preV (k := 30) hA hW (ci := 7) (C := RX8) (T := TX8) (N := 2) rfl rfl (g_lt hG (by decide)) (g_kd hG (by decide) rfl) rfl rfl) rfl rfl hl.1 rfl (lv_room (Nat.le_of_ble_eq_true rfl)) dX2_sizeAsked_3 ⟨Nat.zero_le _, Nat.zero_le _⟩) (fun S3 H locs hp3 hW => ?_)
  rw [hp3] at hW
  refine lv_aload_n hx hb dX2_sizeAsked_6 rfl (lv_at hl 0 rfl) ?_
  refine lv_aload_n hx hb dX2_sizeAsked_7 rfl (lv_at hl 1 rfl) ?_
  refine lv_aload_n hx hb dX2_sizeAsked_8 rfl (lv_at hl 2 rfl) ?_
  obtain ⟨C9, cC9, hat9, hpre9⟩ := r_preP (As := [.ref (gA G h), .ref (gA G 30)]) hA hW hq hkP
  refine r_calll hW hA (va_runSU (As := [.ref (gA G h), .ref (gA G 30)]) (rest := []) hat9 ⟨hx, hb, hml, hown, hts⟩ (t_X4_sizeAsked l D G (trc S 11) _ hG (GrP.trc hP) h hh q h75 hq hkP b law t p m tl (AskS.trc hQ hh h75)) (va_cwSU 2 hts gX2_sizeAsked_X4_sizeAsked_s13 rfl rfl rfl (by decide +kernel) ⟨Nat.le_of_ble_eq_true rfl, Nat.le_of_ble_eq_true rfl⟩) hpre9 rfl rfl hl.1 rfl (lv_room (Nat.le_of_ble_eq_true rfl)) dX2_sizeAsked_9 ⟨Nat.zero_le _, Nat.zero_le _⟩) (fun r9 S9 H locs hp9 hW => ?_)
  obtain ⟨rfl, hs9⟩ := hp9
  rw [hs9] at hW
  refine lv_lstore_n (lv' := [(3, .long (lN m)), (0, .ref (gA G q)), (1, .ref (gA G h)), (2, .ref (gA G 30))]) hx hb dX2_sizeAsked_12 rfl hl (by decide) rfl (fun ls hl => ?_)
  refine lv_lload_n hx hb dX2_sizeAsked_13 rfl (lv_at hl 0 rfl) ?_
  refine lv_aload_n hx hb dX2_sizeAsked_14 rfl (lv_at hl 1 rfl) ?_
  refine lv_aload_n hx hb dX2_sizeAsked_15 rfl (lv_at hl 2 rfl) ?_
  refine lv_aload_n hx hb dX2_sizeAsked_16 rfl (lv_at hl 3 rfl) ?_
  refine r_calll hW hA (va_runU (As := [.ref (gA G h), .ref (gA G 30)]) (rest := [.long (lN m)]) ⟨hx, hb, hml, hown, hts⟩ (t_X2_markAsked l D G (trc (trc S 11) 10) _ hG (GrP.trc (GrP.trc hP)) h hh q h75 hq hkP b law t p m tl (AskS.trc (AskS.trc hQ hh h75) hh h75)) (va_cwU 2 hts gX2_sizeAsked_X2_markAsked_u17X1 rfl rfl rfl rfl (by decide +kernel) ⟨Nat.le_of_ble_eq_true rfl, Nat.le_of_ble_eq_true rfl⟩) (r_preV (k := q) hA hW (ci := 1) (C := RX1) (T := TX1) (N := 3) rfl rfl hq hk rfl rfl) rfl rfl hl.1 rfl (lv_room (Nat.le_of_ble_eq_true rfl)) dX2_sizeAsked_17 ⟨Nat.zero_le _, Nat.zero_le _⟩) (fun r17 S17 H locs hp17 hW => ?_)
  obtain ⟨rfl, hs17⟩ := hp17
  rw [hs17] at hW
  refine lv_ladd hx hb dX2_sizeAsked_20 ?_
  refine r_lret hx hb hr hlocks hW ?_ dX2_sizeAsked_21
  exact ⟨rfl, rfl⟩

set_option maxHeartbeats 4000000 in
set_option maxRecDepth 100000 in
theorem t_X2_sizeAsked_2 (l : Launch) (D : Dc) (G : Gg) (S : Sg) (z : Nat) (hG : GrG G) (hP : GrP G S) (h : Nat) (hh : PassR h) (q : Nat) (h75 : 75 ≤ q) (hq : q < gN G) (hkP : KdP G q) (b law t p m tl : Nat) (hQ : AskS S h q b law t p m tl) (hk : gK G q = 2) : ML l yX2_sizeAsked wsX2_sizeAsked rmX2_sizeAsked D G S z [.ref (gA G q), .ref (gA G h), .ref (gA G 30)] (fun r S' => r = (lN m + (lN p + 10 * lN (dueN t b law m))) ∧ S' = (trc (trc (trc (trc S 11) 10) 21) 20)) := by
  refine Met.ofW (cc := cX2_sizeAsked) (maxL := 5) (ret := (some .long)) (by decide +kernel) rfl ?_
  intro pP eE s mM args bl mT cD s₁ bD hml hv
  obtain ⟨rfl, hv⟩ := hv
  have hz := hv.1
  subst hz
  have hx := bD.exec
  have hb := bD.bytes
  have hr := bD.returns
  have hts := atoms_spec (ws := wsX2_sizeAsked) bD.pre
  have hown : s.vm.findClass RX2 = some mM.cls := findClass_of_methodNamed bD.named
  have hlocks := bD.notSynchronized
  have hW := Wd.start hv
  have hA : ∀ q, s.heap.size ≤ q → AW G s.heap.size q := fun q h => Or.inr h
  have hl := lv_entry ([.ref (gA G q), .ref (gA G h), .ref (gA G 30)]) (n := 5) (Nat.le_of_ble_eq_true rfl)
  rw [lg_entry_eq]
  generalize (lg_sl ([.ref (gA G q), .ref (gA G h), .ref (gA G 30)]) ++ List.replicate (5 - (lg_sl ([.ref (gA G q), .ref (gA G h), .ref (gA G 30)])).length) Slot.unset).toArray = ls at hl ⊢
  have hl : lv_has ls 5 [(0, .ref (gA G q)), (1, .ref (gA G h)), (2, .ref (gA G 30))] := hl
  refine lv_aload_n hx hb dX2_sizeAsked_0 rfl (lv_at hl 2 rfl) ?_
  refine lv_bipush (v := 11) hx hb dX2_sizeAsked_1 (by decide) ?_
  refine r_callv hW hA (va_runV (As := [.int 11]) (rest := []) ⟨hx, hb, hml, hown, hts⟩ (t_X8_begin l D G S _ hG hP 11 hQ.2.2.2.2.2.2.1) (cwV 1 hts gX2_sizeAsked_X8_begin rfl rfl rfl (by decide +kernel) ⟨Nat.le_of_ble_eq_true rfl, Nat.le_of_ble_eq_true rfl⟩) (r_preV (k := 30) hA hW (ci := 7) (C := RX8) (T := TX8) (N := 2) rfl rfl (g_lt hG (by decide)) (g_kd hG (by decide) rfl) rfl rfl) rfl rfl hl.1 rfl (lv_room (Nat.le_of_ble_eq_true rfl)) dX2_sizeAsked_3 ⟨Nat.zero_le _, Nat.zero_le _⟩) (fun S3 H locs hp3 hW => ?_)
  rw [hp3] at hW
  refine lv_aload_n hx hb dX2_sizeAsked_6 rfl (lv_at hl 0 rfl) ?_
  refine lv_aload_n hx hb dX2_sizeAsked_7 rfl (lv_at hl 1 rfl) ?_
  refine lv_aload_n hx hb dX2_sizeAsked_8 rfl (lv_at hl 2 rfl) ?_
  obtain ⟨C9, cC9, hat9, hpre9⟩ := r_preP (As := [.ref (gA G h), .ref (gA G 30)]) hA hW hq hkP
  refine r_calll hW hA (va_runSU (As := [.ref (gA G h), .ref (gA G 30)]) (rest := []) hat9 ⟨hx, hb, hml, hown, hts⟩ (t_X4_sizeAsked l D G (trc S 11) _ hG (GrP.trc hP) h hh q h75 hq hkP b law t p m tl (AskS.trc hQ hh h75)) (va_cwSU 2 hts gX2_sizeAsked_X4_sizeAsked_s13 rfl rfl rfl (by decide +kernel) ⟨Nat.le_of_ble_eq_true rfl, Nat.le_of_ble_eq_true rfl⟩) hpre9 rfl rfl hl.1 rfl (lv_room (Nat.le_of_ble_eq_true rfl)) dX2_sizeAsked_9 ⟨Nat.zero_le _, Nat.zero_le _⟩) (fun r9 S9 H locs hp9 hW => ?_)
  obtain ⟨rfl, hs9⟩ := hp9
  rw [hs9] at hW
  refine lv_lstore_n (lv' := [(3, .long (lN m)), (0, .ref (gA G q)), (1, .ref (gA G h)), (2, .ref (gA G 30))]) hx hb dX2_sizeAsked_12 rfl hl (by decide) rfl (fun ls hl => ?_)
  refine lv_lload_n hx hb dX2_sizeAsked_13 rfl (lv_at hl 0 rfl) ?_
  refine lv_aload_n hx hb dX2_sizeAsked_14 rfl (lv_at hl 1 rfl) ?_
  refine lv_aload_n hx hb dX2_sizeAsked_15 rfl (lv_at hl 2 rfl) ?_
  refine lv_aload_n hx hb dX2_sizeAsked_16 rfl (lv_at hl 3 rfl) ?_
  refine r_calll hW hA (va_runV (As := [.ref (gA G h), .ref (gA G 30)]) (rest := [.long (lN m)]) ⟨hx, hb, hml, hown, hts⟩ (t_X2_markAsked l D G (trc (trc S 11) 10) _ hG (GrP.trc (GrP.trc hP)) h hh q h75 hq hkP b law t p m tl (AskS.trc (AskS.trc hQ hh h75) hh h75)) (cwV 2 hts gX2_sizeAsked_X2_markAsked rfl rfl rfl (by decide +kernel) ⟨Nat.le_of_ble_eq_true rfl, Nat.le_of_ble_eq_true rfl⟩) (r_preV (k := q) hA hW (ci := 2) (C := RX2) (T := TX2) (N := 3) rfl rfl hq hk rfl rfl) rfl rfl hl.1 rfl (lv_room (Nat.le_of_ble_eq_true rfl)) dX2_sizeAsked_17 ⟨Nat.zero_le _, Nat.zero_le _⟩) (fun r17 S17 H locs hp17 hW => ?_)
  obtain ⟨rfl, hs17⟩ := hp17
  rw [hs17] at hW
  refine lv_ladd hx hb dX2_sizeAsked_20 ?_
  refine r_lret hx hb hr hlocks hW ?_ dX2_sizeAsked_21
  exact ⟨rfl, rfl⟩

set_option maxHeartbeats 4000000 in
set_option maxRecDepth 100000 in
theorem t_X2_sizeAsked_3 (l : Launch) (D : Dc) (G : Gg) (S : Sg) (z : Nat) (hG : GrG G) (hP : GrP G S) (h : Nat) (hh : PassR h) (q : Nat) (h75 : 75 ≤ q) (hq : q < gN G) (hkP : KdP G q) (b law t p m tl : Nat) (hQ : AskS S h q b law t p m tl) (hk : gK G q = 3) : ML l yX2_sizeAsked wsX2_sizeAsked rmX2_sizeAsked D G S z [.ref (gA G q), .ref (gA G h), .ref (gA G 30)] (fun r S' => r = (lN m + (lN p + 10 * lN (dueN t b law m) - 1000)) ∧ S' = (trc (trc (trc (trc (trc S 11) 10) 24) 21) 20)) := by
  refine Met.ofW (cc := cX2_sizeAsked) (maxL := 5) (ret := (some .long)) (by decide +kernel) rfl ?_
  intro pP eE s mM args bl mT cD s₁ bD hml hv
  obtain ⟨rfl, hv⟩ := hv
  have hz := hv.1
  subst hz
  have hx := bD.exec
  have hb := bD.bytes
  have hr := bD.returns
  have hts := atoms_spec (ws := wsX2_sizeAsked) bD.pre
  have hown : s.vm.findClass RX2 = some mM.cls := findClass_of_methodNamed bD.named
  have hlocks := bD.notSynchronized
  have hW := Wd.start hv
  have hA : ∀ q, s.heap.size ≤ q → AW G s.heap.size q := fun q h => Or.inr h
  have hl := lv_entry ([.ref (gA G q), .ref (gA G h), .ref (gA G 30)]) (n := 5) (Nat.le_of_ble_eq_true rfl)
  rw [lg_entry_eq]
  generalize (lg_sl ([.ref (gA G q), .ref (gA G h), .ref (gA G 30)]) ++ List.replicate (5 - (lg_sl ([.ref (gA G q), .ref (gA G h), .ref (gA G 30)])).length) Slot.unset).toArray = ls at hl ⊢
  have hl : lv_has ls 5 [(0, .ref (gA G q)), (1, .ref (gA G h)), (2, .ref (gA G 30))] := hl
  refine lv_aload_n hx hb dX2_sizeAsked_0 rfl (lv_at hl 2 rfl) ?_
  refine lv_bipush (v := 11) hx hb dX2_sizeAsked_1 (by decide) ?_
  refine r_callv hW hA (va_runV (As := [.int 11]) (rest := []) ⟨hx, hb, hml, hown, hts⟩ (t_X8_begin l D G S _ hG hP 11 hQ.2.2.2.2.2.2.1) (cwV 1 hts gX2_sizeAsked_X8_begin rfl rfl rfl (by decide +kernel) ⟨Nat.le_of_ble_eq_true rfl, Nat.le_of_ble_eq_true rfl⟩) (r_preV (k := 30) hA hW (ci := 7) (C := RX8) (T := TX8) (N := 2) rfl rfl (g_lt hG (by decide)) (g_kd hG (by decide) rfl) rfl rfl) rfl rfl hl.1 rfl (lv_room (Nat.le_of_ble_eq_true rfl)) dX2_sizeAsked_3 ⟨Nat.zero_le _, Nat.zero_le _⟩) (fun S3 H locs hp3 hW => ?_)
  rw [hp3] at hW
  refine lv_aload_n hx hb dX2_sizeAsked_6 rfl (lv_at hl 0 rfl) ?_
  refine lv_aload_n hx hb dX2_sizeAsked_7 rfl (lv_at hl 1 rfl) ?_
  refine lv_aload_n hx hb dX2_sizeAsked_8 rfl (lv_at hl 2 rfl) ?_
  obtain ⟨C9, cC9, hat9, hpre9⟩ := r_preP (As := [.ref (gA G h), .ref (gA G 30)]) hA hW hq hkP
  refine r_calll hW hA (va_runSU (As := [.ref (gA G h), .ref (gA G 30)]) (rest := []) hat9 ⟨hx, hb, hml, hown, hts⟩ (t_X4_sizeAsked l D G (trc S 11) _ hG (GrP.trc hP) h hh q h75 hq hkP b law t p m tl (AskS.trc hQ hh h75)) (va_cwSU 2 hts gX2_sizeAsked_X4_sizeAsked_s13 rfl rfl rfl (by decide +kernel) ⟨Nat.le_of_ble_eq_true rfl, Nat.le_of_ble_eq_true rfl⟩) hpre9 rfl rfl hl.1 rfl (lv_room (Nat.le_of_ble_eq_true rfl)) dX2_sizeAsked_9 ⟨Nat.zero_le _, Nat.zero_le _⟩) (fun r9 S9 H locs hp9 hW => ?_)
  obtain ⟨rfl, hs9⟩ := hp9
  rw [hs9] at hW
  refine lv_lstore_n (lv' := [(3, .long (lN m)), (0, .ref (gA G q)), (1, .ref (gA G h)), (2, .ref (gA G 30))]) hx hb dX2_sizeAsked_12 rfl hl (by decide) rfl (fun ls hl => ?_)
  refine lv_lload_n hx hb dX2_sizeAsked_13 rfl (lv_at hl 0 rfl) ?_
  refine lv_aload_n hx hb dX2_sizeAsked_14 rfl (lv_at hl 1 rfl) ?_
  refine lv_aload_n hx hb dX2_sizeAsked_15 rfl (lv_at hl 2 rfl) ?_
  refine lv_aload_n hx hb dX2_sizeAsked_16 rfl (lv_at hl 3 rfl) ?_
  refine r_calll hW hA (va_runU (As := [.ref (gA G h), .ref (gA G 30)]) (rest := [.long (lN m)]) ⟨hx, hb, hml, hown, hts⟩ (t_X3_markAsked l D G (trc (trc S 11) 10) _ hG (GrP.trc (GrP.trc hP)) h hh q h75 hq hkP b law t p m tl (AskS.trc (AskS.trc hQ hh h75) hh h75)) (va_cwO 2 hts gX2_sizeAsked_X3_markAsked_u17X3 rfl rfl rfl (b0 := cX2_markAsked) (m0 := 5) (r0 := (some .long)) (List.mem_of_getElem? (i := 21) rfl) (by decide +kernel) ⟨Nat.le_of_ble_eq_true rfl, Nat.le_of_ble_eq_true rfl⟩) (r_preV (k := q) hA hW (ci := 3) (C := RX3) (T := TX3) (N := 3) rfl rfl hq hk rfl rfl) rfl rfl hl.1 rfl (lv_room (Nat.le_of_ble_eq_true rfl)) dX2_sizeAsked_17 ⟨Nat.zero_le _, Nat.zero_le _⟩) (fun r17 S17 H locs hp17 hW => ?_)
  obtain ⟨rfl, hs17⟩ := hp17
  rw [hs17] at hW
  refine lv_ladd hx hb dX2_sizeAsked_20 ?_
  refine r_lret hx hb hr hlocks hW ?_ dX2_sizeAsked_21
  exact ⟨rfl, rfl⟩

def rmX1_sizeAsked : Jvm.Room := { frames := 5, cells := 0, slots := 0, locals := 113 }
set_option maxHeartbeats 4000000 in
set_option maxRecDepth 100000 in
theorem t_X1_sizeAsked (l : Launch) (D : Dc) (G : Gg) (S : Sg) (z : Nat) (hG : GrG G) (hP : GrP G S) (h : Nat) (hh : PassR h) (q : Nat) (h75 : 75 ≤ q) (hq : q < gN G) (hkP : KdP G q) (b law t p m tl : Nat) (hQ : AskS S h q b law t p m tl) (hk : gK G q = 1) : ML l yX1_sizeAsked wsX1_sizeAsked rmX1_sizeAsked D G S z [.ref (gA G q), .ref (gA G h), .ref (gA G 30)] (fun r S' => r = (-(lN m + (lN p + 10 * lN (dueN t b law m)))) ∧ S' = (trc (trc (trc (trc (trc S 12) 11) 10) 21) 20)) := by
  refine Met.ofW (cc := cX1_sizeAsked) (maxL := 3) (ret := (some .long)) (by decide +kernel) rfl ?_
  intro pP eE s mM args bl mT cD s₁ bD hml hv
  obtain ⟨rfl, hv⟩ := hv
  have hz := hv.1
  subst hz
  have hx := bD.exec
  have hb := bD.bytes
  have hr := bD.returns
  have hts := atoms_spec (ws := wsX1_sizeAsked) bD.pre
  have hown : s.vm.findClass RX1 = some mM.cls := findClass_of_methodNamed bD.named
  have hlocks := bD.notSynchronized
  have hW := Wd.start hv
  have hA : ∀ q, s.heap.size ≤ q → AW G s.heap.size q := fun q h => Or.inr h
  have hl := lv_entry ([.ref (gA G q), .ref (gA G h), .ref (gA G 30)]) (n := 3) (Nat.le_of_ble_eq_true rfl)
  rw [lg_entry_eq]
  generalize (lg_sl ([.ref (gA G q), .ref (gA G h), .ref (gA G 30)]) ++ List.replicate (3 - (lg_sl ([.ref (gA G q), .ref (gA G h), .ref (gA G 30)])).length) Slot.unset).toArray = ls at hl ⊢
  have hl : lv_has ls 3 [(0, .ref (gA G q)), (1, .ref (gA G h)), (2, .ref (gA G 30))] := hl
  refine lv_aload_n hx hb dX1_sizeAsked_0 rfl (lv_at hl 2 rfl) ?_
  refine lv_bipush (v := 12) hx hb dX1_sizeAsked_1 (by decide) ?_
  refine r_callv hW hA (va_runV (As := [.int 12]) (rest := []) ⟨hx, hb, hml, hown, hts⟩ (t_X8_begin l D G S _ hG hP 12 hQ.2.2.2.2.2.2.1) (cwV 1 hts gX1_sizeAsked_X8_begin rfl rfl rfl (by decide +kernel) ⟨Nat.le_of_ble_eq_true rfl, Nat.le_of_ble_eq_true rfl⟩) (r_preV (k := 30) hA hW (ci := 7) (C := RX8) (T := TX8) (N := 2) rfl rfl (g_lt hG (by decide)) (g_kd hG (by decide) rfl) rfl rfl) rfl rfl hl.1 rfl (lv_room (Nat.le_of_ble_eq_true rfl)) dX1_sizeAsked_3 ⟨Nat.zero_le _, Nat.zero_le _⟩) (fun S3 H locs hp3 hW => ?_)
  rw [hp3] at hW
  refine lv_aload_n hx hb dX1_sizeAsked_6 rfl (lv_at hl 0 rfl) ?_
  refine lv_aload_n hx hb dX1_sizeAsked_7 rfl (lv_at hl 1 rfl) ?_
  refine lv_aload_n hx hb dX1_sizeAsked_8 rfl (lv_at hl 2 rfl) ?_
  obtain ⟨C9, cC9, hat9, hpre9⟩ := r_preP (As := [.ref (gA G h), .ref (gA G 30)]) hA hW hq hkP
  refine r_calll hW hA (va_runSU (As := [.ref (gA G h), .ref (gA G 30)]) (rest := []) hat9 ⟨hx, hb, hml, hown, hts⟩ (t_X2_sizeAsked_1 l D G (trc S 12) _ hG (GrP.trc hP) h hh q h75 hq hkP b law t p m tl (AskS.trc hQ hh h75) hk) (va_cwSU 2 hts gX1_sizeAsked_X2_sizeAsked_s13 rfl rfl rfl (by decide +kernel) ⟨Nat.le_of_ble_eq_true rfl, Nat.le_of_ble_eq_true rfl⟩) hpre9 rfl rfl hl.1 rfl (lv_room (Nat.le_of_ble_eq_true rfl)) dX1_sizeAsked_9 ⟨Nat.zero_le _, Nat.zero_le _⟩) (fun r9 S9 H locs hp9 hW => ?_)
  obtain ⟨rfl, hs9⟩ := hp9
  rw [hs9] at hW
  refine lv_lneg hx hb dX1_sizeAsked_12 ?_
  refine r_lret hx hb hr hlocks hW ?_ dX1_sizeAsked_13
  exact ⟨rfl, rfl⟩

def rmX3_sizeAsked : Jvm.Room := { frames := 5, cells := 0, slots := 0, locals := 113 }
set_option maxHeartbeats 4000000 in
set_option maxRecDepth 100000 in
theorem t_X3_sizeAsked (l : Launch) (D : Dc) (G : Gg) (S : Sg) (z : Nat) (hG : GrG G) (hP : GrP G S) (h : Nat) (hh : PassR h) (q : Nat) (h75 : 75 ≤ q) (hq : q < gN G) (hkP : KdP G q) (b law t p m tl : Nat) (hQ : AskS S h q b law t p m tl) (hk : gK G q = 3) : ML l yX3_sizeAsked wsX3_sizeAsked rmX3_sizeAsked D G S z [.ref (gA G q), .ref (gA G h), .ref (gA G 30)] (fun r S' => r = (2 * (lN m + (lN p + 10 * lN (dueN t b law m) - 1000))) ∧ S' = (trc (trc (trc (trc (trc (trc S 14) 11) 10) 24) 21) 20)) := by
  refine Met.ofW (cc := cX3_sizeAsked) (maxL := 3) (ret := (some .long)) (by decide +kernel) rfl ?_
  intro pP eE s mM args bl mT cD s₁ bD hml hv
  obtain ⟨rfl, hv⟩ := hv
  have hz := hv.1
  subst hz
  have hx := bD.exec
  have hb := bD.bytes
  have hr := bD.returns
  have hts := atoms_spec (ws := wsX3_sizeAsked) bD.pre
  have hown : s.vm.findClass RX3 = some mM.cls := findClass_of_methodNamed bD.named
  have hlocks := bD.notSynchronized
  have hW := Wd.start hv
  have hA : ∀ q, s.heap.size ≤ q → AW G s.heap.size q := fun q h => Or.inr h
  have hl := lv_entry ([.ref (gA G q), .ref (gA G h), .ref (gA G 30)]) (n := 3) (Nat.le_of_ble_eq_true rfl)
  rw [lg_entry_eq]
  generalize (lg_sl ([.ref (gA G q), .ref (gA G h), .ref (gA G 30)]) ++ List.replicate (3 - (lg_sl ([.ref (gA G q), .ref (gA G h), .ref (gA G 30)])).length) Slot.unset).toArray = ls at hl ⊢
  have hl : lv_has ls 3 [(0, .ref (gA G q)), (1, .ref (gA G h)), (2, .ref (gA G 30))] := hl
  have q0 := hts (.constantLong RX3 13 (2)) (List.mem_of_getElem? (i := 1) rfl)
  refine lv_aload_n hx hb dX3_sizeAsked_0 rfl (lv_at hl 2 rfl) ?_
  refine lv_bipush (v := 14) hx hb dX3_sizeAsked_1 (by decide) ?_
  refine r_callv hW hA (va_runV (As := [.int 14]) (rest := []) ⟨hx, hb, hml, hown, hts⟩ (t_X8_begin l D G S _ hG hP 14 hQ.2.2.2.2.2.2.1) (cwV 1 hts gX3_sizeAsked_X8_begin rfl rfl rfl (by decide +kernel) ⟨Nat.le_of_ble_eq_true rfl, Nat.le_of_ble_eq_true rfl⟩) (r_preV (k := 30) hA hW (ci := 7) (C := RX8) (T := TX8) (N := 2) rfl rfl (g_lt hG (by decide)) (g_kd hG (by decide) rfl) rfl rfl) rfl rfl hl.1 rfl (lv_room (Nat.le_of_ble_eq_true rfl)) dX3_sizeAsked_3 ⟨Nat.zero_le _, Nat.zero_le _⟩) (fun S3 H locs hp3 hW => ?_)
  rw [hp3] at hW
  refine lv_ldc2 (v := (2)) hx hb hown q0 dX3_sizeAsked_6 ?_
  refine lv_aload_n hx hb dX3_sizeAsked_9 rfl (lv_at hl 0 rfl) ?_
  refine lv_aload_n hx hb dX3_sizeAsked_10 rfl (lv_at hl 1 rfl) ?_
  refine lv_aload_n hx hb dX3_sizeAsked_11 rfl (lv_at hl 2 rfl) ?_
  obtain ⟨C12, cC12, hat12, hpre12⟩ := r_preP (As := [.ref (gA G h), .ref (gA G 30)]) hA hW hq hkP
  refine r_calll hW hA (va_runSU (As := [.ref (gA G h), .ref (gA G 30)]) (rest := [.long (2)]) hat12 ⟨hx, hb, hml, hown, hts⟩ (t_X2_sizeAsked_3 l D G (trc S 14) _ hG (GrP.trc hP) h hh q h75 hq hkP b law t p m tl (AskS.trc hQ hh h75) hk) (va_cwSU 2 hts gX3_sizeAsked_X2_sizeAsked_s15 rfl rfl rfl (by decide +kernel) ⟨Nat.le_of_ble_eq_true rfl, Nat.le_of_ble_eq_true rfl⟩) hpre12 rfl rfl hl.1 rfl (lv_room (Nat.le_of_ble_eq_true rfl)) dX3_sizeAsked_12 ⟨Nat.zero_le _, Nat.zero_le _⟩) (fun r12 S12 H locs hp12 hW => ?_)
  obtain ⟨rfl, hs12⟩ := hp12
  rw [hs12] at hW
  refine lv_lmul hx hb dX3_sizeAsked_15 ?_
  refine r_lret hx hb hr hlocks hW ?_ dX3_sizeAsked_16
  exact ⟨rfl, rfl⟩
