/-! cells made, by roles -/
def LkS (G : Gg) (S : Sg) (L : List (Nat × Nat × Nat)) : Prop := ∀ q ∈ L, gp S q.1 q.2.1 = some (gA G q.2.2) ∧ q.2.2 < gN G ∧ q.1 < gN G
theorem LkS.nil {G : Gg} {S : Sg} : LkS G S [] := fun _ h => absurd h List.not_mem_nil
theorem LkS.ext {G G' : Gg} {S : Sg} {L : List (Nat × Nat × Nat)} {M : List (Nat × Nat)} (h : LkS G S L) (hX : Ext G G' M) : LkS G' S L := fun q hq => ⟨(h q hq).1.trans (by rw [(hX.2.1 _ (h q hq).2.1).1]), by have := (h q hq).2.1; have := hX.1; omega, by have := (h q hq).2.2; have := hX.1; omega⟩
theorem LkS.put {G : Gg} {S : Sg} {L : List (Nat × Nat × Nat)} {k f b a : Nat} (h : LkS G S L) (hn : ∀ q ∈ L, ¬ (q.1 = k ∧ q.2.1 = f)) (hk : k < gN G) (hb : b < gN G) (ha : gA G b = a) : LkS G (rp S k (va_up (gp S k) f (some a))) (L ++ [(k, f, b)]) := by
  intro q hq
  rcases List.mem_append.mp hq with z | z
  · refine ⟨?_, (h q z).2⟩
    by_cases e : q.1 = k
    · rw [e, gp_rp, up_s, up_n _ _ (fun w => hn q z ⟨e, w⟩), ← e]; exact (h q z).1
    · rw [gp_rp, up_n _ _ e]; exact (h q z).1
  · have e : q = (k, f, b) := by simpa using z
    subst e
    refine ⟨?_, hb, hk⟩
    show va_up (gp S) k _ k f = _
    rw [up_s, up_s, ha]
theorem LkS.p {G : Gg} {S S' : Sg} {L : List (Nat × Nat × Nat)} (h : LkS G S L) (e : gp S' = gp S) : LkS G S' L := fun q hq => by rw [e]; exact h q hq
def gMna (G : Gg) (q kdO kdI N M : Nat) : Gg := (gN G + 1 + N, (fun k => if k < gN G then gA G k else q + (k - gN G)), (fun k => if k < gN G then gK G k else if k = gN G then kdO else kdI), (fun k => if k < gN G then gZ G k else if k = gN G then N else M))
theorem gMna_o {G : Gg} {q kdO kdI N M k : Nat} (h : k < gN G) : gA (gMna G q kdO kdI N M) k = gA G k ∧ gK (gMna G q kdO kdI N M) k = gK G k ∧ gZ (gMna G q kdO kdI N M) k = gZ G k := ⟨if_pos h, if_pos h, if_pos h⟩
theorem gMna_s {G : Gg} {q kdO kdI N M : Nat} : gA (gMna G q kdO kdI N M) (gN G) = q ∧ gK (gMna G q kdO kdI N M) (gN G) = kdO ∧ gZ (gMna G q kdO kdI N M) (gN G) = N := by
  refine ⟨?_, ?_, ?_⟩
  · show (if gN G < gN G then gA G (gN G) else q + (gN G - gN G)) = q
    rw [if_neg (by omega)]; omega
  · show (if gN G < gN G then gK G (gN G) else if gN G = gN G then kdO else kdI) = kdO
    rw [if_neg (by omega), if_pos rfl]
  · show (if gN G < gN G then gZ G (gN G) else if gN G = gN G then N else M) = N
    rw [if_neg (by omega), if_pos rfl]
theorem gMna_i {G : Gg} {q kdO kdI N M k : Nat} (h : gN G < k) : gA (gMna G q kdO kdI N M) k = q + (k - gN G) ∧ gK (gMna G q kdO kdI N M) k = kdI ∧ gZ (gMna G q kdO kdI N M) k = M := by
  refine ⟨if_neg (by omega), ?_, ?_⟩
  · show (if k < gN G then gK G k else if k = gN G then kdO else kdI) = kdI
    rw [if_neg (by omega), if_neg (by omega)]
  · show (if k < gN G then gZ G k else if k = gN G then N else M) = M
    rw [if_neg (by omega), if_neg (by omega)]
theorem Ext.mna {G : Gg} {q kdO kdI N M : Nat} : Ext G (gMna G q kdO kdI N M) ((kdO, N) :: List.replicate N (kdI, M)) := by
  refine ⟨by show gN G + 1 + N = _; rw [List.length_cons, List.length_replicate]; omega, fun k h => gMna_o h, fun i hi => ?_⟩
  rw [List.length_cons, List.length_replicate] at hi
  cases i with
  | zero => exact ⟨gMna_s.2.1, gMna_s.2.2⟩
  | succ i =>
    have e : ((kdO, N) :: List.replicate N (kdI, M)).getD (i + 1) (0, 0) = (kdI, M) := by
      rw [List.getD_cons_succ, List.getD_eq_getElem?_getD, List.getElem?_replicate, if_pos (by omega)]; rfl
    rw [e]
    exact (gMna_i (by omega)).2
theorem LkS.mna {G : Gg} {S : Sg} {L : List (Nat × Nat × Nat)} {q kdO kdI N M : Nat} (h : LkS G S L) : LkS (gMna G q kdO kdI N M) (rp S (gN G) (fun j => if j < N then some (q + 1 + j) else none)) (L ++ (List.range N).map (fun j => (gN G, j, gN G + 1 + j))) := by
  intro x hx
  rcases List.mem_append.mp hx with z | z
  · obtain ⟨a, b, c⟩ := h x z
    refine ⟨?_, by show x.2.2 < gN G + 1 + N; omega, by show x.1 < gN G + 1 + N; omega⟩
    rw [gp_rp, up_n _ _ (by omega), a, (gMna_o b).1]
  · obtain ⟨j, hj, rfl⟩ := List.mem_map.mp z
    have hj := List.mem_range.mp hj
    refine ⟨?_, by show gN G + 1 + j < gN G + 1 + N; omega, by show gN G < gN G + 1 + N; omega⟩
    show va_up (gp S) (gN G) _ (gN G) j = some (gA _ (gN G + 1 + j))
    rw [up_s, (gMna_i (by omega)).1, if_pos hj, show q + (gN G + 1 + j - gN G) = q + 1 + j by omega]
section RW9
variable {p : Program} {l : Launch} {e : Env} {R : Room} {s : State} {m : MethodId} {args : Array Value} {below : List Frame} {meth : Method} {c : Code} {H : Heap} {locs : List Loc} {cells slots : Nat} {Q : State → Prop}
variable {cc : ByteArray} {pc : Nat} {ls : Array Slot} {rest : List Value} {D : Dc} {A : Nat → Prop} {a : Nat} {G : Gg} {S : Sg}
theorem r_newF (hexec : p.tables.exec = Jvm.exec) (hb : c.code = cc) {own C : String} {T : u_T} {N ci index : Nat} {Ts : List Cond} (hts : ∀ w ∈ Ts, w.before args s = true) (hin : ∀ w ∈ u_ws C T N, w ∈ Ts) (ty : Nat → FieldType) (hty : ∀ k, k < N → parseFieldDescriptor (T k).2.2.1 = some (ty k)) (hown : s.vm.findClass own = some m.cls) (hcl : (Cond.classLink own index C).before args s = true) (hinst : (Cond.instantiable C N).before args s = true) (hini : (Cond.initialized C).before args s = true) (hW : Wd D A s G S H locs) (hA : ∀ q, s.heap.size ≤ q → A q) (hF : Fr G S) (hc : vwCl[ci]? = some (C, T, N)) {fs : List Value} (hg : gE D.2.1 0 ci (fun _ => 0) (fun _ => 0) (fun _ => none) = .inr (ci, fs)) (hfs : ∀ j, j < N → defaultValue (ty j) = vp_V fs j) (hcells : cells + 1 ≤ R.cells) (hslots : slots + N ≤ R.slots) (hdg : decode cc pc = .ok (.new index, 3))
    (kk : ∀ (q : Nat) (H1 : Heap), Wd D A s (gAdd G q ci 0) S H1 locs → W p l e R s m args below meth c H1 locs (cells + 1) (slots + N) Q (F0 m (pc + 3) ls (.ref q :: rest))) : W p l e R s m args below meth c H locs cells slots Q (F0 m pc ls rest) :=
  r_new hexec hb hts hin ty hty hown hcl hinst hini hW hA hc hg hfs hcells hslots hdg fun q H1 hW1 => kk q H1 (by rw [sAdd_fr hF] at hW1; exact hW1)
theorem r_newaF (hexec : p.tables.exec = Jvm.exec) (hb : c.code = cc) {atype : ArrayType} (harr : (Cond.arrayClass (newarray.typeOf atype)).before args s = true) {ty : FieldType} (hty : newarray.typeOf atype = ty) (hW : Wd D A s G S H locs) (hA : ∀ q, s.heap.size ≤ q → A q) (hF : Fr G S) (kd : Nat) (hnm : ∀ cA, va_RA s cA ty → cA = D.2.1 kd) {n : Int32} {N' : Nat} {a0 : vp_A} (hg : gE D.2.1 N' kd (fun _ => 0) (fun _ => 0) (fun _ => none) = .inl (D.2.1 kd, a0)) (ha : ∀ cA : ClassId, vp_cell cA a0 = arrV cA N' (fun _ => defaultValue ty)) (hn : ¬ n < 0) (hN : n.toNatClampNeg = N') (hbytes : N' * componentBytes ty ≤ 536870912) (hcells : cells + 1 ≤ R.cells) (hslots : slots + N' ≤ R.slots) (hdg : decode cc pc = .ok (.newarray atype, 2))
    (kk : ∀ (q : Nat) (H1 : Heap), Wd D A s (gAdd G q kd N') S H1 locs → W p l e R s m args below meth c H1 locs (cells + 1) (slots + N') Q (F0 m (pc + 2) ls (.ref q :: rest))) : W p l e R s m args below meth c H locs cells slots Q (F0 m pc ls (.int n :: rest)) :=
  va_newa hexec hb harr hty hW.1 hW.2.1 hW.2.2.1 hW.2.2.2.1 hA ha hn hN hbytes hcells hslots hdg fun q cA H1 hK hP hD hS => by
    have ec : cA = D.2.1 kd := hnm cA (hK.2 (tyl D.2.1).length (cA, ty) (by simp)).2
    subst ec
    have z := wS_add (cy := D.2.1) (G := G) (S := S) (q := q) (kd := kd) (zz := N')
    rw [sAdd_fr hF, hg] at z
    exact kk q H1 ⟨hW.1, by rw [z]; exact hP, by rw [z]; exact hD, hS, hW.2.2.2.2⟩
theorem r_newqF (hexec : p.tables.exec = Jvm.exec) (hb : c.code = cc) {own C : String} {index : Nat} (hown : s.vm.findClass own = some m.cls) (hclink : (Cond.classLink own index C).before args s = true) (hover : va_AO C s) (hW : Wd D A s G S H locs) (hA : ∀ q, s.heap.size ≤ q → A q) (hF : Fr G S) (kd : Nat) (hnm : ∀ cA, va_RA s cA (.object C) → cA = D.2.1 kd) {n : Int32} {N' : Nat} (hg : gE D.2.1 N' kd (fun _ => 0) (fun _ => 0) (fun _ => none) = .inl (D.2.1 kd, N', .inr (.inr (.inr (.inr (fun _ => none)))))) (hn : ¬ n < 0) (hN : n.toNatClampNeg = N') (hbytes : N' * 4 ≤ 536870912) (hcells : cells + 1 ≤ R.cells) (hslots : slots + N' ≤ R.slots) (hdg : decode cc pc = .ok (.anewarray index, 3))
    (kk : ∀ (q : Nat) (H1 : Heap), Wd D A s (gAdd G q kd N') S H1 locs → W p l e R s m args below meth c H1 locs (cells + 1) (slots + N') Q (F0 m (pc + 3) ls (.ref q :: rest))) : W p l e R s m args below meth c H locs cells slots Q (F0 m pc ls (.int n :: rest)) :=
  va_newq hexec hb hown hclink hover hW.1 hW.2.1 hW.2.2.1 hW.2.2.2.1 hA hn hN hbytes hcells hslots hdg fun q cA H1 hK hP hD hS => by
    have ec : cA = D.2.1 kd := hnm cA (hK.2 (tyl D.2.1).length (cA, .object C) (by simp)).2
    subst ec
    have z := wS_add (cy := D.2.1) (G := G) (S := S) (q := q) (kd := kd) (zz := N')
    rw [sAdd_fr hF, hg] at z
    exact kk q H1 ⟨hW.1, by rw [z]; exact hP, by rw [z]; exact hD, hS, hW.2.2.2.2⟩
theorem r_mnaF (hexec : p.tables.exec = Jvm.exec) (hb : c.code = cc) {own : String} {index : Nat} {ty : FieldType} (hown : s.vm.findClass own = some m.cls) (hclink : (Cond.classLink own index ("[" ++ (FieldType.array ty).toString)).before args s = true) (hover : (Cond.arrayOver (.array ty)).before args s = true) (harr : (Cond.arrayClass ty).before args s = true) (hW : Wd D A s G S H locs) (hA : ∀ q, s.heap.size ≤ q → A q) (hF : Fr G S) (kdO kdI : Nat) (hnO : s.vm.findClass ("[" ++ (FieldType.array ty).toString) = some (D.2.1 kdO)) (hnI : s.vm.findClass (FieldType.array ty).toString = some (D.2.1 kdI))
    {n k : Int32} {N M : Nat} (hgO : ∀ z i j p, gE D.2.1 z kdO i j p = .inl (D.2.1 kdO, z, .inr (.inr (.inr (.inr p))))) {a0 : vp_A} (hgI : gE D.2.1 M kdI (fun _ => 0) (fun _ => 0) (fun _ => none) = .inl (D.2.1 kdI, a0)) (ha : ∀ cA : ClassId, vp_cell cA a0 = arrV cA M (fun _ => defaultValue ty)) (hn : ¬ n < 0) (hk : ¬ k < 0) (hN : n.toNatClampNeg = N) (hM : k.toNatClampNeg = M) (hb1 : N * 4 ≤ 536870912) (hb2 : M * componentBytes ty ≤ 536870912) (hb3 : M ≤ 536870912) (hdf : fits ty (defaultValue ty) = true) (hdd : (defaultValue ty).isDefault = true) (hcells : cells + (1 + N) ≤ R.cells) (hslots : slots + (N + N * M) ≤ R.slots) (hdg : decode cc pc = .ok (.multianewarray index 2, 4))
    (kk : ∀ (q : Nat) (H1 : Heap), Wd D A s (gMna G q kdO kdI N M) (rp S (gN G) (fun j => if j < N then some (q + 1 + j) else none)) H1 locs → W p l e R s m args below meth c H1 locs (cells + 1 + N) (slots + N + N * M) Q (F0 m (pc + 4) ls (.ref q :: rest))) : W p l e R s m args below meth c H locs cells slots Q (F0 m pc ls (.int k :: .int n :: rest)) :=
  mn_row hexec hb hown hclink hover harr hn hk hN hM hb1 hb2 hb3 hdf hdd hcells hslots hdg fun cO cI H1 hO hI hz ho h0 hj => by
    have eO : cO = D.2.1 kdO := Option.some.inj (hO.symm.trans hnO)
    have eI : cI = D.2.1 kdI := Option.some.inj (hI.symm.trans hnI)
    subst eO
    subst eI
    have hlt : ∀ k, k < gN G → gA G k < H.size := fun k e => (hW.2.1 k _ (wS_get e)).lt
    refine kk H.size H1 ⟨hW.1, fun k x hx => ?_, ⟨fun i j x y hx hy hxy => ?_, fun k x hx => ?_⟩, ⟨Nat.le_trans hW.2.2.2.1.1 (by omega), fun x h1 h2 => (ho x (Nat.lt_of_lt_of_le h1 hW.2.2.2.1.1)).trans (hW.2.2.2.1.2.1 x h1 h2), hW.2.2.2.1.2.2⟩, hW.2.2.2.2⟩
    · obtain ⟨hk, rfl⟩ := wS_of hx
      by_cases e : k < gN G
      · have h0 := hW.2.1 k _ (wS_get e)
        have e1 : gC D.2.1 (gMna G H.size kdO kdI N M) (rp S (gN G) (fun j => if j < N then some (H.size + 1 + j) else none)) k = gC D.2.1 G S k := by
          unfold gC
          rw [(gMna_o e).2.1, (gMna_o e).2.2, gp_rp, up_n _ _ (by omega)]; rfl
        rw [e1, (gMna_o e).1]
        exact h0.kept (ho _ h0.lt)
      · by_cases e2 : k = gN G
        · have e1 : gC D.2.1 (gMna G H.size kdO kdI N M) (rp S (gN G) (fun j => if j < N then some (H.size + 1 + j) else none)) k = .inl (D.2.1 kdO, N, .inr (.inr (.inr (.inr (fun j => if j < N then some (H.size + 1 + j) else none))))) := by
            unfold gC
            rw [e2, gMna_s.2.1, gMna_s.2.2, gp_rp, up_s, hgO]
          rw [e1, e2, gMna_s.1]
          show H1[H.size]? = some (vp_cell _ _)
          rw [h0, vp_cell_q]
          unfold mnC
          congr 2
          funext j
          show (if j < N then Value.ref (H.size + 1 + j) else Value.null) = va_rf (if j < N then some (H.size + 1 + j) else none)
          split <;> rfl
        · have hg2 := hF k (by omega)
          have e1 : gC D.2.1 (gMna G H.size kdO kdI N M) (rp S (gN G) (fun j => if j < N then some (H.size + 1 + j) else none)) k = .inl (D.2.1 kdI, a0) := by
            unfold gC
            rw [(gMna_i (by omega)).2.1, (gMna_i (by omega)).2.2, gp_rp, up_n _ _ e2]
            show gE D.2.1 M kdI (gi S k) (gj S k) (gp S k) = _
            rw [hg2.1, hg2.2.1, hg2.2.2, hgI]
          rw [e1, (gMna_i (by omega)).1]
          have hk2 : k < gN G + 1 + N := hk
          have hz2 := hj (k - gN G - 1) (by omega)
          rw [show H.size + 1 + (k - gN G - 1) = H.size + (k - gN G) by omega] at hz2
          show H1[H.size + (k - gN G)]? = some (vp_cell _ _)
          rw [hz2, ha]
    · obtain ⟨hi, rfl⟩ := wS_of hx
      obtain ⟨hj2, rfl⟩ := wS_of hy
      have hxy : gA (gMna G H.size kdO kdI N M) i = gA (gMna G H.size kdO kdI N M) j := hxy
      have hnew : ∀ k, ¬ k < gN G → gA (gMna G H.size kdO kdI N M) k = H.size + (k - gN G) := fun k e => if_neg e
      by_cases ei : i < gN G
      · by_cases ej : j < gN G
        · rw [(gMna_o ei).1, (gMna_o ej).1] at hxy
          exact hW.2.2.1.1 i j _ _ (wS_get ei) (wS_get ej) hxy
        · rw [(gMna_o ei).1, hnew j ej] at hxy
          have := hlt i ei
          omega
      · by_cases ej : j < gN G
        · rw [(gMna_o ej).1, hnew i ei] at hxy
          have := hlt j ej
          omega
        · rw [hnew i ei, hnew j ej] at hxy
          omega
    · obtain ⟨hk, rfl⟩ := wS_of hx
      by_cases e : k < gN G
      · show A (gA (gMna G H.size kdO kdI N M) k)
        rw [(gMna_o e).1]
        exact hW.2.2.1.2 k _ (wS_get e)
      · have e3 : gA (gMna G H.size kdO kdI N M) k = H.size + (k - gN G) := if_neg e
        show A (gA (gMna G H.size kdO kdI N M) k)
        rw [e3]
        exact hA _ (Nat.le_trans hW.2.2.2.1.1 (by omega))
/-- a pass into a row of passes -/
theorem r_aastX (hexec : p.tables.exec = Jvm.exec) (hb : c.code = cc) (hW : Wd D A s G S H locs) (k : Nat) (ha : gA G k = a) (hk : k < gN G) (hkd : gK G k = 15) {i : Int32} {v b : Nat} (hv : gA G b = v) (hbl : b < gN G) (hbk : gK G b = 4) (hin : vp_in i (gZ G k)) (S' : Sg) (r : Nat → Option Nat) (e0 : gp S k = r) (e1 : gp S' k = va_up r i.toNatClampNeg (some v)) (e2 : gi S' k = gi S k) (e3 : gj S' k = gj S k) (ho : Oth k S' S) (hdg : decode cc pc = .ok (.aastore, 1))
    (kk : ∀ (H1 : Heap) (locs1 : List Loc), Wd D A s G S' H1 locs1 → W p l e R s m args below meth c H1 locs1 cells slots Q (F0 m (pc + 1) ls rest)) : W p l e R s m args below meth c H locs cells slots Q (F0 m pc ls (.ref v :: .int i :: .ref a :: rest)) := by
  subst ha
  subst e0
  subst hv
  have he : (wS D.2.1 G S)[k]? = some (gA G k, .inl (D.2.1 15, gZ G k, .inr (.inr (.inr (.inr (gp S k)))))) := by rw [wS_get hk, gC, hkd]; rfl
  exact va_astq hexec hb hW.1 hW.2.1 hW.2.2.1 hW.2.2.2.1 k 4 b 4 (r := (RX5, TX5, 16)) he rfl (by rw [wS_get hbl, gC, hbk]; rfl) rfl hin hdg fun H1 locs1 hP hD hS => kk H1 locs1 (Wd.put hW.1 hW.2.2.2.2 hk (by rw [gC, hkd, e1, e2, e3]; rfl) ho hP hD hS)
theorem hn_byte (hW : Wd D A s G S H locs) : ∀ cA, va_RA s cA .byte → cA = D.2.1 11 := fun cA h => Option.some.inj ((show s.vm.findClass _ = some cA from h).symm.trans (hW.1.2 0 _ rfl).2)
theorem hn_int (hW : Wd D A s G S H locs) : ∀ cA, va_RA s cA .int → cA = D.2.1 12 := fun cA h => Option.some.inj ((show s.vm.findClass _ = some cA from h).symm.trans (hW.1.2 1 _ rfl).2)
theorem hn_long (hW : Wd D A s G S H locs) : ∀ cA, va_RA s cA .long → cA = D.2.1 13 := fun cA h => Option.some.inj ((show s.vm.findClass _ = some cA from h).symm.trans (hW.1.2 2 _ rfl).2)
theorem hn_party (hW : Wd D A s G S H locs) : ∀ cA, va_RA s cA (.object "WoodForTwo$Party") → cA = D.2.1 14 := fun cA h => by
  obtain ⟨k1, c1, -, -, -, h4⟩ := h
  obtain ⟨k2, c2, -, -, -, g4⟩ := (hW.1.2 3 _ rfl).2
  exact Option.some.inj (h4.symm.trans g4)
theorem hn_pass (hW : Wd D A s G S H locs) : ∀ cA, va_RA s cA (.object "WoodForTwo$Pass") → cA = D.2.1 15 := fun cA h => by
  obtain ⟨k1, c1, -, -, -, h4⟩ := h
  obtain ⟨k2, c2, -, -, -, g4⟩ := (hW.1.2 4 _ rfl).2
  exact Option.some.inj (h4.symm.trans g4)
theorem hn_ints (hW : Wd D A s G S H locs) : s.vm.findClass ("[" ++ (FieldType.array .int).toString) = some (D.2.1 16) ∧ s.vm.findClass (FieldType.array .int).toString = some (D.2.1 12) := ⟨(hW.1.2 5 _ rfl).2, (hW.1.2 1 _ rfl).2⟩
theorem hn_longs (hW : Wd D A s G S H locs) : s.vm.findClass ("[" ++ (FieldType.array .long).toString) = some (D.2.1 17) ∧ s.vm.findClass (FieldType.array .long).toString = some (D.2.1 13) := ⟨(hW.1.2 6 _ rfl).2, (hW.1.2 2 _ rfl).2⟩
end RW9
