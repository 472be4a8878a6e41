/-! cells made by the constructors -/
def Ext (G G' : Gg) (L : List (Nat × Nat)) : Prop := gN G' = gN G + L.length ∧ (∀ k, k < gN G → gA G' k = gA G k ∧ gK G' k = gK G k ∧ gZ G' k = gZ G k) ∧ ∀ i, i < L.length → gK G' (gN G + i) = (L.getD i (0, 0)).1 ∧ gZ G' (gN G + i) = (L.getD i (0, 0)).2
theorem Ext.rf {G : Gg} : Ext G G [] := ⟨rfl, fun _ _ => ⟨rfl, rfl, rfl⟩, fun i hi => absurd hi (Nat.not_lt_zero _)⟩
theorem Ext.tr {G G1 G2 : Gg} {L1 L2 : List (Nat × Nat)} (h : Ext G G1 L1) (h2 : Ext G1 G2 L2) : Ext G G2 (L1 ++ L2) := by
  obtain ⟨a1, b1, c1⟩ := h
  obtain ⟨a2, b2, c2⟩ := h2
  refine ⟨by rw [a2, a1, List.length_append]; omega, fun k hk => ?_, fun i hi => ?_⟩
  · obtain ⟨x, y, z⟩ := b1 k hk
    obtain ⟨x2, y2, z2⟩ := b2 k (by omega)
    exact ⟨x2.trans x, y2.trans y, z2.trans z⟩
  · rw [List.length_append] at hi
    by_cases e : i < L1.length
    · obtain ⟨x, y, z⟩ := b2 (gN G + i) (by omega)
      rw [y, z, List.getD_eq_getElem?_getD, List.getElem?_append_left e, ← List.getD_eq_getElem?_getD]
      exact c1 i e
    · have q := c2 (i - L1.length) (by omega)
      rw [List.getD_eq_getElem?_getD, List.getElem?_append_right (by omega), ← List.getD_eq_getElem?_getD]
      rw [show gN G1 + (i - L1.length) = gN G + i by omega] at q
      exact q
theorem Ext.add {G : Gg} {q kd zz : Nat} : Ext G (gAdd G q kd zz) [(kd, zz)] := by
  refine ⟨rfl, fun k h => ⟨gAdd_A (by omega), gAdd_K (by omega), gAdd_Z (by omega)⟩, fun i hi => ?_⟩
  have e : i = 0 := by simpa using hi
  subst e
  exact ⟨gAdd_Ks, gAdd_Zs⟩
theorem Ext.kz {G G' : Gg} {L : List (Nat × Nat)} {n k : Nat} (h : Ext G G' L) (hn : gN G = n) (h1 : n ≤ k) (h2 : k < n + L.length) : gK G' k = (L.getD (k - n) (0, 0)).1 ∧ gZ G' k = (L.getD (k - n) (0, 0)).2 := by
  have z := h.2.2 (k - n) (by omega)
  rw [hn, show n + (k - n) = k by omega] at z
  exact z
def Fr (G : Gg) (S : Sg) : Prop := ∀ k, gN G ≤ k → gi S k = (fun _ => 0) ∧ gj S k = (fun _ => 0) ∧ gp S k = (fun _ => none)
theorem Fr.mono {G G' : Gg} {S : Sg} (h : Fr G S) (hn : gN G ≤ gN G') : Fr G' S := fun k hk => h k (Nat.le_trans hn hk)
theorem Fr.rp {G : Gg} {S : Sg} {k : Nat} {r : Nat → Option Nat} (h : Fr G S) (hk : k < gN G) : Fr G (rp S k r) := fun j hj => ⟨(h j hj).1, (h j hj).2.1, (up_n _ _ (by omega)).trans (h j hj).2.2⟩
theorem Fr.ri {G : Gg} {S : Sg} {k : Nat} {r : Nat → Int32} (h : Fr G S) (hk : k < gN G) : Fr G (ri S k r) := fun j hj => ⟨(up_n _ _ (by omega)).trans (h j hj).1, (h j hj).2⟩
theorem sAdd_fr {G : Gg} {S : Sg} (h : Fr G S) : sAdd G S = S := by
  obtain ⟨a, b, c⟩ := h (gN G) (Nat.le_refl _)
  show (va_up (gi S) (gN G) (fun _ => 0), va_up (gj S) (gN G) (fun _ => 0), va_up (gp S) (gN G) (fun _ => none)) = S
  rw [← a, ← b, ← c, up_id, up_id, up_id]
  rfl
/-! arrays of arrays -/
def mnC (cO : ClassId) (N h0 i : Nat) : Cell := arrV cO N (fun j => if j < i then .ref (h0 + 1 + j) else .null)
theorem mnC_step (cO : ClassId) (N h0 i : Nat) : (mnC cO N h0 i).setSlot i (.ref (h0 + 1 + i)) = mnC cO N h0 (i + 1) := by
  unfold mnC
  rw [arrV_store]
  congr 1
  funext j
  unfold updV
  by_cases e : j = i
  · subst e; rw [if_pos rfl, if_pos (by omega)]
  · rw [if_neg e]
    show (if j < i then Value.ref (h0 + 1 + j) else Value.null) = _
    by_cases e2 : j < i
    · rw [if_pos e2, if_pos (by omega)]
    · rw [if_neg e2, if_neg (by omega)]
theorem mnC_0 (cO : ClassId) (N h0 : Nat) : ({ cls := cO, slots := Array.replicate N .null, vm := .none } : Cell) = mnC cO N h0 0 := arrV_new cO N .null
def mnS (s : State) (cO cI : ClassId) (N M : Nat) (dv : Value) : Nat → State
  | 0 => s.pushCell (mnC cO N s.heap.size 0)
  | i + 1 => ((mnS s cO cI N M dv i).pushCell (arrV cI M (fun _ => dv))).setCell s.heap.size (mnC cO N s.heap.size (i + 1))
theorem mnS_f (s : State) (cO cI : ClassId) (N M : Nat) (dv : Value) : ∀ i, (mnS s cO cI N M dv i).heap.size = s.heap.size + 1 + i ∧ (mnS s cO cI N M dv i).heap[s.heap.size]? = some (mnC cO N s.heap.size i) ∧ (mnS s cO cI N M dv i).vm = s.vm ∧ (mnS s cO cI N M dv i).slotsUsed = s.slotsUsed + N + i * M
  | 0 => by
    refine ⟨by simp [mnS], by simp [mnS], rfl, ?_⟩
    have e : (mnC cO N s.heap.size 0).slots.size = N := arrV_size _ _ _
    simp [mnS, e]
  | i + 1 => by
    obtain ⟨a, b, d, u⟩ := mnS_f s cO cI N M dv i
    have hl : s.heap.size < (mnS s cO cI N M dv i).heap.size := by omega
    have hb : ((mnS s cO cI N M dv i).pushCell (arrV cI M (fun _ => dv))).heap[s.heap.size]? = some (mnC cO N s.heap.size i) := by rw [State.heap_pushCell_of_lt (h := hl)]; exact b
    have e : (arrV cI M (fun _ => dv)).slots.size = M := arrV_size _ _ _
    refine ⟨?_, State.heap_setCell_self hb, by simp [mnS, d], ?_⟩
    · simp [mnS, State.setCell, a]; omega
    · simp [mnS, u, e, Nat.succ_mul]; omega
theorem mnS_top (s : State) (f : JFrame) (cO cI : ClassId) (N M : Nat) (dv : Value) : ∀ i, mnS (s.setTop f) cO cI N M dv i = (mnS s cO cI N M dv i).setTop f
  | 0 => rfl
  | i + 1 => by simp only [mnS, mnS_top s f cO cI N M dv i, State.heap_setTop, State.pushCell_setTop, State.setCell_setTop]
theorem mnS_old (s : State) (cO cI : ClassId) (N M : Nat) (dv : Value) {a : Nat} (ha : a < s.heap.size) : ∀ i, (mnS s cO cI N M dv i).heap[a]? = s.heap[a]?
  | 0 => State.heap_pushCell_of_lt _ _ ha
  | i + 1 => by
    have f1 := (mnS_f s cO cI N M dv i).1
    show (((mnS s cO cI N M dv i).pushCell (arrV cI M (fun _ => dv))).setCell s.heap.size _).heap[a]? = _
    have hl : a < (mnS s cO cI N M dv i).heap.size := by rw [f1]; omega
    rw [State.heap_setCell_other (Nat.ne_of_gt ha), State.heap_pushCell_of_lt (h := hl)]
    exact mnS_old s cO cI N M dv ha i
theorem mnS_in (s : State) (cO cI : ClassId) (N M : Nat) (dv : Value) : ∀ i j, j < i → (mnS s cO cI N M dv i).heap[s.heap.size + 1 + j]? = some (arrV cI M (fun _ => dv))
  | 0, _, h => absurd h (Nat.not_lt_zero _)
  | i + 1, j, h => by
    have f1 := (mnS_f s cO cI N M dv i).1
    show (((mnS s cO cI N M dv i).pushCell (arrV cI M (fun _ => dv))).setCell s.heap.size _).heap[s.heap.size + 1 + j]? = _
    rw [State.heap_setCell_other (show s.heap.size ≠ s.heap.size + 1 + j by omega)]
    by_cases e : j = i
    · subst e
      rw [← f1]
      exact State.heap_pushCell_size _ _
    · have hl : s.heap.size + 1 + j < (mnS s cO cI N M dv i).heap.size := by rw [f1]; omega
      rw [State.heap_pushCell_of_lt (h := hl)]
      exact mnS_in s cO cI N M dv i j (by omega)
section MNA
variable {p : Program} {l : Launch} {e : Env} {R : Room} {s : State} {m : MethodId} {args : Array Value} {below : List Frame} {meth : Method} {c : Code} {H : Heap} {T : State} {locs : List Loc} {cells slots : Nat} {Q : State → Prop}
theorem mnS_stand (X : Stand p l e R s m args below meth c T locs cells slots) (cO cI : ClassId) (N M : Nat) (dv : Value) : ∀ i, Stand p l e R s m args below meth c (mnS T cO cI N M dv i) locs (cells + 1 + i) (slots + N + i * M)
  | 0 => by
    have h := X.pushed (mnC cO N T.heap.size 0)
    rw [show (mnC cO N T.heap.size 0).slots.size = N from arrV_size _ _ _] at h
    simpa [mnS] using h
  | i + 1 => by
    have Xi := mnS_stand X cO cI N M dv i
    obtain ⟨f1, f2, -, -⟩ := mnS_f T cO cI N M dv i
    have hl : T.heap.size < (mnS T cO cI N M dv i).heap.size := by rw [f1]; omega
    have hc : ((mnS T cO cI N M dv i).pushCell (arrV cI M (fun _ => dv))).heap[T.heap.size]? = some (mnC cO N T.heap.size i) := by rw [State.heap_pushCell_of_lt (h := hl)]; exact f2
    have h := ((Xi.pushed (arrV cI M (fun _ => dv))).stored hc i (.ref (T.heap.size + 1 + i))).dropFresh (fun x hx => by
      have ex : x = ⟨T.heap.size, i⟩ := by simpa using hx
      rw [ex]; exact X.heapGrown)
    rw [mnC_step, show (arrV cI M (fun _ => dv)).slots.size = M from arrV_size _ _ _] at h
    rw [show slots + N + (i + 1) * M = slots + N + i * M + M by rw [Nat.succ_mul]; omega]
    exact h
section MNW
variable {E : CtlPost} {d : Bool} {acts : List Action}
theorem mn_new {u : State} {cA comp : ClassId} {k : Class} {ty : FieldType} {len : Nat} {init : Value} (hk : u.vm.classes[cA]? = some k) (hkind : k.kind = .array comp ty) (hlimit : ¬ len > e.platform.arrayLengthLimit) (hheap : ¬ len * componentBytes ty > e.platform.maxHeapBytes) (hfit : fits ty init = true) (hdef : init.isDefault = true) {Q' : Addr → Pre} (h1 : u.heap.size < e.platform.maxCells) (h2 : u.slotsUsed + len ≤ e.platform.maxSlots) (hq : Q' u.heap.size d acts (u.pushCell (arrV cA len (fun _ => init)))) : wp (Jvm.newArray cA len init) Q' E e d acts u := by
  have e0 : ({ cls := cA, slots := Array.replicate len init, vm := .none } : Cell) = arrV cA len (fun _ => init) := arrV_new _ _ _
  have hf : ∀ i v, (Array.replicate len init)[i]? = some v → u.fitsSlot cA .none i v = true := by
    intro i v hv
    simp only [Array.getElem?_replicate] at hv
    split at hv
    · cases hv; simp [State.fitsSlot, State.slotType?, hk, hkind, hfit]
    · cases hv
  have ha : allocActs (Array.replicate len init) u.heap.size acts = acts := by
    unfold allocActs
    rw [if_pos (by rw [Array.all_replicate]; split <;> simp [hdef])]
  simp only [Jvm.newArray, Jvm.arrayFits, wp_bind', W.ask, W.ite, hlimit, if_false, wp_pure', W.theClass, hk, hkind, hheap, W.alloc, W.stop, Option.some.injEq, exists_eq_left', Array.size_replicate, ha]
  rw [if_neg (by omega), e0]
  exact ⟨h1, h2, hf, hq⟩
theorem mn_fits {t : FieldType} (h : t.isReference = true) (v : Value) (hv : v = .null ∨ ∃ a, v = .ref a) : fits t v = true := by
  rcases hv with rfl | ⟨a, rfl⟩ <;> cases t <;> simp [FieldType.isReference] at h <;> rfl
theorem mn_make {u : State} {cO cI c2 : ClassId} {kO kI : Class} {ty : FieldType} {n k : Int32} (hkO : u.vm.classes[cO]? = some kO) (hO : kO.kind = .array cI (.array ty)) (hkI : u.vm.classes[cI]? = some kI) (hI : kI.kind = .array c2 ty) (hn : ¬ n < 0) (hk : ¬ k < 0)
    (hl1 : ¬ n.toNatClampNeg > e.platform.arrayLengthLimit) (hh1 : ¬ n.toNatClampNeg * componentBytes (.array ty) > e.platform.maxHeapBytes) (hl2 : ¬ k.toNatClampNeg > e.platform.arrayLengthLimit) (hh2 : ¬ k.toNatClampNeg * componentBytes ty > e.platform.maxHeapBytes) (hdf : fits ty (defaultValue ty) = true) (hdd : (defaultValue ty).isDefault = true)
    (hc : u.heap.size + 1 + n.toNatClampNeg ≤ e.platform.maxCells) (hs : u.slotsUsed + n.toNatClampNeg + n.toNatClampNeg * k.toNatClampNeg ≤ e.platform.maxSlots) {Q' : Addr → Pre} (hq : ∀ d' acts', Q' u.heap.size d' acts' (mnS u cO cI n.toNatClampNeg k.toNatClampNeg (defaultValue ty) n.toNatClampNeg)) : wp (multianewarray.make cO [n, k]) Q' E e d acts u := by
  have hfd : ([k].find? (· < 0)) = none := by simp [hk]
  generalize hN : n.toNatClampNeg = N at *
  generalize hM : k.toNatClampNeg = M at *
  rw [multianewarray.make]
  simp only [wp_bind', W.ite, hn, if_false, wp_pure', W.theClass, hkO, hO, Option.some.injEq, exists_eq_left']
  rw [hN]
  refine mn_new hkO hO hl1 hh1 (mn_fits rfl _ (Or.inl rfl)) rfl (by omega) (by omega) ?_
  simp only [hfd]
  rw [ite_self, wp_bind', Std.Legacy.Range.forIn_eq_forIn_range']
  rw [show ([:N] : Std.Legacy.Range).size = N by simp [Std.Legacy.Range.size]]
  show wp (forIn (List.range' 0 N 1) PUnit.unit _) _ E e d acts _
  refine wp_forIn_inv (fun r u' => ∃ i, i ≤ N ∧ r = List.range' i (N - i) ∧ u' = mnS u cO cI N M (defaultValue ty) i) _ _ ⟨0, Nat.zero_le _, rfl, rfl⟩ ?_ ?_
  · rintro x r u' d' acts' Q2 ⟨i, hi, hr, rfl⟩ hnext
    have hlt : i < N := by
      by_cases z : i < N
      · exact z
      · rw [show N - i = 0 by omega] at hr; simp at hr
    rw [show N - i = (N - (i + 1)) + 1 by omega, List.range'_succ] at hr
    obtain ⟨rfl, hr2⟩ := List.cons.inj hr
    obtain ⟨f1, f2, f3, f4⟩ := mnS_f u cO cI N M (defaultValue ty) x
    have hmul : x * M + M ≤ N * M := by
      have := Nat.mul_le_mul_right M (show x + 1 ≤ N from hlt)
      rwa [Nat.succ_mul] at this
    simp only [wp_bind']
    rw [multianewarray.make]
    simp only [wp_bind', W.ite, hk, if_false, wp_pure', W.theClass, f3, hkI, hI, Option.some.injEq, exists_eq_left']
    rw [hM]
    refine mn_new (by rw [f3]; exact hkI) hI hl2 hh2 hdf hdd (by rw [f1]; omega) (by rw [f4]; omega) ?_
    have hl0 : u.heap.size < (mnS u cO cI N M (defaultValue ty) x).heap.size := by rw [f1]; omega
    simp only [wp_bind', W.writeLoc, wp_pure']
    refine ⟨mnC cO N u.heap.size x, by rw [State.heap_pushCell_of_lt (h := hl0)]; exact f2, by simp [mnC, arrV], by rw [show (mnC cO N u.heap.size x).slots.size = N from arrV_size _ _ _]; exact hlt, ?_, hnext _ _ _ ⟨x + 1, hlt, hr2, ?_⟩⟩
    · show State.fitsSlot _ cO .none x _ = true
      simp [State.fitsSlot, State.slotType?, f3, hkO, hO, mn_fits (t := .array ty) rfl _ (Or.inr ⟨_, rfl⟩)]
    · rw [f1, mnC_step]; rfl
  · rintro u' d' acts' ⟨i, hi, hr, rfl⟩
    have hiN : i = N := by
      by_cases z : i < N
      · rw [show N - i = (N - (i + 1)) + 1 by omega, List.range'_succ] at hr; cases hr
      · omega
    subst hiN
    simp only [wp_pure']
    exact hq _ _
end MNW
theorem mn_row {cc : ByteArray} {pc : Nat} {ls : Array Slot} {rest : List Value} (hexec : p.tables.exec = Jvm.exec) (hb : c.code = cc) {own : String} {index : Nat} {ty : FieldType} (hown : s.vm.findClass own = some m.cls) (hclink : (Cond.classLink own index ("[" ++ (FieldType.array ty).toString)).before args s = true) (hover : (Cond.arrayOver (.array ty)).before args s = true) (harr : (Cond.arrayClass ty).before args s = true)
    {n k : Int32} {N M : Nat} (hn : ¬ n < 0) (hk : ¬ k < 0) (hN : n.toNatClampNeg = N) (hM : k.toNatClampNeg = M) (hb1 : N * 4 ≤ 536870912) (hb2 : M * componentBytes ty ≤ 536870912) (hb3 : M ≤ 536870912) (hdf : fits ty (defaultValue ty) = true) (hdd : (defaultValue ty).isDefault = true) (hcells : cells + (1 + N) ≤ R.cells) (hslots : slots + (N + N * M) ≤ R.slots) (hdg : decode cc pc = .ok (.multianewarray index 2, 4))
    (kk : ∀ (cO cI : ClassId) (H1 : Heap), s.vm.findClass ("[" ++ (FieldType.array ty).toString) = some cO → s.vm.findClass (FieldType.array ty).toString = some cI → H1.size = H.size + 1 + N → (∀ q : Nat, q < H.size → H1[q]? = H[q]?) → H1[H.size]? = some (mnC cO N H.size N) → (∀ j, j < N → H1[H.size + 1 + j]? = some (arrV cI M (fun _ => defaultValue ty))) →
      W p l e R s m args below meth c H1 locs (cells + 1 + N) (slots + N + N * M) Q (F0 m (pc + 4) ls (.ref H.size :: rest))) : W p l e R s m args below meth c H locs cells slots Q (F0 m pc ls (.int k :: .int n :: rest)) := by
  subst hN
  subst hM
  intro T hT X
  subst hT
  subst hb
  have hpl : e.platform.magicAccessors = ({} : Platform).magicAccessors := by rw [X.admits.platform]
  obtain ⟨cI, cO, kO, hcI, -, hkO, hO, hnO⟩ := arrayOverA_spec hover
  obtain ⟨cI', kI, c2, hcI', hkI, hI⟩ := Cond.arrayClass_spec harr
  have ecI : cI' = cI := Option.some.inj (hcI'.symm.trans hcI)
  subst ecI
  obtain ⟨c0, hfc0, hcl⟩ := Cond.classLink_spec hown hclink e.platform hpl
  cases hnO.symm.trans hfc0
  obtain ⟨hg₁, hwarm₁, hready₁⟩ := State.classEntry (e := e) X.warmed hcl
  generalize T.vm.noted m.cls index (.cls cO) = vm₁ at hg₁ hwarm₁ hready₁
  have hal : s.vm.Alike vm₁ := hwarm₁.alike
  obtain ⟨kO₁, hkO₁, heO⟩ := hal.2.2 _ _ hkO
  obtain ⟨kI₁, hkI₁, heI⟩ := hal.2.2 _ _ hkI
  have hO₁ : kO₁.kind = .array cI' (.array ty) := by rw [heO]; exact hO
  have hI₁ : kI₁.kind = .array c2 ty := by rw [heI]; exact hI
  have X₁ := X.noted hwarm₁
  obtain ⟨hr1, hr2⟩ := X.roomAbove hcells hslots
  have XF := mnS_stand X₁ cO cI' n.toNatClampNeg k.toNatClampNeg (defaultValue ty) n.toNatClampNeg
  obtain ⟨f1, f2, f3, f4⟩ := mnS_f (T.setVm vm₁) cO cI' n.toNatClampNeg k.toNatClampNeg (defaultValue ty) n.toNatClampNeg
  obtain ⟨t', a1, b1⟩ := kk cO cI' (mnS (T.setVm vm₁) cO cI' n.toNatClampNeg k.toNatClampNeg (defaultValue ty) n.toNatClampNeg).heap hnO hcI f1 (fun q hq => mnS_old (T.setVm vm₁) cO cI' _ _ _ hq _) f2 (fun j hj => mnS_in (T.setVm vm₁) cO cI' _ _ _ _ j hj) _ rfl XF
  refine ⟨t', ?_, b1⟩
  have hl1 : ¬ n.toNatClampNeg > e.platform.arrayLengthLimit := by rw [Launch.admits_arrayLengthLimit X.admits]; omega
  have hh1 : ¬ n.toNatClampNeg * componentBytes (.array ty) > e.platform.maxHeapBytes := by rw [Launch.admits_maxHeapBytes X.admits]; show ¬ n.toNatClampNeg * 4 > 536870912; omega
  have hl2 : ¬ k.toNatClampNeg > e.platform.arrayLengthLimit := by rw [Launch.admits_arrayLengthLimit X.admits]; omega
  have hh2 : ¬ k.toNatClampNeg * componentBytes ty > e.platform.maxHeapBytes := by rw [Launch.admits_maxHeapBytes X.admits]; omega
  jvm_step X.here [hexec, hdg]
  simp only [multianewarray.sem, wp_bind', W.resolveClassAt_links (State.method?_setTop (F0 m pc ls (.int k :: .int n :: rest)) X.here.top) hg₁]
  rw [W.popN, if_neg (by decide)]
  refine ⟨F0 m pc ls (.int k :: .int n :: rest), State.topJava?_setTop' (s := T.setVm vm₁) _ X.here.top, [.int n, .int k], rest, rfl, rfl, ?_⟩
  simp only [List.mapM_cons, List.mapM_nil, wp_bind', wp_pure']
  refine mn_make hkO₁ hO₁ hkI₁ hI₁ hn hk hl1 hh1 hl2 hh2 hdf hdd (by show T.heap.size + 1 + _ ≤ _; omega) (by show T.slotsUsed + _ + _ ≤ _; omega) (fun d' acts' => ?_)
  have eS : ((T.setTop (F0 m pc ls (.int k :: .int n :: rest))).setVm vm₁).setTop { (F0 m pc ls (.int k :: .int n :: rest)) with stack := rest } = (T.setVm vm₁).setTop { (F0 m pc ls (.int k :: .int n :: rest)) with stack := rest } := by
    show ((T.setVm vm₁).setTop _).setTop _ = _
    rw [State.setTop_setTop]
  rw [eS, mnS_top]
  simp only [wp_bind', W.mark, W.pushRef, State.topJava?_setTop' _ XF.here.top, Option.some.injEq, exists_eq_left', State.setTop_setTop, State.heap_setTop]
  intro acts
  simp [jvm, XF.here.top]
  exact a1
end MNA
