/-! methods that make cells: calls and ends -/
section RW8
variable {p : Program} {l : Launch} {e : Env} {R : Room} {s : State} {m : MethodId} {args : Array Value} {below : List Frame} {meth : Method} {c : Code} {H : Heap} {locs : List Loc} {cells slots : Nat} {Q : State → Prop}
variable {cc : ByteArray} {pc : Nat} {ls : Array Slot} {rest : List Value} {D : Dc} {A : Nat → Prop} {a : Nat} {G : Gg} {S : Sg} {mc ms : Nat}
theorem r_callqa {st0 : List Value} {av : Array Value} {post : Option Nat → Gg × Sg → Prop} (hW : Wd D A s G S H locs) (hA : ∀ q, s.heap.size ≤ q → A q) (hr : va_Run p l e R s m args below meth c H locs cells slots mc ms (F0 m pc ls st0) rest (va_Qq post (fun u => PostW D u.1 (AW G H.size) u.2) (AW G H.size) av) (AW G H.size))
    (kk : ∀ (r : Option Nat) (G' : Gg) (S' : Sg) (H1 : Heap) (locs1 : List Loc), post r (G', S') → Wd D A s G' S' H1 locs1 → W p l e R s m args below meth c H1 locs1 (cells + mc) (slots + ms) Q (F0 m (pc + 3) ls (va_rf r :: rest))) : W p l e R s m args below meth c H locs cells slots Q (F0 m pc ls st0) :=
  va_callq hr hW.2.2.2.1 (fun q _ h => hW.free hA q h) (hW.free hA) (fun r u t H1 locs1 ht _ hp hB _ _ hS => kk r u.1 u.2 H1 locs1 hp (hW.behind (z := 0) hB hA ht hS))
theorem r_callia {st0 : List Value} {av : Array Value} {post : Int32 → Gg × Sg → Prop} (hW : Wd D A s G S H locs) (hA : ∀ q, s.heap.size ≤ q → A q) (hr : va_Run p l e R s m args below meth c H locs cells slots mc ms (F0 m pc ls st0) rest (va_Qi post (fun u => PostW D u.1 (AW G H.size) u.2) (AW G H.size) av) (AW G H.size))
    (kk : ∀ (r : Int32) (G' : Gg) (S' : Sg) (H1 : Heap) (locs1 : List Loc), post r (G', S') → Wd D A s G' S' H1 locs1 → W p l e R s m args below meth c H1 locs1 (cells + mc) (slots + ms) Q (F0 m (pc + 3) ls (.int r :: rest))) : W p l e R s m args below meth c H locs cells slots Q (F0 m pc ls st0) :=
  va_calli hr hW.2.2.2.1 (fun q _ h => hW.free hA q h) (hW.free hA) (fun r u t H1 locs1 ht _ hp hB _ _ hS => kk r u.1 u.2 H1 locs1 hp (hW.behind (z := 0) hB hA ht hS))
theorem r_callla {st0 : List Value} {av : Array Value} {post : Int64 → Gg × Sg → Prop} (hW : Wd D A s G S H locs) (hA : ∀ q, s.heap.size ≤ q → A q) (hr : va_Run p l e R s m args below meth c H locs cells slots mc ms (F0 m pc ls st0) rest (va_Ql post (fun u => PostW D u.1 (AW G H.size) u.2) (AW G H.size) av) (AW G H.size))
    (kk : ∀ (r : Int64) (G' : Gg) (S' : Sg) (H1 : Heap) (locs1 : List Loc), post r (G', S') → Wd D A s G' S' H1 locs1 → W p l e R s m args below meth c H1 locs1 (cells + mc) (slots + ms) Q (F0 m (pc + 3) ls (.long r :: rest))) : W p l e R s m args below meth c H locs cells slots Q (F0 m pc ls st0) :=
  va_calll hr hW.2.2.2.1 (fun q _ h => hW.free hA q h) (hW.free hA) (fun r u t H1 locs1 ht _ hp hB _ _ hS => kk r u.1 u.2 H1 locs1 hp (hW.behind (z := 0) hB hA ht hS))
theorem r_callva {st0 : List Value} {av : Array Value} {post : Gg × Sg → Prop} (hW : Wd D A s G S H locs) (hA : ∀ q, s.heap.size ≤ q → A q) (hr : va_Run p l e R s m args below meth c H locs cells slots mc ms (F0 m pc ls st0) rest (va_Qv post (fun u => PostW D u.1 (AW G H.size) u.2) (AW G H.size) av) (AW G H.size))
    (kk : ∀ (G' : Gg) (S' : Sg) (H1 : Heap) (locs1 : List Loc), post (G', S') → Wd D A s G' S' H1 locs1 → W p l e R s m args below meth c H1 locs1 (cells + mc) (slots + ms) Q (F0 m (pc + 3) ls rest)) : W p l e R s m args below meth c H locs cells slots Q (F0 m pc ls st0) :=
  va_callv hr hW.2.2.2.1 (fun q _ h => hW.free hA q h) (hW.free hA) (fun u t H1 locs1 ht _ hp hB _ _ hS => kk u.1 u.2 H1 locs1 hp (hW.behind (z := 0) hB hA ht hS))
theorem Wd.posta {G0 : Gg} {z : Nat} (hW : Wd D (AW G0 z) s G S H locs) {t : State} (ht : t.heap = H) (hV : s.WarmedH t.vm) : PostW D G (AW G0 z) S t := ⟨by rw [ht]; exact hW.2.1, va_K.moved hV.alike hW.1, hW.2.2.1⟩
theorem r_areta {G0 : Gg} {post : Option Nat → Gg × Sg → Prop} {x : Option Nat} {rt : FieldType} (hexec : p.tables.exec = Jvm.exec) (hb : c.code = cc) (hr : meth.sig.returnType = some rt) (hrt : (∃ n, rt = .object n) ∨ ∃ t, rt = .array t) (hlocks : meth.locks = false) (hW : Wd D (AW G0 s.heap.size) s G S H locs) (hp : post x (G, S)) (hdg : decode cc pc = .ok (.areturn, 1)) :
    W p l e R s m args below meth c H locs mc ms (MQ below (va_Qq post (fun u => PostW D u.1 (AW G0 s.heap.size) u.2) (AW G0 s.heap.size)) args s mc ms (AW G0 s.heap.size)) (F0 m pc ls [va_rf x]) :=
  W.aret hexec hb hr hrt (va_rf_or x) (fun t ht hV => ⟨⟨x, (G, S), rfl, hp, hW.posta ht hV⟩, hW.2.2.2.1.F ht⟩) hW.2.2.2.1.2.2 hdg hlocks
theorem r_zreta {G0 : Gg} {post : Int32 → Gg × Sg → Prop} {v : Int32} (hexec : p.tables.exec = Jvm.exec) (hb : c.code = cc) (hr : meth.sig.returnType = some .boolean) (hlocks : meth.locks = false) (hW : Wd D (AW G0 s.heap.size) s G S H locs) (hv : v = 0 ∨ v = 1) (hp : post v (G, S)) (hdg : decode cc pc = .ok (.ireturn, 1)) :
    W p l e R s m args below meth c H locs mc ms (MQ below (va_Qi post (fun u => PostW D u.1 (AW G0 s.heap.size) u.2) (AW G0 s.heap.size)) args s mc ms (AW G0 s.heap.size)) (F0 m pc ls [.int v]) :=
  W.zret hexec hb hr (by rcases hv with rfl | rfl <;> rfl) (fun t ht hV => ⟨⟨v, (G, S), rfl, hp, hW.posta ht hV⟩, hW.2.2.2.1.F ht⟩) hW.2.2.2.1.2.2 hdg hlocks
theorem r_lreta {G0 : Gg} {post : Int64 → Gg × Sg → Prop} {v : Int64} (hexec : p.tables.exec = Jvm.exec) (hb : c.code = cc) (hr : meth.sig.returnType = some .long) (hlocks : meth.locks = false) (hW : Wd D (AW G0 s.heap.size) s G S H locs) (hp : post v (G, S)) (hdg : decode cc pc = .ok (.lreturn, 1)) :
    W p l e R s m args below meth c H locs mc ms (MQ below (va_Ql post (fun u => PostW D u.1 (AW G0 s.heap.size) u.2) (AW G0 s.heap.size)) args s mc ms (AW G0 s.heap.size)) (F0 m pc ls [.long v]) :=
  W.lret hexec hb hr (fun t ht hV => ⟨⟨v, (G, S), rfl, hp, hW.posta ht hV⟩, hW.2.2.2.1.F ht⟩) hW.2.2.2.1.2.2 hdg hlocks
theorem r_vreta {G0 : Gg} {post : Gg × Sg → Prop} (hexec : p.tables.exec = Jvm.exec) (hb : c.code = cc) (hr : meth.sig.returnType = none) (hlocks : meth.locks = false) (hW : Wd D (AW G0 s.heap.size) s G S H locs) (hp : post (G, S)) (hdg : decode cc pc = .ok (.return_, 1)) :
    W p l e R s m args below meth c H locs mc ms (MQ below (va_Qv post (fun u => PostW D u.1 (AW G0 s.heap.size) u.2) (AW G0 s.heap.size)) args s mc ms (AW G0 s.heap.size)) (F0 m pc ls []) :=
  W.vret hexec hb hr (fun t ht hV => ⟨⟨(G, S), rfl, hp, hW.posta ht hV⟩, hW.2.2.2.1.F ht⟩) hW.2.2.2.1.2.2 hdg hlocks
end RW8
/-! a world with more parties -/
theorem sAdd_i {G : Gg} {S : Sg} {k : Nat} (h : k ≠ gN G) : gi (sAdd G S) k = gi S k := up_n _ _ h
theorem sAdd_j {G : Gg} {S : Sg} {k : Nat} (h : k ≠ gN G) : gj (sAdd G S) k = gj S k := up_n _ _ h
theorem sAdd_p {G : Gg} {S : Sg} {k : Nat} (h : k ≠ gN G) : gp (sAdd G S) k = gp S k := up_n _ _ h
theorem gAdd_A {G : Gg} {q kd zz k : Nat} (h : k ≠ gN G) : gA (gAdd G q kd zz) k = gA G k := up_n _ _ h
theorem gAdd_K {G : Gg} {q kd zz k : Nat} (h : k ≠ gN G) : gK (gAdd G q kd zz) k = gK G k := up_n _ _ h
theorem gAdd_Z {G : Gg} {q kd zz k : Nat} (h : k ≠ gN G) : gZ (gAdd G q kd zz) k = gZ G k := up_n _ _ h
theorem gAdd_As {G : Gg} {q kd zz : Nat} : gA (gAdd G q kd zz) (gN G) = q := up_s _ _ _
theorem gAdd_Ks {G : Gg} {q kd zz : Nat} : gK (gAdd G q kd zz) (gN G) = kd := up_s _ _ _
theorem gAdd_Zs {G : Gg} {q kd zz : Nat} : gZ (gAdd G q kd zz) (gN G) = zz := up_s _ _ _
def XtP (G G' : Gg) : Prop := gN G ≤ gN G' ∧ (∀ k, k < gN G → gA G' k = gA G k ∧ gK G' k = gK G k ∧ gZ G' k = gZ G k) ∧ ∀ k, gN G ≤ k → k < gN G' → KdP G' k
theorem XtP.rf {G : Gg} : XtP G G := ⟨Nat.le_refl _, fun _ _ => ⟨rfl, rfl, rfl⟩, fun k h1 h2 => absurd h2 (by omega)⟩
theorem XtP.tr {G G1 G2 : Gg} (h : XtP G G1) (h2 : XtP G1 G2) : XtP G G2 := by
  refine ⟨Nat.le_trans h.1 h2.1, fun k hk => ?_, fun k hk1 hk2 => ?_⟩
  · obtain ⟨a, b, c⟩ := h.2.1 k hk
    obtain ⟨a2, b2, c2⟩ := h2.2.1 k (Nat.lt_of_lt_of_le hk h.1)
    exact ⟨a2.trans a, b2.trans b, c2.trans c⟩
  · by_cases e : k < gN G1
    · have z := h.2.2 k hk1 e
      unfold KdP at z ⊢
      rw [(h2.2.1 k e).2.1]; exact z
    · exact h2.2.2 k (by omega) hk2
theorem XtP.add {G : Gg} {q kd : Nat} (hk : kd = 1 ∨ kd = 2 ∨ kd = 3 ∨ kd = 6 ∨ kd = 8) : XtP G (gAdd G q kd 0) := by
  refine ⟨Nat.le_succ _, fun k h => ⟨gAdd_A (by omega), gAdd_K (by omega), gAdd_Z (by omega)⟩, fun k h1 h2 => ?_⟩
  have h3 : k < gN G + 1 := h2
  have e : k = gN G := by omega
  unfold KdP
  rw [e, gAdd_Ks]; exact hk
theorem GrG.xt {G G' : Gg} (hG : GrG G) (h : XtP G G') : GrG G' := by
  obtain ⟨a, b, c, d⟩ := hG
  refine ⟨Nat.le_trans a h.1, fun k hk => (h.2.1 k (by omega)).2.1.trans (b k hk), fun k hk => (h.2.1 k (by omega)).2.2.trans (c k hk), fun k h1 h2 => ?_⟩
  by_cases e : k < gN G
  · rw [(h.2.1 k e).2.1]; exact d k h1 e
  · exact h.2.2 k (by omega) h2
/-- what reading may change: the reader, the pass of role h, its row of parties; cells made since -/
def ChR (G : Gg) (h : Nat) (S S' : Sg) : Prop := ∀ k, k < gN G → ((k ≠ 12 → k ≠ h → k ≠ h + 1 → k ≠ h + 2 → gi S' k = gi S k ∧ gj S' k = gj S k) ∧ (k ≠ h + 7 → gp S' k = gp S k))
theorem ChR.rf {G : Gg} {h : Nat} {S : Sg} : ChR G h S S := fun _ _ => ⟨fun _ _ _ _ => ⟨rfl, rfl⟩, fun _ => rfl⟩
theorem ChR.tr {G : Gg} {h : Nat} {S T U : Sg} (a : ChR G h S T) (b : ChR G h T U) : ChR G h S U := fun k hk => ⟨fun x y z w => ⟨((b k hk).1 x y z w).1.trans ((a k hk).1 x y z w).1, ((b k hk).1 x y z w).2.trans ((a k hk).1 x y z w).2⟩, fun x => ((b k hk).2 x).trans ((a k hk).2 x)⟩
theorem ChR.narrow {G G1 : Gg} {h : Nat} {S T : Sg} (hN : gN G ≤ gN G1) (a : ChR G1 h S T) : ChR G h S T := fun k hk => a k (Nat.lt_of_lt_of_le hk hN)
theorem ChR.ch {G : Gg} {h : Nat} {S S' : Sg} {P : Nat → Prop} (a : Ch P S S') (hP : ∀ k, P k → k = 12 ∨ k = h ∨ k = h + 1 ∨ k = h + 2) : ChR G h S S' := fun k _ => ⟨fun x y z w => a.2 k (fun q => by rcases hP k q with e | e | e | e <;> omega), fun _ => by rw [a.1]⟩
theorem lk0_b : ∀ q ∈ lk0, q.1 < 75 ∧ q.2.2 < 75 ∧ q.1 ≠ 40 ∧ q.1 ≠ 48 ∧ q.1 ≠ 56 ∧ q.1 ≠ 64 := by decide
theorem GrP.xt {G G' : Gg} {S S' : Sg} {h : Nat} (hG : GrG G) (hP : GrP G S) (hh : PassR h) (hX : XtP G G') (hC : ChR G h S S') : GrP G' S' := by
  intro q hq
  have b := lk0_b q hq
  have h75 := hG.1
  rw [(hC q.1 (by omega)).2 (by rcases hh with e | e | e | e <;> omega), hP q hq, (hX.2.1 q.2.2 (by omega)).1]
theorem ptB_n {B : Nat → Nat} {m w t k : Nat} (h1 : k ≠ 17) (h2 : k ≠ 18 + B 17) (h3 : k ≠ 34 + B 17) (h4 : k ≠ 50 + B 17) : ptB B m w t k = B k := by unfold ptB; rw [if_neg h2, if_neg h3, if_neg h4, if_neg h1]
theorem ptB_17 {B : Nat → Nat} {m w t : Nat} : ptB B m w t 17 = B 17 + 1 := by unfold ptB; rw [if_neg (by omega), if_neg (by omega), if_neg (by omega), if_pos rfl]
theorem ptB_h {B : Nat → Nat} {m w t : Nat} : ptB B m w t (18 + B 17) = m := by unfold ptB; rw [if_pos rfl]
theorem ptB_w {B : Nat → Nat} {m w t : Nat} : ptB B m w t (34 + B 17) = w := by unfold ptB; rw [if_neg (by omega), if_pos rfl]
theorem ptB_t {B : Nat → Nat} {m w t : Nat} : ptB B m w t (50 + B 17) = t := by unfold ptB; rw [if_neg (by omega), if_neg (by omega), if_pos rfl]
/-- a party more in the spare pass -/
theorem SpX.party {G : Gg} {S S2 : Sg} {h m w t q kd : Nat} {B : Nat → Nat} {row : Nat → Int32} (hs : SpX G S h B) (hG : GrG G) (hh : PassR h) (h17 : B 17 < 16) (h46 : B 4 ≤ 6) (hkd : kd = kdF w m) (hr0 : row 0 = nI (B 17)) (hr1 : row 1 = nI m) (hr2 : row 2 = nI t)
    (hE : S2 = ri (rp (ri (sAdd G S) (gN G) row) (h + 7) (va_up (gp (ri (sAdd G S) (gN G) row) (h + 7)) (B 17) (some q))) h (va_up (gi (ri (sAdd G S) (gN G) row) h) 6 (nI (B 17 + 1)))) :
    SpX (gAdd G q kd 0) S2 h (ptB B m w t) ∧ ChR G h S S2 ∧ gi S2 12 = gi S 12 ∧ gi S2 13 = gi S 13 := by
  have h75 := hG.1
  have hh7 : h + 7 < 75 := by rcases hh with e | e | e | e <;> omega
  have hh12 : 13 < h := by rcases hh with e | e | e | e <;> omega
  obtain ⟨r0, ⟨s1, s2, s3, s4, s5, s6, s7, s8⟩, r2, r3, r4, r5⟩ := hs
  have eh : gi S2 h = va_up (gi S h) 6 (nI (B 17 + 1)) := by
    rw [hE]
    refine (e_is _ _ _).trans ?_
    rw [show gi (ri (sAdd G S) (gN G) row) h = gi S h from e_in (by omega) (sAdd_i (by omega))]
  have ei : ∀ k, k ≠ h → k ≠ gN G → gi S2 k = gi S k := fun k h1 h2 => by rw [hE]; exact e_in h1 (e_ip (e_in h2 (sAdd_i h2)))
  have en : gi S2 (gN G) = row := by rw [hE]; exact e_in (by omega) (e_ip (e_is _ _ _))
  have ej : ∀ k, k ≠ gN G → gj S2 k = gj S k := fun k h2 => by rw [hE]; exact sAdd_j h2
  have ep7 : gp S2 (h + 7) = va_up (gp S (h + 7)) (B 17) (some q) := by
    rw [hE]
    refine (e_pi (e_ps _ _ _)).trans ?_
    rw [show gp (ri (sAdd G S) (gN G) row) (h + 7) = gp S (h + 7) from e_pi (sAdd_p (by omega))]
  have ep : ∀ k, k ≠ h + 7 → k ≠ gN G → gp S2 k = gp S k := fun k h1 h2 => by rw [hE]; exact e_pi (e_pn h1 (e_pi (sAdd_p h2)))
  refine ⟨⟨by rw [eh]; exact r0, ⟨?_, ?_, ?_, ?_, ?_, ?_, by rw [eh]; exact s7, by rw [eh]; exact s8⟩, fun i hi => ?_, ?_, fun i hi => ?_, fun j hj => ?_⟩, fun k hk => ⟨fun x y _ _ => ⟨ei k y (by omega), ej k (by omega)⟩, fun x => ep k x (by omega)⟩, ei 12 (by omega) (by omega), ei 13 (by omega) (by omega)⟩
  · rw [eh, ptB_n (by omega) (by omega) (by omega) (by omega)]; exact s1
  · rw [eh, ptB_n (by omega) (by omega) (by omega) (by omega)]; exact s2
  · rw [eh, ptB_n (by omega) (by omega) (by omega) (by omega)]; exact s3
  · rw [eh, ptB_n (by omega) (by omega) (by omega) (by omega)]; exact s4
  · rw [eh, ptB_n (by omega) (by omega) (by omega) (by omega)]; exact s5
  · rw [eh, ptB_17]; rfl
  · rw [ptB_n (by omega) (by omega) (by omega) (by omega)] at hi
    rw [ei (h + 1) (by omega) (by omega), ei (h + 2) (by omega) (by omega), ptB_n (by omega) (by omega) (by omega) (by omega), ptB_n (by omega) (by omega) (by omega) (by omega)]
    exact r2 i hi
  · unfold RPp; rw [ei (h + 3) (by omega) (by omega), ei (h + 4) (by omega) (by omega), ei (h + 5) (by omega) (by omega), ei (h + 6) (by omega) (by omega)]; exact r3
  · rw [ptB_17] at hi
    by_cases z : i = B 17
    · subst z
      refine ⟨gN G, h75, Nat.lt_succ_self _, ?_, ?_, ?_, ?_, ?_⟩
      · rw [ep7, up_s, gAdd_As]
      · rw [gAdd_Ks, ptB_w, ptB_h]; exact hkd
      · rw [en]; exact hr0
      · rw [en, ptB_h]; exact hr1
      · rw [en, ptB_t]; exact hr2
    · obtain ⟨q0, a1, a2, a3, a4, a5, a6, a7⟩ := r4 i (by omega)
      refine ⟨q0, a1, Nat.lt_succ_of_lt a2, ?_, ?_, ?_, ?_, ?_⟩
      · rw [ep7, up_n _ _ z, a3, gAdd_A (by omega)]
      · rw [gAdd_K (by omega), ptB_n (by omega) (by omega) (by omega) (by omega), ptB_n (by omega) (by omega) (by omega) (by omega)]; exact a4
      · rw [ei q0 (by omega) (by omega)]; exact a5
      · rw [ei q0 (by omega) (by omega), ptB_n (by omega) (by omega) (by omega) (by omega)]; exact a6
      · rw [ei q0 (by omega) (by omega), ptB_n (by omega) (by omega) (by omega) (by omega)]; exact a7
  · rw [ep7]
    by_cases z : j = B 17
    · subst z
      exact Or.inr ⟨gN G, h75, Nat.lt_succ_self _, by rw [up_s, gAdd_As]⟩
    · rw [up_n _ _ z]
      rcases r5 j hj with e | ⟨q0, a1, a2, a3⟩
      · exact Or.inl e
      · exact Or.inr ⟨q0, a1, Nat.lt_succ_of_lt a2, by rw [a3, gAdd_A (by omega)]⟩
theorem pPts_e {T : Nat → Nat} {ts a : Nat} {B : Nat → Nat} (h4 : B 17 ≤ 16) (hw : ¬ isW T ts a 2) : pPts T ts (17 - B 17) B a = .inl (B, a) := by
  rw [show 17 - B 17 = (16 - B 17) + 1 by omega]
  show (if isW T ts a 2 then PB (pParty T ts B a) (fun B' a' => pPts T ts (16 - B 17) B' a') else .inl (B, a)) = _
  rw [if_neg hw]
theorem pPts_s {T : Nat → Nat} {ts a : Nat} {B : Nat → Nat} (h4 : B 17 ≤ 16) (hw : isW T ts a 2) : pPts T ts (17 - B 17) B a = PB (pParty T ts B a) (fun B' a' => pPts T ts (16 - B 17) B' a') := by
  rw [show 17 - B 17 = (16 - B 17) + 1 by omega]
  show (if isW T ts a 2 then PB (pParty T ts B a) (fun B' a' => pPts T ts (16 - B 17) B' a') else .inl (B, a)) = _
  rw [if_pos hw]
