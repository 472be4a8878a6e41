/-! the law's invariant: the class and its reference hold the same -/
theorem BP1.mono {B : Nat → Nat} {c c' : Nat} (h : BP1 B c) (hc : c ≤ c') : BP1 B c' := by
  obtain ⟨a0, a1, a2, a3, a4, a5, a6, a7, a8, a9, a10, a11, a12⟩ := h
  refine ⟨a0, a1, a2, a3, a4, a5, a6, a7, a8, a9, by omega, by omega, fun i hi => ?_⟩
  have z := a12 i hi
  omega
theorem BP.mono {B : Nat → Nat} {c c' : Nat} (h : BP B c) (hc : c ≤ c') : BP B c' := h.elim Or.inl (fun z => Or.inr (z.mono hc))
theorem BP.night {B : Nat → Nat} {c : Nat} (h : BP B c) (a : Int32) : BP (fNight B a).2 (c + 40) := by
  unfold fNight
  split
  · rename_i g
    rcases h with ⟨h1, h2⟩ | h
    · have z := h2 17
      omega
    · have e : a.toNatClampNeg = a.toInt.toNat := rfl
      exact Or.inr ((slB_ok h (p := a.toNatClampNeg) (by omega)).mono (by omega))
  · exact h.mono (by omega)
theorem BP.snow {B : Nat → Nat} {c : Nat} (h : BP B c) (a : Int32) : BP (fSnow B a).2 (c + 40) := by
  unfold fSnow
  split
  · exact h.mono (by omega)
  · split
    · rcases h with ⟨h1, h2⟩ | h
      · rename_i g1 g2
        exact absurd h1 g1
      · exact Or.inr ((snB_ok h).mono (by omega))
    · exact h.mono (by omega)
theorem BP.nights {B : Nat → Nat} {c : Nat} (h : BP B c) (it : Nat → Nat → Int32) (le : Nat → Int32) (st r i n : Int32) : BP (fNights B it le st r i n).2.1 (c + 40) := by
  unfold fNights
  split
  · exact h.mono (by omega)
  · rename_i g0
    split
    · rename_i g1
      split
      · split
        · rename_i g3
          rcases h with ⟨h1, h2⟩ | h
          · exact absurd h1 g0
          · have e : n.toNatClampNeg = n.toInt.toNat := rfl
            refine Or.inr ((ntB_ok h n.toNatClampNeg (fun k hk => ?_)).1.mono (by omega))
            have z := g3 k hk
            have e2 : (it r.toNatClampNeg (i.toNatClampNeg + k)).toNatClampNeg = (it r.toNatClampNeg (i.toNatClampNeg + k)).toInt.toNat := rfl
            show (it r.toNatClampNeg (i.toNatClampNeg + k)).toNatClampNeg < B 17
            omega
        · exact h.mono (by omega)
      · exact h.mono (by omega)
    · exact h.mono (by omega)
theorem BP.pass {B : Nat → Nat} {c : Nat} (h : BP B c) (T : Nat → Nat) (ts lf : Nat) : BP (fPass T ts B lf).2.1 (c + 40) := by
  unfold fPass
  split
  · rename_i g
    exact Or.inr ((pPass_ok g).1.mono (by omega))
  · exact h.mono (by omega)
theorem LeOK.up {le : Nat → Int32} (h : LeOK le) {r : Nat} {v : Int32} (hv : v.toInt = -1 ∨ (0 ≤ v.toInt ∧ v.toInt ≤ 40)) : LeOK (va_up le r v) := by
  intro j hj
  by_cases e : j = r
  · rw [e, up_s]; exact hv
  · rw [up_n _ _ e]; exact h j hj
theorem LeOK.row {le : Nat → Int32} (h : LeOK le) (it : Nat → Nat → Int32) (la : Nat → Int32) (st r l n : Int32) : LeOK (fRow it la le st r l n).2.2.2.1 := by
  unfold fRow
  split
  · rename_i g
    split
    · exact h
    · rename_i g2
      exact h.up (Or.inr ⟨by omega, g.2.2⟩)
  · exact h
theorem LeOK.drop {le : Nat → Int32} (h : LeOK le) (st r : Int32) : LeOK (fDrop le st r).2.1 := by
  unfold fDrop
  split
  · split
    · exact h
    · exact h.up (Or.inl (by decide))
  · exact h
theorem feed_ok {T : Nat → Nat} {ts : Nat} (h4 : ts ≤ 400) (hT : ∀ i, i < ts → T i ≤ 255) (v : Int64) (n : Int32) : (fFeed T ts v n).2.2 ≤ 400 ∧ ∀ i, i < (fFeed T ts v n).2.2 → (fFeed T ts v n).2.1 i ≤ 255 := by
  unfold fFeed
  split
  · split
    · rename_i g
      refine ⟨g, fun i hi => ?_⟩
      have hi : i < ts + n.toNatClampNeg := hi
      show fdT T ts v n.toNatClampNeg i ≤ 255
      unfold fdT
      split
      · exact byt_le _ _
      · exact hT i (by omega)
    · exact ⟨h4, hT⟩
  · exact ⟨h4, hT⟩
theorem trq_len (l : List Int32) : ∀ (a : Int32) (q : Nat → Int32), (l.foldl trQ (a, q)).1 = l.foldl (fun a _ => bgN a) a := by
  induction l with
  | nil => exact fun _ _ => rfl
  | cons x l ih => exact fun a q => ih _ _
theorem szT_len (kd : Nat) : 0 ≤ ((szT kd).foldl (fun a _ => bgN a) 0).toInt ∧ ((szT kd).foldl (fun a _ => bgN a) 0).toInt ≤ 16 := by
  unfold szT
  split
  · decide
  · split
    · decide
    · split
      · decide
      · split <;> decide
theorem mkT_len (kd : Nat) : 0 ≤ ((mkT kd).foldl (fun a _ => bgN a) 0).toInt ∧ ((mkT kd).foldl (fun a _ => bgN a) 0).toInt ≤ 16 := by
  unfold mkT
  split
  · decide
  · split
    · decide
    · split <;> decide
theorem tr_ok {tl : Int32} (h0 : 0 ≤ tl.toInt) (h16 : tl.toInt ≤ 16) (tr : Nat → Int32) (B : Nat → Nat) (a w : Int32) : 0 ≤ (fTr (tl, tr) (fAsk B a w).2).1.toInt ∧ (fTr (tl, tr) (fAsk B a w).2).1.toInt ≤ 16 := by
  unfold fAsk
  split
  · split
    · show 0 ≤ ((szT _).foldl trQ (0, tr)).1.toInt ∧ ((szT _).foldl trQ (0, tr)).1.toInt ≤ 16
      rw [trq_len]; exact szT_len _
    · show 0 ≤ ((mkT _).foldl trQ (0, tr)).1.toInt ∧ ((mkT _).foldl trQ (0, tr)).1.toInt ≤ 16
      rw [trq_len]; exact mkT_len _
  · exact ⟨h0, h16⟩
def IXc (G : Gg) (S : Sg) (h k nw : Nat) (it : Nat → Nat → Int32) (la le : Nat → Int32) (st : Int32) (B B1 B2 T : Nat → Nat) (ts lf : Nat) (tl : Int32) (tr : Nat → Int32) : Prop :=
  (h = 33 ∧ k = 41 ∨ h = 41 ∧ k = 33) ∧ NwR nw ∧ gp S 0 7 = some (gA G h) ∧ gp S 0 8 = some (gA G k) ∧ gp S 14 4 = some (gA G nw) ∧ gp S 14 5 = some (gA G (57 - nw)) ∧ RP G S h B ∧ TdOK G S k ∧ RP G S 49 B1 ∧ RP G S 57 B2 ∧ RowsX S it la le ∧ gi S 0 9 = st ∧ TpX S T ts ∧ gi S 12 6 = nI lf ∧ gi S 30 1 = tl ∧ gi S 31 = tr
def IMc (S : Sg) (it : Nat → Nat → Int32) (la le : Nat → Int32) (st : Int32) (B B1 B2 T : Nat → Nat) (ts lf : Nat) (tl : Int32) (tr : Nat → Int32) : Prop :=
  RowsM S it la le ∧ gi S 65 4 = st ∧ TpM S T ts ∧ gi S 65 14 = nI lf ∧ (∀ k, k < 140 → gj S 66 k = lN (B k)) ∧ (∀ k, k < 140 → gj S 66 (140 + k) = lN (B1 k)) ∧ (∀ k, k < 140 → gj S 66 (280 + k) = lN (B2 k)) ∧ gi S 65 19 = tl ∧ gi S 74 = tr
def IAc (c : Nat) (le : Nat → Int32) (B B1 B2 T : Nat → Nat) (ts : Nat) (tl : Int32) : Prop := c < 90000 ∧ LeOK le ∧ BP B c ∧ BP B1 c ∧ BP B2 c ∧ ts ≤ 400 ∧ (∀ i, i < ts → T i ≤ 255) ∧ 0 ≤ tl.toInt ∧ tl.toInt ≤ 16
def Inv (G : Gg) (S : Sg) (c : Nat) : Prop := ∃ h k nw it la le st B B1 B2 T ts lf tl tr, GrG G ∧ GrP G S ∧ IXc G S h k nw it la le st B B1 B2 T ts lf tl tr ∧ IMc S it la le st B B1 B2 T ts lf tl tr ∧ IAc c le B B1 B2 T ts tl
section INVS
variable {G : Gg} {S S' : Sg} {h k nw : Nat} {it : Nat → Nat → Int32} {la le : Nat → Int32} {st : Int32} {B B1 B2 T : Nat → Nat} {ts lf : Nat} {tl : Int32} {tr : Nat → Int32} {c : Nat}
theorem RowsX.fr (hR : RowsX S it la le) (e : ∀ j, 2 ≤ j ∧ j ≤ 11 → gi S' j = gi S j) : RowsX S' it la le := fun r hr => by
  obtain ⟨a, b, d⟩ := hR r hr
  exact ⟨by rw [e 10 (by omega)]; exact a, by rw [e 11 (by omega)]; exact b, fun j hj => by rw [e (2 + r) (by omega)]; exact d j hj⟩
theorem RowsM.fr (hR : RowsM S it la le) (e : ∀ j, j = 67 ∨ j = 68 ∨ j = 69 → gi S' j = gi S j) : RowsM S' it la le := fun r hr => by
  obtain ⟨a, b, d⟩ := hR r hr
  exact ⟨by rw [e 68 (by omega)]; exact a, by rw [e 69 (by omega)]; exact b, fun j hj => by rw [e 67 (by omega)]; exact d j hj⟩
theorem TpX.fr (hR : TpX S T ts) (e1 : gi S' 12 1 = gi S 12 1) (e : gi S' 13 = gi S 13) : TpX S' T ts := ⟨e1.trans hR.1, fun i hi => (congrFun e i).trans (hR.2 i hi)⟩
theorem TpM.fr (hR : TpM S T ts) (e1 : gi S' 65 7 = gi S 65 7) (e : gi S' 71 = gi S 71) : TpM S' T ts := ⟨e1.trans hR.1, fun i hi => (congrFun e i).trans (hR.2 i hi)⟩
/-- the reference's writes leave the class's side -/
theorem IXc.mod (hI : IXc G S h k nw it la le st B B1 B2 T ts lf tl tr) (ep : gp S' = gp S) (ei : ∀ j, ¬ (65 ≤ j ∧ j ≤ 74) → gi S' j = gi S j) : IXc G S' h k nw it la le st B B1 B2 T ts lf tl tr := by
  obtain ⟨a1, a2, a3, a4, a5, a6, a7, a8, a9, a10, a11, a12, a13, a14, a15, a16⟩ := hI
  have hk : h = 33 ∨ h = 41 := by omega
  exact ⟨a1, a2, by rw [ep]; exact a3, by rw [ep]; exact a4, by rw [ep]; exact a5, by rw [ep]; exact a6, RP_fr a7 (fun j hj => ⟨ei j (by omega), by rw [ep]⟩), a8.p ep, RP_fr a9 (fun j hj => ⟨ei j (by omega), by rw [ep]⟩), RP_fr a10 (fun j hj => ⟨ei j (by omega), by rw [ep]⟩), a11.fr (fun j hj => ei j (by omega)), by rw [ei 0 (by omega)]; exact a12, a13.fr (by rw [ei 12 (by omega)]) (ei 13 (by omega)), by rw [ei 12 (by omega)]; exact a14, by rw [ei 30 (by omega)]; exact a15, by rw [ei 31 (by omega)]; exact a16⟩
/-- the class's writes leave the reference's side -/
theorem IMc.cls (hI : IMc S it la le st B B1 B2 T ts lf tl tr) (e : ∀ j, 65 ≤ j ∧ j ≤ 74 → gi S' j = gi S j ∧ gj S' j = gj S j) : IMc S' it la le st B B1 B2 T ts lf tl tr := by
  obtain ⟨a1, a2, a3, a4, a5, a6, a7, a8, a9⟩ := hI
  exact ⟨a1.fr (fun j hj => (e j (by omega)).1), by rw [(e 65 (by omega)).1]; exact a2, a3.fr (by rw [(e 65 (by omega)).1]) (e 71 (by omega)).1, by rw [(e 65 (by omega)).1]; exact a4, by rw [(e 66 (by omega)).2]; exact a5, by rw [(e 66 (by omega)).2]; exact a6, by rw [(e 66 (by omega)).2]; exact a7, by rw [(e 65 (by omega)).1]; exact a8, by rw [(e 74 (by omega)).1]; exact a9⟩
theorem GrP.of (hP : GrP G S) (ep : gp S' = gp S) : GrP G S' := fun x hx => by rw [ep]; exact hP x hx
theorem GrP.of2 (hP : GrP G S) (ep : ∀ j, j ≠ 40 → j ≠ 48 → j ≠ 56 → j ≠ 64 → gp S' j = gp S j) : GrP G S' := fun x hx => by
  have z : x.1 ≠ 40 ∧ x.1 ≠ 48 ∧ x.1 ≠ 56 ∧ x.1 ≠ 64 := (show ∀ x ∈ lk0, x.1 ≠ 40 ∧ x.1 ≠ 48 ∧ x.1 ≠ 56 ∧ x.1 ≠ 64 by decide) x hx
  rw [ep x.1 z.1 z.2.1 z.2.2.1 z.2.2.2]; exact hP x hx
/-- the class's writes of numbers -/
theorem IXc.ch {P : Nat → Prop} {it' : Nat → Nat → Int32} {la' le' : Nat → Int32} {st' : Int32} {B' T' : Nat → Nat} {ts' : Nat} {tl' : Int32} {tr' : Nat → Int32} (hI : IXc G S h k nw it la le st B B1 B2 T ts lf tl tr) (hC : Ch P S S') (hP : ∀ j, P j → j ≤ 31 ∨ (h ≤ j ∧ j ≤ h + 6)) (n1 : RP G S' h B') (n2 : RowsX S' it' la' le') (n3 : gi S' 0 9 = st') (n4 : TpX S' T' ts') (n5 : gi S' 12 6 = nI lf) (n6 : gi S' 30 1 = tl') (n7 : gi S' 31 = tr') : IXc G S' h k nw it' la' le' st' B' B1 B2 T' ts' lf tl' tr' := by
  obtain ⟨a1, a2, a3, a4, a5, a6, a7, a8, a9, a10, -⟩ := hI
  have hk : h = 33 ∨ h = 41 := by omega
  have ei : ∀ j, 49 ≤ j → gi S' j = gi S j ∧ gp S' j = gp S j := fun j hj => ⟨(hC.2 j (fun z => by have := hP j z; omega)).1, by rw [hC.1]⟩
  exact ⟨a1, a2, by rw [hC.1]; exact a3, by rw [hC.1]; exact a4, by rw [hC.1]; exact a5, by rw [hC.1]; exact a6, n1, a8.p hC.1, RP_fr a9 (fun j hj => ei j (by omega)), RP_fr a10 (fun j hj => ei j (by omega)), n2, n3, n4, n5, n6, n7⟩
theorem IMc.ch {P : Nat → Prop} (hI : IMc S it la le st B B1 B2 T ts lf tl tr) (hC : Ch P S S') (hP : ∀ j, P j → j < 65) : IMc S' it la le st B B1 B2 T ts lf tl tr := hI.cls (fun j hj => hC.2 j (fun z => by have := hP j z; omega))
theorem RP.ch {P : Nat → Prop} (hR : RP G S h B) (hC : Ch P S S') (hP : ∀ j, P j → j < 75 ∧ (j < h ∨ h + 7 < j)) : RP G S' h B := RP_fr hR (fun j hj => ⟨(hC.2 j (fun z => by have := hP j z; omega)).1, by rw [hC.1]⟩)
theorem RowsX.ch {P : Nat → Prop} (hR : RowsX S it la le) (hC : Ch P S S') (hP : ∀ j, P j → j < 2 ∨ 11 < j) : RowsX S' it la le := hR.fr (fun j hj => (hC.2 j (fun z => by have := hP j z; omega)).1)
theorem TpX.ch {P : Nat → Prop} (hR : TpX S T ts) (hC : Ch P S S') (hP : ∀ j, P j → j ≠ 12 ∧ j ≠ 13) : TpX S' T ts := hR.fr (congrFun (hC.2 12 (fun z => (hP _ z).1 rfl)).1 1) (hC.2 13 (fun z => (hP _ z).2 rfl)).1
theorem Ch.g {P : Nat → Prop} {j i : Nat} {v : Int32} (hC : Ch P S S') (hj : ¬ P j) (e : gi S j i = v) : gi S' j i = v := by rw [(hC.2 j hj).1]; exact e
theorem Ch.g' {P : Nat → Prop} {j : Nat} {v : Nat → Int32} (hC : Ch P S S') (hj : ¬ P j) (e : gi S j = v) : gi S' j = v := by rw [(hC.2 j hj).1]; exact e
/-- the class: rows -/
theorem IXc.rows {it' : Nat → Nat → Int32} {la' le' : Nat → Int32} {st' : Int32} (hI : IXc G S h k nw it la le st B B1 B2 T ts lf tl tr) (n2 : RowsX S' it' la' le') (n3 : gi S' 0 9 = st') (hC : Ch (fun j => j = 0 ∨ (2 ≤ j ∧ j ≤ 11)) S S') : IXc G S' h k nw it' la' le' st' B B1 B2 T ts lf tl tr := by
  have hk : h = 33 ∨ h = 41 := by have := hI.1; omega
  have hI2 := hI
  obtain ⟨a1, a2, a3, a4, a5, a6, a7, a8, a9, a10, a11, a12, a13, a14, a15, a16⟩ := hI2
  exact hI.ch hC (fun j z => by omega) (a7.ch hC (fun j z => by omega)) n2 n3 (a13.ch hC (fun j z => by omega)) (hC.g (by omega) a14) (hC.g (by omega) a15) (hC.g' (by omega) a16)
theorem IXc.stt {st' : Int32} (hI : IXc G S h k nw it la le st B B1 B2 T ts lf tl tr) (n3 : gi S' 0 9 = st') (hC : Ch (fun j => j = 0) S S') : IXc G S' h k nw it la le st' B B1 B2 T ts lf tl tr :=
  hI.rows (hI.2.2.2.2.2.2.2.2.2.2.1.ch hC (fun j z => by omega)) n3 (hC.mono (fun j z => Or.inl z))
theorem IXc.hut {st' : Int32} {B' : Nat → Nat} (hI : IXc G S h k nw it la le st B B1 B2 T ts lf tl tr) (n1 : RP G S' h B') (n3 : gi S' 0 9 = st') (hC : Ch (fun j => j = 0 ∨ (h ≤ j ∧ j ≤ h + 6)) S S') : IXc G S' h k nw it la le st' B' B1 B2 T ts lf tl tr := by
  have hk : h = 33 ∨ h = 41 := by have := hI.1; omega
  have hI2 := hI
  obtain ⟨a1, a2, a3, a4, a5, a6, a7, a8, a9, a10, a11, a12, a13, a14, a15, a16⟩ := hI2
  exact hI.ch hC (fun j z => by omega) n1 (a11.ch hC (fun j z => by omega)) n3 (a13.ch hC (fun j z => by omega)) (hC.g (by omega) a14) (hC.g (by omega) a15) (hC.g' (by omega) a16)
theorem IXc.hut0 {B' : Nat → Nat} (hI : IXc G S h k nw it la le st B B1 B2 T ts lf tl tr) (n1 : RP G S' h B') (hC : Ch (fun j => h ≤ j ∧ j ≤ h + 6) S S') : IXc G S' h k nw it la le st B' B1 B2 T ts lf tl tr := by
  have hk : h = 33 ∨ h = 41 := by have := hI.1; omega
  exact hI.hut n1 (hC.g (by omega) hI.2.2.2.2.2.2.2.2.2.2.2.1) (hC.mono (fun j z => Or.inr z))
theorem IXc.feed {T' : Nat → Nat} {ts' : Nat} (hI : IXc G S h k nw it la le st B B1 B2 T ts lf tl tr) (n4 : TpX S' T' ts') (e : ∀ j, j ≠ 1 → gi S' 12 j = gi S 12 j) (hC : Ch (fun j => j = 12 ∨ j = 13) S S') : IXc G S' h k nw it la le st B B1 B2 T' ts' lf tl tr := by
  have hk : h = 33 ∨ h = 41 := by have := hI.1; omega
  have hI2 := hI
  obtain ⟨a1, a2, a3, a4, a5, a6, a7, a8, a9, a10, a11, a12, a13, a14, a15, a16⟩ := hI2
  exact hI.ch hC (fun j z => by omega) (a7.ch hC (fun j z => by omega)) (a11.ch hC (fun j z => by omega)) (hC.g (by omega) a12) n4 ((e 6 (by decide)).trans a14) (hC.g (by omega) a15) (hC.g' (by omega) a16)
theorem IXc.ask {tl' : Int32} {tr' : Nat → Int32} (hI : IXc G S h k nw it la le st B B1 B2 T ts lf tl tr) (n6 : gi S' 30 1 = tl') (n7 : gi S' 31 = tr') (hC : Ch (fun j => j = 30 ∨ j = 31) S S') : IXc G S' h k nw it la le st B B1 B2 T ts lf tl' tr' := by
  have hk : h = 33 ∨ h = 41 := by have := hI.1; omega
  have hI2 := hI
  obtain ⟨a1, a2, a3, a4, a5, a6, a7, a8, a9, a10, a11, a12, a13, a14, a15, a16⟩ := hI2
  exact hI.ch hC (fun j z => by omega) (a7.ch hC (fun j z => by omega)) (a11.ch hC (fun j z => by omega)) (hC.g (by omega) a12) (a13.ch hC (fun j z => by omega)) (hC.g (by omega) a14) n6 n7
theorem IXc.wgh (hI : IXc G S h k nw it la le st B B1 B2 T ts lf tl tr) (hC : Ch (fun j => j = 14 ∨ (16 ≤ j ∧ j ≤ 29)) S S') : IXc G S' h k nw it la le st B B1 B2 T ts lf tl tr := by
  have hk : h = 33 ∨ h = 41 := by have := hI.1; omega
  have hI2 := hI
  obtain ⟨a1, a2, a3, a4, a5, a6, a7, a8, a9, a10, a11, a12, a13, a14, a15, a16⟩ := hI2
  exact hI.ch hC (fun j z => by omega) (a7.ch hC (fun j z => by omega)) (a11.ch hC (fun j z => by omega)) (hC.g (by omega) a12) (a13.ch hC (fun j z => by omega)) (hC.g (by omega) a14) (hC.g (by omega) a15) (hC.g' (by omega) a16)
theorem IXc.send (hI : IXc G S h k nw it la le st B B1 B2 T ts lf tl tr) (hC : ChF G S S') : ∃ nw', IXc G S' h k nw' it la le st B B1 B2 T ts lf tl tr := by
  have hk : h = 33 ∨ h = 41 := by have := hI.1; omega
  obtain ⟨a1, a2, a3, a4, a5, a6, a7, a8, a9, a10, a11, a12, a13, a14, a15, a16⟩ := hI
  obtain ⟨c1, c2, c3, nk, d1, d2, d3⟩ := hC
  have ei : ∀ j, ¬ (14 ≤ j ∧ j ≤ 29) → gi S' j = gi S j ∧ gp S' j = gp S j := fun j hj => ⟨(c1 j (by omega)).1, c2 j (by omega)⟩
  have e0 := ei 0 (by omega)
  exact ⟨nk, a1, d1, by rw [e0.2]; exact a3, by rw [e0.2]; exact a4, d2, d3, RP_fr a7 (fun j hj => ei j (by omega)), by unfold TdOK; rw [(ei (k + 7) (by omega)).2]; exact a8, RP_fr a9 (fun j hj => ei j (by omega)), RP_fr a10 (fun j hj => ei j (by omega)), a11.fr (fun j hj => (ei j (by omega)).1), by rw [e0.1]; exact a12, a13.fr (by rw [(ei 12 (by omega)).1]) (ei 13 (by omega)).1, by rw [(ei 12 (by omega)).1]; exact a14, by rw [(ei 30 (by omega)).1]; exact a15, by rw [(ei 31 (by omega)).1]; exact a16⟩
theorem GrP.send (hP : GrP G S) (hC : ChF G S S') : GrP G S' := fun x hx => by
  obtain ⟨c1, c2, c3, -⟩ := hC
  have z : x.1 = 14 → x.2.1 ≠ 4 ∧ x.2.1 ≠ 5 := (show ∀ x ∈ lk0, x.1 = 14 → x.2.1 ≠ 4 ∧ x.2.1 ≠ 5 by decide) x hx
  by_cases e : x.1 = 14
  · have z := z e
    have y := hP x hx
    rw [e] at y ⊢
    rw [c3 x.2.1 z.1 z.2]; exact y
  · rw [c2 x.1 e]; exact hP x hx
theorem IXc.image1 (hI : IXc G S h k nw it la le st B B1 B2 T ts lf tl tr) (n : RP G S' 49 B) (hC : Ch3 (fun j => 49 ≤ j ∧ j ≤ 49 + 7) S S') : IXc G S' h k nw it la le st B B B2 T ts lf tl tr := by
  have hk : h = 33 ∨ h = 41 := by have := hI.1; omega
  obtain ⟨a1, a2, a3, a4, a5, a6, a7, a8, a9, a10, a11, a12, a13, a14, a15, a16⟩ := hI
  have ei : ∀ j, ¬ (49 ≤ j ∧ j ≤ 56) → gi S' j = gi S j ∧ gp S' j = gp S j := fun j hj => ⟨(hC j (by omega)).1, (hC j (by omega)).2.2⟩
  have e0 := ei 0 (by omega)
  exact ⟨a1, a2, by rw [e0.2]; exact a3, by rw [e0.2]; exact a4, by rw [(ei 14 (by omega)).2]; exact a5, by rw [(ei 14 (by omega)).2]; exact a6, RP_fr a7 (fun j hj => ei j (by omega)), by unfold TdOK; rw [(ei (k + 7) (by omega)).2]; exact a8, n, RP_fr a10 (fun j hj => ei j (by omega)), a11.fr (fun j hj => (ei j (by omega)).1), by rw [e0.1]; exact a12, a13.fr (by rw [(ei 12 (by omega)).1]) (ei 13 (by omega)).1, by rw [(ei 12 (by omega)).1]; exact a14, by rw [(ei 30 (by omega)).1]; exact a15, by rw [(ei 31 (by omega)).1]; exact a16⟩
theorem IXc.image2 (hI : IXc G S h k nw it la le st B B1 B2 T ts lf tl tr) (n : RP G S' 57 B) (hC : Ch3 (fun j => 57 ≤ j ∧ j ≤ 57 + 7) S S') : IXc G S' h k nw it la le st B B1 B T ts lf tl tr := by
  have hk : h = 33 ∨ h = 41 := by have := hI.1; omega
  obtain ⟨a1, a2, a3, a4, a5, a6, a7, a8, a9, a10, a11, a12, a13, a14, a15, a16⟩ := hI
  have ei : ∀ j, ¬ (57 ≤ j ∧ j ≤ 64) → gi S' j = gi S j ∧ gp S' j = gp S j := fun j hj => ⟨(hC j (by omega)).1, (hC j (by omega)).2.2⟩
  have e0 := ei 0 (by omega)
  exact ⟨a1, a2, by rw [e0.2]; exact a3, by rw [e0.2]; exact a4, by rw [(ei 14 (by omega)).2]; exact a5, by rw [(ei 14 (by omega)).2]; exact a6, RP_fr a7 (fun j hj => ei j (by omega)), by unfold TdOK; rw [(ei (k + 7) (by omega)).2]; exact a8, RP_fr a9 (fun j hj => ei j (by omega)), n, a11.fr (fun j hj => (ei j (by omega)).1), by rw [e0.1]; exact a12, a13.fr (by rw [(ei 12 (by omega)).1]) (ei 13 (by omega)).1, by rw [(ei 12 (by omega)).1]; exact a14, by rw [(ei 30 (by omega)).1]; exact a15, by rw [(ei 31 (by omega)).1]; exact a16⟩
theorem IXc.restore {B' : Nat → Nat} (hI : IXc G S h k nw it la le st B B1 B2 T ts lf tl tr) (n : RP G S' h B') (hC : Ch3 (fun j => h ≤ j ∧ j ≤ h + 7) S S') : IXc G S' h k nw it la le st B' B1 B2 T ts lf tl tr := by
  have hk : h = 33 ∨ h = 41 := by have := hI.1; omega
  obtain ⟨a1, a2, a3, a4, a5, a6, a7, a8, a9, a10, a11, a12, a13, a14, a15, a16⟩ := hI
  have ei : ∀ j, ¬ (h ≤ j ∧ j ≤ h + 7) → gi S' j = gi S j ∧ gp S' j = gp S j := fun j hj => ⟨(hC j hj).1, (hC j hj).2.2⟩
  have e0 := ei 0 (by omega)
  exact ⟨a1, a2, by rw [e0.2]; exact a3, by rw [e0.2]; exact a4, by rw [(ei 14 (by omega)).2]; exact a5, by rw [(ei 14 (by omega)).2]; exact a6, n, by unfold TdOK; rw [(ei (k + 7) (by omega)).2]; exact a8, RP_fr a9 (fun j hj => ei j (by omega)), RP_fr a10 (fun j hj => ei j (by omega)), a11.fr (fun j hj => (ei j (by omega)).1), by rw [e0.1]; exact a12, a13.fr (by rw [(ei 12 (by omega)).1]) (ei 13 (by omega)).1, by rw [(ei 12 (by omega)).1]; exact a14, by rw [(ei 30 (by omega)).1]; exact a15, by rw [(ei 31 (by omega)).1]; exact a16⟩
/-- the reference -/
theorem IMc.rows {it' : Nat → Nat → Int32} {la' le' : Nat → Int32} {st' : Int32} (hI : IMc S it la le st B B1 B2 T ts lf tl tr) (n1 : RowsM S' it' la' le') (n2 : gi S' 65 4 = st') (e : ∀ j, j ≠ 4 → gi S' 65 j = gi S 65 j) (hC : Ch (fun j => j = 65 ∨ (67 ≤ j ∧ j ≤ 70)) S S') : IMc S' it' la' le' st' B B1 B2 T ts lf tl tr := by
  obtain ⟨a1, a2, a3, a4, a5, a6, a7, a8, a9⟩ := hI
  have e66 := (hC.2 66 (by omega)).2
  exact ⟨n1, n2, a3.fr (e 7 (by decide)) (hC.2 71 (by omega)).1, (e 14 (by decide)).trans a4, by rw [e66]; exact a5, by rw [e66]; exact a6, by rw [e66]; exact a7, (e 19 (by decide)).trans a8, hC.g' (by omega) a9⟩
theorem IMc.stt {st' : Int32} (hI : IMc S it la le st B B1 B2 T ts lf tl tr) (n2 : gi S' 65 4 = st') (e : ∀ j, j ≠ 4 → gi S' 65 j = gi S 65 j) (hC : Ch (fun j => j = 65) S S') : IMc S' it la le st' B B1 B2 T ts lf tl tr :=
  hI.rows (hI.1.fr (fun j hj => (hC.2 j (by omega)).1)) n2 e (hC.mono (fun j z => Or.inl z))
theorem IMc.nts {B' : Nat → Nat} {st' : Int32} (hI : IMc S it la le st B B1 B2 T ts lf tl tr) (n1 : ∀ k, k < 140 → gj S' 66 k = lN (B' k)) (n3 : ∀ k, 140 ≤ k → gj S' 66 k = gj S 66 k) (n2 : gi S' 65 4 = st') (e : ∀ j, j ≠ 4 → gi S' 65 j = gi S 65 j) (hC : Ch (fun j => j = 65 ∨ j = 66) S S') : IMc S' it la le st' B' B1 B2 T ts lf tl tr := by
  obtain ⟨a1, a2, a3, a4, a5, a6, a7, a8, a9⟩ := hI
  exact ⟨a1.fr (fun j hj => (hC.2 j (by omega)).1), n2, a3.fr (e 7 (by decide)) (hC.2 71 (by omega)).1, (e 14 (by decide)).trans a4, n1, fun j hj => (n3 _ (by omega)).trans (a6 j hj), fun j hj => (n3 _ (by omega)).trans (a7 j hj), (e 19 (by decide)).trans a8, hC.g' (by omega) a9⟩
theorem IMc.hut {B' : Nat → Nat} (hI : IMc S it la le st B B1 B2 T ts lf tl tr) (n : RMw S S' B') : IMc S' it la le st B' B1 B2 T ts lf tl tr := by
  have e := (n.2.2.2 65 (by omega)).1
  exact hI.nts n.1 n.2.1 (by rw [e]; exact hI.2.1) (fun j _ => congrFun e j) (n.2.2.mono (fun j z => Or.inr z))
theorem IMc.feed {T' : Nat → Nat} {ts' : Nat} (hI : IMc S it la le st B B1 B2 T ts lf tl tr) (n : TpM S' T' ts') (e : ∀ j, j ≠ 7 → gi S' 65 j = gi S 65 j) (hC : Ch (fun j => j = 65 ∨ j = 71) S S') : IMc S' it la le st B B1 B2 T' ts' lf tl tr := by
  obtain ⟨a1, a2, a3, a4, a5, a6, a7, a8, a9⟩ := hI
  have e66 := (hC.2 66 (by omega)).2
  exact ⟨a1.fr (fun j hj => (hC.2 j (by omega)).1), (e 4 (by decide)).trans a2, n, (e 14 (by decide)).trans a4, by rw [e66]; exact a5, by rw [e66]; exact a6, by rw [e66]; exact a7, (e 19 (by decide)).trans a8, hC.g' (by omega) a9⟩
theorem IMc.wgh (hI : IMc S it la le st B B1 B2 T ts lf tl tr) (n : ChW S S') : IMc S' it la le st B B1 B2 T ts lf tl tr := by
  obtain ⟨a1, a2, a3, a4, a5, a6, a7, a8, a9⟩ := hI
  have e66 := n.2.2 66 (by omega)
  exact ⟨a1.fr (fun j hj => by rw [n.2.1]), by rw [n.2.1]; exact a2, a3.fr (by rw [n.2.1]) (by rw [n.2.1]), by rw [n.2.1]; exact a4, by rw [e66]; exact a5, by rw [e66]; exact a6, by rw [e66]; exact a7, by rw [n.2.1]; exact a8, by rw [n.2.1]; exact a9⟩
theorem IMc.ask {tl' : Int32} {tr' : Nat → Int32} (hI : IMc S it la le st B B1 B2 T ts lf tl tr) (n6 : gi S' 65 19 = tl') (n7 : gi S' 74 = tr') (n : ChT S S') : IMc S' it la le st B B1 B2 T ts lf tl' tr' := by
  obtain ⟨a1, a2, a3, a4, a5, a6, a7, a8, a9⟩ := hI
  have e := n.2.2.2
  exact ⟨a1.fr (fun j hj => n.2.2.1 j (by omega) (by omega)), (e 4 (by decide)).trans a2, a3.fr (e 7 (by decide)) (n.2.2.1 71 (by omega) (by omega)), (e 14 (by decide)).trans a4, by rw [n.2.1]; exact a5, by rw [n.2.1]; exact a6, by rw [n.2.1]; exact a7, n6, n7⟩
theorem IMc.image1 (hI : IMc S it la le st B B1 B2 T ts lf tl tr) (n1 : ∀ k, k < 140 → gj S' 66 (140 + k) = lN (B k)) (n2 : ∀ k, (k < 140 ∨ 280 ≤ k) → gj S' 66 k = gj S 66 k) (hC : Ch (fun j => j = 66) S S') : IMc S' it la le st B B B2 T ts lf tl tr := by
  obtain ⟨a1, a2, a3, a4, a5, a6, a7, a8, a9⟩ := hI
  exact ⟨a1.fr (fun j hj => (hC.2 j (by omega)).1), hC.g (by omega) a2, a3.fr (congrFun (hC.2 65 (by omega)).1 7) (hC.2 71 (by omega)).1, hC.g (by omega) a4, fun j hj => (n2 _ (by omega)).trans (a5 j hj), n1, fun j hj => (n2 _ (by omega)).trans (a7 j hj), hC.g (by omega) a8, hC.g' (by omega) a9⟩
theorem IMc.image2 (hI : IMc S it la le st B B1 B2 T ts lf tl tr) (n1 : ∀ k, k < 140 → gj S' 66 (280 + k) = lN (B k)) (n2 : ∀ k, (k < 280 ∨ 420 ≤ k) → gj S' 66 k = gj S 66 k) (hC : Ch (fun j => j = 66) S S') : IMc S' it la le st B B1 B T ts lf tl tr := by
  obtain ⟨a1, a2, a3, a4, a5, a6, a7, a8, a9⟩ := hI
  exact ⟨a1.fr (fun j hj => (hC.2 j (by omega)).1), hC.g (by omega) a2, a3.fr (congrFun (hC.2 65 (by omega)).1 7) (hC.2 71 (by omega)).1, hC.g (by omega) a4, fun j hj => (n2 _ (by omega)).trans (a5 j hj), fun j hj => (n2 _ (by omega)).trans (a6 j hj), n1, hC.g (by omega) a8, hC.g' (by omega) a9⟩
theorem IMc.pass {B' : Nat → Nat} {lf' : Nat} (hI : IMc S it la le st B B1 B2 T ts lf tl tr) (n1 : ∀ k, k < 140 → gj S' 66 k = lN (B' k)) (n2 : ∀ k, 140 ≤ k → k < 420 → gj S' 66 k = gj S 66 k) (n3 : gi S' 65 14 = nI lf') (n4 : gi S' 65 7 = 0) (e : ∀ j, j < 7 ∨ 14 < j → gi S' 65 j = gi S 65 j) (hC : Ch (fun j => j = 65 ∨ j = 66) S S') : IMc S' it la le st B' B1 B2 T 0 lf' tl tr := by
  obtain ⟨a1, a2, a3, a4, a5, a6, a7, a8, a9⟩ := hI
  exact ⟨a1.fr (fun j hj => (hC.2 j (by omega)).1), (e 4 (by omega)).trans a2, ⟨n4, fun i hi => absurd hi (Nat.not_lt_zero _)⟩, n3, n1, fun j hj => (n2 _ (by omega) (by omega)).trans (a6 j hj), fun j hj => (n2 _ (by omega) (by omega)).trans (a7 j hj), (e 19 (by omega)).trans a8, hC.g' (by omega) a9⟩
/-- the class reads a pass -/
theorem IXc.pass {G' : Gg} {B' : Nat → Nat} {lf' h' k' : Nat} (hG : GrG G) (hI : IXc G S h k nw it la le st B B1 B2 T ts lf tl tr) (hX : XtP G G') (hk' : h' = 33 ∧ k' = 41 ∨ h' = 41 ∧ k' = 33) (n1 : gp S' 0 7 = some (gA G' h')) (n2 : gp S' 0 8 = some (gA G' k')) (n3 : RP G' S' h' B') (n4 : TdOK G' S' k') (n5 : gi S' 12 6 = nI lf') (n6 : gi S' 12 1 = 0) (e : ∀ j, j < gN G → (j ≠ 12 → ¬ (33 ≤ j ∧ j ≤ 48) → gi S' j = gi S j ∧ gj S' j = gj S j) ∧ (j ≠ 0 → j ≠ 40 → j ≠ 48 → gp S' j = gp S j)) : IXc G' S' h' k' nw it la le st B' B1 B2 T 0 lf' tl tr := by
  have h75 := hG.1
  obtain ⟨a1, a2, a3, a4, a5, a6, a7, a8, a9, a10, a11, a12, a13, a14, a15, a16⟩ := hI
  have ei : ∀ j, j < gN G → j ≠ 12 → ¬ (33 ≤ j ∧ j ≤ 48) → gi S' j = gi S j := fun j hj x y => ((e j hj).1 x y).1
  have ep : ∀ j, j < gN G → j ≠ 0 → j ≠ 40 → j ≠ 48 → gp S' j = gp S j := fun j hj => (e j hj).2
  have hn : nw = 28 ∨ nw = 29 := a2
  exact ⟨hk', a2, n1, n2, by rw [ep 14 (by omega) (by omega) (by omega) (by omega), (hX.2.1 nw (by omega)).1]; exact a5, by rw [ep 14 (by omega) (by omega) (by omega) (by omega), (hX.2.1 (57 - nw) (by omega)).1]; exact a6, n3, n4, a9.xt hX (fun j hj => ⟨ei j (by omega) (by omega) (by omega), ep j (by omega) (by omega) (by omega) (by omega)⟩), a10.xt hX (fun j hj => ⟨ei j (by omega) (by omega) (by omega), ep j (by omega) (by omega) (by omega) (by omega)⟩), a11.fr (fun j hj => ei j (by omega) (by omega) (by omega)), by rw [ei 0 (by omega) (by omega) (by omega)]; exact a12, ⟨n6, fun i hi => absurd hi (Nat.not_lt_zero _)⟩, n5, by rw [ei 30 (by omega) (by omega) (by omega)]; exact a15, by rw [ei 31 (by omega) (by omega) (by omega)]; exact a16⟩
theorem GrP.pass {G' : Gg} (hG : GrG G) (hP : GrP G S) (hX : XtP G G') (e : ∀ j, j < gN G → (j ≠ 12 → ¬ (33 ≤ j ∧ j ≤ 48) → gi S' j = gi S j ∧ gj S' j = gj S j) ∧ (j ≠ 0 → j ≠ 40 → j ≠ 48 → gp S' j = gp S j)) (e0 : ∀ f, f ≠ 7 → f ≠ 8 → gp S' 0 f = gp S 0 f) : GrP G' S' := fun x hx => by
  have h75 := hG.1
  have z : x.1 < 75 ∧ x.2.2 < 75 ∧ x.1 ≠ 40 ∧ x.1 ≠ 48 ∧ (x.1 = 0 → x.2.1 ≠ 7 ∧ x.2.1 ≠ 8) := (show ∀ x ∈ lk0, x.1 < 75 ∧ x.2.2 < 75 ∧ x.1 ≠ 40 ∧ x.1 ≠ 48 ∧ (x.1 = 0 → x.2.1 ≠ 7 ∧ x.2.1 ≠ 8) by decide) x hx
  rw [(hX.2.1 x.2.2 (by omega)).1]
  have y := hP x hx
  by_cases q : x.1 = 0
  · rw [q] at y ⊢
    rw [e0 x.2.1 (z.2.2.2.2 q).1 (z.2.2.2.2 q).2]; exact y
  · rw [(e x.1 (by omega)).2 q z.2.2.1 z.2.2.2.1]; exact y
theorem IMc.xpass {G' : Gg} (hG : GrG G) (hI : IMc S it la le st B B1 B2 T ts lf tl tr) (e : ∀ j, j < gN G → (j ≠ 12 → ¬ (33 ≤ j ∧ j ≤ 48) → gi S' j = gi S j ∧ gj S' j = gj S j) ∧ (j ≠ 0 → j ≠ 40 → j ≠ 48 → gp S' j = gp S j)) : IMc S' it la le st B B1 B2 T ts lf tl tr :=
  hI.cls (fun j hj => (e j (by have := hG.1; omega)).1 (by omega) (by omega))
/-- the numbers' bounds, a call on -/
theorem IAc.nx {le' : Nat → Int32} {B' B1' B2' T' : Nat → Nat} {ts' : Nat} {tl' : Int32} (hA : IAc c le B B1 B2 T ts tl) (hc : c + 40 < 90000) (n1 : LeOK le') (n2 : BP B' (c + 40)) (n3 : BP B1' (c + 40)) (n4 : BP B2' (c + 40)) (n5 : ts' ≤ 400) (n6 : ∀ i, i < ts' → T' i ≤ 255) (n7 : 0 ≤ tl'.toInt ∧ tl'.toInt ≤ 16) : IAc (c + 40) le' B' B1' B2' T' ts' tl' := ⟨hc, n1, n2, n3, n4, n5, n6, n7.1, n7.2⟩
theorem IAc.b (hA : IAc c le B B1 B2 T ts tl) : BP B (c + 40) ∧ BP B1 (c + 40) ∧ BP B2 (c + 40) := ⟨hA.2.2.1.mono (by omega), hA.2.2.2.1.mono (by omega), hA.2.2.2.2.1.mono (by omega)⟩
theorem IAc.same (hA : IAc c le B B1 B2 T ts tl) (hc : c + 40 < 90000) : IAc (c + 40) le B B1 B2 T ts tl := ⟨hc, hA.2.1, hA.b.1, hA.b.2.1, hA.b.2.2, hA.2.2.2.2.2⟩
theorem IAc.hut {B' : Nat → Nat} (hA : IAc c le B B1 B2 T ts tl) (hc : c + 40 < 90000) (n : BP B' (c + 40)) : IAc (c + 40) le B' B1 B2 T ts tl := ⟨hc, hA.2.1, n, hA.b.2.1, hA.b.2.2, hA.2.2.2.2.2⟩
theorem IAc.rows (hA : IAc c le B B1 B2 T ts tl) (hc : c + 40 < 90000) {le' : Nat → Int32} (n : LeOK le') : IAc (c + 40) le' B B1 B2 T ts tl := ⟨hc, n, hA.b.1, hA.b.2.1, hA.b.2.2, hA.2.2.2.2.2⟩
end INVS
