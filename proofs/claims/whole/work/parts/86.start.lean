/-! the world at the law's entry -/
theorem fw_ex : ∀ i, i < 10 → Cond.exactly (.string "WoodForTwo$Reader" (sIdx.getD i 0)) "java/lang/String" ∈ flatC (Jvm.Cond.and given_1 narrow_1) := by decide +kernel
theorem fw_co : ∀ i, i < 10 → Cond.eq (.field (.string "WoodForTwo$Reader" (sIdx.getD i 0)) "java/lang/String" "coder" "B") (.int 0) ∈ flatC (Jvm.Cond.and given_1 narrow_1) := by decide +kernel
theorem fw_ar : ∀ i, i < 10 → Cond.arrayOf (.field (.string "WoodForTwo$Reader" (sIdx.getD i 0)) "java/lang/String" "value" "[B") .byte ∈ flatC (Jvm.Cond.and given_1 narrow_1) := by decide +kernel
theorem fw_le : ∀ i, i < 10 → Cond.eq (.length (.field (.string "WoodForTwo$Reader" (sIdx.getD i 0)) "java/lang/String" "value" "[B")) (.int (Int32.ofNat (sLen.getD i 0))) ∈ flatC (Jvm.Cond.and given_1 narrow_1) := by decide +kernel
theorem fw_el : ∀ i, i < 10 → ∀ j, j < sLen.getD i 0 → Cond.eq (.elem (.field (.string "WoodForTwo$Reader" (sIdx.getD i 0)) "java/lang/String" "value" "[B") (.int (Int32.ofNat j))) (.int ((sByt.getD i []).getD j 0)) ∈ flatC (Jvm.Cond.and given_1 narrow_1) := by decide +kernel
theorem fw_ne : ∀ i, i < 10 → ∀ j, j < 10 → i ≠ j → Cond.not (Cond.eq (.string "WoodForTwo$Reader" (sIdx.getD i 0)) (.string "WoodForTwo$Reader" (sIdx.getD j 0))) ∈ flatC (Jvm.Cond.and given_1 narrow_1) ∨ Cond.not (Cond.eq (.string "WoodForTwo$Reader" (sIdx.getD j 0)) (.string "WoodForTwo$Reader" (sIdx.getD i 0))) ∈ flatC (Jvm.Cond.and given_1 narrow_1) := by decide +kernel
theorem fw_nc : ∀ q ∈ nwN, Cond.not (.castable q.1 q.2) ∈ flatC (Jvm.Cond.and given_1 narrow_1) := by decide +kernel
theorem fw_cs : Cond.eq (.static "java/lang/String" "COMPACT_STRINGS" "Z") (.int 1) ∈ flatC (Jvm.Cond.and given_1 narrow_1) := by decide +kernel
theorem fw_sf : Cond.isRef (.static "jdk/internal/util/Preconditions" "SIOOBE_FORMATTER" "Ljava/util/function/BiFunction;") ∈ flatC (Jvm.Cond.and given_1 narrow_1) := by decide +kernel
theorem tw_sr : ∀ i, i < 10 → Cond.stringRef "WoodForTwo$Reader" (sIdx.getD i 0) (sTxt.getD i "") ∈ lw_tbl := by decide +kernel
theorem tw_f : ∀ q ∈ nwF, Cond.fieldLinkNest "WoodForTwo" q.1 q.2.1 q.2.2.1 q.2.2.2 "WoodForTwo" ∈ lw_tbl := by decide +kernel
theorem tw_m : ∀ q ∈ nwM, Cond.methodLinkNest "WoodForTwo" q.1 ⟨q.2, "<init>", "()V"⟩ "WoodForTwo" ∈ lw_tbl := by decide +kernel
theorem tw_c : ∀ q ∈ nwC, Cond.castable q.1 q.2 ∈ lw_tbl := by decide +kernel
theorem tw_d : ∀ x ∈ nwD, Cond.declares x ∈ lw_tbl := by decide +kernel
theorem tw_i0 : Cond.instantiable RX0 10 ∈ lw_tbl := by decide +kernel
theorem tw_i1 : Cond.instantiable RX1 3 ∈ lw_tbl := by decide +kernel
theorem tw_i2 : Cond.instantiable RX2 3 ∈ lw_tbl := by decide +kernel
theorem tw_i3 : Cond.instantiable RX3 3 ∈ lw_tbl := by decide +kernel
theorem tw_i4 : Cond.instantiable RX5 16 ∈ lw_tbl := by decide +kernel
theorem tw_i5 : Cond.instantiable RX6 8 ∈ lw_tbl := by decide +kernel
theorem tw_i6 : Cond.instantiable RX7 3 ∈ lw_tbl := by decide +kernel
theorem tw_i7 : Cond.instantiable RX8 2 ∈ lw_tbl := by decide +kernel
theorem tw_i8 : Cond.instantiable RX9 3 ∈ lw_tbl := by decide +kernel
theorem tw_i9 : Cond.instantiable RX10 10 ∈ lw_tbl := by decide +kernel
theorem tw_i10 : Cond.instantiable RX11 20 ∈ lw_tbl := by decide +kernel
theorem tw_ab : Cond.arrayClass .byte ∈ lw_tbl := by decide +kernel
theorem tw_ai : Cond.arrayClass .int ∈ lw_tbl := by decide +kernel
theorem tw_al : Cond.arrayClass .long ∈ lw_tbl := by decide +kernel
theorem tw_oP : Cond.arrayOver (.object "WoodForTwo$Party") ∈ lw_tbl := by decide +kernel
theorem tw_oQ : Cond.arrayOver (.object "WoodForTwo$Pass") ∈ lw_tbl := by decide +kernel
theorem tw_oI : Cond.arrayOver (.array .int) ∈ lw_tbl := by decide +kernel
theorem tw_oJ : Cond.arrayOver (.array .long) ∈ lw_tbl := by decide +kernel
theorem tw_lc : Cond.laysStatic "java/lang/String" "COMPACT_STRINGS" "Z" ∈ lw_tbl := by decide +kernel
theorem tw_ls : Cond.laysStatic "jdk/internal/util/Preconditions" "SIOOBE_FORMATTER" "Ljava/util/function/BiFunction;" ∈ lw_tbl := by decide +kernel
theorem tw_ns : Cond.initialized "java/lang/String" ∈ lw_tbl := by decide +kernel
theorem tw_np : Cond.initialized "jdk/internal/util/Preconditions" ∈ lw_tbl := by decide +kernel
set_option maxHeartbeats 4000000 in
theorem lw_world {p : Program} {s : State} {m : MethodId} {meth : Method} {c : Code} {b L : Nat} {xs : Nat → Int32} (C0 : lw_At p s m meth c b L xs) : ∃ D : Dc, va_K D.1 vwCl (tyl D.2.1) s ∧ StrOK D (fun q : Nat => s.heap.size ≤ q) s s.heap := by
  obtain ⟨hx, hb, hr, hml, hown, hts, hX, hbl, hlocks, hgv⟩ := C0
  have hg := flat_of_before _ hgv
  have hA : ∀ a : Nat, a < s.heap.size → ¬ (fun q : Nat => s.heap.size ≤ q) a := fun a h => Nat.not_le.mpr h
  obtain ⟨c0, i0, h0⟩ := u_known (C := RX0) (T := TX0) (N := 10) (n := 10) hts ikX00 (hts _ tw_i0)
  obtain ⟨c1, i1, h1⟩ := u_known (C := RX1) (T := TX1) (N := 3) (n := 3) hts ikX10 (hts _ tw_i1)
  obtain ⟨c2, i2, h2⟩ := u_known (C := RX2) (T := TX2) (N := 3) (n := 3) hts ikX20 (hts _ tw_i2)
  obtain ⟨c3, i3, h3⟩ := u_known (C := RX3) (T := TX3) (N := 3) (n := 3) hts ikX30 (hts _ tw_i3)
  obtain ⟨c4, i4, h4⟩ := u_known (C := RX5) (T := TX5) (N := 16) (n := 16) hts ikX50 (hts _ tw_i4)
  obtain ⟨c5, i5, h5⟩ := u_known (C := RX6) (T := TX6) (N := 8) (n := 8) hts ikX60 (hts _ tw_i5)
  obtain ⟨c6, i6, h6⟩ := u_known (C := RX7) (T := TX7) (N := 3) (n := 3) hts ikX70 (hts _ tw_i6)
  obtain ⟨c7, i7, h7⟩ := u_known (C := RX8) (T := TX8) (N := 2) (n := 2) hts ikX80 (hts _ tw_i7)
  obtain ⟨c8, i8, h8⟩ := u_known (C := RX9) (T := TX9) (N := 3) (n := 3) hts ikX90 (hts _ tw_i8)
  obtain ⟨c9, i9, h9⟩ := u_known (C := RX10) (T := TX10) (N := 10) (n := 10) hts ikX100 (hts _ tw_i9)
  obtain ⟨c10, i10, h10⟩ := u_known (C := RX11) (T := TX11) (N := 20) (n := 20) hts ikX110 (hts _ tw_i10)
  obtain ⟨cB, kB, dB, nB, qB, eB⟩ := Cond.arrayClass_spec (hts _ tw_ab)
  obtain ⟨cI, kI, dI, nI, qI, eI⟩ := Cond.arrayClass_spec (hts _ tw_ai)
  obtain ⟨cJ, kJ, dJ, nJ, qJ, eJ⟩ := Cond.arrayClass_spec (hts _ tw_al)
  obtain ⟨dP, cP, kP, fP, -, qP, eP, nP⟩ := Cond.arrayOver_spec (hts _ tw_oP)
  obtain ⟨dQ, cQ, kQ, fQ, -, qQ, eQ, nQ⟩ := Cond.arrayOver_spec (hts _ tw_oQ)
  obtain ⟨dII, cII, kII, fII, -, qII, eII, nII⟩ := arrayOverA_spec (hts _ tw_oI)
  obtain ⟨dJJ, cJJ, kJJ, fJJ, -, qJJ, eJJ, nJJ⟩ := arrayOverA_spec (hts _ tw_oJ)
  obtain ⟨adK, adV, hS, hE⟩ := vk_Sof (args := #[Value.ref b]) (s := s) (N := 10) (tm := fun i => .string "WoodForTwo$Reader" (sIdx.getD i 0)) (len := sLen) (byt := sByt) (A := fun q : Nat => s.heap.size ≤ q) (by decide) (fun i hi => hg _ (fw_ex i hi)) (fun i hi => hg _ (fw_co i hi)) (fun i hi => hg _ (fw_ar i hi)) (fun i hi => hg _ (fw_le i hi)) (fun i hi j hj => hg _ (fw_el i hi j hj)) (fun i j hi hj hij => by
    rcases fw_ne i hi j hj hij with z | z
    · exact Or.inl (hg _ z)
    · exact Or.inr (hg _ z)) hA
  refine ⟨((fun k => if k = 0 then c0 else if k = 1 then c1 else if k = 2 then c2 else if k = 3 then c3 else if k = 4 then c4 else if k = 5 then c5 else if k = 6 then c6 else if k = 7 then c7 else if k = 8 then c8 else if k = 9 then c9 else c10, fun k => if k = 0 then i0 else if k = 1 then i1 else if k = 2 then i2 else if k = 3 then i3 else if k = 4 then i4 else if k = 5 then i5 else if k = 6 then i6 else if k = 7 then i7 else if k = 8 then i8 else if k = 9 then i9 else i10), fun k => if k = 11 then cB else if k = 12 then cI else if k = 13 then cJ else if k = 14 then cP else if k = 15 then cQ else if k = 16 then cII else cJJ, adK, adV), ⟨?_, ?_⟩, hS, ?_, ?_, ?_, ?_⟩
  · intro k q hq
    match k, hq with
    | 0, hq => cases hq; exact h0
    | 1, hq => cases hq; exact h1
    | 2, hq => cases hq; exact h2
    | 3, hq => cases hq; exact h3
    | 4, hq => cases hq; exact h4
    | 5, hq => cases hq; exact h5
    | 6, hq => cases hq; exact h6
    | 7, hq => cases hq; exact h7
    | 8, hq => cases hq; exact h8
    | 9, hq => cases hq; exact h9
    | 10, hq => cases hq; exact h10
    | k + 11, hq => simp [vwCl] at hq
  · intro k q hq
    match k, hq with
    | 0, hq => cases hq; exact ⟨fun n z => ⟨fun k h => (by cases h), kB, qB, dB, eB⟩, nB⟩
    | 1, hq => cases hq; exact ⟨fun n z => ⟨fun k h => (by cases h), kI, qI, dI, eI⟩, nI⟩
    | 2, hq => cases hq; exact ⟨fun n z => ⟨fun k h => (by cases h), kJ, qJ, dJ, eJ⟩, nJ⟩
    | 3, hq => cases hq; exact ⟨fun n z => ⟨fun k h => (by cases h), kP, qP, dP, eP⟩, kP, dP, qP, eP, fP, nP⟩
    | 4, hq => cases hq; exact ⟨fun n z => ⟨fun k h => (by cases h), kQ, qQ, dQ, eQ⟩, kQ, dQ, qQ, eQ, fQ, nQ⟩
    | 5, hq => cases hq; exact ⟨fun n z => ⟨fun k h => (by cases h), kII, qII, dII, eII⟩, nII⟩
    | 6, hq => cases hq; exact ⟨fun n z => ⟨fun k h => (by cases h), kJJ, qJJ, dJJ, eJJ⟩, nJJ⟩
    | k + 7, hq => simp [tyl] at hq
  · exact fun i hi => vk_R.of (hts _ (tw_sr i hi)) (hE i hi)
  · exact va_Zof (hts _ tw_lc) (hts _ tw_ns) (va_eqt (hg _ fw_cs)) hA
  · exact va_Zqof (hts _ tw_ls) (hts _ tw_np) (hg _ fw_sf) hA
  · exact ⟨fun q hq => va_Nw.of rfl (hts _ (tw_f q hq)), fun q hq => va_Nw.of rfl (hts _ (tw_m q hq)), fun q hq => va_Nw.of rfl (hts _ (tw_c q hq)), fun q hq => va_Nc.of (hg _ (fw_nc q hq)), fun x hx => va_Nw.of rfl (hts _ (tw_d x hx)), va_AO.of (hts _ tw_oQ), va_AO.of (hts _ tw_oP), hts _ tw_oI, hts _ tw_oJ⟩
