/-! the reference reads: its new pass stands in the rows from 420 on -/
theorem pNum_f {T : Nat → Nat} {ts lo hi a f p : Nat} (h : pNum T ts lo hi a = .inr (f, p)) : 1 ≤ f ∧ f ≤ 3 := by
  unfold pNum at h
  split at h
  · split at h
    · cases h
    · cases h; omega
  · cases h; omega
theorem pNum_i {T : Nat → Nat} {ts lo hi a v e : Nat} (h : pNum T ts lo hi a = .inl (v, e)) : tS T ts a = 2 ∧ v = tV T ts a ∧ e = tE T ts a := by
  unfold pNum at h
  split at h
  · split at h
    · cases h; exact ⟨by assumption, rfl, rfl⟩
    · cases h
  · cases h
theorem pSign_f {T : Nat → Nat} {ts a f p : Nat} (h : pSign T ts a = .inr (f, p)) : 1 ≤ f ∧ f ≤ 3 := by
  unfold pSign at h
  split at h
  · cases h
  · cases h; omega
theorem pLaw_f {T : Nat → Nat} {ts a f p : Nat} (h : pLaw T ts a = .inr (f, p)) : 1 ≤ f ∧ f ≤ 3 := by
  unfold pLaw at h
  split at h
  · cases h
  · split at h
    · cases h
    · split at h
      · cases h
      · cases h; omega
theorem pWay_f {T : Nat → Nat} {ts a f p : Nat} (h : pWay T ts a = .inr (f, p)) : 1 ≤ f ∧ f ≤ 3 := by
  unfold pWay at h
  split at h
  · cases h
  · split at h
    · cases h
    · split at h
      · cases h
      · split at h
        · cases h
        · cases h; omega
def NwM (S : Sg) (B : Nat → Nat) : Prop := ∀ k, k < 140 → gj S 66 (420 + k) = lN (B k)
def FrM (S S' : Sg) : Prop := (∀ j, j < 8 ∨ 13 < j → gi S' 65 j = gi S 65 j) ∧ (∀ k, k < 420 → gj S' 66 k = gj S 66 k) ∧ Ch (fun k => k = 65 ∨ k = 66) S S'
theorem FrM.rf {S : Sg} : FrM S S := ⟨fun _ _ => rfl, fun _ _ => rfl, Ch.rf⟩
theorem FrM.tr {S T U : Sg} (h : FrM S T) (h2 : FrM T U) : FrM S U := ⟨fun j hj => (h2.1 j hj).trans (h.1 j hj), fun k hk => (h2.2.1 k hk).trans (h.2.1 k hk), Ch.tr h.2.2 h2.2.2⟩
theorem FrM.ok {S S' : Sg} {T : Nat → Nat} {ts a : Nat} (h : OkM S S' T ts a) : FrM S S' := ⟨fun j hj => h.2.1 j (by omega) (by omega) (by omega) (by omega), fun k _ => congrFun (h.2.2.2 66 (by decide)).2 k, Ch.mono h.2.2 (fun _ hk => Or.inl hk)⟩
theorem FrM.fl {S S' : Sg} {f p : Nat} (h : FlM S S' f p) : FrM S S' := ⟨h.2.2.1, fun k _ => congrFun (h.2.2.2.2 66 (by decide)).2 k, Ch.mono h.2.2.2 (fun _ hk => Or.inl hk)⟩
theorem FrM.rj {S T : Sg} {r : Nat → Int64} (h : FrM S T) (hr : ∀ k, k < 420 → r k = gj T 66 k) : FrM S (rj T 66 r) := ⟨h.1, fun k hk => (congrFun (e_js _ _ _) k).trans ((hr k hk).trans (h.2.1 k hk)), Ch.rj h.2.2 (Or.inr rfl)⟩
theorem FrM.ri {S T : Sg} {r : Nat → Int32} (h : FrM S T) (hr : ∀ j, j < 8 ∨ 13 < j → r j = gi T 65 j) : FrM S (ri T 65 r) := ⟨fun j hj => (congrFun (e_is _ _ _) j).trans ((hr j hj).trans (h.1 j hj)), h.2.1, Ch.ri h.2.2 (Or.inl rfl)⟩
def OkN (S S' : Sg) (T : Nat → Nat) (ts : Nat) (B : Nat → Nat) (a : Nat) : Prop := AtM S' T ts a ∧ NwM S' B ∧ FrM S S'
def FlN (S S' : Sg) (f p : Nat) : Prop := gi S' 65 12 = nI f ∧ gi S' 65 13 = nI p ∧ (1 ≤ f ∧ f ≤ 3) ∧ FrM S S'
theorem hutJ {r : Nat → Int64} {w b l n : Nat} (h : ∀ k, k < 140 → r (420 + k) = lN (if k = 132 then 1 else 0)) : ∀ k, k < 140 → va_up (va_up (va_up (va_up r 420 (lN w)) 421 (lN b)) 422 (lN l)) 423 (lN n) (420 + k) = lN (hutB w b l n k) := by
  intro k hk
  rcases (show k = 0 ∨ k = 1 ∨ k = 2 ∨ k = 3 ∨ 4 ≤ k by omega) with e | e | e | e | e
  · subst e; rw [up_n _ _ (by decide), up_n _ _ (by decide), up_n _ _ (by decide)]; exact up_s _ _ _
  · subst e; rw [up_n _ _ (by decide), up_n _ _ (by decide)]; exact up_s _ _ _
  · subst e; rw [up_n _ _ (by decide)]; exact up_s _ _ _
  · subst e; exact up_s _ _ _
  · rw [up_n _ _ (by omega), up_n _ _ (by omega), up_n _ _ (by omega), up_n _ _ (by omega), h k hk]
    unfold hutB
    rw [if_neg (show ¬ k = 0 by omega), if_neg (show ¬ k = 1 by omega), if_neg (show ¬ k = 2 by omega), if_neg (show ¬ k = 3 by omega)]
theorem chJ {r : Nat → Int64} {B : Nat → Nat} {s o : Nat} (h : ∀ k, k < 140 → r (420 + k) = lN (B k)) (h4 : B 4 < 6) : ∀ k, k < 140 → va_up (va_up (va_up r (425 + B 4) (lN s)) (431 + B 4) (lN o)) 424 (lN (B 4 + 1)) (420 + k) = lN (chB B s o k) := by
  intro k hk
  unfold chB
  by_cases e1 : k = 5 + B 4
  · rw [if_pos e1, up_n _ _ (by omega), up_n _ _ (by omega), show 420 + k = 425 + B 4 by omega, up_s]
  · rw [if_neg e1]
    by_cases e2 : k = 11 + B 4
    · rw [if_pos e2, up_n _ _ (by omega), show 420 + k = 431 + B 4 by omega, up_s]
    · rw [if_neg e2]
      by_cases e3 : k = 4
      · subst e3; rw [if_pos rfl]; exact up_s _ _ _
      · rw [if_neg e3, up_n _ _ (by omega), up_n _ _ (by omega), up_n _ _ (by omega), h k hk]
theorem ptJ {r : Nat → Int64} {B : Nat → Nat} {m w t : Nat} (h : ∀ k, k < 140 → r (420 + k) = lN (B k)) (h4 : B 17 < 16) : ∀ k, k < 140 → va_up (va_up (va_up (va_up r (438 + B 17) (lN m)) (454 + B 17) (lN w)) (470 + B 17) (lN t)) 437 (lN (B 17 + 1)) (420 + k) = lN (ptB B m w t k) := by
  intro k hk
  unfold ptB
  by_cases e1 : k = 18 + B 17
  · rw [if_pos e1, up_n _ _ (by omega), up_n _ _ (by omega), up_n _ _ (by omega), show 420 + k = 438 + B 17 by omega, up_s]
  · rw [if_neg e1]
    by_cases e2 : k = 34 + B 17
    · rw [if_pos e2, up_n _ _ (by omega), up_n _ _ (by omega), show 420 + k = 454 + B 17 by omega, up_s]
    · rw [if_neg e2]
      by_cases e4 : k = 50 + B 17
      · rw [if_pos e4, up_n _ _ (by omega), show 420 + k = 470 + B 17 by omega, up_s]
      · rw [if_neg e4]
        by_cases e3 : k = 17
        · subst e3; rw [if_pos rfl]; exact up_s _ _ _
        · rw [if_neg e3, up_n _ _ (by omega), up_n _ _ (by omega), up_n _ _ (by omega), up_n _ _ (by omega), h k hk]
theorem pChance_f {T : Nat → Nat} {ts a : Nat} {B : Nat → Nat} {q : Nat × Nat} (hB : Tld B) (h4 : B 4 < 6) (h : pNum T ts 0 9 (tE T ts a) = .inr q) : pChance T ts B a = .inr q := by
  unfold pChance
  rw [if_neg (by omega)]
  by_cases c : tS T ts (tE T ts a) = 2 ∧ agn B (tV T ts (tE T ts a)) (B 4) = true
  · exfalso
    obtain ⟨i, hi, e⟩ := (agn_i _).mp c.2
    have b7 := hB.1.2.2.2.2.2.2.2.1 i hi
    unfold pNum at h
    rw [if_pos c.1, if_pos (by omega)] at h
    cases h
  · rw [if_neg c, PB_r h]
theorem pChance_g {T : Nat → Nat} {ts a v e : Nat} {B : Nat → Nat} (h4 : B 4 < 6) (h : pNum T ts 0 9 (tE T ts a) = .inl (v, e)) (hg : agn B v (B 4) = true) : pChance T ts B a = .inr (2, SK T ts (tE T ts a)) := by
  obtain ⟨h1, h2, h3⟩ := pNum_i h
  unfold pChance
  rw [if_neg (by omega), if_pos ⟨h1, by rw [← h2]; exact hg⟩]
theorem pChance_n {T : Nat → Nat} {ts a v e : Nat} {B : Nat → Nat} (h4 : B 4 < 6) (h : pNum T ts 0 9 (tE T ts a) = .inl (v, e)) (hg : agn B v (B 4) = false) : pChance T ts B a = PB (pNum T ts 1 9 e) fun o a3 => PB (pSign T ts a3) fun _ a4 => .inl (chB B v o, a4) := by
  obtain ⟨h1, h2, h3⟩ := pNum_i h
  unfold pChance
  rw [if_neg (by omega), if_neg (fun z => by rw [← h2, hg] at z; cases z.2), PB_l h]
set_option maxHeartbeats 4000000 in
set_option maxRecDepth 100000 in
theorem t_X11_takeNumber9 (l : Launch) (D : Dc) (G : Gg) (S : Sg) (z : Nat) (hG : GrG G) (hP : GrP G S) (T : Nat → Nat) (ts : Nat) (ht4 : ts ≤ 400) (hTB : ∀ i, i < ts → T i ≤ 255) (a : Nat) (hAt : AtM S T ts a) (lo hi : Nat) (hlo : lo ≤ 1000) (hhi : hi ≤ 1000) : MI l yX11_takeNumber wsX11_takeNumber rmX11_takeNumber D G S z [.ref (gA G 65), .int (nI lo), .int (nI hi)] (fun r S' => (∃ v e, pNum T ts lo hi a = .inl (v, e) ∧ r = nI v ∧ OkM S S' T ts e ∧ gi S' 65 9 = nI (SK T ts a)) ∨ (∃ f p, pNum T ts lo hi a = .inr (f, p) ∧ FlM S S' f p)) := by
  refine Met.ofW (cc := cX11_takeNumber) (maxL := 4) (ret := (some .int)) (by decide +kernel) rfl ?_
  intro pP eE s mM args bl mT cD s₁ bD hml hv
  obtain ⟨rfl, hv⟩ := hv
  have hz := hv.1
  subst hz
  have hx := bD.exec
  have hb := bD.bytes
  have hr := bD.returns
  have hts := atoms_spec (ws := wsX11_takeNumber) bD.pre
  have hown : s.vm.findClass RX11 = some mM.cls := findClass_of_methodNamed bD.named
  have hlocks := bD.notSynchronized
  have hW := Wd.start hv
  have hA : ∀ q, s.heap.size ≤ q → AW G s.heap.size q := fun q h => Or.inr h
  have hl := lv_entry ([.ref (gA G 65), .int (nI lo), .int (nI hi)]) (n := 4) (Nat.le_of_ble_eq_true rfl)
  rw [lg_entry_eq]
  generalize (lg_sl ([.ref (gA G 65), .int (nI lo), .int (nI hi)]) ++ List.replicate (4 - (lg_sl ([.ref (gA G 65), .int (nI lo), .int (nI hi)])).length) Slot.unset).toArray = ls at hl ⊢
  have hl : lv_has ls 4 [(0, .ref (gA G 65)), (1, .int (nI lo)), (2, .int (nI hi))] := hl
  have q0 := hts (.fieldLink RX11 109 "WoodForTwoModel" "faultOf" "I") (List.mem_of_getElem? (i := 1) rfl)
  have q1 := hts (.fieldLink RX11 100 "WoodForTwoModel" "token" "I") (List.mem_of_getElem? (i := 2) rfl)
  have q2 := hts (.fieldLink RX11 97 "WoodForTwoModel" "value" "I") (List.mem_of_getElem? (i := 3) rfl)
  have iX11 : ∀ w ∈ wsX110, w ∈ wsX11_takeNumber := fun _ h => List.mem_cons_of_mem _ (List.mem_append_right _ (h))
  refine lv_aload_n hx hb dX11_takeNumber_0 rfl (lv_at hl 0 rfl) ?_
  refine r_geti (ci := 10) (C := RX11) (T := TX11) (N := 20) hx hb hts iX11 hown hW rfl 65 12 rfl (g_lt hG (by decide)) (g_kd hG (by decide) rfl) (by decide) q0 (fun _ h9 => h9) 0 hAt.2.2.2 rfl rfl dX11_takeNumber_1 ?_
  refine lv_if_le (tgt := 9) hx hb dX11_takeNumber_4 (by decide) (fun c4 => ?_) (fun c4 => ?_)
  · skip
    refine lv_aload_n hx hb dX11_takeNumber_9 rfl (lv_at hl 0 rfl) ?_
    refine r_callv hW hA (va_runV (As := []) (rest := []) ⟨hx, hb, hml, hown, hts⟩ (t_X11_goOn l D G S _ hG hP T ts ht4 hTB hAt.1 a hAt.2.2.1 hAt.2.1) (cwV 0 hts gX11_takeNumber_X11_goOn rfl rfl rfl (by decide +kernel) ⟨Nat.le_of_ble_eq_true rfl, Nat.le_of_ble_eq_true rfl⟩) (r_preV (k := 65) hA hW (ci := 10) (C := RX11) (T := TX11) (N := 20) rfl rfl (g_lt hG (by decide)) (g_kd hG (by decide) rfl) rfl rfl) rfl rfl hl.1 rfl (lv_room (Nat.le_of_ble_eq_true rfl)) dX11_takeNumber_10 ⟨Nat.zero_le _, Nat.zero_le _⟩) (fun SG H locs hpG hW => ?_)
    obtain ⟨hTk, hfr, hCg⟩ := hpG
    have hP_SG : GrP G SG := fun q hq => by rw [hCg.1]; exact hP q hq
    have hXG : TpM SG T ts := ⟨(hfr 7 (by decide) (by decide) (by decide) (by decide)).trans hAt.1.1, fun i hi => (congrFun (hCg.2 71 (by decide)).1 i).trans (hAt.1.2 i hi)⟩
    have h12G : gi SG 65 12 = 0 := (hfr 12 (by decide) (by decide) (by decide) (by decide)).trans hAt.2.2.2
    have hle := tE_le (T := T) hAt.2.2.1
    have htl := tS_le (T := T) (ts := ts) (a := a)
    refine lv_aload_n hx hb dX11_takeNumber_13 rfl (lv_at hl 0 rfl) ?_
    refine lv_aload_n hx hb dX11_takeNumber_14 rfl (lv_at hl 0 rfl) ?_
    refine r_geti (ci := 10) (C := RX11) (T := TX11) (N := 20) hx hb hts iX11 hown hW rfl 65 10 rfl (g_lt hG (by decide)) (g_kd hG (by decide) rfl) (by decide) q1 (fun _ h9 => h9) (nI (tS T ts a)) hTk.2.1 rfl rfl dX11_takeNumber_15 ?_
    refine lv_iconst (v := 2) hx hb dX11_takeNumber_18 (by decide) ?_
    refine lv_icmp_ne (tgt := 26) hx hb dX11_takeNumber_19 (by decide) (fun c19 => ?_) (fun c19 => ?_)
    · skip
      have hs2 : ¬ tS T ts a = 2 := fun z => c19 (by rw [z]; rfl)
      refine lv_iconst (v := 0) hx hb dX11_takeNumber_26 (by decide) ?_
      refine lv_iconst (v := 1) hx hb dX11_takeNumber_27 (by decide) ?_
      refine W.eq (g2 := F0 mM 28 ls [.int (nI 1), .int 0, .ref (gA G 65)]) rfl ?_
      refine r_calli hW hA (va_runV (As := [.int 0, .int (nI 1)]) (rest := []) ⟨hx, hb, hml, hown, hts⟩ (t_X11_want_no l D G SG _ hG hP_SG 1 h12G (by decide)) (cwV 2 hts gX11_takeNumber_X11_want rfl rfl rfl (by decide +kernel) ⟨Nat.le_of_ble_eq_true rfl, Nat.le_of_ble_eq_true rfl⟩) (r_preV (k := 65) hA hW (ci := 10) (C := RX11) (T := TX11) (N := 20) rfl rfl (g_lt hG (by decide)) (g_kd hG (by decide) rfl) rfl rfl) rfl rfl hl.1 rfl (lv_room (Nat.le_of_ble_eq_true rfl)) dX11_takeNumber_28 ⟨Nat.zero_le _, Nat.zero_le _⟩) (fun r28 S28 H locs hp28 hW => ?_)
      obtain ⟨rfl, hs28⟩ := hp28
      rw [hs28] at hW
      refine lv_if_eq (tgt := 52) hx hb dX11_takeNumber_31 (by decide) (fun c31 => ?_) (fun c31 => ?_)
      · skip
        refine lv_aload_n hx hb dX11_takeNumber_52 rfl (lv_at hl 0 rfl) ?_
        refine r_geti (ci := 10) (C := RX11) (T := TX11) (N := 20) hx hb hts iX11 hown hW rfl 65 11 rfl (g_lt hG (by decide)) (g_kd hG (by decide) rfl) (by decide) q2 (fun _ h9 => h9) (gi SG 65 11) (congrFun (e_is _ _ _) 11) rfl rfl dX11_takeNumber_53 ?_
        refine r_iret hx hb hr hlocks hW ?_ dX11_takeNumber_56
        refine Or.inr ⟨1, SK T ts a, ?_, ⟨congrFun (e_is _ _ _) 12, (congrFun (e_is _ _ _) 13).trans hTk.1, fun j hj => (congrFun (e_is _ _ _) j).trans ((up_n _ _ (by omega)).trans ((up_n _ _ (by omega)).trans (hfr j (by omega) (by omega) (by omega) (by omega)))), Ch.tr hCg (Ch.ri Ch.rf rfl)⟩⟩
        unfold pNum; rw [if_neg hs2]
      · exact absurd (by decide) c31
    · skip
      have hs2 : tS T ts a = 2 := (n_eq (b := 2) (by omega) (by decide)).mp c19
      have htv := tV_le hs2
      refine lv_iconst (v := 1) hx hb dX11_takeNumber_22 (by decide) ?_
      refine lv_goto (tgt := 27) hx hb dX11_takeNumber_23 (by decide) ?_
      refine lv_iconst (v := 1) hx hb dX11_takeNumber_27 (by decide) ?_
      refine W.eq (g2 := F0 mM 28 ls [.int (nI 1), .int 1, .ref (gA G 65)]) rfl ?_
      refine r_calli hW hA (va_runV (As := [.int 1, .int (nI 1)]) (rest := []) ⟨hx, hb, hml, hown, hts⟩ (t_X11_want_ok l D G SG _ hG hP_SG 1 h12G) (cwV 2 hts gX11_takeNumber_X11_want rfl rfl rfl (by decide +kernel) ⟨Nat.le_of_ble_eq_true rfl, Nat.le_of_ble_eq_true rfl⟩) (r_preV (k := 65) hA hW (ci := 10) (C := RX11) (T := TX11) (N := 20) rfl rfl (g_lt hG (by decide)) (g_kd hG (by decide) rfl) rfl rfl) rfl rfl hl.1 rfl (lv_room (Nat.le_of_ble_eq_true rfl)) dX11_takeNumber_28 ⟨Nat.zero_le _, Nat.zero_le _⟩) (fun r28 S28 H locs hp28 hW => ?_)
      obtain ⟨rfl, hs28⟩ := hp28
      rw [hs28] at hW
      refine lv_if_eq (tgt := 52) hx hb dX11_takeNumber_31 (by decide) (fun c31 => ?_) (fun c31 => ?_)
      · exact absurd c31 (by decide)
      · skip
        refine lv_aload_n hx hb dX11_takeNumber_34 rfl (lv_at hl 0 rfl) ?_
        refine lv_aload_n hx hb dX11_takeNumber_35 rfl (lv_at hl 0 rfl) ?_
        refine r_geti (ci := 10) (C := RX11) (T := TX11) (N := 20) hx hb hts iX11 hown hW rfl 65 11 rfl (g_lt hG (by decide)) (g_kd hG (by decide) rfl) (by decide) q2 (fun _ h9 => h9) (nI (tV T ts a)) (hTk.2.2.2 hs2) rfl rfl dX11_takeNumber_36 ?_
        refine lv_i2l hx hb dX11_takeNumber_39 rfl ?_
        rw [show (Int32.toInt64 (nI (tV T ts a)) : Int64) = lN (tV T ts a) from lN_of (by omega)]
        refine lv_iload_n hx hb dX11_takeNumber_40 rfl (lv_at hl 1 rfl) ?_
        refine lv_i2l hx hb dX11_takeNumber_41 rfl ?_
        rw [show (Int32.toInt64 (nI lo) : Int64) = lN lo from lN_of (by omega)]
        refine lv_iload_n hx hb dX11_takeNumber_42 rfl (lv_at hl 2 rfl) ?_
        refine lv_i2l hx hb dX11_takeNumber_43 rfl ?_
        rw [show (Int32.toInt64 (nI hi) : Int64) = lN hi from lN_of (by omega)]
        refine r_calli hW hA (va_runS (As := [.long (lN (tV T ts a)), .long (lN lo), .long (lN hi)]) (rest := [.ref (gA G 65)]) ⟨hx, hb, hml, hown, hts⟩ (t_X11_in l D G SG _ (lN (tV T ts a)) (lN lo) (lN hi) (((tV T ts a) : Nat) : Int) ((lo : Nat) : Int) ((hi : Nat) : Int) (lN_int (by omega)) (lN_int (by omega)) (lN_int (by omega))) (va_cwS 3 hts gX11_takeNumber_X11_in rfl rfl rfl (by decide +kernel) ⟨Nat.le_of_ble_eq_true rfl, Nat.le_of_ble_eq_true rfl⟩) (r_preS hA hW) rfl rfl hl.1 rfl (lv_room (Nat.le_of_ble_eq_true rfl)) dX11_takeNumber_44 ⟨Nat.zero_le _, Nat.zero_le _⟩) (fun r44 S44 H locs hp44 hW => ?_)
        obtain ⟨hs44, hp44⟩ := hp44
        rw [hs44] at hW
        rcases hp44 with ⟨rfl, h44⟩ | ⟨rfl, h44⟩
        · skip
          refine lv_iconst (v := 2) hx hb dX11_takeNumber_47 (by decide) ?_
          refine W.eq (g2 := F0 mM 48 ls [.int (nI 2), .int 1, .ref (gA G 65)]) rfl ?_
          refine r_calli hW hA (va_runV (As := [.int 1, .int (nI 2)]) (rest := []) ⟨hx, hb, hml, hown, hts⟩ (t_X11_want_ok l D G SG _ hG hP_SG 2 h12G) (cwV 2 hts gX11_takeNumber_X11_want rfl rfl rfl (by decide +kernel) ⟨Nat.le_of_ble_eq_true rfl, Nat.le_of_ble_eq_true rfl⟩) (r_preV (k := 65) hA hW (ci := 10) (C := RX11) (T := TX11) (N := 20) rfl rfl (g_lt hG (by decide)) (g_kd hG (by decide) rfl) rfl rfl) rfl rfl hl.1 rfl (lv_room (Nat.le_of_ble_eq_true rfl)) dX11_takeNumber_48 ⟨Nat.zero_le _, Nat.zero_le _⟩) (fun r48 S48 H locs hp48 hW => ?_)
          obtain ⟨rfl, hs48⟩ := hp48
          rw [hs48] at hW
          refine lv_istore_n (lv' := [(3, .int 1), (0, .ref (gA G 65)), (1, .int (nI lo)), (2, .int (nI hi))]) hx hb dX11_takeNumber_51 rfl hl (by decide) rfl (fun ls hl => ?_)
          refine lv_aload_n hx hb dX11_takeNumber_52 rfl (lv_at hl 1 rfl) ?_
          refine r_geti (ci := 10) (C := RX11) (T := TX11) (N := 20) hx hb hts iX11 hown hW rfl 65 11 rfl (g_lt hG (by decide)) (g_kd hG (by decide) rfl) (by decide) q2 (fun _ h9 => h9) (nI (tV T ts a)) (hTk.2.2.2 hs2) rfl rfl dX11_takeNumber_53 ?_
          refine r_iret hx hb hr hlocks hW ?_ dX11_takeNumber_56
          refine Or.inl ⟨tV T ts a, tE T ts a, ?_, rfl, ⟨⟨hXG, hTk.2.2.1 (by omega), hle.1, h12G⟩, hfr, hCg⟩, hTk.1⟩
          unfold pNum; rw [if_pos hs2, if_pos (by omega)]
        · skip
          refine lv_iconst (v := 2) hx hb dX11_takeNumber_47 (by decide) ?_
          refine W.eq (g2 := F0 mM 48 ls [.int (nI 2), .int 0, .ref (gA G 65)]) rfl ?_
          refine r_calli hW hA (va_runV (As := [.int 0, .int (nI 2)]) (rest := []) ⟨hx, hb, hml, hown, hts⟩ (t_X11_want_no l D G SG _ hG hP_SG 2 h12G (by decide)) (cwV 2 hts gX11_takeNumber_X11_want rfl rfl rfl (by decide +kernel) ⟨Nat.le_of_ble_eq_true rfl, Nat.le_of_ble_eq_true rfl⟩) (r_preV (k := 65) hA hW (ci := 10) (C := RX11) (T := TX11) (N := 20) rfl rfl (g_lt hG (by decide)) (g_kd hG (by decide) rfl) rfl rfl) rfl rfl hl.1 rfl (lv_room (Nat.le_of_ble_eq_true rfl)) dX11_takeNumber_48 ⟨Nat.zero_le _, Nat.zero_le _⟩) (fun r48 S48 H locs hp48 hW => ?_)
          obtain ⟨rfl, hs48⟩ := hp48
          rw [hs48] at hW
          refine lv_istore_n (lv' := [(3, .int 0), (0, .ref (gA G 65)), (1, .int (nI lo)), (2, .int (nI hi))]) hx hb dX11_takeNumber_51 rfl hl (by decide) rfl (fun ls hl => ?_)
          refine lv_aload_n hx hb dX11_takeNumber_52 rfl (lv_at hl 1 rfl) ?_
          refine r_geti (ci := 10) (C := RX11) (T := TX11) (N := 20) hx hb hts iX11 hown hW rfl 65 11 rfl (g_lt hG (by decide)) (g_kd hG (by decide) rfl) (by decide) q2 (fun _ h9 => h9) (nI (tV T ts a)) ((congrFun (e_is _ _ _) 11).trans (hTk.2.2.2 hs2)) rfl rfl dX11_takeNumber_53 ?_
          refine r_iret hx hb hr hlocks hW ?_ dX11_takeNumber_56
          refine Or.inr ⟨2, SK T ts a, ?_, ⟨congrFun (e_is _ _ _) 12, (congrFun (e_is _ _ _) 13).trans hTk.1, fun j hj => (congrFun (e_is _ _ _) j).trans ((up_n _ _ (by omega)).trans ((up_n _ _ (by omega)).trans (hfr j (by omega) (by omega) (by omega) (by omega)))), Ch.tr hCg (Ch.ri Ch.rf rfl)⟩⟩
          unfold pNum; rw [if_pos hs2, if_neg (by omega)]
  · exact absurd (by decide) c4

set_option maxHeartbeats 4000000 in
set_option maxRecDepth 100000 in
theorem t_X11_takeSign3 (l : Launch) (D : Dc) (G : Gg) (S : Sg) (z : Nat) (hG : GrG G) (hP : GrP G S) (T : Nat → Nat) (ts : Nat) (ht4 : ts ≤ 400) (hTB : ∀ i, i < ts → T i ≤ 255) (a : Nat) (hAt : AtM S T ts a) : MV l yX11_takeSign wsX11_takeSign rmX11_takeSign D G S z [.ref (gA G 65)] (fun S' => (∃ v e, pSign T ts a = .inl (v, e) ∧ OkM S S' T ts e ∧ gi S' 65 10 = nI 3) ∨ (∃ f p, pSign T ts a = .inr (f, p) ∧ FlM S S' f p)) := by
  refine Met.ofW (cc := cX11_takeSign) (maxL := 2) (ret := none) (by decide +kernel) rfl ?_
  intro pP eE s mM args bl mT cD s₁ bD hml hv
  obtain ⟨rfl, hv⟩ := hv
  have hz := hv.1
  subst hz
  have hx := bD.exec
  have hb := bD.bytes
  have hr := bD.returns
  have hts := atoms_spec (ws := wsX11_takeSign) bD.pre
  have hown : s.vm.findClass RX11 = some mM.cls := findClass_of_methodNamed bD.named
  have hlocks := bD.notSynchronized
  have hW := Wd.start hv
  have hA : ∀ q, s.heap.size ≤ q → AW G s.heap.size q := fun q h => Or.inr h
  have hl := lv_entry ([.ref (gA G 65)]) (n := 2) (Nat.le_of_ble_eq_true rfl)
  rw [lg_entry_eq]
  generalize (lg_sl ([.ref (gA G 65)]) ++ List.replicate (2 - (lg_sl ([.ref (gA G 65)])).length) Slot.unset).toArray = ls at hl ⊢
  have hl : lv_has ls 2 [(0, .ref (gA G 65))] := hl
  have q0 := hts (.fieldLink RX11 109 "WoodForTwoModel" "faultOf" "I") (List.mem_of_getElem? (i := 1) rfl)
  have q1 := hts (.fieldLink RX11 100 "WoodForTwoModel" "token" "I") (List.mem_of_getElem? (i := 2) rfl)
  have iX11 : ∀ w ∈ wsX110, w ∈ wsX11_takeSign := fun _ h => List.mem_cons_of_mem _ (List.mem_append_right _ (h))
  refine lv_aload_n hx hb dX11_takeSign_0 rfl (lv_at hl 0 rfl) ?_
  refine r_geti (ci := 10) (C := RX11) (T := TX11) (N := 20) hx hb hts iX11 hown hW rfl 65 12 rfl (g_lt hG (by decide)) (g_kd hG (by decide) rfl) (by decide) q0 (fun _ h9 => h9) 0 hAt.2.2.2 rfl rfl dX11_takeSign_1 ?_
  refine lv_if_ne (tgt := 30) hx hb dX11_takeSign_4 (by decide) (fun c4 => ?_) (fun c4 => ?_)
  · exact absurd (by decide) c4
  · skip
    refine lv_aload_n hx hb dX11_takeSign_7 rfl (lv_at hl 0 rfl) ?_
    refine r_callv hW hA (va_runV (As := []) (rest := []) ⟨hx, hb, hml, hown, hts⟩ (t_X11_goOn l D G S _ hG hP T ts ht4 hTB hAt.1 a hAt.2.2.1 hAt.2.1) (cwV 0 hts gX11_takeSign_X11_goOn rfl rfl rfl (by decide +kernel) ⟨Nat.le_of_ble_eq_true rfl, Nat.le_of_ble_eq_true rfl⟩) (r_preV (k := 65) hA hW (ci := 10) (C := RX11) (T := TX11) (N := 20) rfl rfl (g_lt hG (by decide)) (g_kd hG (by decide) rfl) rfl rfl) rfl rfl hl.1 rfl (lv_room (Nat.le_of_ble_eq_true rfl)) dX11_takeSign_8 ⟨Nat.zero_le _, Nat.zero_le _⟩) (fun SG H locs hpG hW => ?_)
    obtain ⟨hTk, hfr, hCg⟩ := hpG
    have hP_SG : GrP G SG := fun q hq => by rw [hCg.1]; exact hP q hq
    have hXG : TpM SG T ts := ⟨(hfr 7 (by decide) (by decide) (by decide) (by decide)).trans hAt.1.1, fun i hi => (congrFun (hCg.2 71 (by decide)).1 i).trans (hAt.1.2 i hi)⟩
    have h12G : gi SG 65 12 = 0 := (hfr 12 (by decide) (by decide) (by decide) (by decide)).trans hAt.2.2.2
    have hle := tE_le (T := T) hAt.2.2.1
    have htl := tS_le (T := T) (ts := ts) (a := a)
    refine lv_aload_n hx hb dX11_takeSign_11 rfl (lv_at hl 0 rfl) ?_
    refine lv_aload_n hx hb dX11_takeSign_12 rfl (lv_at hl 0 rfl) ?_
    refine r_geti (ci := 10) (C := RX11) (T := TX11) (N := 20) hx hb hts iX11 hown hW rfl 65 10 rfl (g_lt hG (by decide)) (g_kd hG (by decide) rfl) (by decide) q1 (fun _ h9 => h9) (nI (tS T ts a)) hTk.2.1 rfl rfl dX11_takeSign_13 ?_
    refine lv_iconst (v := 3) hx hb dX11_takeSign_16 (by decide) ?_
    refine lv_icmp_ne (tgt := 24) hx hb dX11_takeSign_17 (by decide) (fun c17 => ?_) (fun c17 => ?_)
    · skip
      have hs3 : ¬ tS T ts a = 3 := fun z => c17 (by rw [z]; rfl)
      refine lv_iconst (v := 0) hx hb dX11_takeSign_24 (by decide) ?_
      refine lv_iconst (v := 1) hx hb dX11_takeSign_25 (by decide) ?_
      refine W.eq (g2 := F0 mM 26 ls [.int (nI 1), .int 0, .ref (gA G 65)]) rfl ?_
      refine r_calli hW hA (va_runV (As := [.int 0, .int (nI 1)]) (rest := []) ⟨hx, hb, hml, hown, hts⟩ (t_X11_want_no l D G SG _ hG hP_SG 1 h12G (by decide)) (cwV 2 hts gX11_takeSign_X11_want rfl rfl rfl (by decide +kernel) ⟨Nat.le_of_ble_eq_true rfl, Nat.le_of_ble_eq_true rfl⟩) (r_preV (k := 65) hA hW (ci := 10) (C := RX11) (T := TX11) (N := 20) rfl rfl (g_lt hG (by decide)) (g_kd hG (by decide) rfl) rfl rfl) rfl rfl hl.1 rfl (lv_room (Nat.le_of_ble_eq_true rfl)) dX11_takeSign_26 ⟨Nat.zero_le _, Nat.zero_le _⟩) (fun r26 S26 H locs hp26 hW => ?_)
      obtain ⟨rfl, hs26⟩ := hp26
      rw [hs26] at hW
      refine lv_istore_n (lv' := [(1, .int 0), (0, .ref (gA G 65))]) hx hb dX11_takeSign_29 rfl hl (by decide) rfl (fun ls hl => ?_)
      refine r_vret hx hb hr hlocks hW ?_ dX11_takeSign_30
      refine Or.inr ⟨1, SK T ts a, ?_, ⟨congrFun (e_is _ _ _) 12, (congrFun (e_is _ _ _) 13).trans hTk.1, fun j hj => (congrFun (e_is _ _ _) j).trans ((up_n _ _ (by omega)).trans ((up_n _ _ (by omega)).trans (hfr j (by omega) (by omega) (by omega) (by omega)))), Ch.tr hCg (Ch.ri Ch.rf rfl)⟩⟩
      unfold pSign; rw [if_neg hs3]
    · skip
      have hs3 : tS T ts a = 3 := (n_eq (b := 3) (by omega) (by decide)).mp c17
      refine lv_iconst (v := 1) hx hb dX11_takeSign_20 (by decide) ?_
      refine lv_goto (tgt := 25) hx hb dX11_takeSign_21 (by decide) ?_
      refine lv_iconst (v := 1) hx hb dX11_takeSign_25 (by decide) ?_
      refine W.eq (g2 := F0 mM 26 ls [.int (nI 1), .int 1, .ref (gA G 65)]) rfl ?_
      refine r_calli hW hA (va_runV (As := [.int 1, .int (nI 1)]) (rest := []) ⟨hx, hb, hml, hown, hts⟩ (t_X11_want_ok l D G SG _ hG hP_SG 1 h12G) (cwV 2 hts gX11_takeSign_X11_want rfl rfl rfl (by decide +kernel) ⟨Nat.le_of_ble_eq_true rfl, Nat.le_of_ble_eq_true rfl⟩) (r_preV (k := 65) hA hW (ci := 10) (C := RX11) (T := TX11) (N := 20) rfl rfl (g_lt hG (by decide)) (g_kd hG (by decide) rfl) rfl rfl) rfl rfl hl.1 rfl (lv_room (Nat.le_of_ble_eq_true rfl)) dX11_takeSign_26 ⟨Nat.zero_le _, Nat.zero_le _⟩) (fun r26 S26 H locs hp26 hW => ?_)
      obtain ⟨rfl, hs26⟩ := hp26
      rw [hs26] at hW
      refine lv_istore_n (lv' := [(1, .int 1), (0, .ref (gA G 65))]) hx hb dX11_takeSign_29 rfl hl (by decide) rfl (fun ls hl => ?_)
      refine r_vret hx hb hr hlocks hW ?_ dX11_takeSign_30
      refine Or.inl ⟨(), tE T ts a, ?_, ⟨⟨hXG, hTk.2.2.1 (by omega), hle.1, h12G⟩, hfr, hCg⟩, hTk.2.1.trans (by rw [hs3])⟩
      unfold pSign; rw [if_pos hs3]

def rmX11_takeHut : Jvm.Room := { frames := 4, cells := 0, slots := 0, locals := 88 }
set_option maxHeartbeats 4000000 in
set_option maxRecDepth 100000 in
theorem t_X11_takeHut (l : Launch) (D : Dc) (G : Gg) (S : Sg) (z : Nat) (hG : GrG G) (hP : GrP G S) (T : Nat → Nat) (ts : Nat) (ht4 : ts ≤ 400) (hTB : ∀ i, i < ts → T i ≤ 255) (a : Nat) (hAt : AtM S T ts a) (hN0 : NwM S (fun k => if k = 132 then 1 else 0)) : MV l yX11_takeHut wsX11_takeHut rmX11_takeHut D G S z [.ref (gA G 65)] (fun S' => (∃ B' e, pHut T ts a = .inl (B', e) ∧ OkN S S' T ts B' e) ∨ (∃ f p, pHut T ts a = .inr (f, p) ∧ FlN S S' f p)) := by
  refine Met.ofW (cc := cX11_takeHut) (maxL := 1) (ret := none) (by decide +kernel) rfl ?_
  intro pP eE s mM args bl mT cD s₁ bD hml hv
  obtain ⟨rfl, hv⟩ := hv
  have hz := hv.1
  subst hz
  have hx := bD.exec
  have hb := bD.bytes
  have hr := bD.returns
  have hts := atoms_spec (ws := wsX11_takeHut) bD.pre
  have hown : s.vm.findClass RX11 = some mM.cls := findClass_of_methodNamed bD.named
  have hlocks := bD.notSynchronized
  have hW := Wd.start hv
  have hA : ∀ q, s.heap.size ≤ q → AW G s.heap.size q := fun q h => Or.inr h
  have hl := lv_entry ([.ref (gA G 65)]) (n := 1) (Nat.le_of_ble_eq_true rfl)
  rw [lg_entry_eq]
  generalize (lg_sl ([.ref (gA G 65)]) ++ List.replicate (1 - (lg_sl ([.ref (gA G 65)])).length) Slot.unset).toArray = ls at hl ⊢
  have hl : lv_has ls 1 [(0, .ref (gA G 65))] := hl
  have q0 := hts (.fieldLink RX11 7 "WoodForTwoModel" "w" "[J") (List.mem_of_getElem? (i := 1) rfl)
  have iX11 : ∀ w ∈ wsX110, w ∈ wsX11_takeHut := fun _ h => List.mem_cons_of_mem _ (List.mem_append_right _ (h))
  refine lv_aload_n hx hb dX11_takeHut_0 rfl (lv_at hl 0 rfl) ?_
  refine r_callv hW hA (va_runV (As := []) (rest := []) ⟨hx, hb, hml, hown, hts⟩ (t_X11_goOn l D G S _ hG hP T ts ht4 hTB hAt.1 a hAt.2.2.1 hAt.2.1) (cwV 0 hts gX11_takeHut_X11_goOn rfl rfl rfl (by decide +kernel) ⟨Nat.le_of_ble_eq_true rfl, Nat.le_of_ble_eq_true rfl⟩) (r_preV (k := 65) hA hW (ci := 10) (C := RX11) (T := TX11) (N := 20) rfl rfl (g_lt hG (by decide)) (g_kd hG (by decide) rfl) rfl rfl) rfl rfl hl.1 rfl (lv_room (Nat.le_of_ble_eq_true rfl)) dX11_takeHut_1 ⟨Nat.zero_le _, Nat.zero_le _⟩) (fun SG H locs hpG hW => ?_)
  obtain ⟨hTk, hfr, hCg⟩ := hpG
  have hP_SG : GrP G SG := fun q hq => by rw [hCg.1]; exact hP q hq
  have hXG : TpM SG T ts := ⟨(hfr 7 (by decide) (by decide) (by decide) (by decide)).trans hAt.1.1, fun i hi => (congrFun (hCg.2 71 (by decide)).1 i).trans (hAt.1.2 i hi)⟩
  have h12G : gi SG 65 12 = 0 := (hfr 12 (by decide) (by decide) (by decide) (by decide)).trans hAt.2.2.2
  have hle := tE_le (T := T) hAt.2.2.1
  have htl := tS_le (T := T) (ts := ts) (a := a)
  refine lv_aload_n hx hb dX11_takeHut_4 rfl (lv_at hl 0 rfl) ?_
  refine lv_aload_n hx hb dX11_takeHut_5 rfl (lv_at hl 0 rfl) ?_
  refine lv_iconst (v := 3) hx hb dX11_takeHut_6 (by decide) ?_
  refine lv_bipush (v := 104) hx hb dX11_takeHut_7 (by decide) ?_
  refine lv_bipush (v := 117) hx hb dX11_takeHut_9 (by decide) ?_
  refine lv_bipush (v := 116) hx hb dX11_takeHut_11 (by decide) ?_
  refine lv_iconst (v := 0) hx hb dX11_takeHut_13 (by decide) ?_
  refine lv_iconst (v := 0) hx hb dX11_takeHut_14 (by decide) ?_
  refine lv_iconst (v := 0) hx hb dX11_takeHut_15 (by decide) ?_
  refine W.eq (g2 := F0 mM 16 ls [.int (chI 0 5), .int (chI 0 4), .int (chI 0 3), .int (chI 0 2), .int (chI 0 1), .int (chI 0 0), .int (nI (sLen.getD 0 0)), .ref (gA G 65), .ref (gA G 65)]) rfl ?_
  refine r_calli hW hA (va_runV (As := [.int (nI (sLen.getD 0 0)), .int (chI 0 0), .int (chI 0 1), .int (chI 0 2), .int (chI 0 3), .int (chI 0 4), .int (chI 0 5)]) (rest := [.ref (gA G 65)]) ⟨hx, hb, hml, hown, hts⟩ (t_X11_isName l D G SG _ hG hP_SG T ts ht4 hTB a hAt.2.2.1 hXG hTk 0 (by decide)) (cwV 7 hts gX11_takeHut_X11_isName rfl rfl rfl (by decide +kernel) ⟨Nat.le_of_ble_eq_true rfl, Nat.le_of_ble_eq_true rfl⟩) (r_preV (k := 65) hA hW (ci := 10) (C := RX11) (T := TX11) (N := 20) rfl rfl (g_lt hG (by decide)) (g_kd hG (by decide) rfl) rfl rfl) rfl rfl hl.1 rfl (lv_room (Nat.le_of_ble_eq_true rfl)) dX11_takeHut_16 ⟨Nat.zero_le _, Nat.zero_le _⟩) (fun r16 S16 H locs hp16 hW => ?_)
  obtain ⟨hs16, hp16⟩ := hp16
  rw [hs16] at hW
  rcases hp16 with ⟨rfl, h16⟩ | ⟨rfl, h16⟩
  · skip
    refine lv_iconst (v := 1) hx hb dX11_takeHut_19 (by decide) ?_
    refine W.eq (g2 := F0 mM 20 ls [.int (nI 1), .int 1, .ref (gA G 65)]) rfl ?_
    refine r_calli hW hA (va_runV (As := [.int 1, .int (nI 1)]) (rest := []) ⟨hx, hb, hml, hown, hts⟩ (t_X11_want_ok l D G SG _ hG hP_SG 1 h12G) (cwV 2 hts gX11_takeHut_X11_want rfl rfl rfl (by decide +kernel) ⟨Nat.le_of_ble_eq_true rfl, Nat.le_of_ble_eq_true rfl⟩) (r_preV (k := 65) hA hW (ci := 10) (C := RX11) (T := TX11) (N := 20) rfl rfl (g_lt hG (by decide)) (g_kd hG (by decide) rfl) rfl rfl) rfl rfl hl.1 rfl (lv_room (Nat.le_of_ble_eq_true rfl)) dX11_takeHut_20 ⟨Nat.zero_le _, Nat.zero_le _⟩) (fun r20 S20 H locs hp20 hW => ?_)
    obtain ⟨rfl, hs20⟩ := hp20
    rw [hs20] at hW
    have hAtG : AtM SG T ts (tE T ts a) := ⟨hXG, hTk.2.2.1 (by have := h16.1; omega), hle.1, h12G⟩
    have hFrG : FrM S SG := ⟨fun j hj => hfr j (by omega) (by omega) (by omega) (by omega), fun k _ => congrFun (hCg.2 66 (by decide)).2 k, Ch.mono hCg (fun _ hk => Or.inl hk)⟩
    refine lv_if_eq (tgt := 93) hx hb dX11_takeHut_23 (by decide) (fun c23 => ?_) (fun c23 => ?_)
    · exact absurd c23 (by decide)
    · skip
      refine lv_aload_n hx hb dX11_takeHut_26 rfl (lv_at hl 0 rfl) ?_
      refine r_getr (ci := 10) (C := RX11) (T := TX11) (N := 20) hx hb hts iX11 hown hW rfl 65 0 rfl (g_lt hG (by decide)) (g_kd hG (by decide) rfl) (by decide) q0 (fun _ h9 => h9) (hP_SG _ (List.mem_of_getElem? (i := 60) rfl)) rfl rfl dX11_takeHut_27 ?_
      refine lv_sipush (v := 420) hx hb dX11_takeHut_30 (by decide) ?_
      refine lv_aload_n hx hb dX11_takeHut_33 rfl (lv_at hl 0 rfl) ?_
      refine lv_iconst (v := 0) hx hb dX11_takeHut_34 (by decide) ?_
      refine lv_sipush (v := 500) hx hb dX11_takeHut_35 (by decide) ?_
      refine W.eq (g2 := F0 mM 38 ls [.int (nI 500), .int (nI 0), .ref (gA G 65), .int 420, .ref (gA G 66)]) rfl ?_
      refine r_calli hW hA (va_runV (As := [.int (nI 0), .int (nI 500)]) (rest := [.int 420, .ref (gA G 66)]) ⟨hx, hb, hml, hown, hts⟩ (t_X11_takeNumber9 l D G SG _ hG hP_SG T ts ht4 hTB (tE T ts a) hAtG 0 500 (by decide) (by decide)) (cwV 2 hts gX11_takeHut_X11_takeNumber rfl rfl rfl (by decide +kernel) ⟨Nat.le_of_ble_eq_true rfl, Nat.le_of_ble_eq_true rfl⟩) (r_preV (k := 65) hA hW (ci := 10) (C := RX11) (T := TX11) (N := 20) rfl rfl (g_lt hG (by decide)) (g_kd hG (by decide) rfl) rfl rfl) rfl rfl hl.1 rfl (lv_room (Nat.le_of_ble_eq_true rfl)) dX11_takeHut_38 ⟨Nat.zero_le _, Nat.zero_le _⟩) (fun r38 S38 H locs hp38 hW => ?_)
      rcases hp38 with ⟨v38, e38, hpn38, rfl, hok38, hx38⟩ | ⟨f38, p38, hpn38, hfl38⟩
      · skip
        have hP_S38 : GrP G S38 := fun q hq => by rw [hok38.2.2.1]; exact hP_SG q hq
        have hj38 : gj S38 66 = (gj SG 66) := (hok38.2.2.2 66 (by decide)).2
        have hvb38 := pNum_b hpn38
        refine lv_i2l hx hb dX11_takeHut_41 rfl ?_
        rw [show (Int32.toInt64 (nI v38) : Int64) = lN v38 from lN_of (by omega)]
        refine W.eq (g2 := F0 mM 42 ls [.long (lN v38), .int (nI 420), .ref (gA G 66)]) rfl ?_
        refine r_last hx hb hW 66 rfl (g_lt hG (by decide)) (g_kd hG (by decide) rfl) (g_ix hG (c := 560) (by decide) rfl (n_inI (by omega) (by decide))) (rj S38 66 (va_up (gj S38 66) ((nI 420)).toNatClampNeg (lN v38))) (gj S38 66) rfl (e_js _ _ _) rfl rfl c_j0 dX11_takeHut_42 (fun H locs hW => ?_)
        rw [show ((nI 420)).toNatClampNeg = 420 from n_clamp (by omega)] at hW
        refine lv_aload_n hx hb dX11_takeHut_43 rfl (lv_at hl 0 rfl) ?_
        refine r_getr (ci := 10) (C := RX11) (T := TX11) (N := 20) hx hb hts iX11 hown hW rfl 65 0 rfl (g_lt hG (by decide)) (g_kd hG (by decide) rfl) (by decide) q0 (fun _ h9 => h9) (hP_S38 _ (List.mem_of_getElem? (i := 60) rfl)) rfl rfl dX11_takeHut_44 ?_
        refine lv_sipush (v := 421) hx hb dX11_takeHut_47 (by decide) ?_
        refine lv_aload_n hx hb dX11_takeHut_50 rfl (lv_at hl 0 rfl) ?_
        refine lv_iconst (v := 1) hx hb dX11_takeHut_51 (by decide) ?_
        refine lv_bipush (v := 9) hx hb dX11_takeHut_52 (by decide) ?_
        refine W.eq (g2 := F0 mM 54 ls [.int (nI 9), .int (nI 1), .ref (gA G 65), .int 421, .ref (gA G 66)]) rfl ?_
        refine r_calli hW hA (va_runV (As := [.int (nI 1), .int (nI 9)]) (rest := [.int 421, .ref (gA G 66)]) ⟨hx, hb, hml, hown, hts⟩ (t_X11_takeNumber9 l D G (rj S38 66 (va_up (gj S38 66) 420 (lN v38))) _ hG hP_S38 T ts ht4 hTB e38 hok38.1 1 9 (by decide) (by decide)) (cwV 2 hts gX11_takeHut_X11_takeNumber rfl rfl rfl (by decide +kernel) ⟨Nat.le_of_ble_eq_true rfl, Nat.le_of_ble_eq_true rfl⟩) (r_preV (k := 65) hA hW (ci := 10) (C := RX11) (T := TX11) (N := 20) rfl rfl (g_lt hG (by decide)) (g_kd hG (by decide) rfl) rfl rfl) rfl rfl hl.1 rfl (lv_room (Nat.le_of_ble_eq_true rfl)) dX11_takeHut_54 ⟨Nat.zero_le _, Nat.zero_le _⟩) (fun r54 S54 H locs hp54 hW => ?_)
        rcases hp54 with ⟨v54, e54, hpn54, rfl, hok54, hx54⟩ | ⟨f54, p54, hpn54, hfl54⟩
        · skip
          have hP_S54 : GrP G S54 := fun q hq => by rw [hok54.2.2.1]; exact hP_S38 q hq
          have hj54 : gj S54 66 = (va_up (gj S38 66) 420 (lN v38)) := ((hok54.2.2.2 66 (by decide)).2).trans (e_js _ _ _)
          have hvb54 := pNum_b hpn54
          refine lv_i2l hx hb dX11_takeHut_57 rfl ?_
          rw [show (Int32.toInt64 (nI v54) : Int64) = lN v54 from lN_of (by omega)]
          refine W.eq (g2 := F0 mM 58 ls [.long (lN v54), .int (nI 421), .ref (gA G 66)]) rfl ?_
          refine r_last hx hb hW 66 rfl (g_lt hG (by decide)) (g_kd hG (by decide) rfl) (g_ix hG (c := 560) (by decide) rfl (n_inI (by omega) (by decide))) (rj S54 66 (va_up (gj S54 66) ((nI 421)).toNatClampNeg (lN v54))) (gj S54 66) rfl (e_js _ _ _) rfl rfl c_j0 dX11_takeHut_58 (fun H locs hW => ?_)
          rw [show ((nI 421)).toNatClampNeg = 421 from n_clamp (by omega)] at hW
          refine lv_aload_n hx hb dX11_takeHut_59 rfl (lv_at hl 0 rfl) ?_
          refine r_getr (ci := 10) (C := RX11) (T := TX11) (N := 20) hx hb hts iX11 hown hW rfl 65 0 rfl (g_lt hG (by decide)) (g_kd hG (by decide) rfl) (by decide) q0 (fun _ h9 => h9) (hP_S54 _ (List.mem_of_getElem? (i := 60) rfl)) rfl rfl dX11_takeHut_60 ?_
          refine lv_sipush (v := 422) hx hb dX11_takeHut_63 (by decide) ?_
          refine lv_aload_n hx hb dX11_takeHut_66 rfl (lv_at hl 0 rfl) ?_
          refine lv_iconst (v := 1) hx hb dX11_takeHut_67 (by decide) ?_
          refine r_calli hW hA (va_runV (As := [.int 1]) (rest := [.int 422, .ref (gA G 66)]) ⟨hx, hb, hml, hown, hts⟩ (t_X11_takeChoice_pLaw l D G (rj S54 66 (va_up (gj S54 66) 421 (lN v54))) _ hG hP_S54 T ts ht4 hTB e54 hok54.1) (cwV 1 hts gX11_takeHut_X11_takeChoice rfl rfl rfl (by decide +kernel) ⟨Nat.le_of_ble_eq_true rfl, Nat.le_of_ble_eq_true rfl⟩) (r_preV (k := 65) hA hW (ci := 10) (C := RX11) (T := TX11) (N := 20) rfl rfl (g_lt hG (by decide)) (g_kd hG (by decide) rfl) rfl rfl) rfl rfl hl.1 rfl (lv_room (Nat.le_of_ble_eq_true rfl)) dX11_takeHut_68 ⟨Nat.zero_le _, Nat.zero_le _⟩) (fun r68 S68 H locs hp68 hW => ?_)
          rcases hp68 with ⟨v68, e68, hpn68, rfl, hok68⟩ | ⟨f68, p68, hpn68, hfl68⟩
          · skip
            have hP_S68 : GrP G S68 := fun q hq => by rw [hok68.2.2.1]; exact hP_S54 q hq
            have hj68 : gj S68 66 = (va_up (gj S54 66) 421 (lN v54)) := ((hok68.2.2.2 66 (by decide)).2).trans (e_js _ _ _)
            have hvb68 := pLaw_b hpn68
            refine lv_i2l hx hb dX11_takeHut_71 rfl ?_
            rw [show (Int32.toInt64 (nI v68) : Int64) = lN v68 from lN_of (by omega)]
            refine W.eq (g2 := F0 mM 72 ls [.long (lN v68), .int (nI 422), .ref (gA G 66)]) rfl ?_
            refine r_last hx hb hW 66 rfl (g_lt hG (by decide)) (g_kd hG (by decide) rfl) (g_ix hG (c := 560) (by decide) rfl (n_inI (by omega) (by decide))) (rj S68 66 (va_up (gj S68 66) ((nI 422)).toNatClampNeg (lN v68))) (gj S68 66) rfl (e_js _ _ _) rfl rfl c_j0 dX11_takeHut_72 (fun H locs hW => ?_)
            rw [show ((nI 422)).toNatClampNeg = 422 from n_clamp (by omega)] at hW
            refine lv_aload_n hx hb dX11_takeHut_73 rfl (lv_at hl 0 rfl) ?_
            refine r_getr (ci := 10) (C := RX11) (T := TX11) (N := 20) hx hb hts iX11 hown hW rfl 65 0 rfl (g_lt hG (by decide)) (g_kd hG (by decide) rfl) (by decide) q0 (fun _ h9 => h9) (hP_S68 _ (List.mem_of_getElem? (i := 60) rfl)) rfl rfl dX11_takeHut_74 ?_
            refine lv_sipush (v := 423) hx hb dX11_takeHut_77 (by decide) ?_
            refine lv_aload_n hx hb dX11_takeHut_80 rfl (lv_at hl 0 rfl) ?_
            refine lv_iconst (v := 0) hx hb dX11_takeHut_81 (by decide) ?_
            refine lv_bipush (v := 9) hx hb dX11_takeHut_82 (by decide) ?_
            refine W.eq (g2 := F0 mM 84 ls [.int (nI 9), .int (nI 0), .ref (gA G 65), .int 423, .ref (gA G 66)]) rfl ?_
            refine r_calli hW hA (va_runV (As := [.int (nI 0), .int (nI 9)]) (rest := [.int 423, .ref (gA G 66)]) ⟨hx, hb, hml, hown, hts⟩ (t_X11_takeNumber9 l D G (rj S68 66 (va_up (gj S68 66) 422 (lN v68))) _ hG hP_S68 T ts ht4 hTB e68 hok68.1 0 9 (by decide) (by decide)) (cwV 2 hts gX11_takeHut_X11_takeNumber rfl rfl rfl (by decide +kernel) ⟨Nat.le_of_ble_eq_true rfl, Nat.le_of_ble_eq_true rfl⟩) (r_preV (k := 65) hA hW (ci := 10) (C := RX11) (T := TX11) (N := 20) rfl rfl (g_lt hG (by decide)) (g_kd hG (by decide) rfl) rfl rfl) rfl rfl hl.1 rfl (lv_room (Nat.le_of_ble_eq_true rfl)) dX11_takeHut_84 ⟨Nat.zero_le _, Nat.zero_le _⟩) (fun r84 S84 H locs hp84 hW => ?_)
            rcases hp84 with ⟨v84, e84, hpn84, rfl, hok84, hx84⟩ | ⟨f84, p84, hpn84, hfl84⟩
            · skip
              have hP_S84 : GrP G S84 := fun q hq => by rw [hok84.2.2.1]; exact hP_S68 q hq
              have hj84 : gj S84 66 = (va_up (gj S68 66) 422 (lN v68)) := ((hok84.2.2.2 66 (by decide)).2).trans (e_js _ _ _)
              have hvb84 := pNum_b hpn84
              refine lv_i2l hx hb dX11_takeHut_87 rfl ?_
              rw [show (Int32.toInt64 (nI v84) : Int64) = lN v84 from lN_of (by omega)]
              refine W.eq (g2 := F0 mM 88 ls [.long (lN v84), .int (nI 423), .ref (gA G 66)]) rfl ?_
              refine r_last hx hb hW 66 rfl (g_lt hG (by decide)) (g_kd hG (by decide) rfl) (g_ix hG (c := 560) (by decide) rfl (n_inI (by omega) (by decide))) (rj S84 66 (va_up (gj S84 66) ((nI 423)).toNatClampNeg (lN v84))) (gj S84 66) rfl (e_js _ _ _) rfl rfl c_j0 dX11_takeHut_88 (fun H locs hW => ?_)
              rw [show ((nI 423)).toNatClampNeg = 423 from n_clamp (by omega)] at hW
              refine lv_aload_n hx hb dX11_takeHut_89 rfl (lv_at hl 0 rfl) ?_
              refine r_callv hW hA (va_runV (As := []) (rest := []) ⟨hx, hb, hml, hown, hts⟩ (t_X11_takeSign3 l D G (rj S84 66 (va_up (gj S84 66) 423 (lN v84))) _ hG hP_S84 T ts ht4 hTB e84 hok84.1) (cwV 0 hts gX11_takeHut_X11_takeSign rfl rfl rfl (by decide +kernel) ⟨Nat.le_of_ble_eq_true rfl, Nat.le_of_ble_eq_true rfl⟩) (r_preV (k := 65) hA hW (ci := 10) (C := RX11) (T := TX11) (N := 20) rfl rfl (g_lt hG (by decide)) (g_kd hG (by decide) rfl) rfl rfl) rfl rfl hl.1 rfl (lv_room (Nat.le_of_ble_eq_true rfl)) dX11_takeHut_90 ⟨Nat.zero_le _, Nat.zero_le _⟩) (fun S90 H locs hp90 hW => ?_)
              rcases hp90 with ⟨v90, e90, hpn90, hok90, hx90⟩ | ⟨f90, p90, hpn90, hfl90⟩
              · skip
                have hP_S90 : GrP G S90 := fun q hq => by rw [hok90.2.2.1]; exact hP_S84 q hq
                have hj90 : gj S90 66 = (va_up (gj S84 66) 423 (lN v84)) := ((hok90.2.2.2 66 (by decide)).2).trans (e_js _ _ _)
                refine r_vret hx hb hr hlocks hW ?_ dX11_takeHut_93
                refine Or.inl ⟨hutB v38 v54 v68 v84, e90, ?_, hok90.1, fun k hk => ?_, (FrM.tr (FrM.rj (FrM.tr (FrM.rj (FrM.tr (FrM.rj (FrM.tr (FrM.rj (FrM.tr hFrG (FrM.ok hok38)) (fun k hk => ((up_n _ _ (by omega)).trans rfl))) (FrM.ok hok54)) (fun k hk => ((up_n _ _ (by omega)).trans rfl))) (FrM.ok hok68)) (fun k hk => ((up_n _ _ (by omega)).trans rfl))) (FrM.ok hok84)) (fun k hk => ((up_n _ _ (by omega)).trans rfl))) (FrM.ok hok90))⟩
                · unfold pHut; rw [if_pos h16, PB_l hpn38, PB_l hpn54, PB_l hpn68, PB_l hpn84, PB_l hpn90]
                · rw [hj90, hj84, hj68, hj54, hj38, (hCg.2 66 (by decide)).2]; exact hutJ hN0 k hk
              · skip
                have hP_S90 : GrP G S90 := fun q hq => by rw [hfl90.2.2.2.1]; exact hP_S84 q hq
                have hj90 : gj S90 66 = (va_up (gj S84 66) 423 (lN v84)) := ((hfl90.2.2.2.2 66 (by decide)).2).trans (e_js _ _ _)
                have hfb90 := pSign_f hpn90
                refine r_vret hx hb hr hlocks hW ?_ dX11_takeHut_93
                refine Or.inr ⟨f90, p90, ?_, hfl90.1, hfl90.2.1, ⟨hfb90.1, hfb90.2⟩, (FrM.tr (FrM.rj (FrM.tr (FrM.rj (FrM.tr (FrM.rj (FrM.tr (FrM.rj (FrM.tr hFrG (FrM.ok hok38)) (fun k hk => ((up_n _ _ (by omega)).trans rfl))) (FrM.ok hok54)) (fun k hk => ((up_n _ _ (by omega)).trans rfl))) (FrM.ok hok68)) (fun k hk => ((up_n _ _ (by omega)).trans rfl))) (FrM.ok hok84)) (fun k hk => ((up_n _ _ (by omega)).trans rfl))) (FrM.fl hfl90))⟩
                unfold pHut; rw [if_pos h16, PB_l hpn38, PB_l hpn54, PB_l hpn68, PB_l hpn84, PB_r hpn90]
            · skip
              have hP_S84 : GrP G S84 := fun q hq => by rw [hfl84.2.2.2.1]; exact hP_S68 q hq
              have hj84 : gj S84 66 = (va_up (gj S68 66) 422 (lN v68)) := ((hfl84.2.2.2.2 66 (by decide)).2).trans (e_js _ _ _)
              have hfb84 := pNum_f hpn84
              refine lv_i2l hx hb dX11_takeHut_87 rfl ?_
              refine W.eq (g2 := F0 mM 88 ls [.long (Int32.toInt64 r84), .int (nI 423), .ref (gA G 66)]) rfl ?_
              refine r_last hx hb hW 66 rfl (g_lt hG (by decide)) (g_kd hG (by decide) rfl) (g_ix hG (c := 560) (by decide) rfl (n_inI (by omega) (by decide))) (rj S84 66 (va_up (gj S84 66) ((nI 423)).toNatClampNeg (Int32.toInt64 r84))) (gj S84 66) rfl (e_js _ _ _) rfl rfl c_j0 dX11_takeHut_88 (fun H locs hW => ?_)
              rw [show ((nI 423)).toNatClampNeg = 423 from n_clamp (by omega)] at hW
              refine lv_aload_n hx hb dX11_takeHut_89 rfl (lv_at hl 0 rfl) ?_
              refine r_callv hW hA (va_runV (As := []) (rest := []) ⟨hx, hb, hml, hown, hts⟩ (t_X11_takeSign_past l D G (rj S84 66 (va_up (gj S84 66) 423 (Int32.toInt64 r84))) _ hG hP_S84 f84 hfb84.1 hfb84.2 hfl84.1) (cwV 0 hts gX11_takeHut_X11_takeSign rfl rfl rfl (by decide +kernel) ⟨Nat.le_of_ble_eq_true rfl, Nat.le_of_ble_eq_true rfl⟩) (r_preV (k := 65) hA hW (ci := 10) (C := RX11) (T := TX11) (N := 20) rfl rfl (g_lt hG (by decide)) (g_kd hG (by decide) rfl) rfl rfl) rfl rfl hl.1 rfl (lv_room (Nat.le_of_ble_eq_true rfl)) dX11_takeHut_90 ⟨Nat.zero_le _, Nat.zero_le _⟩) (fun S90 H locs hp90 hW => ?_)
              rw [hp90] at hW
              refine r_vret hx hb hr hlocks hW ?_ dX11_takeHut_93
              refine Or.inr ⟨f84, p84, ?_, hfl84.1, hfl84.2.1, ⟨hfb84.1, hfb84.2⟩, (FrM.rj (FrM.tr (FrM.rj (FrM.tr (FrM.rj (FrM.tr (FrM.rj (FrM.tr hFrG (FrM.ok hok38)) (fun k hk => ((up_n _ _ (by omega)).trans rfl))) (FrM.ok hok54)) (fun k hk => ((up_n _ _ (by omega)).trans rfl))) (FrM.ok hok68)) (fun k hk => ((up_n _ _ (by omega)).trans rfl))) (FrM.fl hfl84)) (fun k hk => ((up_n _ _ (by omega)).trans rfl)))⟩
              unfold pHut; rw [if_pos h16, PB_l hpn38, PB_l hpn54, PB_l hpn68, PB_r hpn84]
          · skip
            have hP_S68 : GrP G S68 := fun q hq => by rw [hfl68.2.2.2.1]; exact hP_S54 q hq
            have hj68 : gj S68 66 = (va_up (gj S54 66) 421 (lN v54)) := ((hfl68.2.2.2.2 66 (by decide)).2).trans (e_js _ _ _)
            have hfb68 := pLaw_f hpn68
            refine lv_i2l hx hb dX11_takeHut_71 rfl ?_
            refine W.eq (g2 := F0 mM 72 ls [.long (Int32.toInt64 r68), .int (nI 422), .ref (gA G 66)]) rfl ?_
            refine r_last hx hb hW 66 rfl (g_lt hG (by decide)) (g_kd hG (by decide) rfl) (g_ix hG (c := 560) (by decide) rfl (n_inI (by omega) (by decide))) (rj S68 66 (va_up (gj S68 66) ((nI 422)).toNatClampNeg (Int32.toInt64 r68))) (gj S68 66) rfl (e_js _ _ _) rfl rfl c_j0 dX11_takeHut_72 (fun H locs hW => ?_)
            rw [show ((nI 422)).toNatClampNeg = 422 from n_clamp (by omega)] at hW
            refine lv_aload_n hx hb dX11_takeHut_73 rfl (lv_at hl 0 rfl) ?_
            refine r_getr (ci := 10) (C := RX11) (T := TX11) (N := 20) hx hb hts iX11 hown hW rfl 65 0 rfl (g_lt hG (by decide)) (g_kd hG (by decide) rfl) (by decide) q0 (fun _ h9 => h9) (hP_S68 _ (List.mem_of_getElem? (i := 60) rfl)) rfl rfl dX11_takeHut_74 ?_
            refine lv_sipush (v := 423) hx hb dX11_takeHut_77 (by decide) ?_
            refine lv_aload_n hx hb dX11_takeHut_80 rfl (lv_at hl 0 rfl) ?_
            refine lv_iconst (v := 0) hx hb dX11_takeHut_81 (by decide) ?_
            refine lv_bipush (v := 9) hx hb dX11_takeHut_82 (by decide) ?_
            refine r_calli hW hA (va_runV (As := [.int 0, .int 9]) (rest := [.int 423, .ref (gA G 66)]) ⟨hx, hb, hml, hown, hts⟩ (t_X11_takeNumber_past l D G (rj S68 66 (va_up (gj S68 66) 422 (Int32.toInt64 r68))) _ hG hP_S68 f68 hfb68.1 hfb68.2 hfl68.1 0 9) (cwV 2 hts gX11_takeHut_X11_takeNumber rfl rfl rfl (by decide +kernel) ⟨Nat.le_of_ble_eq_true rfl, Nat.le_of_ble_eq_true rfl⟩) (r_preV (k := 65) hA hW (ci := 10) (C := RX11) (T := TX11) (N := 20) rfl rfl (g_lt hG (by decide)) (g_kd hG (by decide) rfl) rfl rfl) rfl rfl hl.1 rfl (lv_room (Nat.le_of_ble_eq_true rfl)) dX11_takeHut_84 ⟨Nat.zero_le _, Nat.zero_le _⟩) (fun r84 S84 H locs hp84 hW => ?_)
            obtain ⟨rfl, hs84⟩ := hp84
            rw [hs84] at hW
            refine lv_i2l hx hb dX11_takeHut_87 rfl ?_
            refine W.eq (g2 := F0 mM 88 ls [.long (Int32.toInt64 0), .int (nI 423), .ref (gA G 66)]) rfl ?_
            refine r_last hx hb hW 66 rfl (g_lt hG (by decide)) (g_kd hG (by decide) rfl) (g_ix hG (c := 560) (by decide) rfl (n_inI (by omega) (by decide))) (rj S68 66 (va_up (va_up (gj S68 66) 422 (Int32.toInt64 r68)) ((nI 423)).toNatClampNeg (Int32.toInt64 0))) (va_up (gj S68 66) 422 (Int32.toInt64 r68)) (e_js _ _ _) (e_js _ _ _) rfl rfl c_j dX11_takeHut_88 (fun H locs hW => ?_)
            rw [show ((nI 423)).toNatClampNeg = 423 from n_clamp (by omega)] at hW
            refine lv_aload_n hx hb dX11_takeHut_89 rfl (lv_at hl 0 rfl) ?_
            refine r_callv hW hA (va_runV (As := []) (rest := []) ⟨hx, hb, hml, hown, hts⟩ (t_X11_takeSign_past l D G (rj S68 66 (va_up (va_up (gj S68 66) 422 (Int32.toInt64 r68)) 423 (Int32.toInt64 0))) _ hG hP_S68 f68 hfb68.1 hfb68.2 hfl68.1) (cwV 0 hts gX11_takeHut_X11_takeSign rfl rfl rfl (by decide +kernel) ⟨Nat.le_of_ble_eq_true rfl, Nat.le_of_ble_eq_true rfl⟩) (r_preV (k := 65) hA hW (ci := 10) (C := RX11) (T := TX11) (N := 20) rfl rfl (g_lt hG (by decide)) (g_kd hG (by decide) rfl) rfl rfl) rfl rfl hl.1 rfl (lv_room (Nat.le_of_ble_eq_true rfl)) dX11_takeHut_90 ⟨Nat.zero_le _, Nat.zero_le _⟩) (fun S90 H locs hp90 hW => ?_)
            rw [hp90] at hW
            refine r_vret hx hb hr hlocks hW ?_ dX11_takeHut_93
            refine Or.inr ⟨f68, p68, ?_, hfl68.1, hfl68.2.1, ⟨hfb68.1, hfb68.2⟩, (FrM.rj (FrM.tr (FrM.rj (FrM.tr (FrM.rj (FrM.tr hFrG (FrM.ok hok38)) (fun k hk => ((up_n _ _ (by omega)).trans rfl))) (FrM.ok hok54)) (fun k hk => ((up_n _ _ (by omega)).trans rfl))) (FrM.fl hfl68)) (fun k hk => ((up_n _ _ (by omega)).trans ((up_n _ _ (by omega)).trans rfl))))⟩
            unfold pHut; rw [if_pos h16, PB_l hpn38, PB_l hpn54, PB_r hpn68]
        · skip
          have hP_S54 : GrP G S54 := fun q hq => by rw [hfl54.2.2.2.1]; exact hP_S38 q hq
          have hj54 : gj S54 66 = (va_up (gj S38 66) 420 (lN v38)) := ((hfl54.2.2.2.2 66 (by decide)).2).trans (e_js _ _ _)
          have hfb54 := pNum_f hpn54
          refine lv_i2l hx hb dX11_takeHut_57 rfl ?_
          refine W.eq (g2 := F0 mM 58 ls [.long (Int32.toInt64 r54), .int (nI 421), .ref (gA G 66)]) rfl ?_
          refine r_last hx hb hW 66 rfl (g_lt hG (by decide)) (g_kd hG (by decide) rfl) (g_ix hG (c := 560) (by decide) rfl (n_inI (by omega) (by decide))) (rj S54 66 (va_up (gj S54 66) ((nI 421)).toNatClampNeg (Int32.toInt64 r54))) (gj S54 66) rfl (e_js _ _ _) rfl rfl c_j0 dX11_takeHut_58 (fun H locs hW => ?_)
          rw [show ((nI 421)).toNatClampNeg = 421 from n_clamp (by omega)] at hW
          refine lv_aload_n hx hb dX11_takeHut_59 rfl (lv_at hl 0 rfl) ?_
          refine r_getr (ci := 10) (C := RX11) (T := TX11) (N := 20) hx hb hts iX11 hown hW rfl 65 0 rfl (g_lt hG (by decide)) (g_kd hG (by decide) rfl) (by decide) q0 (fun _ h9 => h9) (hP_S54 _ (List.mem_of_getElem? (i := 60) rfl)) rfl rfl dX11_takeHut_60 ?_
          refine lv_sipush (v := 422) hx hb dX11_takeHut_63 (by decide) ?_
          refine lv_aload_n hx hb dX11_takeHut_66 rfl (lv_at hl 0 rfl) ?_
          refine lv_iconst (v := 1) hx hb dX11_takeHut_67 (by decide) ?_
          refine r_calli hW hA (va_runV (As := [.int 1]) (rest := [.int 422, .ref (gA G 66)]) ⟨hx, hb, hml, hown, hts⟩ (t_X11_takeChoice_past1 l D G (rj S54 66 (va_up (gj S54 66) 421 (Int32.toInt64 r54))) _ hG hP_S54 f54 hfb54.1 hfb54.2 hfl54.1) (cwV 1 hts gX11_takeHut_X11_takeChoice rfl rfl rfl (by decide +kernel) ⟨Nat.le_of_ble_eq_true rfl, Nat.le_of_ble_eq_true rfl⟩) (r_preV (k := 65) hA hW (ci := 10) (C := RX11) (T := TX11) (N := 20) rfl rfl (g_lt hG (by decide)) (g_kd hG (by decide) rfl) rfl rfl) rfl rfl hl.1 rfl (lv_room (Nat.le_of_ble_eq_true rfl)) dX11_takeHut_68 ⟨Nat.zero_le _, Nat.zero_le _⟩) (fun r68 S68 H locs hp68 hW => ?_)
          obtain ⟨rfl, hs68⟩ := hp68
          rw [hs68] at hW
          refine lv_i2l hx hb dX11_takeHut_71 rfl ?_
          refine W.eq (g2 := F0 mM 72 ls [.long (Int32.toInt64 0), .int (nI 422), .ref (gA G 66)]) rfl ?_
          refine r_last hx hb hW 66 rfl (g_lt hG (by decide)) (g_kd hG (by decide) rfl) (g_ix hG (c := 560) (by decide) rfl (n_inI (by omega) (by decide))) (rj S54 66 (va_up (va_up (gj S54 66) 421 (Int32.toInt64 r54)) ((nI 422)).toNatClampNeg (Int32.toInt64 0))) (va_up (gj S54 66) 421 (Int32.toInt64 r54)) (e_js _ _ _) (e_js _ _ _) rfl rfl c_j dX11_takeHut_72 (fun H locs hW => ?_)
          rw [show ((nI 422)).toNatClampNeg = 422 from n_clamp (by omega)] at hW
          refine lv_aload_n hx hb dX11_takeHut_73 rfl (lv_at hl 0 rfl) ?_
          refine r_getr (ci := 10) (C := RX11) (T := TX11) (N := 20) hx hb hts iX11 hown hW rfl 65 0 rfl (g_lt hG (by decide)) (g_kd hG (by decide) rfl) (by decide) q0 (fun _ h9 => h9) (hP_S54 _ (List.mem_of_getElem? (i := 60) rfl)) rfl rfl dX11_takeHut_74 ?_
          refine lv_sipush (v := 423) hx hb dX11_takeHut_77 (by decide) ?_
          refine lv_aload_n hx hb dX11_takeHut_80 rfl (lv_at hl 0 rfl) ?_
          refine lv_iconst (v := 0) hx hb dX11_takeHut_81 (by decide) ?_
          refine lv_bipush (v := 9) hx hb dX11_takeHut_82 (by decide) ?_
          refine r_calli hW hA (va_runV (As := [.int 0, .int 9]) (rest := [.int 423, .ref (gA G 66)]) ⟨hx, hb, hml, hown, hts⟩ (t_X11_takeNumber_past l D G (rj S54 66 (va_up (va_up (gj S54 66) 421 (Int32.toInt64 r54)) 422 (Int32.toInt64 0))) _ hG hP_S54 f54 hfb54.1 hfb54.2 hfl54.1 0 9) (cwV 2 hts gX11_takeHut_X11_takeNumber rfl rfl rfl (by decide +kernel) ⟨Nat.le_of_ble_eq_true rfl, Nat.le_of_ble_eq_true rfl⟩) (r_preV (k := 65) hA hW (ci := 10) (C := RX11) (T := TX11) (N := 20) rfl rfl (g_lt hG (by decide)) (g_kd hG (by decide) rfl) rfl rfl) rfl rfl hl.1 rfl (lv_room (Nat.le_of_ble_eq_true rfl)) dX11_takeHut_84 ⟨Nat.zero_le _, Nat.zero_le _⟩) (fun r84 S84 H locs hp84 hW => ?_)
          obtain ⟨rfl, hs84⟩ := hp84
          rw [hs84] at hW
          refine lv_i2l hx hb dX11_takeHut_87 rfl ?_
          refine W.eq (g2 := F0 mM 88 ls [.long (Int32.toInt64 0), .int (nI 423), .ref (gA G 66)]) rfl ?_
          refine r_last hx hb hW 66 rfl (g_lt hG (by decide)) (g_kd hG (by decide) rfl) (g_ix hG (c := 560) (by decide) rfl (n_inI (by omega) (by decide))) (rj S54 66 (va_up (va_up (va_up (gj S54 66) 421 (Int32.toInt64 r54)) 422 (Int32.toInt64 0)) ((nI 423)).toNatClampNeg (Int32.toInt64 0))) (va_up (va_up (gj S54 66) 421 (Int32.toInt64 r54)) 422 (Int32.toInt64 0)) (e_js _ _ _) (e_js _ _ _) rfl rfl c_j dX11_takeHut_88 (fun H locs hW => ?_)
          rw [show ((nI 423)).toNatClampNeg = 423 from n_clamp (by omega)] at hW
          refine lv_aload_n hx hb dX11_takeHut_89 rfl (lv_at hl 0 rfl) ?_
          refine r_callv hW hA (va_runV (As := []) (rest := []) ⟨hx, hb, hml, hown, hts⟩ (t_X11_takeSign_past l D G (rj S54 66 (va_up (va_up (va_up (gj S54 66) 421 (Int32.toInt64 r54)) 422 (Int32.toInt64 0)) 423 (Int32.toInt64 0))) _ hG hP_S54 f54 hfb54.1 hfb54.2 hfl54.1) (cwV 0 hts gX11_takeHut_X11_takeSign rfl rfl rfl (by decide +kernel) ⟨Nat.le_of_ble_eq_true rfl, Nat.le_of_ble_eq_true rfl⟩) (r_preV (k := 65) hA hW (ci := 10) (C := RX11) (T := TX11) (N := 20) rfl rfl (g_lt hG (by decide)) (g_kd hG (by decide) rfl) rfl rfl) rfl rfl hl.1 rfl (lv_room (Nat.le_of_ble_eq_true rfl)) dX11_takeHut_90 ⟨Nat.zero_le _, Nat.zero_le _⟩) (fun S90 H locs hp90 hW => ?_)
          rw [hp90] at hW
          refine r_vret hx hb hr hlocks hW ?_ dX11_takeHut_93
          refine Or.inr ⟨f54, p54, ?_, hfl54.1, hfl54.2.1, ⟨hfb54.1, hfb54.2⟩, (FrM.rj (FrM.tr (FrM.rj (FrM.tr hFrG (FrM.ok hok38)) (fun k hk => ((up_n _ _ (by omega)).trans rfl))) (FrM.fl hfl54)) (fun k hk => ((up_n _ _ (by omega)).trans ((up_n _ _ (by omega)).trans ((up_n _ _ (by omega)).trans rfl)))))⟩
          unfold pHut; rw [if_pos h16, PB_l hpn38, PB_r hpn54]
      · skip
        have hP_S38 : GrP G S38 := fun q hq => by rw [hfl38.2.2.2.1]; exact hP_SG q hq
        have hj38 : gj S38 66 = (gj SG 66) := (hfl38.2.2.2.2 66 (by decide)).2
        have hfb38 := pNum_f hpn38
        refine lv_i2l hx hb dX11_takeHut_41 rfl ?_
        refine W.eq (g2 := F0 mM 42 ls [.long (Int32.toInt64 r38), .int (nI 420), .ref (gA G 66)]) rfl ?_
        refine r_last hx hb hW 66 rfl (g_lt hG (by decide)) (g_kd hG (by decide) rfl) (g_ix hG (c := 560) (by decide) rfl (n_inI (by omega) (by decide))) (rj S38 66 (va_up (gj S38 66) ((nI 420)).toNatClampNeg (Int32.toInt64 r38))) (gj S38 66) rfl (e_js _ _ _) rfl rfl c_j0 dX11_takeHut_42 (fun H locs hW => ?_)
        rw [show ((nI 420)).toNatClampNeg = 420 from n_clamp (by omega)] at hW
        refine lv_aload_n hx hb dX11_takeHut_43 rfl (lv_at hl 0 rfl) ?_
        refine r_getr (ci := 10) (C := RX11) (T := TX11) (N := 20) hx hb hts iX11 hown hW rfl 65 0 rfl (g_lt hG (by decide)) (g_kd hG (by decide) rfl) (by decide) q0 (fun _ h9 => h9) (hP_S38 _ (List.mem_of_getElem? (i := 60) rfl)) rfl rfl dX11_takeHut_44 ?_
        refine lv_sipush (v := 421) hx hb dX11_takeHut_47 (by decide) ?_
        refine lv_aload_n hx hb dX11_takeHut_50 rfl (lv_at hl 0 rfl) ?_
        refine lv_iconst (v := 1) hx hb dX11_takeHut_51 (by decide) ?_
        refine lv_bipush (v := 9) hx hb dX11_takeHut_52 (by decide) ?_
        refine r_calli hW hA (va_runV (As := [.int 1, .int 9]) (rest := [.int 421, .ref (gA G 66)]) ⟨hx, hb, hml, hown, hts⟩ (t_X11_takeNumber_past l D G (rj S38 66 (va_up (gj S38 66) 420 (Int32.toInt64 r38))) _ hG hP_S38 f38 hfb38.1 hfb38.2 hfl38.1 1 9) (cwV 2 hts gX11_takeHut_X11_takeNumber rfl rfl rfl (by decide +kernel) ⟨Nat.le_of_ble_eq_true rfl, Nat.le_of_ble_eq_true rfl⟩) (r_preV (k := 65) hA hW (ci := 10) (C := RX11) (T := TX11) (N := 20) rfl rfl (g_lt hG (by decide)) (g_kd hG (by decide) rfl) rfl rfl) rfl rfl hl.1 rfl (lv_room (Nat.le_of_ble_eq_true rfl)) dX11_takeHut_54 ⟨Nat.zero_le _, Nat.zero_le _⟩) (fun r54 S54 H locs hp54 hW => ?_)
        obtain ⟨rfl, hs54⟩ := hp54
        rw [hs54] at hW
        refine lv_i2l hx hb dX11_takeHut_57 rfl ?_
        refine W.eq (g2 := F0 mM 58 ls [.long (Int32.toInt64 0), .int (nI 421), .ref (gA G 66)]) rfl ?_
        refine r_last hx hb hW 66 rfl (g_lt hG (by decide)) (g_kd hG (by decide) rfl) (g_ix hG (c := 560) (by decide) rfl (n_inI (by omega) (by decide))) (rj S38 66 (va_up (va_up (gj S38 66) 420 (Int32.toInt64 r38)) ((nI 421)).toNatClampNeg (Int32.toInt64 0))) (va_up (gj S38 66) 420 (Int32.toInt64 r38)) (e_js _ _ _) (e_js _ _ _) rfl rfl c_j dX11_takeHut_58 (fun H locs hW => ?_)
        rw [show ((nI 421)).toNatClampNeg = 421 from n_clamp (by omega)] at hW
        refine lv_aload_n hx hb dX11_takeHut_59 rfl (lv_at hl 0 rfl) ?_
        refine r_getr (ci := 10) (C := RX11) (T := TX11) (N := 20) hx hb hts iX11 hown hW rfl 65 0 rfl (g_lt hG (by decide)) (g_kd hG (by decide) rfl) (by decide) q0 (fun _ h9 => h9) (hP_S38 _ (List.mem_of_getElem? (i := 60) rfl)) rfl rfl dX11_takeHut_60 ?_
        refine lv_sipush (v := 422) hx hb dX11_takeHut_63 (by decide) ?_
        refine lv_aload_n hx hb dX11_takeHut_66 rfl (lv_at hl 0 rfl) ?_
        refine lv_iconst (v := 1) hx hb dX11_takeHut_67 (by decide) ?_
        refine r_calli hW hA (va_runV (As := [.int 1]) (rest := [.int 422, .ref (gA G 66)]) ⟨hx, hb, hml, hown, hts⟩ (t_X11_takeChoice_past1 l D G (rj S38 66 (va_up (va_up (gj S38 66) 420 (Int32.toInt64 r38)) 421 (Int32.toInt64 0))) _ hG hP_S38 f38 hfb38.1 hfb38.2 hfl38.1) (cwV 1 hts gX11_takeHut_X11_takeChoice rfl rfl rfl (by decide +kernel) ⟨Nat.le_of_ble_eq_true rfl, Nat.le_of_ble_eq_true rfl⟩) (r_preV (k := 65) hA hW (ci := 10) (C := RX11) (T := TX11) (N := 20) rfl rfl (g_lt hG (by decide)) (g_kd hG (by decide) rfl) rfl rfl) rfl rfl hl.1 rfl (lv_room (Nat.le_of_ble_eq_true rfl)) dX11_takeHut_68 ⟨Nat.zero_le _, Nat.zero_le _⟩) (fun r68 S68 H locs hp68 hW => ?_)
        obtain ⟨rfl, hs68⟩ := hp68
        rw [hs68] at hW
        refine lv_i2l hx hb dX11_takeHut_71 rfl ?_
        refine W.eq (g2 := F0 mM 72 ls [.long (Int32.toInt64 0), .int (nI 422), .ref (gA G 66)]) rfl ?_
        refine r_last hx hb hW 66 rfl (g_lt hG (by decide)) (g_kd hG (by decide) rfl) (g_ix hG (c := 560) (by decide) rfl (n_inI (by omega) (by decide))) (rj S38 66 (va_up (va_up (va_up (gj S38 66) 420 (Int32.toInt64 r38)) 421 (Int32.toInt64 0)) ((nI 422)).toNatClampNeg (Int32.toInt64 0))) (va_up (va_up (gj S38 66) 420 (Int32.toInt64 r38)) 421 (Int32.toInt64 0)) (e_js _ _ _) (e_js _ _ _) rfl rfl c_j dX11_takeHut_72 (fun H locs hW => ?_)
        rw [show ((nI 422)).toNatClampNeg = 422 from n_clamp (by omega)] at hW
        refine lv_aload_n hx hb dX11_takeHut_73 rfl (lv_at hl 0 rfl) ?_
        refine r_getr (ci := 10) (C := RX11) (T := TX11) (N := 20) hx hb hts iX11 hown hW rfl 65 0 rfl (g_lt hG (by decide)) (g_kd hG (by decide) rfl) (by decide) q0 (fun _ h9 => h9) (hP_S38 _ (List.mem_of_getElem? (i := 60) rfl)) rfl rfl dX11_takeHut_74 ?_
        refine lv_sipush (v := 423) hx hb dX11_takeHut_77 (by decide) ?_
        refine lv_aload_n hx hb dX11_takeHut_80 rfl (lv_at hl 0 rfl) ?_
        refine lv_iconst (v := 0) hx hb dX11_takeHut_81 (by decide) ?_
        refine lv_bipush (v := 9) hx hb dX11_takeHut_82 (by decide) ?_
        refine r_calli hW hA (va_runV (As := [.int 0, .int 9]) (rest := [.int 423, .ref (gA G 66)]) ⟨hx, hb, hml, hown, hts⟩ (t_X11_takeNumber_past l D G (rj S38 66 (va_up (va_up (va_up (gj S38 66) 420 (Int32.toInt64 r38)) 421 (Int32.toInt64 0)) 422 (Int32.toInt64 0))) _ hG hP_S38 f38 hfb38.1 hfb38.2 hfl38.1 0 9) (cwV 2 hts gX11_takeHut_X11_takeNumber rfl rfl rfl (by decide +kernel) ⟨Nat.le_of_ble_eq_true rfl, Nat.le_of_ble_eq_true rfl⟩) (r_preV (k := 65) hA hW (ci := 10) (C := RX11) (T := TX11) (N := 20) rfl rfl (g_lt hG (by decide)) (g_kd hG (by decide) rfl) rfl rfl) rfl rfl hl.1 rfl (lv_room (Nat.le_of_ble_eq_true rfl)) dX11_takeHut_84 ⟨Nat.zero_le _, Nat.zero_le _⟩) (fun r84 S84 H locs hp84 hW => ?_)
        obtain ⟨rfl, hs84⟩ := hp84
        rw [hs84] at hW
        refine lv_i2l hx hb dX11_takeHut_87 rfl ?_
        refine W.eq (g2 := F0 mM 88 ls [.long (Int32.toInt64 0), .int (nI 423), .ref (gA G 66)]) rfl ?_
        refine r_last hx hb hW 66 rfl (g_lt hG (by decide)) (g_kd hG (by decide) rfl) (g_ix hG (c := 560) (by decide) rfl (n_inI (by omega) (by decide))) (rj S38 66 (va_up (va_up (va_up (va_up (gj S38 66) 420 (Int32.toInt64 r38)) 421 (Int32.toInt64 0)) 422 (Int32.toInt64 0)) ((nI 423)).toNatClampNeg (Int32.toInt64 0))) (va_up (va_up (va_up (gj S38 66) 420 (Int32.toInt64 r38)) 421 (Int32.toInt64 0)) 422 (Int32.toInt64 0)) (e_js _ _ _) (e_js _ _ _) rfl rfl c_j dX11_takeHut_88 (fun H locs hW => ?_)
        rw [show ((nI 423)).toNatClampNeg = 423 from n_clamp (by omega)] at hW
        refine lv_aload_n hx hb dX11_takeHut_89 rfl (lv_at hl 0 rfl) ?_
        refine r_callv hW hA (va_runV (As := []) (rest := []) ⟨hx, hb, hml, hown, hts⟩ (t_X11_takeSign_past l D G (rj S38 66 (va_up (va_up (va_up (va_up (gj S38 66) 420 (Int32.toInt64 r38)) 421 (Int32.toInt64 0)) 422 (Int32.toInt64 0)) 423 (Int32.toInt64 0))) _ hG hP_S38 f38 hfb38.1 hfb38.2 hfl38.1) (cwV 0 hts gX11_takeHut_X11_takeSign rfl rfl rfl (by decide +kernel) ⟨Nat.le_of_ble_eq_true rfl, Nat.le_of_ble_eq_true rfl⟩) (r_preV (k := 65) hA hW (ci := 10) (C := RX11) (T := TX11) (N := 20) rfl rfl (g_lt hG (by decide)) (g_kd hG (by decide) rfl) rfl rfl) rfl rfl hl.1 rfl (lv_room (Nat.le_of_ble_eq_true rfl)) dX11_takeHut_90 ⟨Nat.zero_le _, Nat.zero_le _⟩) (fun S90 H locs hp90 hW => ?_)
        rw [hp90] at hW
        refine r_vret hx hb hr hlocks hW ?_ dX11_takeHut_93
        refine Or.inr ⟨f38, p38, ?_, hfl38.1, hfl38.2.1, ⟨hfb38.1, hfb38.2⟩, (FrM.rj (FrM.tr hFrG (FrM.fl hfl38)) (fun k hk => ((up_n _ _ (by omega)).trans ((up_n _ _ (by omega)).trans ((up_n _ _ (by omega)).trans ((up_n _ _ (by omega)).trans rfl))))))⟩
        unfold pHut; rw [if_pos h16, PB_r hpn38]
  · skip
    refine lv_iconst (v := 1) hx hb dX11_takeHut_19 (by decide) ?_
    refine W.eq (g2 := F0 mM 20 ls [.int (nI 1), .int 0, .ref (gA G 65)]) rfl ?_
    refine r_calli hW hA (va_runV (As := [.int 0, .int (nI 1)]) (rest := []) ⟨hx, hb, hml, hown, hts⟩ (t_X11_want_no l D G SG _ hG hP_SG 1 h12G (by decide)) (cwV 2 hts gX11_takeHut_X11_want rfl rfl rfl (by decide +kernel) ⟨Nat.le_of_ble_eq_true rfl, Nat.le_of_ble_eq_true rfl⟩) (r_preV (k := 65) hA hW (ci := 10) (C := RX11) (T := TX11) (N := 20) rfl rfl (g_lt hG (by decide)) (g_kd hG (by decide) rfl) rfl rfl) rfl rfl hl.1 rfl (lv_room (Nat.le_of_ble_eq_true rfl)) dX11_takeHut_20 ⟨Nat.zero_le _, Nat.zero_le _⟩) (fun r20 S20 H locs hp20 hW => ?_)
    obtain ⟨rfl, hs20⟩ := hp20
    rw [hs20] at hW
    have hFrG : FrM S SG := ⟨fun j hj => hfr j (by omega) (by omega) (by omega) (by omega), fun k _ => congrFun (hCg.2 66 (by decide)).2 k, Ch.mono hCg (fun _ hk => Or.inl hk)⟩
    refine lv_if_eq (tgt := 93) hx hb dX11_takeHut_23 (by decide) (fun c23 => ?_) (fun c23 => ?_)
    · skip
      refine r_vret hx hb hr hlocks hW ?_ dX11_takeHut_93
      refine Or.inr ⟨1, SK T ts a, ?_, congrFun (e_is _ _ _) 12, (congrFun (e_is _ _ _) 13).trans hTk.1, ⟨by decide, by decide⟩, FrM.ri hFrG (fun j hj => (up_n _ _ (by omega)).trans (up_n _ _ (by omega)))⟩
      unfold pHut; rw [if_neg h16]
    · exact absurd (by decide) c23

def rmX11_takeChance : Jvm.Room := { frames := 4, cells := 0, slots := 0, locals := 88 }
set_option maxHeartbeats 4000000 in
set_option maxRecDepth 100000 in
theorem t_X11_takeChance (l : Launch) (D : Dc) (G : Gg) (S : Sg) (z : Nat) (hG : GrG G) (hP : GrP G S) (T : Nat → Nat) (ts : Nat) (ht4 : ts ≤ 400) (hTB : ∀ i, i < ts → T i ≤ 255) (a : Nat) (hAt : AtM S T ts (tE T ts a)) (h9 : gi S 65 9 = nI (SK T ts a)) (B : Nat → Nat) (hB : Tld B) (hN : NwM S B) : MV l yX11_takeChance wsX11_takeChance rmX11_takeChance D G S z [.ref (gA G 65)] (fun S' => (∃ B' e, pChance T ts B a = .inl (B', e) ∧ OkN S S' T ts B' e ∧ gi S' 65 10 = nI 3) ∨ (∃ f p, pChance T ts B a = .inr (f, p) ∧ FlN S S' f p)) := by
  refine Met.ofW (cc := cX11_takeChance) (maxL := 5) (ret := none) (by decide +kernel) rfl ?_
  intro pP eE s mM args bl mT cD s₁ bD hml hv
  obtain ⟨rfl, hv⟩ := hv
  have hz := hv.1
  subst hz
  have hx := bD.exec
  have hb := bD.bytes
  have hr := bD.returns
  have hts := atoms_spec (ws := wsX11_takeChance) bD.pre
  have hown : s.vm.findClass RX11 = some mM.cls := findClass_of_methodNamed bD.named
  have hlocks := bD.notSynchronized
  have hW := Wd.start hv
  have hA : ∀ q, s.heap.size ≤ q → AW G s.heap.size q := fun q h => Or.inr h
  have hl := lv_entry ([.ref (gA G 65)]) (n := 5) (Nat.le_of_ble_eq_true rfl)
  rw [lg_entry_eq]
  generalize (lg_sl ([.ref (gA G 65)]) ++ List.replicate (5 - (lg_sl ([.ref (gA G 65)])).length) Slot.unset).toArray = ls at hl ⊢
  have hl : lv_has ls 5 [(0, .ref (gA G 65))] := hl
  have q0 := hts (.fieldLink RX11 7 "WoodForTwoModel" "w" "[J") (List.mem_of_getElem? (i := 1) rfl)
  have iX11 : ∀ w ∈ wsX110, w ∈ wsX11_takeChance := fun _ h => List.mem_cons_of_mem _ (List.mem_append_right _ (h))
  generalize hQ0 : MQ bl _ _ s _ _ _ = Q0
  have b7 := hB.1.2.2.2.2.2.2.2.1
  have b6 := hB.1.2.2.2.2.2.2.1
  refine lv_aload_n hx hb dX11_takeChance_0 rfl (lv_at hl 0 rfl) ?_
  refine r_getr (ci := 10) (C := RX11) (T := TX11) (N := 20) hx hb hts iX11 hown hW rfl 65 0 rfl (g_lt hG (by decide)) (g_kd hG (by decide) rfl) (by decide) q0 (fun _ h9 => h9) (hP _ (List.mem_of_getElem? (i := 60) rfl)) rfl rfl dX11_takeChance_1 ?_
  refine lv_sipush (v := 424) hx hb dX11_takeChance_4 (by decide) ?_
  refine W.eq (g2 := F0 mM 7 ls [.int (nI 424), .ref (gA G 66)]) rfl ?_
  refine r_lald hx hb hW 66 rfl (g_lt hG (by decide)) (g_kd hG (by decide) rfl) (g_ix hG (c := 560) (by decide) rfl (n_inI (by omega) (by decide))) (lN (B 4)) (by rw [n_clamp (by omega)]; exact (hN 4 (by decide))) dX11_takeChance_7 ?_
  refine lv_l2i hx hb dX11_takeChance_8 rfl ?_
  rw [show (Int64.toInt32 (lN (B 4)) : Int32) = nI (B 4) from lN_i _]
  refine lv_istore_n (lv' := [(1, .int (nI (B 4))), (0, .ref (gA G 65))]) hx hb dX11_takeChance_9 rfl hl (by decide) rfl (fun ls hl => ?_)
  refine lv_aload_n hx hb dX11_takeChance_10 rfl (lv_at hl 1 rfl) ?_
  refine lv_iload_n hx hb dX11_takeChance_11 rfl (lv_at hl 0 rfl) ?_
  refine lv_bipush (v := 6) hx hb dX11_takeChance_12 (by decide) ?_
  refine lv_icmp_ge (tgt := 21) hx hb dX11_takeChance_14 (by decide) (fun c14 => ?_) (fun c14 => ?_)
  · skip
    have hn6 : B 4 = 6 := by rw [t_le, n_toInt (by omega), show (6 : Int32).toInt = 6 from by decide] at c14; omega
    refine lv_iconst (v := 0) hx hb dX11_takeChance_21 (by decide) ?_
    refine lv_iconst (v := 3) hx hb dX11_takeChance_22 (by decide) ?_
    refine W.eq (g2 := F0 mM 23 ls [.int (nI 3), .int 0, .ref (gA G 65)]) rfl ?_
    refine r_calli hW hA (va_runV (As := [.int 0, .int (nI 3)]) (rest := []) ⟨hx, hb, hml, hown, hts⟩ (t_X11_want_no l D G S _ hG hP 3 hAt.2.2.2 (by decide)) (cwV 2 hts gX11_takeChance_X11_want rfl rfl rfl (by decide +kernel) ⟨Nat.le_of_ble_eq_true rfl, Nat.le_of_ble_eq_true rfl⟩) (r_preV (k := 65) hA hW (ci := 10) (C := RX11) (T := TX11) (N := 20) rfl rfl (g_lt hG (by decide)) (g_kd hG (by decide) rfl) rfl rfl) rfl rfl hl.1 rfl (lv_room (Nat.le_of_ble_eq_true rfl)) dX11_takeChance_23 ⟨Nat.zero_le _, Nat.zero_le _⟩) (fun r23 S23 H locs hp23 hW => ?_)
    obtain ⟨rfl, hs23⟩ := hp23
    have hz12 : gi S23 65 12 = nI 3 := by rw [hs23]; exact (congrFun (e_is _ _ _) 12).trans rfl
    have hz13 : gi S23 65 13 = nI (SK T ts a) := by rw [hs23]; exact (congrFun (e_is _ _ _) 13).trans h9
    have hzF : FrM S S23 := by rw [hs23]; exact FrM.ri FrM.rf (fun j hj => (up_n _ _ (by omega)).trans (up_n _ _ (by omega)))
    have hP_S23 : GrP G S23 := fun q hq => by rw [hzF.2.2.1]; exact hP q hq
    refine lv_if_eq (tgt := 140) hx hb dX11_takeChance_26 (by decide) (fun c26 => ?_) (fun c26 => ?_)
    · skip
      refine lv_aload_n hx hb dX11_takeChance_140 rfl (lv_at hl 1 rfl) ?_
      refine r_callv hW hA (va_runV (As := []) (rest := []) ⟨hx, hb, hml, hown, hts⟩ (t_X11_takeSign_past l D G S23 _ hG hP_S23 3 (by decide) (by decide) hz12) (cwV 0 hts gX11_takeChance_X11_takeSign rfl rfl rfl (by decide +kernel) ⟨Nat.le_of_ble_eq_true rfl, Nat.le_of_ble_eq_true rfl⟩) (r_preV (k := 65) hA hW (ci := 10) (C := RX11) (T := TX11) (N := 20) rfl rfl (g_lt hG (by decide)) (g_kd hG (by decide) rfl) rfl rfl) rfl rfl hl.1 rfl (lv_room (Nat.le_of_ble_eq_true rfl)) dX11_takeChance_141 ⟨Nat.zero_le _, Nat.zero_le _⟩) (fun S141 H locs hp141 hW => ?_)
      rw [hp141] at hW
      rw [← hQ0]
      refine r_vret hx hb hr hlocks hW ?_ dX11_takeChance_144
      refine Or.inr ⟨3, (SK T ts a), ?_, hz12, hz13, ⟨(by decide), (by decide)⟩, hzF⟩
      unfold pChance; rw [if_pos (by omega)]
    · exact absurd (by decide) c26
  · skip
    have hn6 : B 4 < 6 := by rw [t_le, n_toInt (by omega), show (6 : Int32).toInt = 6 from by decide] at c14; omega
    refine lv_iconst (v := 1) hx hb dX11_takeChance_17 (by decide) ?_
    refine lv_goto (tgt := 22) hx hb dX11_takeChance_18 (by decide) ?_
    refine lv_iconst (v := 3) hx hb dX11_takeChance_22 (by decide) ?_
    refine W.eq (g2 := F0 mM 23 ls [.int (nI 3), .int 1, .ref (gA G 65)]) rfl ?_
    refine r_calli hW hA (va_runV (As := [.int 1, .int (nI 3)]) (rest := []) ⟨hx, hb, hml, hown, hts⟩ (t_X11_want_ok l D G S _ hG hP 3 hAt.2.2.2) (cwV 2 hts gX11_takeChance_X11_want rfl rfl rfl (by decide +kernel) ⟨Nat.le_of_ble_eq_true rfl, Nat.le_of_ble_eq_true rfl⟩) (r_preV (k := 65) hA hW (ci := 10) (C := RX11) (T := TX11) (N := 20) rfl rfl (g_lt hG (by decide)) (g_kd hG (by decide) rfl) rfl rfl) rfl rfl hl.1 rfl (lv_room (Nat.le_of_ble_eq_true rfl)) dX11_takeChance_23 ⟨Nat.zero_le _, Nat.zero_le _⟩) (fun r23 S23 H locs hp23 hW => ?_)
    obtain ⟨rfl, hs23⟩ := hp23
    rw [hs23] at hW
    refine lv_if_eq (tgt := 140) hx hb dX11_takeChance_26 (by decide) (fun c26 => ?_) (fun c26 => ?_)
    · exact absurd c26 (by decide)
    · skip
      refine lv_aload_n hx hb dX11_takeChance_29 rfl (lv_at hl 1 rfl) ?_
      refine lv_iconst (v := 0) hx hb dX11_takeChance_30 (by decide) ?_
      refine lv_bipush (v := 9) hx hb dX11_takeChance_31 (by decide) ?_
      refine W.eq (g2 := F0 mM 33 ls [.int (nI 9), .int (nI 0), .ref (gA G 65)]) rfl ?_
      refine r_calli hW hA (va_runV (As := [.int (nI 0), .int (nI 9)]) (rest := []) ⟨hx, hb, hml, hown, hts⟩ (t_X11_takeNumber9 l D G S _ hG hP T ts ht4 hTB (tE T ts a) hAt 0 9 (by decide) (by decide)) (cwV 2 hts gX11_takeChance_X11_takeNumber rfl rfl rfl (by decide +kernel) ⟨Nat.le_of_ble_eq_true rfl, Nat.le_of_ble_eq_true rfl⟩) (r_preV (k := 65) hA hW (ci := 10) (C := RX11) (T := TX11) (N := 20) rfl rfl (g_lt hG (by decide)) (g_kd hG (by decide) rfl) rfl rfl) rfl rfl hl.1 rfl (lv_room (Nat.le_of_ble_eq_true rfl)) dX11_takeChance_33 ⟨Nat.zero_le _, Nat.zero_le _⟩) (fun r33 S33 H locs hp33 hW => ?_)
      rcases hp33 with ⟨v33, e33, hpn33, rfl, hok33, hx33⟩ | ⟨f33, p33, hpn33, hfl33⟩
      · skip
        have hP_S33 : GrP G S33 := fun q hq => by rw [hok33.2.2.1]; exact hP q hq
        have hj33 : gj S33 66 = (gj S 66) := (hok33.2.2.2 66 (by decide)).2
        have hvb33 := pNum_b hpn33
        refine lv_istore_n (lv' := [(2, .int (nI v33)), (1, .int (nI (B 4))), (0, .ref (gA G 65))]) hx hb dX11_takeChance_36 rfl hl (by decide) rfl (fun ls hl => ?_)
        refine lv_iconst (v := 0) hx hb dX11_takeChance_37 (by decide) ?_
        refine lv_istore_n (lv' := [(3, .int 0), (2, .int (nI v33)), (1, .int (nI (B 4))), (0, .ref (gA G 65))]) hx hb dX11_takeChance_38 rfl hl (by decide) rfl (fun ls hl => ?_)
        refine lv_iconst (v := 0) hx hb dX11_takeChance_39 (by decide) ?_
        refine lv_istore (lv' := [(4, .int 0), (3, .int 0), (2, .int (nI v33)), (1, .int (nI (B 4))), (0, .ref (gA G 65))]) hx hb dX11_takeChance_40 hl (by decide) rfl (fun ls hl => ?_)
        have L42 : ∀ (n : Nat) (k : Nat) (b0 : Int32) (H : Heap) (locs : List Loc) (ls : Array Slot), (B 4 - k) < n → k ≤ B 4 → ((b0 = 1 ∧ agn B v33 k = true) ∨ (b0 = 0 ∧ agn B v33 k = false)) → Wd D (AW G s.heap.size) s G S33 H locs → lv_has ls 5 [(4, .int (nI k)), (3, .int b0), (0, .ref (gA G 65)), (1, .int (nI (B 4))), (2, .int (nI v33))] → W pP l eE (headSpec wsX11_takeChance rmX11_takeChance).room s mM ([.ref (gA G 65)] : List Value).toArray bl mT cD H locs 0 0 Q0 (F0 mM 42 ls []) := by
          intro n
          induction n with
          | zero => intro k b0 H locs ls hm; exact absurd hm (Nat.not_lt_zero _)
          | succ n ih42 =>
            intro k b0 H locs ls hm42 hk hbv hW hl
            refine lv_iload hx hb dX11_takeChance_42 (lv_at hl 0 rfl) ?_
            refine lv_iload_n hx hb dX11_takeChance_44 rfl (lv_at hl 3 rfl) ?_
            refine lv_icmp_ge (tgt := 81) hx hb dX11_takeChance_45 (by decide) (fun c45 => ?_) (fun c45 => ?_)
            · skip
              have hge := (n_le (a := B 4) (b := k) (by omega) (by omega)).mp c45
              rcases hbv with ⟨rfl, hag⟩ | ⟨rfl, hag⟩
              · skip
                refine lv_aload_n hx hb dX11_takeChance_81 rfl (lv_at hl 2 rfl) ?_
                refine lv_iload_n hx hb dX11_takeChance_82 rfl (lv_at hl 1 rfl) ?_
                refine lv_if_ne (tgt := 90) hx hb dX11_takeChance_83 (by decide) (fun c83 => ?_) (fun c83 => ?_)
                · skip
                  refine lv_iconst (v := 0) hx hb dX11_takeChance_90 (by decide) ?_
                  refine lv_iconst (v := 2) hx hb dX11_takeChance_91 (by decide) ?_
                  refine W.eq (g2 := F0 mM 92 ls [.int (nI 2), .int 0, .ref (gA G 65)]) rfl ?_
                  refine r_calli hW hA (va_runV (As := [.int 0, .int (nI 2)]) (rest := []) ⟨hx, hb, hml, hown, hts⟩ (t_X11_want_no l D G S33 _ hG hP_S33 2 hok33.1.2.2.2 (by decide)) (cwV 2 hts gX11_takeChance_X11_want rfl rfl rfl (by decide +kernel) ⟨Nat.le_of_ble_eq_true rfl, Nat.le_of_ble_eq_true rfl⟩) (r_preV (k := 65) hA hW (ci := 10) (C := RX11) (T := TX11) (N := 20) rfl rfl (g_lt hG (by decide)) (g_kd hG (by decide) rfl) rfl rfl) rfl rfl hl.1 rfl (lv_room (Nat.le_of_ble_eq_true rfl)) dX11_takeChance_92 ⟨Nat.zero_le _, Nat.zero_le _⟩) (fun r92 S92 H locs hp92 hW => ?_)
                  obtain ⟨rfl, hs92⟩ := hp92
                  have hz12 : gi S92 65 12 = nI 2 := by rw [hs92]; exact (congrFun (e_is _ _ _) 12).trans rfl
                  have hz13 : gi S92 65 13 = nI (SK T ts (tE T ts a)) := by rw [hs92]; exact (congrFun (e_is _ _ _) 13).trans hx33
                  have hzF : FrM S S92 := by rw [hs92]; exact FrM.ri (FrM.tr FrM.rf (FrM.ok hok33)) (fun j hj => (up_n _ _ (by omega)).trans (up_n _ _ (by omega)))
                  have hP_S92 : GrP G S92 := fun q hq => by rw [hzF.2.2.1]; exact hP q hq
                  refine lv_if_eq (tgt := 140) hx hb dX11_takeChance_95 (by decide) (fun c95 => ?_) (fun c95 => ?_)
                  · skip
                    refine lv_aload_n hx hb dX11_takeChance_140 rfl (lv_at hl 2 rfl) ?_
                    refine r_callv hW hA (va_runV (As := []) (rest := []) ⟨hx, hb, hml, hown, hts⟩ (t_X11_takeSign_past l D G S92 _ hG hP_S92 2 (by decide) (by decide) hz12) (cwV 0 hts gX11_takeChance_X11_takeSign rfl rfl rfl (by decide +kernel) ⟨Nat.le_of_ble_eq_true rfl, Nat.le_of_ble_eq_true rfl⟩) (r_preV (k := 65) hA hW (ci := 10) (C := RX11) (T := TX11) (N := 20) rfl rfl (g_lt hG (by decide)) (g_kd hG (by decide) rfl) rfl rfl) rfl rfl hl.1 rfl (lv_room (Nat.le_of_ble_eq_true rfl)) dX11_takeChance_141 ⟨Nat.zero_le _, Nat.zero_le _⟩) (fun S141 H locs hp141 hW => ?_)
                    rw [hp141] at hW
                    rw [← hQ0]
                    refine r_vret hx hb hr hlocks hW ?_ dX11_takeChance_144
                    refine Or.inr ⟨2, (SK T ts (tE T ts a)), ?_, hz12, hz13, ⟨(by decide), (by decide)⟩, hzF⟩
                    exact pChance_g hn6 hpn33 (by rw [show B 4 = k by omega]; exact hag)
                  · exact absurd (by decide) c95
                · exact absurd c83 (by decide)
              · skip
                refine lv_aload_n hx hb dX11_takeChance_81 rfl (lv_at hl 2 rfl) ?_
                refine lv_iload_n hx hb dX11_takeChance_82 rfl (lv_at hl 1 rfl) ?_
                refine lv_if_ne (tgt := 90) hx hb dX11_takeChance_83 (by decide) (fun c83 => ?_) (fun c83 => ?_)
                · exact absurd (by decide) c83
                · skip
                  refine lv_iconst (v := 1) hx hb dX11_takeChance_86 (by decide) ?_
                  refine lv_goto (tgt := 91) hx hb dX11_takeChance_87 (by decide) ?_
                  refine lv_iconst (v := 2) hx hb dX11_takeChance_91 (by decide) ?_
                  refine W.eq (g2 := F0 mM 92 ls [.int (nI 2), .int 1, .ref (gA G 65)]) rfl ?_
                  refine r_calli hW hA (va_runV (As := [.int 1, .int (nI 2)]) (rest := []) ⟨hx, hb, hml, hown, hts⟩ (t_X11_want_ok l D G S33 _ hG hP_S33 2 hok33.1.2.2.2) (cwV 2 hts gX11_takeChance_X11_want rfl rfl rfl (by decide +kernel) ⟨Nat.le_of_ble_eq_true rfl, Nat.le_of_ble_eq_true rfl⟩) (r_preV (k := 65) hA hW (ci := 10) (C := RX11) (T := TX11) (N := 20) rfl rfl (g_lt hG (by decide)) (g_kd hG (by decide) rfl) rfl rfl) rfl rfl hl.1 rfl (lv_room (Nat.le_of_ble_eq_true rfl)) dX11_takeChance_92 ⟨Nat.zero_le _, Nat.zero_le _⟩) (fun r92 S92 H locs hp92 hW => ?_)
                  obtain ⟨rfl, hs92⟩ := hp92
                  rw [hs92] at hW
                  refine lv_if_eq (tgt := 140) hx hb dX11_takeChance_95 (by decide) (fun c95 => ?_) (fun c95 => ?_)
                  · exact absurd c95 (by decide)
                  · skip
                    refine lv_aload_n hx hb dX11_takeChance_98 rfl (lv_at hl 2 rfl) ?_
                    refine r_getr (ci := 10) (C := RX11) (T := TX11) (N := 20) hx hb hts iX11 hown hW rfl 65 0 rfl (g_lt hG (by decide)) (g_kd hG (by decide) rfl) (by decide) q0 (fun _ h9 => h9) (hP_S33 _ (List.mem_of_getElem? (i := 60) rfl)) rfl rfl dX11_takeChance_99 ?_
                    refine lv_sipush (v := 425) hx hb dX11_takeChance_102 (by decide) ?_
                    refine lv_iload_n hx hb dX11_takeChance_105 rfl (lv_at hl 3 rfl) ?_
                    refine lv_iadd hx hb dX11_takeChance_106 ?_
                    rw [show ((425 + (nI (B 4))) : Int32) = (nI (425 + (B 4))) from n_add 425 (B 4)]
                    refine lv_iload_n hx hb dX11_takeChance_107 rfl (lv_at hl 4 rfl) ?_
                    refine lv_i2l hx hb dX11_takeChance_108 rfl ?_
                    rw [show (Int32.toInt64 (nI v33) : Int64) = lN v33 from lN_of (by omega)]
                    refine r_last hx hb hW 66 rfl (g_lt hG (by decide)) (g_kd hG (by decide) rfl) (g_ix hG (c := 560) (by decide) rfl (n_inI (by omega) (by decide))) (rj S33 66 (va_up (gj S33 66) ((nI (425 + (B 4)))).toNatClampNeg (lN v33))) (gj S33 66) rfl (e_js _ _ _) rfl rfl c_j0 dX11_takeChance_109 (fun H locs hW => ?_)
                    rw [show ((nI (425 + (B 4)))).toNatClampNeg = (425 + (B 4)) from n_clamp (by omega)] at hW
                    refine lv_aload_n hx hb dX11_takeChance_110 rfl (lv_at hl 2 rfl) ?_
                    refine r_getr (ci := 10) (C := RX11) (T := TX11) (N := 20) hx hb hts iX11 hown hW rfl 65 0 rfl (g_lt hG (by decide)) (g_kd hG (by decide) rfl) (by decide) q0 (fun _ h9 => h9) (hP_S33 _ (List.mem_of_getElem? (i := 60) rfl)) rfl rfl dX11_takeChance_111 ?_
                    refine lv_sipush (v := 431) hx hb dX11_takeChance_114 (by decide) ?_
                    refine lv_iload_n hx hb dX11_takeChance_117 rfl (lv_at hl 3 rfl) ?_
                    refine lv_iadd hx hb dX11_takeChance_118 ?_
                    rw [show ((431 + (nI (B 4))) : Int32) = (nI (431 + (B 4))) from n_add 431 (B 4)]
                    refine lv_aload_n hx hb dX11_takeChance_119 rfl (lv_at hl 2 rfl) ?_
                    refine lv_iconst (v := 1) hx hb dX11_takeChance_120 (by decide) ?_
                    refine lv_bipush (v := 9) hx hb dX11_takeChance_121 (by decide) ?_
                    refine W.eq (g2 := F0 mM 123 ls [.int (nI 9), .int (nI 1), .ref (gA G 65), .int (nI (431 + (B 4))), .ref (gA G 66)]) rfl ?_
                    refine r_calli hW hA (va_runV (As := [.int (nI 1), .int (nI 9)]) (rest := [.int (nI (431 + (B 4))), .ref (gA G 66)]) ⟨hx, hb, hml, hown, hts⟩ (t_X11_takeNumber9 l D G (rj S33 66 (va_up (gj S33 66) (425 + (B 4)) (lN v33))) _ hG hP_S33 T ts ht4 hTB e33 hok33.1 1 9 (by decide) (by decide)) (cwV 2 hts gX11_takeChance_X11_takeNumber rfl rfl rfl (by decide +kernel) ⟨Nat.le_of_ble_eq_true rfl, Nat.le_of_ble_eq_true rfl⟩) (r_preV (k := 65) hA hW (ci := 10) (C := RX11) (T := TX11) (N := 20) rfl rfl (g_lt hG (by decide)) (g_kd hG (by decide) rfl) rfl rfl) rfl rfl hl.1 rfl (lv_room (Nat.le_of_ble_eq_true rfl)) dX11_takeChance_123 ⟨Nat.zero_le _, Nat.zero_le _⟩) (fun r123 S123 H locs hp123 hW => ?_)
                    rcases hp123 with ⟨v123, e123, hpn123, rfl, hok123, hx123⟩ | ⟨f123, p123, hpn123, hfl123⟩
                    · skip
                      have hP_S123 : GrP G S123 := fun q hq => by rw [hok123.2.2.1]; exact hP_S33 q hq
                      have hj123 : gj S123 66 = (va_up (gj S33 66) (425 + (B 4)) (lN v33)) := ((hok123.2.2.2 66 (by decide)).2).trans (e_js _ _ _)
                      have hvb123 := pNum_b hpn123
                      refine lv_i2l hx hb dX11_takeChance_126 rfl ?_
                      rw [show (Int32.toInt64 (nI v123) : Int64) = lN v123 from lN_of (by omega)]
                      refine r_last hx hb hW 66 rfl (g_lt hG (by decide)) (g_kd hG (by decide) rfl) (g_ix hG (c := 560) (by decide) rfl (n_inI (by omega) (by decide))) (rj S123 66 (va_up (gj S123 66) ((nI (431 + (B 4)))).toNatClampNeg (lN v123))) (gj S123 66) rfl (e_js _ _ _) rfl rfl c_j0 dX11_takeChance_127 (fun H locs hW => ?_)
                      rw [show ((nI (431 + (B 4)))).toNatClampNeg = (431 + (B 4)) from n_clamp (by omega)] at hW
                      refine lv_aload_n hx hb dX11_takeChance_128 rfl (lv_at hl 2 rfl) ?_
                      refine r_getr (ci := 10) (C := RX11) (T := TX11) (N := 20) hx hb hts iX11 hown hW rfl 65 0 rfl (g_lt hG (by decide)) (g_kd hG (by decide) rfl) (by decide) q0 (fun _ h9 => h9) (hP_S123 _ (List.mem_of_getElem? (i := 60) rfl)) rfl rfl dX11_takeChance_129 ?_
                      refine lv_sipush (v := 424) hx hb dX11_takeChance_132 (by decide) ?_
                      refine lv_iload_n hx hb dX11_takeChance_135 rfl (lv_at hl 3 rfl) ?_
                      refine lv_iconst (v := 1) hx hb dX11_takeChance_136 (by decide) ?_
                      refine lv_iadd hx hb dX11_takeChance_137 ?_
                      rw [show (((nI (B 4)) + 1) : Int32) = (nI ((B 4) + 1)) from n_add (B 4) 1]
                      refine lv_i2l hx hb dX11_takeChance_138 rfl ?_
                      rw [show (Int32.toInt64 (nI ((B 4) + 1)) : Int64) = lN ((B 4) + 1) from lN_of (by omega)]
                      refine W.eq (g2 := F0 mM 139 ls [.long (lN ((B 4) + 1)), .int (nI 424), .ref (gA G 66)]) rfl ?_
                      refine r_last hx hb hW 66 rfl (g_lt hG (by decide)) (g_kd hG (by decide) rfl) (g_ix hG (c := 560) (by decide) rfl (n_inI (by omega) (by decide))) (rj S123 66 (va_up (va_up (gj S123 66) (431 + (B 4)) (lN v123)) ((nI 424)).toNatClampNeg (lN ((B 4) + 1)))) (va_up (gj S123 66) (431 + (B 4)) (lN v123)) (e_js _ _ _) (e_js _ _ _) rfl rfl c_j dX11_takeChance_139 (fun H locs hW => ?_)
                      rw [show ((nI 424)).toNatClampNeg = 424 from n_clamp (by omega)] at hW
                      refine lv_aload_n hx hb dX11_takeChance_140 rfl (lv_at hl 2 rfl) ?_
                      refine r_callv hW hA (va_runV (As := []) (rest := []) ⟨hx, hb, hml, hown, hts⟩ (t_X11_takeSign3 l D G (rj S123 66 (va_up (va_up (gj S123 66) (431 + (B 4)) (lN v123)) 424 (lN ((B 4) + 1)))) _ hG hP_S123 T ts ht4 hTB e123 hok123.1) (cwV 0 hts gX11_takeChance_X11_takeSign rfl rfl rfl (by decide +kernel) ⟨Nat.le_of_ble_eq_true rfl, Nat.le_of_ble_eq_true rfl⟩) (r_preV (k := 65) hA hW (ci := 10) (C := RX11) (T := TX11) (N := 20) rfl rfl (g_lt hG (by decide)) (g_kd hG (by decide) rfl) rfl rfl) rfl rfl hl.1 rfl (lv_room (Nat.le_of_ble_eq_true rfl)) dX11_takeChance_141 ⟨Nat.zero_le _, Nat.zero_le _⟩) (fun S141 H locs hp141 hW => ?_)
                      rcases hp141 with ⟨v141, e141, hpn141, hok141, hx141⟩ | ⟨f141, p141, hpn141, hfl141⟩
                      · skip
                        have hP_S141 : GrP G S141 := fun q hq => by rw [hok141.2.2.1]; exact hP_S123 q hq
                        have hj141 : gj S141 66 = (va_up (va_up (gj S123 66) (431 + (B 4)) (lN v123)) 424 (lN ((B 4) + 1))) := ((hok141.2.2.2 66 (by decide)).2).trans (e_js _ _ _)
                        rw [← hQ0]
                        refine r_vret hx hb hr hlocks hW ?_ dX11_takeChance_144
                        refine Or.inl ⟨chB B v33 v123, e141, ?_, ⟨hok141.1, fun k hk => ?_, (FrM.tr (FrM.rj (FrM.tr (FrM.rj (FrM.tr FrM.rf (FrM.ok hok33)) (fun k hk => ((up_n _ _ (by omega)).trans rfl))) (FrM.ok hok123)) (fun k hk => ((up_n _ _ (by omega)).trans ((up_n _ _ (by omega)).trans rfl)))) (FrM.ok hok141))⟩, hx141⟩
                        · rw [pChance_n hn6 hpn33 (by rw [show B 4 = k by omega]; exact hag), PB_l hpn123, PB_l hpn141]
                        · rw [hj141, hj123, hj33]; exact chJ hN hn6 k hk
                      · skip
                        have hP_S141 : GrP G S141 := fun q hq => by rw [hfl141.2.2.2.1]; exact hP_S123 q hq
                        have hj141 : gj S141 66 = (va_up (va_up (gj S123 66) (431 + (B 4)) (lN v123)) 424 (lN ((B 4) + 1))) := ((hfl141.2.2.2.2 66 (by decide)).2).trans (e_js _ _ _)
                        have hfb141 := pSign_f hpn141
                        rw [← hQ0]
                        refine r_vret hx hb hr hlocks hW ?_ dX11_takeChance_144
                        refine Or.inr ⟨f141, p141, ?_, hfl141.1, hfl141.2.1, ⟨hfb141.1, hfb141.2⟩, (FrM.tr (FrM.rj (FrM.tr (FrM.rj (FrM.tr FrM.rf (FrM.ok hok33)) (fun k hk => ((up_n _ _ (by omega)).trans rfl))) (FrM.ok hok123)) (fun k hk => ((up_n _ _ (by omega)).trans ((up_n _ _ (by omega)).trans rfl)))) (FrM.fl hfl141))⟩
                        rw [pChance_n hn6 hpn33 (by rw [show B 4 = k by omega]; exact hag), PB_l hpn123, PB_r hpn141]
                    · skip
                      have hP_S123 : GrP G S123 := fun q hq => by rw [hfl123.2.2.2.1]; exact hP_S33 q hq
                      have hj123 : gj S123 66 = (va_up (gj S33 66) (425 + (B 4)) (lN v33)) := ((hfl123.2.2.2.2 66 (by decide)).2).trans (e_js _ _ _)
                      have hfb123 := pNum_f hpn123
                      refine lv_i2l hx hb dX11_takeChance_126 rfl ?_
                      refine r_last hx hb hW 66 rfl (g_lt hG (by decide)) (g_kd hG (by decide) rfl) (g_ix hG (c := 560) (by decide) rfl (n_inI (by omega) (by decide))) (rj S123 66 (va_up (gj S123 66) ((nI (431 + (B 4)))).toNatClampNeg (Int32.toInt64 r123))) (gj S123 66) rfl (e_js _ _ _) rfl rfl c_j0 dX11_takeChance_127 (fun H locs hW => ?_)
                      rw [show ((nI (431 + (B 4)))).toNatClampNeg = (431 + (B 4)) from n_clamp (by omega)] at hW
                      refine lv_aload_n hx hb dX11_takeChance_128 rfl (lv_at hl 2 rfl) ?_
                      refine r_getr (ci := 10) (C := RX11) (T := TX11) (N := 20) hx hb hts iX11 hown hW rfl 65 0 rfl (g_lt hG (by decide)) (g_kd hG (by decide) rfl) (by decide) q0 (fun _ h9 => h9) (hP_S123 _ (List.mem_of_getElem? (i := 60) rfl)) rfl rfl dX11_takeChance_129 ?_
                      refine lv_sipush (v := 424) hx hb dX11_takeChance_132 (by decide) ?_
                      refine lv_iload_n hx hb dX11_takeChance_135 rfl (lv_at hl 3 rfl) ?_
                      refine lv_iconst (v := 1) hx hb dX11_takeChance_136 (by decide) ?_
                      refine lv_iadd hx hb dX11_takeChance_137 ?_
                      rw [show (((nI (B 4)) + 1) : Int32) = (nI ((B 4) + 1)) from n_add (B 4) 1]
                      refine lv_i2l hx hb dX11_takeChance_138 rfl ?_
                      rw [show (Int32.toInt64 (nI ((B 4) + 1)) : Int64) = lN ((B 4) + 1) from lN_of (by omega)]
                      refine W.eq (g2 := F0 mM 139 ls [.long (lN ((B 4) + 1)), .int (nI 424), .ref (gA G 66)]) rfl ?_
                      refine r_last hx hb hW 66 rfl (g_lt hG (by decide)) (g_kd hG (by decide) rfl) (g_ix hG (c := 560) (by decide) rfl (n_inI (by omega) (by decide))) (rj S123 66 (va_up (va_up (gj S123 66) (431 + (B 4)) (Int32.toInt64 r123)) ((nI 424)).toNatClampNeg (lN ((B 4) + 1)))) (va_up (gj S123 66) (431 + (B 4)) (Int32.toInt64 r123)) (e_js _ _ _) (e_js _ _ _) rfl rfl c_j dX11_takeChance_139 (fun H locs hW => ?_)
                      rw [show ((nI 424)).toNatClampNeg = 424 from n_clamp (by omega)] at hW
                      refine lv_aload_n hx hb dX11_takeChance_140 rfl (lv_at hl 2 rfl) ?_
                      refine r_callv hW hA (va_runV (As := []) (rest := []) ⟨hx, hb, hml, hown, hts⟩ (t_X11_takeSign_past l D G (rj S123 66 (va_up (va_up (gj S123 66) (431 + (B 4)) (Int32.toInt64 r123)) 424 (lN ((B 4) + 1)))) _ hG hP_S123 f123 hfb123.1 hfb123.2 hfl123.1) (cwV 0 hts gX11_takeChance_X11_takeSign rfl rfl rfl (by decide +kernel) ⟨Nat.le_of_ble_eq_true rfl, Nat.le_of_ble_eq_true rfl⟩) (r_preV (k := 65) hA hW (ci := 10) (C := RX11) (T := TX11) (N := 20) rfl rfl (g_lt hG (by decide)) (g_kd hG (by decide) rfl) rfl rfl) rfl rfl hl.1 rfl (lv_room (Nat.le_of_ble_eq_true rfl)) dX11_takeChance_141 ⟨Nat.zero_le _, Nat.zero_le _⟩) (fun S141 H locs hp141 hW => ?_)
                      rw [hp141] at hW
                      rw [← hQ0]
                      refine r_vret hx hb hr hlocks hW ?_ dX11_takeChance_144
                      refine Or.inr ⟨f123, p123, ?_, hfl123.1, hfl123.2.1, ⟨hfb123.1, hfb123.2⟩, (FrM.rj (FrM.tr (FrM.rj (FrM.tr FrM.rf (FrM.ok hok33)) (fun k hk => ((up_n _ _ (by omega)).trans rfl))) (FrM.fl hfl123)) (fun k hk => ((up_n _ _ (by omega)).trans ((up_n _ _ (by omega)).trans rfl))))⟩
                      rw [pChance_n hn6 hpn33 (by rw [show B 4 = k by omega]; exact hag), PB_r hpn123]
            · skip
              have hkl : k < B 4 := by
                have h9 : ¬ B 4 ≤ k := fun z => c45 ((n_le (a := B 4) (b := k) (by omega) (by omega)).mpr z)
                omega
              rcases hbv with ⟨rfl, hag⟩ | ⟨rfl, hag⟩
              · skip
                refine lv_iload_n hx hb dX11_takeChance_48 rfl (lv_at hl 1 rfl) ?_
                refine lv_if_ne (tgt := 69) hx hb dX11_takeChance_49 (by decide) (fun c49 => ?_) (fun c49 => ?_)
                · skip
                  refine lv_iconst (v := 1) hx hb dX11_takeChance_69 (by decide) ?_
                  refine lv_goto (tgt := 74) hx hb dX11_takeChance_70 (by decide) ?_
                  refine lv_istore_n (lv' := [(3, .int 1), (4, .int (nI k)), (0, .ref (gA G 65)), (1, .int (nI (B 4))), (2, .int (nI v33))]) hx hb dX11_takeChance_74 rfl hl (by decide) rfl (fun ls hl => ?_)
                  refine lv_iinc (v := (nI (k + 1))) (lv' := [(4, .int (nI (k + 1))), (3, .int 1), (0, .ref (gA G 65)), (1, .int (nI (B 4))), (2, .int (nI v33))]) hx hb dX11_takeChance_75 hl (k := 1) rfl (nI_1 k) (by decide) rfl (fun ls hl => ?_)
                  refine lv_goto (tgt := 42) hx hb dX11_takeChance_78 (by decide) ?_
                  exact ih42 (k + 1) 1 _ _ ls (by omega) hkl (Or.inl ⟨rfl, by show (agn B v33 k || B (5 + k) == v33) = true; rw [hag]; rfl⟩) hW (lv_sub hl [0, 1, 2, 3, 4] rfl)
                · exact absurd c49 (by decide)
              · skip
                refine lv_iload_n hx hb dX11_takeChance_48 rfl (lv_at hl 1 rfl) ?_
                refine lv_if_ne (tgt := 69) hx hb dX11_takeChance_49 (by decide) (fun c49 => ?_) (fun c49 => ?_)
                · exact absurd (by decide) c49
                · skip
                  refine lv_aload_n hx hb dX11_takeChance_52 rfl (lv_at hl 2 rfl) ?_
                  refine r_getr (ci := 10) (C := RX11) (T := TX11) (N := 20) hx hb hts iX11 hown hW rfl 65 0 rfl (g_lt hG (by decide)) (g_kd hG (by decide) rfl) (by decide) q0 (fun _ h9 => h9) (hP_S33 _ (List.mem_of_getElem? (i := 60) rfl)) rfl rfl dX11_takeChance_53 ?_
                  refine lv_sipush (v := 425) hx hb dX11_takeChance_56 (by decide) ?_
                  refine lv_iload hx hb dX11_takeChance_59 (lv_at hl 0 rfl) ?_
                  refine lv_iadd hx hb dX11_takeChance_61 ?_
                  rw [show ((425 + (nI k)) : Int32) = (nI (425 + k)) from n_add 425 k]
                  have hb57 := b7 k hkl
                  refine r_lald hx hb hW 66 rfl (g_lt hG (by decide)) (g_kd hG (by decide) rfl) (g_ix hG (c := 560) (by decide) rfl (n_inI (by omega) (by decide))) (lN (B (5 + k))) (by rw [n_clamp (by omega)]; exact ((congrFun hj33 _).trans (by rw [show 425 + k = 420 + (5 + k) by omega]; exact hN (5 + k) (by omega)))) dX11_takeChance_62 ?_
                  refine lv_iload_n hx hb dX11_takeChance_63 rfl (lv_at hl 4 rfl) ?_
                  refine lv_i2l hx hb dX11_takeChance_64 rfl ?_
                  rw [show (Int32.toInt64 (nI v33) : Int64) = lN v33 from lN_of (by omega)]
                  refine W.lcmp hx hb dX11_takeChance_65 ?_
                  refine lv_if_ne (tgt := 73) hx hb dX11_takeChance_66 (by decide) (fun c66 => ?_) (fun c66 => ?_)
                  · skip
                    rw [lc_ne] at c66
                    have hb57 := b7 k hkl
                    rw [lN_int (by omega), lN_int (by omega)] at c66
                    refine lv_iconst (v := 0) hx hb dX11_takeChance_73 (by decide) ?_
                    refine lv_istore_n (lv' := [(3, .int 0), (4, .int (nI k)), (0, .ref (gA G 65)), (1, .int (nI (B 4))), (2, .int (nI v33))]) hx hb dX11_takeChance_74 rfl hl (by decide) rfl (fun ls hl => ?_)
                    refine lv_iinc (v := (nI (k + 1))) (lv' := [(4, .int (nI (k + 1))), (3, .int 0), (0, .ref (gA G 65)), (1, .int (nI (B 4))), (2, .int (nI v33))]) hx hb dX11_takeChance_75 hl (k := 1) rfl (nI_1 k) (by decide) rfl (fun ls hl => ?_)
                    refine lv_goto (tgt := 42) hx hb dX11_takeChance_78 (by decide) ?_
                    exact ih42 (k + 1) 0 _ _ ls (by omega) hkl (Or.inr ⟨rfl, by show (agn B v33 k || B (5 + k) == v33) = false; rw [hag]; simp; omega⟩) hW (lv_sub hl [0, 1, 2, 3, 4] rfl)
                  · skip
                    rw [lc_ne] at c66
                    have hb57 := b7 k hkl
                    rw [lN_int (by omega), lN_int (by omega)] at c66
                    refine lv_iconst (v := 1) hx hb dX11_takeChance_69 (by decide) ?_
                    refine lv_goto (tgt := 74) hx hb dX11_takeChance_70 (by decide) ?_
                    refine lv_istore_n (lv' := [(3, .int 1), (4, .int (nI k)), (0, .ref (gA G 65)), (1, .int (nI (B 4))), (2, .int (nI v33))]) hx hb dX11_takeChance_74 rfl hl (by decide) rfl (fun ls hl => ?_)
                    refine lv_iinc (v := (nI (k + 1))) (lv' := [(4, .int (nI (k + 1))), (3, .int 1), (0, .ref (gA G 65)), (1, .int (nI (B 4))), (2, .int (nI v33))]) hx hb dX11_takeChance_75 hl (k := 1) rfl (nI_1 k) (by decide) rfl (fun ls hl => ?_)
                    refine lv_goto (tgt := 42) hx hb dX11_takeChance_78 (by decide) ?_
                    exact ih42 (k + 1) 1 _ _ ls (by omega) hkl (Or.inl ⟨rfl, by show (agn B v33 k || B (5 + k) == v33) = true; rw [hag, show B (5 + k) = v33 by omega]; simp⟩) hW (lv_sub hl [0, 1, 2, 3, 4] rfl)
        exact L42 _ 0 0 _ _ ls (Nat.lt_succ_self _) (Nat.zero_le _) (Or.inr ⟨rfl, rfl⟩) hW (lv_sub hl [0, 1, 4, 3, 2] rfl)
      · skip
        have hP_S33 : GrP G S33 := fun q hq => by rw [hfl33.2.2.2.1]; exact hP q hq
        have hj33 : gj S33 66 = (gj S 66) := (hfl33.2.2.2.2 66 (by decide)).2
        have hfb33 := pNum_f hpn33
        refine lv_istore_n (lv' := [(2, .int r33), (1, .int (nI (B 4))), (0, .ref (gA G 65))]) hx hb dX11_takeChance_36 rfl hl (by decide) rfl (fun ls hl => ?_)
        refine lv_iconst (v := 0) hx hb dX11_takeChance_37 (by decide) ?_
        refine lv_istore_n (lv' := [(3, .int 0), (2, .int r33), (1, .int (nI (B 4))), (0, .ref (gA G 65))]) hx hb dX11_takeChance_38 rfl hl (by decide) rfl (fun ls hl => ?_)
        refine lv_iconst (v := 0) hx hb dX11_takeChance_39 (by decide) ?_
        refine lv_istore (lv' := [(4, .int 0), (3, .int 0), (2, .int r33), (1, .int (nI (B 4))), (0, .ref (gA G 65))]) hx hb dX11_takeChance_40 hl (by decide) rfl (fun ls hl => ?_)
        have L42 : ∀ (n : Nat) (k : Nat) (b0 : Int32) (H : Heap) (locs : List Loc) (ls : Array Slot), (B 4 - k) < n → k ≤ B 4 → (b0 = 1 ∨ b0 = 0) → Wd D (AW G s.heap.size) s G S33 H locs → lv_has ls 5 [(4, .int (nI k)), (3, .int b0), (0, .ref (gA G 65)), (1, .int (nI (B 4))), (2, .int r33)] → W pP l eE (headSpec wsX11_takeChance rmX11_takeChance).room s mM ([.ref (gA G 65)] : List Value).toArray bl mT cD H locs 0 0 Q0 (F0 mM 42 ls []) := by
          intro n
          induction n with
          | zero => intro k b0 H locs ls hm; exact absurd hm (Nat.not_lt_zero _)
          | succ n ih42 =>
            intro k b0 H locs ls hm42 hk hbv hW hl
            refine lv_iload hx hb dX11_takeChance_42 (lv_at hl 0 rfl) ?_
            refine lv_iload_n hx hb dX11_takeChance_44 rfl (lv_at hl 3 rfl) ?_
            refine lv_icmp_ge (tgt := 81) hx hb dX11_takeChance_45 (by decide) (fun c45 => ?_) (fun c45 => ?_)
            · skip
              have hge := (n_le (a := B 4) (b := k) (by omega) (by omega)).mp c45
              rcases hbv with rfl | rfl
              · skip
                refine lv_aload_n hx hb dX11_takeChance_81 rfl (lv_at hl 2 rfl) ?_
                refine lv_iload_n hx hb dX11_takeChance_82 rfl (lv_at hl 1 rfl) ?_
                refine lv_if_ne (tgt := 90) hx hb dX11_takeChance_83 (by decide) (fun c83 => ?_) (fun c83 => ?_)
                · skip
                  refine lv_iconst (v := 0) hx hb dX11_takeChance_90 (by decide) ?_
                  refine lv_iconst (v := 2) hx hb dX11_takeChance_91 (by decide) ?_
                  refine W.eq (g2 := F0 mM 92 ls [.int (nI 2), .int 0, .ref (gA G 65)]) rfl ?_
                  have hnz : gi S33 65 12 ≠ 0 := by rw [show gi S33 65 12 = nI f33 from hfl33.1]; exact fun z => absurd ((n_eq (b := 0) (by omega) (by decide)).mp z) (by omega)
                  refine r_calli hW hA (va_runV (As := [.int 0, .int (nI 2)]) (rest := []) ⟨hx, hb, hml, hown, hts⟩ (t_X11_want_past0 l D G S33 _ hG hP_S33 2 hnz) (cwV 2 hts gX11_takeChance_X11_want rfl rfl rfl (by decide +kernel) ⟨Nat.le_of_ble_eq_true rfl, Nat.le_of_ble_eq_true rfl⟩) (r_preV (k := 65) hA hW (ci := 10) (C := RX11) (T := TX11) (N := 20) rfl rfl (g_lt hG (by decide)) (g_kd hG (by decide) rfl) rfl rfl) rfl rfl hl.1 rfl (lv_room (Nat.le_of_ble_eq_true rfl)) dX11_takeChance_92 ⟨Nat.zero_le _, Nat.zero_le _⟩) (fun r92 S92 H locs hp92 hW => ?_)
                  obtain ⟨rfl, hs92⟩ := hp92
                  rw [hs92] at hW
                  refine lv_if_eq (tgt := 140) hx hb dX11_takeChance_95 (by decide) (fun c95 => ?_) (fun c95 => ?_)
                  · skip
                    refine lv_aload_n hx hb dX11_takeChance_140 rfl (lv_at hl 2 rfl) ?_
                    refine r_callv hW hA (va_runV (As := []) (rest := []) ⟨hx, hb, hml, hown, hts⟩ (t_X11_takeSign_past l D G S33 _ hG hP_S33 f33 hfb33.1 hfb33.2 hfl33.1) (cwV 0 hts gX11_takeChance_X11_takeSign rfl rfl rfl (by decide +kernel) ⟨Nat.le_of_ble_eq_true rfl, Nat.le_of_ble_eq_true rfl⟩) (r_preV (k := 65) hA hW (ci := 10) (C := RX11) (T := TX11) (N := 20) rfl rfl (g_lt hG (by decide)) (g_kd hG (by decide) rfl) rfl rfl) rfl rfl hl.1 rfl (lv_room (Nat.le_of_ble_eq_true rfl)) dX11_takeChance_141 ⟨Nat.zero_le _, Nat.zero_le _⟩) (fun S141 H locs hp141 hW => ?_)
                    rw [hp141] at hW
                    rw [← hQ0]
                    refine r_vret hx hb hr hlocks hW ?_ dX11_takeChance_144
                    refine Or.inr ⟨f33, p33, ?_, hfl33.1, hfl33.2.1, ⟨hfb33.1, hfb33.2⟩, (FrM.tr FrM.rf (FrM.fl hfl33))⟩
                    exact pChance_f hB hn6 hpn33
                  · exact absurd (by decide) c95
                · exact absurd c83 (by decide)
              · skip
                refine lv_aload_n hx hb dX11_takeChance_81 rfl (lv_at hl 2 rfl) ?_
                refine lv_iload_n hx hb dX11_takeChance_82 rfl (lv_at hl 1 rfl) ?_
                refine lv_if_ne (tgt := 90) hx hb dX11_takeChance_83 (by decide) (fun c83 => ?_) (fun c83 => ?_)
                · exact absurd (by decide) c83
                · skip
                  refine lv_iconst (v := 1) hx hb dX11_takeChance_86 (by decide) ?_
                  refine lv_goto (tgt := 91) hx hb dX11_takeChance_87 (by decide) ?_
                  refine lv_iconst (v := 2) hx hb dX11_takeChance_91 (by decide) ?_
                  refine W.eq (g2 := F0 mM 92 ls [.int (nI 2), .int 1, .ref (gA G 65)]) rfl ?_
                  have hnz : gi S33 65 12 ≠ 0 := by rw [show gi S33 65 12 = nI f33 from hfl33.1]; exact fun z => absurd ((n_eq (b := 0) (by omega) (by decide)).mp z) (by omega)
                  refine r_calli hW hA (va_runV (As := [.int 1, .int (nI 2)]) (rest := []) ⟨hx, hb, hml, hown, hts⟩ (t_X11_want_past1 l D G S33 _ hG hP_S33 2 hnz) (cwV 2 hts gX11_takeChance_X11_want rfl rfl rfl (by decide +kernel) ⟨Nat.le_of_ble_eq_true rfl, Nat.le_of_ble_eq_true rfl⟩) (r_preV (k := 65) hA hW (ci := 10) (C := RX11) (T := TX11) (N := 20) rfl rfl (g_lt hG (by decide)) (g_kd hG (by decide) rfl) rfl rfl) rfl rfl hl.1 rfl (lv_room (Nat.le_of_ble_eq_true rfl)) dX11_takeChance_92 ⟨Nat.zero_le _, Nat.zero_le _⟩) (fun r92 S92 H locs hp92 hW => ?_)
                  obtain ⟨rfl, hs92⟩ := hp92
                  rw [hs92] at hW
                  refine lv_if_eq (tgt := 140) hx hb dX11_takeChance_95 (by decide) (fun c95 => ?_) (fun c95 => ?_)
                  · skip
                    refine lv_aload_n hx hb dX11_takeChance_140 rfl (lv_at hl 2 rfl) ?_
                    refine r_callv hW hA (va_runV (As := []) (rest := []) ⟨hx, hb, hml, hown, hts⟩ (t_X11_takeSign_past l D G S33 _ hG hP_S33 f33 hfb33.1 hfb33.2 hfl33.1) (cwV 0 hts gX11_takeChance_X11_takeSign rfl rfl rfl (by decide +kernel) ⟨Nat.le_of_ble_eq_true rfl, Nat.le_of_ble_eq_true rfl⟩) (r_preV (k := 65) hA hW (ci := 10) (C := RX11) (T := TX11) (N := 20) rfl rfl (g_lt hG (by decide)) (g_kd hG (by decide) rfl) rfl rfl) rfl rfl hl.1 rfl (lv_room (Nat.le_of_ble_eq_true rfl)) dX11_takeChance_141 ⟨Nat.zero_le _, Nat.zero_le _⟩) (fun S141 H locs hp141 hW => ?_)
                    rw [hp141] at hW
                    rw [← hQ0]
                    refine r_vret hx hb hr hlocks hW ?_ dX11_takeChance_144
                    refine Or.inr ⟨f33, p33, ?_, hfl33.1, hfl33.2.1, ⟨hfb33.1, hfb33.2⟩, (FrM.tr FrM.rf (FrM.fl hfl33))⟩
                    exact pChance_f hB hn6 hpn33
                  · exact absurd (by decide) c95
            · skip
              have hkl : k < B 4 := by
                have h9 : ¬ B 4 ≤ k := fun z => c45 ((n_le (a := B 4) (b := k) (by omega) (by omega)).mpr z)
                omega
              rcases hbv with rfl | rfl
              · skip
                refine lv_iload_n hx hb dX11_takeChance_48 rfl (lv_at hl 1 rfl) ?_
                refine lv_if_ne (tgt := 69) hx hb dX11_takeChance_49 (by decide) (fun c49 => ?_) (fun c49 => ?_)
                · skip
                  refine lv_iconst (v := 1) hx hb dX11_takeChance_69 (by decide) ?_
                  refine lv_goto (tgt := 74) hx hb dX11_takeChance_70 (by decide) ?_
                  refine lv_istore_n (lv' := [(3, .int 1), (4, .int (nI k)), (0, .ref (gA G 65)), (1, .int (nI (B 4))), (2, .int r33)]) hx hb dX11_takeChance_74 rfl hl (by decide) rfl (fun ls hl => ?_)
                  refine lv_iinc (v := (nI (k + 1))) (lv' := [(4, .int (nI (k + 1))), (3, .int 1), (0, .ref (gA G 65)), (1, .int (nI (B 4))), (2, .int r33)]) hx hb dX11_takeChance_75 hl (k := 1) rfl (nI_1 k) (by decide) rfl (fun ls hl => ?_)
                  refine lv_goto (tgt := 42) hx hb dX11_takeChance_78 (by decide) ?_
                  exact ih42 (k + 1) 1 _ _ ls (by omega) hkl (Or.inl rfl) hW (lv_sub hl [0, 1, 2, 3, 4] rfl)
                · exact absurd c49 (by decide)
              · skip
                refine lv_iload_n hx hb dX11_takeChance_48 rfl (lv_at hl 1 rfl) ?_
                refine lv_if_ne (tgt := 69) hx hb dX11_takeChance_49 (by decide) (fun c49 => ?_) (fun c49 => ?_)
                · exact absurd (by decide) c49
                · skip
                  refine lv_aload_n hx hb dX11_takeChance_52 rfl (lv_at hl 2 rfl) ?_
                  refine r_getr (ci := 10) (C := RX11) (T := TX11) (N := 20) hx hb hts iX11 hown hW rfl 65 0 rfl (g_lt hG (by decide)) (g_kd hG (by decide) rfl) (by decide) q0 (fun _ h9 => h9) (hP_S33 _ (List.mem_of_getElem? (i := 60) rfl)) rfl rfl dX11_takeChance_53 ?_
                  refine lv_sipush (v := 425) hx hb dX11_takeChance_56 (by decide) ?_
                  refine lv_iload hx hb dX11_takeChance_59 (lv_at hl 0 rfl) ?_
                  refine lv_iadd hx hb dX11_takeChance_61 ?_
                  rw [show ((425 + (nI k)) : Int32) = (nI (425 + k)) from n_add 425 k]
                  have hb57 := b7 k hkl
                  refine r_lald hx hb hW 66 rfl (g_lt hG (by decide)) (g_kd hG (by decide) rfl) (g_ix hG (c := 560) (by decide) rfl (n_inI (by omega) (by decide))) (lN (B (5 + k))) (by rw [n_clamp (by omega)]; exact ((congrFun hj33 _).trans (by rw [show 425 + k = 420 + (5 + k) by omega]; exact hN (5 + k) (by omega)))) dX11_takeChance_62 ?_
                  refine lv_iload_n hx hb dX11_takeChance_63 rfl (lv_at hl 4 rfl) ?_
                  refine lv_i2l hx hb dX11_takeChance_64 rfl ?_
                  refine W.lcmp hx hb dX11_takeChance_65 ?_
                  refine lv_if_ne (tgt := 73) hx hb dX11_takeChance_66 (by decide) (fun c66 => ?_) (fun c66 => ?_)
                  · skip
                    rw [lc_ne] at c66
                    have hb57 := b7 k hkl
                    refine lv_iconst (v := 0) hx hb dX11_takeChance_73 (by decide) ?_
                    refine lv_istore_n (lv' := [(3, .int 0), (4, .int (nI k)), (0, .ref (gA G 65)), (1, .int (nI (B 4))), (2, .int r33)]) hx hb dX11_takeChance_74 rfl hl (by decide) rfl (fun ls hl => ?_)
                    refine lv_iinc (v := (nI (k + 1))) (lv' := [(4, .int (nI (k + 1))), (3, .int 0), (0, .ref (gA G 65)), (1, .int (nI (B 4))), (2, .int r33)]) hx hb dX11_takeChance_75 hl (k := 1) rfl (nI_1 k) (by decide) rfl (fun ls hl => ?_)
                    refine lv_goto (tgt := 42) hx hb dX11_takeChance_78 (by decide) ?_
                    exact ih42 (k + 1) 0 _ _ ls (by omega) hkl (Or.inr rfl) hW (lv_sub hl [0, 1, 2, 3, 4] rfl)
                  · skip
                    rw [lc_ne] at c66
                    have hb57 := b7 k hkl
                    refine lv_iconst (v := 1) hx hb dX11_takeChance_69 (by decide) ?_
                    refine lv_goto (tgt := 74) hx hb dX11_takeChance_70 (by decide) ?_
                    refine lv_istore_n (lv' := [(3, .int 1), (4, .int (nI k)), (0, .ref (gA G 65)), (1, .int (nI (B 4))), (2, .int r33)]) hx hb dX11_takeChance_74 rfl hl (by decide) rfl (fun ls hl => ?_)
                    refine lv_iinc (v := (nI (k + 1))) (lv' := [(4, .int (nI (k + 1))), (3, .int 1), (0, .ref (gA G 65)), (1, .int (nI (B 4))), (2, .int r33)]) hx hb dX11_takeChance_75 hl (k := 1) rfl (nI_1 k) (by decide) rfl (fun ls hl => ?_)
                    refine lv_goto (tgt := 42) hx hb dX11_takeChance_78 (by decide) ?_
                    exact ih42 (k + 1) 1 _ _ ls (by omega) hkl (Or.inl rfl) hW (lv_sub hl [0, 1, 2, 3, 4] rfl)
        exact L42 _ 0 0 _ _ ls (Nat.lt_succ_self _) (Nat.zero_le _) (Or.inr rfl) hW (lv_sub hl [0, 1, 4, 3, 2] rfl)

def rmX11_takeParty : Jvm.Room := { frames := 4, cells := 0, slots := 0, locals := 88 }
set_option maxHeartbeats 4000000 in
set_option maxRecDepth 100000 in
theorem t_X11_takeParty (l : Launch) (D : Dc) (G : Gg) (S : Sg) (z : Nat) (hG : GrG G) (hP : GrP G S) (T : Nat → Nat) (ts : Nat) (ht4 : ts ≤ 400) (hTB : ∀ i, i < ts → T i ≤ 255) (a : Nat) (hAt : AtM S T ts (tE T ts a)) (h9 : gi S 65 9 = nI (SK T ts a)) (B : Nat → Nat) (hB : Tld B) (hN : NwM S B) : MV l yX11_takeParty wsX11_takeParty rmX11_takeParty D G S z [.ref (gA G 65)] (fun S' => (∃ B' e, pParty T ts B a = .inl (B', e) ∧ OkN S S' T ts B' e ∧ gi S' 65 10 = nI 3) ∨ (∃ f p, pParty T ts B a = .inr (f, p) ∧ FlN S S' f p)) := by
  refine Met.ofW (cc := cX11_takeParty) (maxL := 2) (ret := none) (by decide +kernel) rfl ?_
  intro pP eE s mM args bl mT cD s₁ bD hml hv
  obtain ⟨rfl, hv⟩ := hv
  have hz := hv.1
  subst hz
  have hx := bD.exec
  have hb := bD.bytes
  have hr := bD.returns
  have hts := atoms_spec (ws := wsX11_takeParty) bD.pre
  have hown : s.vm.findClass RX11 = some mM.cls := findClass_of_methodNamed bD.named
  have hlocks := bD.notSynchronized
  have hW := Wd.start hv
  have hA : ∀ q, s.heap.size ≤ q → AW G s.heap.size q := fun q h => Or.inr h
  have hl := lv_entry ([.ref (gA G 65)]) (n := 2) (Nat.le_of_ble_eq_true rfl)
  rw [lg_entry_eq]
  generalize (lg_sl ([.ref (gA G 65)]) ++ List.replicate (2 - (lg_sl ([.ref (gA G 65)])).length) Slot.unset).toArray = ls at hl ⊢
  have hl : lv_has ls 2 [(0, .ref (gA G 65))] := hl
  have q0 := hts (.fieldLink RX11 7 "WoodForTwoModel" "w" "[J") (List.mem_of_getElem? (i := 1) rfl)
  have iX11 : ∀ w ∈ wsX110, w ∈ wsX11_takeParty := fun _ h => List.mem_cons_of_mem _ (List.mem_append_right _ (h))
  have b17 := hB.1.2.2.2.2.2.2.2.2.1
  refine lv_aload_n hx hb dX11_takeParty_0 rfl (lv_at hl 0 rfl) ?_
  refine r_getr (ci := 10) (C := RX11) (T := TX11) (N := 20) hx hb hts iX11 hown hW rfl 65 0 rfl (g_lt hG (by decide)) (g_kd hG (by decide) rfl) (by decide) q0 (fun _ h9 => h9) (hP _ (List.mem_of_getElem? (i := 60) rfl)) rfl rfl dX11_takeParty_1 ?_
  refine lv_sipush (v := 437) hx hb dX11_takeParty_4 (by decide) ?_
  refine W.eq (g2 := F0 mM 7 ls [.int (nI 437), .ref (gA G 66)]) rfl ?_
  refine r_lald hx hb hW 66 rfl (g_lt hG (by decide)) (g_kd hG (by decide) rfl) (g_ix hG (c := 560) (by decide) rfl (n_inI (by omega) (by decide))) (lN (B 17)) (by rw [n_clamp (by omega)]; exact (hN 17 (by decide))) dX11_takeParty_7 ?_
  refine lv_l2i hx hb dX11_takeParty_8 rfl ?_
  rw [show (Int64.toInt32 (lN (B 17)) : Int32) = nI (B 17) from lN_i _]
  refine lv_istore_n (lv' := [(1, .int (nI (B 17))), (0, .ref (gA G 65))]) hx hb dX11_takeParty_9 rfl hl (by decide) rfl (fun ls hl => ?_)
  refine lv_aload_n hx hb dX11_takeParty_10 rfl (lv_at hl 1 rfl) ?_
  refine lv_iload_n hx hb dX11_takeParty_11 rfl (lv_at hl 0 rfl) ?_
  refine lv_bipush (v := 16) hx hb dX11_takeParty_12 (by decide) ?_
  refine lv_icmp_ge (tgt := 21) hx hb dX11_takeParty_14 (by decide) (fun c14 => ?_) (fun c14 => ?_)
  · skip
    have hn6 : B 17 = 16 := by rw [t_le, n_toInt (by omega), show (16 : Int32).toInt = 16 from by decide] at c14; omega
    refine lv_iconst (v := 0) hx hb dX11_takeParty_21 (by decide) ?_
    refine lv_iconst (v := 3) hx hb dX11_takeParty_22 (by decide) ?_
    refine W.eq (g2 := F0 mM 23 ls [.int (nI 3), .int 0, .ref (gA G 65)]) rfl ?_
    refine r_calli hW hA (va_runV (As := [.int 0, .int (nI 3)]) (rest := []) ⟨hx, hb, hml, hown, hts⟩ (t_X11_want_no l D G S _ hG hP 3 hAt.2.2.2 (by decide)) (cwV 2 hts gX11_takeParty_X11_want rfl rfl rfl (by decide +kernel) ⟨Nat.le_of_ble_eq_true rfl, Nat.le_of_ble_eq_true rfl⟩) (r_preV (k := 65) hA hW (ci := 10) (C := RX11) (T := TX11) (N := 20) rfl rfl (g_lt hG (by decide)) (g_kd hG (by decide) rfl) rfl rfl) rfl rfl hl.1 rfl (lv_room (Nat.le_of_ble_eq_true rfl)) dX11_takeParty_23 ⟨Nat.zero_le _, Nat.zero_le _⟩) (fun r23 S23 H locs hp23 hW => ?_)
    obtain ⟨rfl, hs23⟩ := hp23
    have hz12 : gi S23 65 12 = nI 3 := by rw [hs23]; exact (congrFun (e_is _ _ _) 12).trans rfl
    have hz13 : gi S23 65 13 = nI (SK T ts a) := by rw [hs23]; exact (congrFun (e_is _ _ _) 13).trans h9
    have hzF : FrM S S23 := by rw [hs23]; exact FrM.ri FrM.rf (fun j hj => (up_n _ _ (by omega)).trans (up_n _ _ (by omega)))
    have hP_S23 : GrP G S23 := fun q hq => by rw [hzF.2.2.1]; exact hP q hq
    refine lv_if_eq (tgt := 93) hx hb dX11_takeParty_26 (by decide) (fun c26 => ?_) (fun c26 => ?_)
    · skip
      refine lv_aload_n hx hb dX11_takeParty_93 rfl (lv_at hl 1 rfl) ?_
      refine r_callv hW hA (va_runV (As := []) (rest := []) ⟨hx, hb, hml, hown, hts⟩ (t_X11_takeSign_past l D G S23 _ hG hP_S23 3 (by decide) (by decide) hz12) (cwV 0 hts gX11_takeParty_X11_takeSign rfl rfl rfl (by decide +kernel) ⟨Nat.le_of_ble_eq_true rfl, Nat.le_of_ble_eq_true rfl⟩) (r_preV (k := 65) hA hW (ci := 10) (C := RX11) (T := TX11) (N := 20) rfl rfl (g_lt hG (by decide)) (g_kd hG (by decide) rfl) rfl rfl) rfl rfl hl.1 rfl (lv_room (Nat.le_of_ble_eq_true rfl)) dX11_takeParty_94 ⟨Nat.zero_le _, Nat.zero_le _⟩) (fun S94 H locs hp94 hW => ?_)
      rw [hp94] at hW
      refine r_vret hx hb hr hlocks hW ?_ dX11_takeParty_97
      refine Or.inr ⟨3, (SK T ts a), ?_, hz12, hz13, ⟨(by decide), (by decide)⟩, hzF⟩
      unfold pParty; rw [if_pos (by omega)]
    · exact absurd (by decide) c26
  · skip
    have hn6 : B 17 < 16 := by rw [t_le, n_toInt (by omega), show (16 : Int32).toInt = 16 from by decide] at c14; omega
    refine lv_iconst (v := 1) hx hb dX11_takeParty_17 (by decide) ?_
    refine lv_goto (tgt := 22) hx hb dX11_takeParty_18 (by decide) ?_
    refine lv_iconst (v := 3) hx hb dX11_takeParty_22 (by decide) ?_
    refine W.eq (g2 := F0 mM 23 ls [.int (nI 3), .int 1, .ref (gA G 65)]) rfl ?_
    refine r_calli hW hA (va_runV (As := [.int 1, .int (nI 3)]) (rest := []) ⟨hx, hb, hml, hown, hts⟩ (t_X11_want_ok l D G S _ hG hP 3 hAt.2.2.2) (cwV 2 hts gX11_takeParty_X11_want rfl rfl rfl (by decide +kernel) ⟨Nat.le_of_ble_eq_true rfl, Nat.le_of_ble_eq_true rfl⟩) (r_preV (k := 65) hA hW (ci := 10) (C := RX11) (T := TX11) (N := 20) rfl rfl (g_lt hG (by decide)) (g_kd hG (by decide) rfl) rfl rfl) rfl rfl hl.1 rfl (lv_room (Nat.le_of_ble_eq_true rfl)) dX11_takeParty_23 ⟨Nat.zero_le _, Nat.zero_le _⟩) (fun r23 S23 H locs hp23 hW => ?_)
    obtain ⟨rfl, hs23⟩ := hp23
    rw [hs23] at hW
    refine lv_if_eq (tgt := 93) hx hb dX11_takeParty_26 (by decide) (fun c26 => ?_) (fun c26 => ?_)
    · exact absurd c26 (by decide)
    · skip
      refine lv_aload_n hx hb dX11_takeParty_29 rfl (lv_at hl 1 rfl) ?_
      refine r_getr (ci := 10) (C := RX11) (T := TX11) (N := 20) hx hb hts iX11 hown hW rfl 65 0 rfl (g_lt hG (by decide)) (g_kd hG (by decide) rfl) (by decide) q0 (fun _ h9 => h9) (hP _ (List.mem_of_getElem? (i := 60) rfl)) rfl rfl dX11_takeParty_30 ?_
      refine lv_sipush (v := 438) hx hb dX11_takeParty_33 (by decide) ?_
      refine lv_iload_n hx hb dX11_takeParty_36 rfl (lv_at hl 0 rfl) ?_
      refine lv_iadd hx hb dX11_takeParty_37 ?_
      rw [show ((438 + (nI (B 17))) : Int32) = (nI (438 + (B 17))) from n_add 438 (B 17)]
      refine lv_aload_n hx hb dX11_takeParty_38 rfl (lv_at hl 1 rfl) ?_
      refine lv_iconst (v := 1) hx hb dX11_takeParty_39 (by decide) ?_
      refine lv_bipush (v := 9) hx hb dX11_takeParty_40 (by decide) ?_
      refine W.eq (g2 := F0 mM 42 ls [.int (nI 9), .int (nI 1), .ref (gA G 65), .int (nI (438 + (B 17))), .ref (gA G 66)]) rfl ?_
      refine r_calli hW hA (va_runV (As := [.int (nI 1), .int (nI 9)]) (rest := [.int (nI (438 + (B 17))), .ref (gA G 66)]) ⟨hx, hb, hml, hown, hts⟩ (t_X11_takeNumber9 l D G S _ hG hP T ts ht4 hTB (tE T ts a) hAt 1 9 (by decide) (by decide)) (cwV 2 hts gX11_takeParty_X11_takeNumber rfl rfl rfl (by decide +kernel) ⟨Nat.le_of_ble_eq_true rfl, Nat.le_of_ble_eq_true rfl⟩) (r_preV (k := 65) hA hW (ci := 10) (C := RX11) (T := TX11) (N := 20) rfl rfl (g_lt hG (by decide)) (g_kd hG (by decide) rfl) rfl rfl) rfl rfl hl.1 rfl (lv_room (Nat.le_of_ble_eq_true rfl)) dX11_takeParty_42 ⟨Nat.zero_le _, Nat.zero_le _⟩) (fun r42 S42 H locs hp42 hW => ?_)
      rcases hp42 with ⟨v42, e42, hpn42, rfl, hok42, hx42⟩ | ⟨f42, p42, hpn42, hfl42⟩
      · skip
        have hP_S42 : GrP G S42 := fun q hq => by rw [hok42.2.2.1]; exact hP q hq
        have hj42 : gj S42 66 = (gj S 66) := (hok42.2.2.2 66 (by decide)).2
        have hvb42 := pNum_b hpn42
        refine lv_i2l hx hb dX11_takeParty_45 rfl ?_
        rw [show (Int32.toInt64 (nI v42) : Int64) = lN v42 from lN_of (by omega)]
        refine r_last hx hb hW 66 rfl (g_lt hG (by decide)) (g_kd hG (by decide) rfl) (g_ix hG (c := 560) (by decide) rfl (n_inI (by omega) (by decide))) (rj S42 66 (va_up (gj S42 66) ((nI (438 + (B 17)))).toNatClampNeg (lN v42))) (gj S42 66) rfl (e_js _ _ _) rfl rfl c_j0 dX11_takeParty_46 (fun H locs hW => ?_)
        rw [show ((nI (438 + (B 17)))).toNatClampNeg = (438 + (B 17)) from n_clamp (by omega)] at hW
        refine lv_aload_n hx hb dX11_takeParty_47 rfl (lv_at hl 1 rfl) ?_
        refine r_getr (ci := 10) (C := RX11) (T := TX11) (N := 20) hx hb hts iX11 hown hW rfl 65 0 rfl (g_lt hG (by decide)) (g_kd hG (by decide) rfl) (by decide) q0 (fun _ h9 => h9) (hP_S42 _ (List.mem_of_getElem? (i := 60) rfl)) rfl rfl dX11_takeParty_48 ?_
        refine lv_sipush (v := 454) hx hb dX11_takeParty_51 (by decide) ?_
        refine lv_iload_n hx hb dX11_takeParty_54 rfl (lv_at hl 0 rfl) ?_
        refine lv_iadd hx hb dX11_takeParty_55 ?_
        rw [show ((454 + (nI (B 17))) : Int32) = (nI (454 + (B 17))) from n_add 454 (B 17)]
        refine lv_aload_n hx hb dX11_takeParty_56 rfl (lv_at hl 1 rfl) ?_
        refine lv_iconst (v := 0) hx hb dX11_takeParty_57 (by decide) ?_
        refine r_calli hW hA (va_runV (As := [.int 0]) (rest := [.int (nI (454 + (B 17))), .ref (gA G 66)]) ⟨hx, hb, hml, hown, hts⟩ (t_X11_takeChoice_pWay l D G (rj S42 66 (va_up (gj S42 66) (438 + (B 17)) (lN v42))) _ hG hP_S42 T ts ht4 hTB e42 hok42.1) (cwV 1 hts gX11_takeParty_X11_takeChoice rfl rfl rfl (by decide +kernel) ⟨Nat.le_of_ble_eq_true rfl, Nat.le_of_ble_eq_true rfl⟩) (r_preV (k := 65) hA hW (ci := 10) (C := RX11) (T := TX11) (N := 20) rfl rfl (g_lt hG (by decide)) (g_kd hG (by decide) rfl) rfl rfl) rfl rfl hl.1 rfl (lv_room (Nat.le_of_ble_eq_true rfl)) dX11_takeParty_58 ⟨Nat.zero_le _, Nat.zero_le _⟩) (fun r58 S58 H locs hp58 hW => ?_)
        rcases hp58 with ⟨v58, e58, hpn58, rfl, hok58⟩ | ⟨f58, p58, hpn58, hfl58⟩
        · skip
          have hP_S58 : GrP G S58 := fun q hq => by rw [hok58.2.2.1]; exact hP_S42 q hq
          have hj58 : gj S58 66 = (va_up (gj S42 66) (438 + (B 17)) (lN v42)) := ((hok58.2.2.2 66 (by decide)).2).trans (e_js _ _ _)
          have hvb58 := pWay_b hpn58
          refine lv_i2l hx hb dX11_takeParty_61 rfl ?_
          rw [show (Int32.toInt64 (nI v58) : Int64) = lN v58 from lN_of (by omega)]
          refine r_last hx hb hW 66 rfl (g_lt hG (by decide)) (g_kd hG (by decide) rfl) (g_ix hG (c := 560) (by decide) rfl (n_inI (by omega) (by decide))) (rj S58 66 (va_up (gj S58 66) ((nI (454 + (B 17)))).toNatClampNeg (lN v58))) (gj S58 66) rfl (e_js _ _ _) rfl rfl c_j0 dX11_takeParty_62 (fun H locs hW => ?_)
          rw [show ((nI (454 + (B 17)))).toNatClampNeg = (454 + (B 17)) from n_clamp (by omega)] at hW
          refine lv_aload_n hx hb dX11_takeParty_63 rfl (lv_at hl 1 rfl) ?_
          refine r_getr (ci := 10) (C := RX11) (T := TX11) (N := 20) hx hb hts iX11 hown hW rfl 65 0 rfl (g_lt hG (by decide)) (g_kd hG (by decide) rfl) (by decide) q0 (fun _ h9 => h9) (hP_S58 _ (List.mem_of_getElem? (i := 60) rfl)) rfl rfl dX11_takeParty_64 ?_
          refine lv_sipush (v := 470) hx hb dX11_takeParty_67 (by decide) ?_
          refine lv_iload_n hx hb dX11_takeParty_70 rfl (lv_at hl 0 rfl) ?_
          refine lv_iadd hx hb dX11_takeParty_71 ?_
          rw [show ((470 + (nI (B 17))) : Int32) = (nI (470 + (B 17))) from n_add 470 (B 17)]
          refine lv_aload_n hx hb dX11_takeParty_72 rfl (lv_at hl 1 rfl) ?_
          refine lv_iconst (v := 0) hx hb dX11_takeParty_73 (by decide) ?_
          refine lv_bipush (v := 99) hx hb dX11_takeParty_74 (by decide) ?_
          refine W.eq (g2 := F0 mM 76 ls [.int (nI 99), .int (nI 0), .ref (gA G 65), .int (nI (470 + (B 17))), .ref (gA G 66)]) rfl ?_
          refine r_calli hW hA (va_runV (As := [.int (nI 0), .int (nI 99)]) (rest := [.int (nI (470 + (B 17))), .ref (gA G 66)]) ⟨hx, hb, hml, hown, hts⟩ (t_X11_takeNumber9 l D G (rj S58 66 (va_up (gj S58 66) (454 + (B 17)) (lN v58))) _ hG hP_S58 T ts ht4 hTB e58 hok58.1 0 99 (by decide) (by decide)) (cwV 2 hts gX11_takeParty_X11_takeNumber rfl rfl rfl (by decide +kernel) ⟨Nat.le_of_ble_eq_true rfl, Nat.le_of_ble_eq_true rfl⟩) (r_preV (k := 65) hA hW (ci := 10) (C := RX11) (T := TX11) (N := 20) rfl rfl (g_lt hG (by decide)) (g_kd hG (by decide) rfl) rfl rfl) rfl rfl hl.1 rfl (lv_room (Nat.le_of_ble_eq_true rfl)) dX11_takeParty_76 ⟨Nat.zero_le _, Nat.zero_le _⟩) (fun r76 S76 H locs hp76 hW => ?_)
          rcases hp76 with ⟨v76, e76, hpn76, rfl, hok76, hx76⟩ | ⟨f76, p76, hpn76, hfl76⟩
          · skip
            have hP_S76 : GrP G S76 := fun q hq => by rw [hok76.2.2.1]; exact hP_S58 q hq
            have hj76 : gj S76 66 = (va_up (gj S58 66) (454 + (B 17)) (lN v58)) := ((hok76.2.2.2 66 (by decide)).2).trans (e_js _ _ _)
            have hvb76 := pNum_b hpn76
            refine lv_i2l hx hb dX11_takeParty_79 rfl ?_
            rw [show (Int32.toInt64 (nI v76) : Int64) = lN v76 from lN_of (by omega)]
            refine r_last hx hb hW 66 rfl (g_lt hG (by decide)) (g_kd hG (by decide) rfl) (g_ix hG (c := 560) (by decide) rfl (n_inI (by omega) (by decide))) (rj S76 66 (va_up (gj S76 66) ((nI (470 + (B 17)))).toNatClampNeg (lN v76))) (gj S76 66) rfl (e_js _ _ _) rfl rfl c_j0 dX11_takeParty_80 (fun H locs hW => ?_)
            rw [show ((nI (470 + (B 17)))).toNatClampNeg = (470 + (B 17)) from n_clamp (by omega)] at hW
            refine lv_aload_n hx hb dX11_takeParty_81 rfl (lv_at hl 1 rfl) ?_
            refine r_getr (ci := 10) (C := RX11) (T := TX11) (N := 20) hx hb hts iX11 hown hW rfl 65 0 rfl (g_lt hG (by decide)) (g_kd hG (by decide) rfl) (by decide) q0 (fun _ h9 => h9) (hP_S76 _ (List.mem_of_getElem? (i := 60) rfl)) rfl rfl dX11_takeParty_82 ?_
            refine lv_sipush (v := 437) hx hb dX11_takeParty_85 (by decide) ?_
            refine lv_iload_n hx hb dX11_takeParty_88 rfl (lv_at hl 0 rfl) ?_
            refine lv_iconst (v := 1) hx hb dX11_takeParty_89 (by decide) ?_
            refine lv_iadd hx hb dX11_takeParty_90 ?_
            rw [show (((nI (B 17)) + 1) : Int32) = (nI ((B 17) + 1)) from n_add (B 17) 1]
            refine lv_i2l hx hb dX11_takeParty_91 rfl ?_
            rw [show (Int32.toInt64 (nI ((B 17) + 1)) : Int64) = lN ((B 17) + 1) from lN_of (by omega)]
            refine W.eq (g2 := F0 mM 92 ls [.long (lN ((B 17) + 1)), .int (nI 437), .ref (gA G 66)]) rfl ?_
            refine r_last hx hb hW 66 rfl (g_lt hG (by decide)) (g_kd hG (by decide) rfl) (g_ix hG (c := 560) (by decide) rfl (n_inI (by omega) (by decide))) (rj S76 66 (va_up (va_up (gj S76 66) (470 + (B 17)) (lN v76)) ((nI 437)).toNatClampNeg (lN ((B 17) + 1)))) (va_up (gj S76 66) (470 + (B 17)) (lN v76)) (e_js _ _ _) (e_js _ _ _) rfl rfl c_j dX11_takeParty_92 (fun H locs hW => ?_)
            rw [show ((nI 437)).toNatClampNeg = 437 from n_clamp (by omega)] at hW
            refine lv_aload_n hx hb dX11_takeParty_93 rfl (lv_at hl 1 rfl) ?_
            refine r_callv hW hA (va_runV (As := []) (rest := []) ⟨hx, hb, hml, hown, hts⟩ (t_X11_takeSign3 l D G (rj S76 66 (va_up (va_up (gj S76 66) (470 + (B 17)) (lN v76)) 437 (lN ((B 17) + 1)))) _ hG hP_S76 T ts ht4 hTB e76 hok76.1) (cwV 0 hts gX11_takeParty_X11_takeSign rfl rfl rfl (by decide +kernel) ⟨Nat.le_of_ble_eq_true rfl, Nat.le_of_ble_eq_true rfl⟩) (r_preV (k := 65) hA hW (ci := 10) (C := RX11) (T := TX11) (N := 20) rfl rfl (g_lt hG (by decide)) (g_kd hG (by decide) rfl) rfl rfl) rfl rfl hl.1 rfl (lv_room (Nat.le_of_ble_eq_true rfl)) dX11_takeParty_94 ⟨Nat.zero_le _, Nat.zero_le _⟩) (fun S94 H locs hp94 hW => ?_)
            rcases hp94 with ⟨v94, e94, hpn94, hok94, hx94⟩ | ⟨f94, p94, hpn94, hfl94⟩
            · skip
              have hP_S94 : GrP G S94 := fun q hq => by rw [hok94.2.2.1]; exact hP_S76 q hq
              have hj94 : gj S94 66 = (va_up (va_up (gj S76 66) (470 + (B 17)) (lN v76)) 437 (lN ((B 17) + 1))) := ((hok94.2.2.2 66 (by decide)).2).trans (e_js _ _ _)
              refine r_vret hx hb hr hlocks hW ?_ dX11_takeParty_97
              refine Or.inl ⟨ptB B v42 v58 v76, e94, ?_, ⟨hok94.1, fun k hk => ?_, (FrM.tr (FrM.rj (FrM.tr (FrM.rj (FrM.tr (FrM.rj (FrM.tr FrM.rf (FrM.ok hok42)) (fun k hk => ((up_n _ _ (by omega)).trans rfl))) (FrM.ok hok58)) (fun k hk => ((up_n _ _ (by omega)).trans rfl))) (FrM.ok hok76)) (fun k hk => ((up_n _ _ (by omega)).trans ((up_n _ _ (by omega)).trans rfl)))) (FrM.ok hok94))⟩, hx94⟩
              · unfold pParty; rw [if_neg (by omega), PB_l hpn42, PB_l hpn58, PB_l hpn76, PB_l hpn94]
              · rw [hj94, hj76, hj58, hj42]; exact ptJ hN hn6 k hk
            · skip
              have hP_S94 : GrP G S94 := fun q hq => by rw [hfl94.2.2.2.1]; exact hP_S76 q hq
              have hj94 : gj S94 66 = (va_up (va_up (gj S76 66) (470 + (B 17)) (lN v76)) 437 (lN ((B 17) + 1))) := ((hfl94.2.2.2.2 66 (by decide)).2).trans (e_js _ _ _)
              have hfb94 := pSign_f hpn94
              refine r_vret hx hb hr hlocks hW ?_ dX11_takeParty_97
              refine Or.inr ⟨f94, p94, ?_, hfl94.1, hfl94.2.1, ⟨hfb94.1, hfb94.2⟩, (FrM.tr (FrM.rj (FrM.tr (FrM.rj (FrM.tr (FrM.rj (FrM.tr FrM.rf (FrM.ok hok42)) (fun k hk => ((up_n _ _ (by omega)).trans rfl))) (FrM.ok hok58)) (fun k hk => ((up_n _ _ (by omega)).trans rfl))) (FrM.ok hok76)) (fun k hk => ((up_n _ _ (by omega)).trans ((up_n _ _ (by omega)).trans rfl)))) (FrM.fl hfl94))⟩
              unfold pParty; rw [if_neg (by omega), PB_l hpn42, PB_l hpn58, PB_l hpn76, PB_r hpn94]
          · skip
            have hP_S76 : GrP G S76 := fun q hq => by rw [hfl76.2.2.2.1]; exact hP_S58 q hq
            have hj76 : gj S76 66 = (va_up (gj S58 66) (454 + (B 17)) (lN v58)) := ((hfl76.2.2.2.2 66 (by decide)).2).trans (e_js _ _ _)
            have hfb76 := pNum_f hpn76
            refine lv_i2l hx hb dX11_takeParty_79 rfl ?_
            refine r_last hx hb hW 66 rfl (g_lt hG (by decide)) (g_kd hG (by decide) rfl) (g_ix hG (c := 560) (by decide) rfl (n_inI (by omega) (by decide))) (rj S76 66 (va_up (gj S76 66) ((nI (470 + (B 17)))).toNatClampNeg (Int32.toInt64 r76))) (gj S76 66) rfl (e_js _ _ _) rfl rfl c_j0 dX11_takeParty_80 (fun H locs hW => ?_)
            rw [show ((nI (470 + (B 17)))).toNatClampNeg = (470 + (B 17)) from n_clamp (by omega)] at hW
            refine lv_aload_n hx hb dX11_takeParty_81 rfl (lv_at hl 1 rfl) ?_
            refine r_getr (ci := 10) (C := RX11) (T := TX11) (N := 20) hx hb hts iX11 hown hW rfl 65 0 rfl (g_lt hG (by decide)) (g_kd hG (by decide) rfl) (by decide) q0 (fun _ h9 => h9) (hP_S76 _ (List.mem_of_getElem? (i := 60) rfl)) rfl rfl dX11_takeParty_82 ?_
            refine lv_sipush (v := 437) hx hb dX11_takeParty_85 (by decide) ?_
            refine lv_iload_n hx hb dX11_takeParty_88 rfl (lv_at hl 0 rfl) ?_
            refine lv_iconst (v := 1) hx hb dX11_takeParty_89 (by decide) ?_
            refine lv_iadd hx hb dX11_takeParty_90 ?_
            rw [show (((nI (B 17)) + 1) : Int32) = (nI ((B 17) + 1)) from n_add (B 17) 1]
            refine lv_i2l hx hb dX11_takeParty_91 rfl ?_
            rw [show (Int32.toInt64 (nI ((B 17) + 1)) : Int64) = lN ((B 17) + 1) from lN_of (by omega)]
            refine W.eq (g2 := F0 mM 92 ls [.long (lN ((B 17) + 1)), .int (nI 437), .ref (gA G 66)]) rfl ?_
            refine r_last hx hb hW 66 rfl (g_lt hG (by decide)) (g_kd hG (by decide) rfl) (g_ix hG (c := 560) (by decide) rfl (n_inI (by omega) (by decide))) (rj S76 66 (va_up (va_up (gj S76 66) (470 + (B 17)) (Int32.toInt64 r76)) ((nI 437)).toNatClampNeg (lN ((B 17) + 1)))) (va_up (gj S76 66) (470 + (B 17)) (Int32.toInt64 r76)) (e_js _ _ _) (e_js _ _ _) rfl rfl c_j dX11_takeParty_92 (fun H locs hW => ?_)
            rw [show ((nI 437)).toNatClampNeg = 437 from n_clamp (by omega)] at hW
            refine lv_aload_n hx hb dX11_takeParty_93 rfl (lv_at hl 1 rfl) ?_
            refine r_callv hW hA (va_runV (As := []) (rest := []) ⟨hx, hb, hml, hown, hts⟩ (t_X11_takeSign_past l D G (rj S76 66 (va_up (va_up (gj S76 66) (470 + (B 17)) (Int32.toInt64 r76)) 437 (lN ((B 17) + 1)))) _ hG hP_S76 f76 hfb76.1 hfb76.2 hfl76.1) (cwV 0 hts gX11_takeParty_X11_takeSign rfl rfl rfl (by decide +kernel) ⟨Nat.le_of_ble_eq_true rfl, Nat.le_of_ble_eq_true rfl⟩) (r_preV (k := 65) hA hW (ci := 10) (C := RX11) (T := TX11) (N := 20) rfl rfl (g_lt hG (by decide)) (g_kd hG (by decide) rfl) rfl rfl) rfl rfl hl.1 rfl (lv_room (Nat.le_of_ble_eq_true rfl)) dX11_takeParty_94 ⟨Nat.zero_le _, Nat.zero_le _⟩) (fun S94 H locs hp94 hW => ?_)
            rw [hp94] at hW
            refine r_vret hx hb hr hlocks hW ?_ dX11_takeParty_97
            refine Or.inr ⟨f76, p76, ?_, hfl76.1, hfl76.2.1, ⟨hfb76.1, hfb76.2⟩, (FrM.rj (FrM.tr (FrM.rj (FrM.tr (FrM.rj (FrM.tr FrM.rf (FrM.ok hok42)) (fun k hk => ((up_n _ _ (by omega)).trans rfl))) (FrM.ok hok58)) (fun k hk => ((up_n _ _ (by omega)).trans rfl))) (FrM.fl hfl76)) (fun k hk => ((up_n _ _ (by omega)).trans ((up_n _ _ (by omega)).trans rfl))))⟩
            unfold pParty; rw [if_neg (by omega), PB_l hpn42, PB_l hpn58, PB_r hpn76]
        · skip
          have hP_S58 : GrP G S58 := fun q hq => by rw [hfl58.2.2.2.1]; exact hP_S42 q hq
          have hj58 : gj S58 66 = (va_up (gj S42 66) (438 + (B 17)) (lN v42)) := ((hfl58.2.2.2.2 66 (by decide)).2).trans (e_js _ _ _)
          have hfb58 := pWay_f hpn58
          refine lv_i2l hx hb dX11_takeParty_61 rfl ?_
          refine r_last hx hb hW 66 rfl (g_lt hG (by decide)) (g_kd hG (by decide) rfl) (g_ix hG (c := 560) (by decide) rfl (n_inI (by omega) (by decide))) (rj S58 66 (va_up (gj S58 66) ((nI (454 + (B 17)))).toNatClampNeg (Int32.toInt64 r58))) (gj S58 66) rfl (e_js _ _ _) rfl rfl c_j0 dX11_takeParty_62 (fun H locs hW => ?_)
          rw [show ((nI (454 + (B 17)))).toNatClampNeg = (454 + (B 17)) from n_clamp (by omega)] at hW
          refine lv_aload_n hx hb dX11_takeParty_63 rfl (lv_at hl 1 rfl) ?_
          refine r_getr (ci := 10) (C := RX11) (T := TX11) (N := 20) hx hb hts iX11 hown hW rfl 65 0 rfl (g_lt hG (by decide)) (g_kd hG (by decide) rfl) (by decide) q0 (fun _ h9 => h9) (hP_S58 _ (List.mem_of_getElem? (i := 60) rfl)) rfl rfl dX11_takeParty_64 ?_
          refine lv_sipush (v := 470) hx hb dX11_takeParty_67 (by decide) ?_
          refine lv_iload_n hx hb dX11_takeParty_70 rfl (lv_at hl 0 rfl) ?_
          refine lv_iadd hx hb dX11_takeParty_71 ?_
          rw [show ((470 + (nI (B 17))) : Int32) = (nI (470 + (B 17))) from n_add 470 (B 17)]
          refine lv_aload_n hx hb dX11_takeParty_72 rfl (lv_at hl 1 rfl) ?_
          refine lv_iconst (v := 0) hx hb dX11_takeParty_73 (by decide) ?_
          refine lv_bipush (v := 99) hx hb dX11_takeParty_74 (by decide) ?_
          refine r_calli hW hA (va_runV (As := [.int 0, .int 99]) (rest := [.int (nI (470 + (B 17))), .ref (gA G 66)]) ⟨hx, hb, hml, hown, hts⟩ (t_X11_takeNumber_past l D G (rj S58 66 (va_up (gj S58 66) (454 + (B 17)) (Int32.toInt64 r58))) _ hG hP_S58 f58 hfb58.1 hfb58.2 hfl58.1 0 99) (cwV 2 hts gX11_takeParty_X11_takeNumber rfl rfl rfl (by decide +kernel) ⟨Nat.le_of_ble_eq_true rfl, Nat.le_of_ble_eq_true rfl⟩) (r_preV (k := 65) hA hW (ci := 10) (C := RX11) (T := TX11) (N := 20) rfl rfl (g_lt hG (by decide)) (g_kd hG (by decide) rfl) rfl rfl) rfl rfl hl.1 rfl (lv_room (Nat.le_of_ble_eq_true rfl)) dX11_takeParty_76 ⟨Nat.zero_le _, Nat.zero_le _⟩) (fun r76 S76 H locs hp76 hW => ?_)
          obtain ⟨rfl, hs76⟩ := hp76
          rw [hs76] at hW
          refine lv_i2l hx hb dX11_takeParty_79 rfl ?_
          refine r_last hx hb hW 66 rfl (g_lt hG (by decide)) (g_kd hG (by decide) rfl) (g_ix hG (c := 560) (by decide) rfl (n_inI (by omega) (by decide))) (rj S58 66 (va_up (va_up (gj S58 66) (454 + (B 17)) (Int32.toInt64 r58)) ((nI (470 + (B 17)))).toNatClampNeg (Int32.toInt64 0))) (va_up (gj S58 66) (454 + (B 17)) (Int32.toInt64 r58)) (e_js _ _ _) (e_js _ _ _) rfl rfl c_j dX11_takeParty_80 (fun H locs hW => ?_)
          rw [show ((nI (470 + (B 17)))).toNatClampNeg = (470 + (B 17)) from n_clamp (by omega)] at hW
          refine lv_aload_n hx hb dX11_takeParty_81 rfl (lv_at hl 1 rfl) ?_
          refine r_getr (ci := 10) (C := RX11) (T := TX11) (N := 20) hx hb hts iX11 hown hW rfl 65 0 rfl (g_lt hG (by decide)) (g_kd hG (by decide) rfl) (by decide) q0 (fun _ h9 => h9) (hP_S58 _ (List.mem_of_getElem? (i := 60) rfl)) rfl rfl dX11_takeParty_82 ?_
          refine lv_sipush (v := 437) hx hb dX11_takeParty_85 (by decide) ?_
          refine lv_iload_n hx hb dX11_takeParty_88 rfl (lv_at hl 0 rfl) ?_
          refine lv_iconst (v := 1) hx hb dX11_takeParty_89 (by decide) ?_
          refine lv_iadd hx hb dX11_takeParty_90 ?_
          rw [show (((nI (B 17)) + 1) : Int32) = (nI ((B 17) + 1)) from n_add (B 17) 1]
          refine lv_i2l hx hb dX11_takeParty_91 rfl ?_
          rw [show (Int32.toInt64 (nI ((B 17) + 1)) : Int64) = lN ((B 17) + 1) from lN_of (by omega)]
          refine W.eq (g2 := F0 mM 92 ls [.long (lN ((B 17) + 1)), .int (nI 437), .ref (gA G 66)]) rfl ?_
          refine r_last hx hb hW 66 rfl (g_lt hG (by decide)) (g_kd hG (by decide) rfl) (g_ix hG (c := 560) (by decide) rfl (n_inI (by omega) (by decide))) (rj S58 66 (va_up (va_up (va_up (gj S58 66) (454 + (B 17)) (Int32.toInt64 r58)) (470 + (B 17)) (Int32.toInt64 0)) ((nI 437)).toNatClampNeg (lN ((B 17) + 1)))) (va_up (va_up (gj S58 66) (454 + (B 17)) (Int32.toInt64 r58)) (470 + (B 17)) (Int32.toInt64 0)) (e_js _ _ _) (e_js _ _ _) rfl rfl c_j dX11_takeParty_92 (fun H locs hW => ?_)
          rw [show ((nI 437)).toNatClampNeg = 437 from n_clamp (by omega)] at hW
          refine lv_aload_n hx hb dX11_takeParty_93 rfl (lv_at hl 1 rfl) ?_
          refine r_callv hW hA (va_runV (As := []) (rest := []) ⟨hx, hb, hml, hown, hts⟩ (t_X11_takeSign_past l D G (rj S58 66 (va_up (va_up (va_up (gj S58 66) (454 + (B 17)) (Int32.toInt64 r58)) (470 + (B 17)) (Int32.toInt64 0)) 437 (lN ((B 17) + 1)))) _ hG hP_S58 f58 hfb58.1 hfb58.2 hfl58.1) (cwV 0 hts gX11_takeParty_X11_takeSign rfl rfl rfl (by decide +kernel) ⟨Nat.le_of_ble_eq_true rfl, Nat.le_of_ble_eq_true rfl⟩) (r_preV (k := 65) hA hW (ci := 10) (C := RX11) (T := TX11) (N := 20) rfl rfl (g_lt hG (by decide)) (g_kd hG (by decide) rfl) rfl rfl) rfl rfl hl.1 rfl (lv_room (Nat.le_of_ble_eq_true rfl)) dX11_takeParty_94 ⟨Nat.zero_le _, Nat.zero_le _⟩) (fun S94 H locs hp94 hW => ?_)
          rw [hp94] at hW
          refine r_vret hx hb hr hlocks hW ?_ dX11_takeParty_97
          refine Or.inr ⟨f58, p58, ?_, hfl58.1, hfl58.2.1, ⟨hfb58.1, hfb58.2⟩, (FrM.rj (FrM.tr (FrM.rj (FrM.tr FrM.rf (FrM.ok hok42)) (fun k hk => ((up_n _ _ (by omega)).trans rfl))) (FrM.fl hfl58)) (fun k hk => ((up_n _ _ (by omega)).trans ((up_n _ _ (by omega)).trans ((up_n _ _ (by omega)).trans rfl)))))⟩
          unfold pParty; rw [if_neg (by omega), PB_l hpn42, PB_r hpn58]
      · skip
        have hP_S42 : GrP G S42 := fun q hq => by rw [hfl42.2.2.2.1]; exact hP q hq
        have hj42 : gj S42 66 = (gj S 66) := (hfl42.2.2.2.2 66 (by decide)).2
        have hfb42 := pNum_f hpn42
        refine lv_i2l hx hb dX11_takeParty_45 rfl ?_
        refine r_last hx hb hW 66 rfl (g_lt hG (by decide)) (g_kd hG (by decide) rfl) (g_ix hG (c := 560) (by decide) rfl (n_inI (by omega) (by decide))) (rj S42 66 (va_up (gj S42 66) ((nI (438 + (B 17)))).toNatClampNeg (Int32.toInt64 r42))) (gj S42 66) rfl (e_js _ _ _) rfl rfl c_j0 dX11_takeParty_46 (fun H locs hW => ?_)
        rw [show ((nI (438 + (B 17)))).toNatClampNeg = (438 + (B 17)) from n_clamp (by omega)] at hW
        refine lv_aload_n hx hb dX11_takeParty_47 rfl (lv_at hl 1 rfl) ?_
        refine r_getr (ci := 10) (C := RX11) (T := TX11) (N := 20) hx hb hts iX11 hown hW rfl 65 0 rfl (g_lt hG (by decide)) (g_kd hG (by decide) rfl) (by decide) q0 (fun _ h9 => h9) (hP_S42 _ (List.mem_of_getElem? (i := 60) rfl)) rfl rfl dX11_takeParty_48 ?_
        refine lv_sipush (v := 454) hx hb dX11_takeParty_51 (by decide) ?_
        refine lv_iload_n hx hb dX11_takeParty_54 rfl (lv_at hl 0 rfl) ?_
        refine lv_iadd hx hb dX11_takeParty_55 ?_
        rw [show ((454 + (nI (B 17))) : Int32) = (nI (454 + (B 17))) from n_add 454 (B 17)]
        refine lv_aload_n hx hb dX11_takeParty_56 rfl (lv_at hl 1 rfl) ?_
        refine lv_iconst (v := 0) hx hb dX11_takeParty_57 (by decide) ?_
        refine r_calli hW hA (va_runV (As := [.int 0]) (rest := [.int (nI (454 + (B 17))), .ref (gA G 66)]) ⟨hx, hb, hml, hown, hts⟩ (t_X11_takeChoice_past0 l D G (rj S42 66 (va_up (gj S42 66) (438 + (B 17)) (Int32.toInt64 r42))) _ hG hP_S42 f42 hfb42.1 hfb42.2 hfl42.1) (cwV 1 hts gX11_takeParty_X11_takeChoice rfl rfl rfl (by decide +kernel) ⟨Nat.le_of_ble_eq_true rfl, Nat.le_of_ble_eq_true rfl⟩) (r_preV (k := 65) hA hW (ci := 10) (C := RX11) (T := TX11) (N := 20) rfl rfl (g_lt hG (by decide)) (g_kd hG (by decide) rfl) rfl rfl) rfl rfl hl.1 rfl (lv_room (Nat.le_of_ble_eq_true rfl)) dX11_takeParty_58 ⟨Nat.zero_le _, Nat.zero_le _⟩) (fun r58 S58 H locs hp58 hW => ?_)
        obtain ⟨rfl, hs58⟩ := hp58
        rw [hs58] at hW
        refine lv_i2l hx hb dX11_takeParty_61 rfl ?_
        refine r_last hx hb hW 66 rfl (g_lt hG (by decide)) (g_kd hG (by decide) rfl) (g_ix hG (c := 560) (by decide) rfl (n_inI (by omega) (by decide))) (rj S42 66 (va_up (va_up (gj S42 66) (438 + (B 17)) (Int32.toInt64 r42)) ((nI (454 + (B 17)))).toNatClampNeg (Int32.toInt64 0))) (va_up (gj S42 66) (438 + (B 17)) (Int32.toInt64 r42)) (e_js _ _ _) (e_js _ _ _) rfl rfl c_j dX11_takeParty_62 (fun H locs hW => ?_)
        rw [show ((nI (454 + (B 17)))).toNatClampNeg = (454 + (B 17)) from n_clamp (by omega)] at hW
        refine lv_aload_n hx hb dX11_takeParty_63 rfl (lv_at hl 1 rfl) ?_
        refine r_getr (ci := 10) (C := RX11) (T := TX11) (N := 20) hx hb hts iX11 hown hW rfl 65 0 rfl (g_lt hG (by decide)) (g_kd hG (by decide) rfl) (by decide) q0 (fun _ h9 => h9) (hP_S42 _ (List.mem_of_getElem? (i := 60) rfl)) rfl rfl dX11_takeParty_64 ?_
        refine lv_sipush (v := 470) hx hb dX11_takeParty_67 (by decide) ?_
        refine lv_iload_n hx hb dX11_takeParty_70 rfl (lv_at hl 0 rfl) ?_
        refine lv_iadd hx hb dX11_takeParty_71 ?_
        rw [show ((470 + (nI (B 17))) : Int32) = (nI (470 + (B 17))) from n_add 470 (B 17)]
        refine lv_aload_n hx hb dX11_takeParty_72 rfl (lv_at hl 1 rfl) ?_
        refine lv_iconst (v := 0) hx hb dX11_takeParty_73 (by decide) ?_
        refine lv_bipush (v := 99) hx hb dX11_takeParty_74 (by decide) ?_
        refine r_calli hW hA (va_runV (As := [.int 0, .int 99]) (rest := [.int (nI (470 + (B 17))), .ref (gA G 66)]) ⟨hx, hb, hml, hown, hts⟩ (t_X11_takeNumber_past l D G (rj S42 66 (va_up (va_up (gj S42 66) (438 + (B 17)) (Int32.toInt64 r42)) (454 + (B 17)) (Int32.toInt64 0))) _ hG hP_S42 f42 hfb42.1 hfb42.2 hfl42.1 0 99) (cwV 2 hts gX11_takeParty_X11_takeNumber rfl rfl rfl (by decide +kernel) ⟨Nat.le_of_ble_eq_true rfl, Nat.le_of_ble_eq_true rfl⟩) (r_preV (k := 65) hA hW (ci := 10) (C := RX11) (T := TX11) (N := 20) rfl rfl (g_lt hG (by decide)) (g_kd hG (by decide) rfl) rfl rfl) rfl rfl hl.1 rfl (lv_room (Nat.le_of_ble_eq_true rfl)) dX11_takeParty_76 ⟨Nat.zero_le _, Nat.zero_le _⟩) (fun r76 S76 H locs hp76 hW => ?_)
        obtain ⟨rfl, hs76⟩ := hp76
        rw [hs76] at hW
        refine lv_i2l hx hb dX11_takeParty_79 rfl ?_
        refine r_last hx hb hW 66 rfl (g_lt hG (by decide)) (g_kd hG (by decide) rfl) (g_ix hG (c := 560) (by decide) rfl (n_inI (by omega) (by decide))) (rj S42 66 (va_up (va_up (va_up (gj S42 66) (438 + (B 17)) (Int32.toInt64 r42)) (454 + (B 17)) (Int32.toInt64 0)) ((nI (470 + (B 17)))).toNatClampNeg (Int32.toInt64 0))) (va_up (va_up (gj S42 66) (438 + (B 17)) (Int32.toInt64 r42)) (454 + (B 17)) (Int32.toInt64 0)) (e_js _ _ _) (e_js _ _ _) rfl rfl c_j dX11_takeParty_80 (fun H locs hW => ?_)
        rw [show ((nI (470 + (B 17)))).toNatClampNeg = (470 + (B 17)) from n_clamp (by omega)] at hW
        refine lv_aload_n hx hb dX11_takeParty_81 rfl (lv_at hl 1 rfl) ?_
        refine r_getr (ci := 10) (C := RX11) (T := TX11) (N := 20) hx hb hts iX11 hown hW rfl 65 0 rfl (g_lt hG (by decide)) (g_kd hG (by decide) rfl) (by decide) q0 (fun _ h9 => h9) (hP_S42 _ (List.mem_of_getElem? (i := 60) rfl)) rfl rfl dX11_takeParty_82 ?_
        refine lv_sipush (v := 437) hx hb dX11_takeParty_85 (by decide) ?_
        refine lv_iload_n hx hb dX11_takeParty_88 rfl (lv_at hl 0 rfl) ?_
        refine lv_iconst (v := 1) hx hb dX11_takeParty_89 (by decide) ?_
        refine lv_iadd hx hb dX11_takeParty_90 ?_
        rw [show (((nI (B 17)) + 1) : Int32) = (nI ((B 17) + 1)) from n_add (B 17) 1]
        refine lv_i2l hx hb dX11_takeParty_91 rfl ?_
        rw [show (Int32.toInt64 (nI ((B 17) + 1)) : Int64) = lN ((B 17) + 1) from lN_of (by omega)]
        refine W.eq (g2 := F0 mM 92 ls [.long (lN ((B 17) + 1)), .int (nI 437), .ref (gA G 66)]) rfl ?_
        refine r_last hx hb hW 66 rfl (g_lt hG (by decide)) (g_kd hG (by decide) rfl) (g_ix hG (c := 560) (by decide) rfl (n_inI (by omega) (by decide))) (rj S42 66 (va_up (va_up (va_up (va_up (gj S42 66) (438 + (B 17)) (Int32.toInt64 r42)) (454 + (B 17)) (Int32.toInt64 0)) (470 + (B 17)) (Int32.toInt64 0)) ((nI 437)).toNatClampNeg (lN ((B 17) + 1)))) (va_up (va_up (va_up (gj S42 66) (438 + (B 17)) (Int32.toInt64 r42)) (454 + (B 17)) (Int32.toInt64 0)) (470 + (B 17)) (Int32.toInt64 0)) (e_js _ _ _) (e_js _ _ _) rfl rfl c_j dX11_takeParty_92 (fun H locs hW => ?_)
        rw [show ((nI 437)).toNatClampNeg = 437 from n_clamp (by omega)] at hW
        refine lv_aload_n hx hb dX11_takeParty_93 rfl (lv_at hl 1 rfl) ?_
        refine r_callv hW hA (va_runV (As := []) (rest := []) ⟨hx, hb, hml, hown, hts⟩ (t_X11_takeSign_past l D G (rj S42 66 (va_up (va_up (va_up (va_up (gj S42 66) (438 + (B 17)) (Int32.toInt64 r42)) (454 + (B 17)) (Int32.toInt64 0)) (470 + (B 17)) (Int32.toInt64 0)) 437 (lN ((B 17) + 1)))) _ hG hP_S42 f42 hfb42.1 hfb42.2 hfl42.1) (cwV 0 hts gX11_takeParty_X11_takeSign rfl rfl rfl (by decide +kernel) ⟨Nat.le_of_ble_eq_true rfl, Nat.le_of_ble_eq_true rfl⟩) (r_preV (k := 65) hA hW (ci := 10) (C := RX11) (T := TX11) (N := 20) rfl rfl (g_lt hG (by decide)) (g_kd hG (by decide) rfl) rfl rfl) rfl rfl hl.1 rfl (lv_room (Nat.le_of_ble_eq_true rfl)) dX11_takeParty_94 ⟨Nat.zero_le _, Nat.zero_le _⟩) (fun S94 H locs hp94 hW => ?_)
        rw [hp94] at hW
        refine r_vret hx hb hr hlocks hW ?_ dX11_takeParty_97
        refine Or.inr ⟨f42, p42, ?_, hfl42.1, hfl42.2.1, ⟨hfb42.1, hfb42.2⟩, (FrM.rj (FrM.tr FrM.rf (FrM.fl hfl42)) (fun k hk => ((up_n _ _ (by omega)).trans ((up_n _ _ (by omega)).trans ((up_n _ _ (by omega)).trans ((up_n _ _ (by omega)).trans rfl))))))⟩
        unfold pParty; rw [if_neg (by omega), PB_r hpn42]
