/-! the law's loop -/
theorem lw_more {L t : Nat} (hL : L ≤ 3072) (h6 : 6 * t ≤ L) (h : ¬ Int32.ofNat L - 6 < nI (6 * t)) : 6 * t + 6 ≤ L := by
  by_cases hl : 6 ≤ L
  · obtain ⟨M, rfl⟩ : ∃ M, L = M + 6 := ⟨L - 6, by omega⟩
    have e : Int32.ofNat (M + 6) - 6 = nI M := by
      show nI (M + 6) - 6 = nI M
      rw [← nI_add]
      exact Int32.add_sub_cancel _ _
    rw [e] at h
    have z : ¬ M < 6 * t := fun q => h (nI_lt q (by omega))
    omega
  · have ht : t = 0 := by omega
    subst ht
    rcases (show L = 0 ∨ L = 1 ∨ L = 2 ∨ L = 3 ∨ L = 4 ∨ L = 5 by omega) with rfl | rfl | rfl | rfl | rfl | rfl <;> exact absurd (by decide) h
section LAWL
variable {p : Program} {l : Launch} {e : Env} {s : State} {m : MethodId} {below : List Frame} {meth : Method} {c : Code} {D : Dc} {b L : Nat} {xs : Nat → Int32}
set_option maxHeartbeats 4000000 in
theorem lw_loop (C : LwC p s m c b L xs) (hr : meth.sig.returnType = ret) (hlocks : meth.locks = false) (hL : L ≤ 3072) : ∀ (k t cells slots c0 : Nat) (G : Gg) (S : Sg) (H : Heap) (locs : List Loc) (ls : Array Slot), 600 ≤ t + k → cells + 16 * k ≤ 600000 → slots + 48 * k ≤ 7302250 → c0 + 40 * k < 90000 → 6 * t ≤ L → Inv G S c0 → Wd D (LwA s) s G S H locs → LwL ls G b t → W p l e room_1 s m #[Value.ref b] below meth c H locs cells slots (lw_Z below #[Value.ref b] s) (F0 m 18 ls []) := by
  intro k
  induction k with
  | zero => intro t cells slots c0 G S H locs ls h1 h2 h3 h4 h5; omega
  | succ k ih =>
    intro t cells slots c0 G S H locs ls h1 h2 h3 h4 h5 hI hW hl
    have C9 := C
    obtain ⟨hx, hb, hml, hown, hts, hX, hbl⟩ := C9
    have hl4 : lv_has ls 4 [(3, .int (nI (6 * t))), (2, .ref (gA G 65)), (1, .ref (gA G 0)), (0, .ref b)] := hl
    have hnb : ¬ LwA s b := show ¬ s.heap.size ≤ b by omega
    refine lv_iload_n hx hb dL_law_18 rfl (lv_at hl4 0 rfl) ?_
    refine lv_aload_n hx hb dL_law_19 rfl (lv_at hl4 3 rfl) ?_
    refine va_slen hx hb hX hbl hnb hW.2.2.2.1 dL_law_20 ?_
    refine lv_bipush (v := 6) hx hb dL_law_21 (by decide) ?_
    refine lv_isub hx hb dL_law_23 ?_
    refine lv_icmp_gt (tgt := 1049) hx hb dL_law_24 (by decide) (fun _ => ?_) (fun c24 => ?_)
    · refine lv_iconst (v := 1) hx hb dL_law_1049 (by decide) ?_
      refine va_forget (fun q hq => hW.2.2.2.1.2.2 q hq) ?_
      exact W.widen (k := 600000) (n := 7302250) (by omega) (by omega) (lw_ret hx hb hr hlocks dL_law_1050)
    · have ht : 6 * t + 6 ≤ L := lw_more hL h5 c24
      have NX : ∀ (G1 : Gg) (S1 : Sg) (H1 : Heap) (locs1 : List Loc), Inv G1 S1 (c0 + 40) → gA G1 0 = gA G 0 → gA G1 65 = gA G 65 → Wd D (LwA s) s G1 S1 H1 locs1 → W p l e room_1 s m #[Value.ref b] below meth c H1 locs1 (cells + 16) (slots + 48) (lw_Z below #[Value.ref b] s) (F0 m 1043 ls []) := by
        intro G1 S1 H1 locs1 hI1 e0 e65 hW1
        have hl5 : lv_has ls 4 [(3, .int (nI (6 * t))), (2, .ref (gA G1 65)), (1, .ref (gA G1 0)), (0, .ref b)] := by rw [e0, e65]; exact hl4
        refine lv_iinc (v := nI (6 * (t + 1))) (lv' := [(3, .int (nI (6 * (t + 1)))), (2, .ref (gA G1 65)), (1, .ref (gA G1 0)), (0, .ref b)]) hx hb dL_law_1043 hl5 (k := 0) rfl (nI_add (6 * t) 6) (by decide) rfl (fun ls hl => ?_)
        refine lv_goto (tgt := 18) hx hb dL_law_1046 (by decide) ?_
        exact ih (t + 1) (cells + 16) (slots + 48) (c0 + 40) G1 S1 H1 locs1 ls (by omega) (by omega) (by omega) (by omega) (by omega) hI1 hW1 hl
      have hcl : cells + 16 ≤ 600000 := by omega
      have hsl : slots + 48 ≤ 7302250 := by omega
      have hc0 : c0 + 40 < 90000 := by omega
      refine lv_aload_n hx hb dL_law_27 rfl (lv_at hl4 3 rfl) ?_
      refine lv_iload_n hx hb dL_law_28 rfl (lv_at hl4 0 rfl) ?_
      refine va_sld hx hb hX hbl hnb hW.2.2.2.1 (nI_in (show 6 * t < L by omega) (by omega)) dL_law_29 ?_
      rw [nI_clamp (show 6 * t < 2 ^ 31 by omega)]
      refine lv_bipush (v := 31) hx hb dL_law_30 (by decide) ?_
      refine lv_iand hx hb dL_law_32 ?_
      obtain ⟨o, ho⟩ : ∃ o, o = xs (6 * t) &&& 31 := ⟨_, rfl⟩
      rw [← ho]
      by_cases z : o.toInt < 0 ∨ 25 < o.toInt
      · refine lv_tableOut (tgt := 1043) hx hb dL_law_33 z (by decide) ?_
        refine W.widen (Nat.le_add_right _ _) (Nat.le_add_right _ _) (NX G S H locs ?_ rfl rfl hW)
        obtain ⟨h, k, nw, it, la, le, st, B, B1, B2, T, ts, lf, tl, tr, hG, hP, hI, hM, hA⟩ := hI
        exact ⟨h, k, nw, it, la, le, st, B, B1, B2, T, ts, lf, tl, tr, hG, hP, hI, hM, hA.same hc0⟩
      · have z0 : ¬ o.toInt < 0 := fun q => z (Or.inl q)
        have z25 : ¬ 25 < o.toInt := fun q => z (Or.inr q)
        rcases (show o.toInt = 0 ∨ o.toInt = 1 ∨ o.toInt = 2 ∨ o.toInt = 3 ∨ o.toInt = 4 ∨ o.toInt = 5 ∨ o.toInt = 6 ∨ o.toInt = 7 ∨ o.toInt = 8 ∨ o.toInt = 9 ∨ o.toInt = 10 ∨ o.toInt = 11 ∨ o.toInt = 12 ∨ o.toInt = 13 ∨ o.toInt = 14 ∨ o.toInt = 15 ∨ o.toInt = 16 ∨ o.toInt = 17 ∨ o.toInt = 18 ∨ o.toInt = 19 ∨ o.toInt = 20 ∨ o.toInt = 21 ∨ o.toInt = 22 ∨ o.toInt = 23 ∨ o.toInt = 24 ∨ o.toInt = 25 by omega) with w | w | w | w | w | w | w | w | w | w | w | w | w | w | w | w | w | w | w | w | w | w | w | w | w | w
        · exact lv_tableIn (off := 119) (tgt := 152) hx hb dL_law_33 z0 z25 (by rw [w]; rfl) (by decide) (lw_op_row C hcl hsl hI hc0 hW hl ht hL NX)
        · exact lv_tableIn (off := 163) (tgt := 196) hx hb dL_law_33 z0 z25 (by rw [w]; rfl) (by decide) (lw_op_set C hcl hsl hI hc0 hW hl ht hL NX)
        · exact lv_tableIn (off := 207) (tgt := 240) hx hb dL_law_33 z0 z25 (by rw [w]; rfl) (by decide) (lw_op_copy C hcl hsl hI hc0 hW hl ht hL NX)
        · exact lv_tableIn (off := 271) (tgt := 304) hx hb dL_law_33 z0 z25 (by rw [w]; rfl) (by decide) (lw_op_drop C hcl hsl hI hc0 hW hl ht hL NX)
        · exact lv_tableIn (off := 295) (tgt := 328) hx hb dL_law_33 z0 z25 (by rw [w]; rfl) (by decide) (lw_op_feed C hcl hsl hI hc0 hW hl ht hL NX)
        · exact lv_tableIn (off := 359) (tgt := 392) hx hb dL_law_33 z0 z25 (by rw [w]; rfl) (by decide) (lw_op_pass C hcl hsl hI hc0 hW hl ht hL NX)
        · exact lv_tableIn (off := 373) (tgt := 406) hx hb dL_law_33 z0 z25 (by rw [w]; rfl) (by decide) (lw_op_fault C hcl hsl hI hc0 hW hl ht hL NX)
        · exact lv_tableIn (off := 386) (tgt := 419) hx hb dL_law_33 z0 z25 (by rw [w]; rfl) (by decide) (lw_op_night C hcl hsl hI hc0 hW hl ht hL NX)
        · exact lv_tableIn (off := 410) (tgt := 443) hx hb dL_law_33 z0 z25 (by rw [w]; rfl) (by decide) (lw_op_nights C hcl hsl hI hc0 hW hl ht hL NX)
        · exact lv_tableIn (off := 454) (tgt := 487) hx hb dL_law_33 z0 z25 (by rw [w]; rfl) (by decide) (lw_op_snow C hcl hsl hI hc0 hW hl ht hL NX)
        · exact lv_tableIn (off := 478) (tgt := 511) hx hb dL_law_33 z0 z25 (by rw [w]; rfl) (by decide) (lw_op_due C hcl hsl hI hc0 hW hl ht hL NX)
        · exact lv_tableIn (off := 512) (tgt := 545) hx hb dL_law_33 z0 z25 (by rw [w]; rfl) (by decide) (lw_op_party C hcl hsl hI hc0 hW hl ht hL NX)
        · exact lv_tableIn (off := 546) (tgt := 579) hx hb dL_law_33 z0 z25 (by rw [w]; rfl) (by decide) (lw_op_safe C hcl hsl hI hc0 hW hl ht hL NX)
        · exact lv_tableIn (off := 600) (tgt := 633) hx hb dL_law_33 z0 z25 (by rw [w]; rfl) (by decide) (lw_op_stock C hcl hsl hI hc0 hW hl ht hL NX)
        · exact lv_tableIn (off := 644) (tgt := 677) hx hb dL_law_33 z0 z25 (by rw [w]; rfl) (by decide) (lw_op_send C hcl hsl hI hc0 hW hl ht hL NX)
        · exact lv_tableIn (off := 678) (tgt := 711) hx hb dL_law_33 z0 z25 (by rw [w]; rfl) (by decide) (lw_op_broke C hcl hsl hI hc0 hW hl ht hL NX)
        · exact lv_tableIn (off := 722) (tgt := 755) hx hb dL_law_33 z0 z25 (by rw [w]; rfl) (by decide) (lw_op_lies C hcl hsl hI hc0 hW hl ht hL NX)
        · exact lv_tableIn (off := 766) (tgt := 799) hx hb dL_law_33 z0 z25 (by rw [w]; rfl) (by decide) (lw_op_carry C hcl hsl hI hc0 hW hl ht hL NX)
        · exact lv_tableIn (off := 810) (tgt := 843) hx hb dL_law_33 z0 z25 (by rw [w]; rfl) (by decide) (lw_op_image C hcl hsl hI hc0 hW hl ht hL NX)
        · exact lv_tableIn (off := 834) (tgt := 867) hx hb dL_law_33 z0 z25 (by rw [w]; rfl) (by decide) (lw_op_restore C hcl hsl hI hc0 hW hl ht hL NX)
        · exact lv_tableIn (off := 858) (tgt := 891) hx hb dL_law_33 z0 z25 (by rw [w]; rfl) (by decide) (lw_op_kind C hcl hsl hI hc0 hW hl ht hL NX)
        · exact lv_tableIn (off := 882) (tgt := 915) hx hb dL_law_33 z0 z25 (by rw [w]; rfl) (by decide) (lw_op_as C hcl hsl hI hc0 hW hl ht hL NX)
        · exact lv_tableIn (off := 916) (tgt := 949) hx hb dL_law_33 z0 z25 (by rw [w]; rfl) (by decide) (lw_op_ask C hcl hsl hI hc0 hW hl ht hL NX)
        · exact lv_tableIn (off := 950) (tgt := 983) hx hb dL_law_33 z0 z25 (by rw [w]; rfl) (by decide) (lw_op_trace C hcl hsl hI hc0 hW hl ht hL NX)
        · exact lv_tableIn (off := 973) (tgt := 1006) hx hb dL_law_33 z0 z25 (by rw [w]; rfl) (by decide) (lw_op_count C hcl hsl hI hc0 hW hl ht hL NX)
        · exact lv_tableIn (off := 997) (tgt := 1030) hx hb dL_law_33 z0 z25 (by rw [w]; rfl) (by decide) (lw_op_status C hcl hsl hI hc0 hW hl ht hL NX)
end LAWL
