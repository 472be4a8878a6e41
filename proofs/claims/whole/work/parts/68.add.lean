/-! a cell more: the world with a role more -/
def gAdd (G : Gg) (q kd zz : Nat) : Gg := (gN G + 1, va_up (gA G) (gN G) q, va_up (gK G) (gN G) kd, va_up (gZ G) (gN G) zz)
def sAdd (G : Gg) (S : Sg) : Sg := (va_up (gi S) (gN G) (fun _ => 0), va_up (gj S) (gN G) (fun _ => 0), va_up (gp S) (gN G) (fun _ => none))
theorem wS_add {cy : Nat → ClassId} {G : Gg} {S : Sg} {q kd zz : Nat} : wS cy (gAdd G q kd zz) (sAdd G S) = wS cy G S ++ [(q, gE cy zz kd (fun _ => 0) (fun _ => 0) (fun _ => none))] := by
  unfold wS
  show (List.range (gN G + 1)).map _ = _
  rw [List.range_succ, List.map_append]
  congr 1
  · apply List.map_congr_left
    intro k hk
    have hk2 : k ≠ gN G := by have := List.mem_range.mp hk; omega
    unfold gC
    show (va_up (gA G) (gN G) q k, gE cy (va_up (gZ G) (gN G) zz k) (va_up (gK G) (gN G) kd k) (va_up (gi S) (gN G) (fun _ => 0) k) (va_up (gj S) (gN G) (fun _ => 0) k) (va_up (gp S) (gN G) (fun _ => none) k)) = _
    rw [up_n _ _ hk2, up_n _ _ hk2, up_n _ _ hk2, up_n _ _ hk2, up_n _ _ hk2, up_n _ _ hk2]
  · unfold gC
    show [(va_up (gA G) (gN G) q (gN G), gE cy (va_up (gZ G) (gN G) zz (gN G)) (va_up (gK G) (gN G) kd (gN G)) (va_up (gi S) (gN G) (fun _ => 0) (gN G)) (va_up (gj S) (gN G) (fun _ => 0) (gN G)) (va_up (gp S) (gN G) (fun _ => none) (gN G)))] = _
    rw [up_s, up_s, up_s, up_s, up_s, up_s]
theorem GrG.add {G : Gg} {q kd zz : Nat} (hG : GrG G) (hk : kd = 1 ∨ kd = 2 ∨ kd = 3 ∨ kd = 6 ∨ kd = 8) : GrG (gAdd G q kd zz) := by
  obtain ⟨a, b, c, d⟩ := hG
  refine ⟨by show 75 ≤ gN G + 1; omega, fun k h => ?_, fun k h => ?_, fun k h1 h2 => ?_⟩
  · show va_up (gK G) (gN G) kd k = _; rw [up_n _ _ (by omega)]; exact b k h
  · show va_up (gZ G) (gN G) zz k = _; rw [up_n _ _ (by omega)]; exact c k h
  · have h3 : k < gN G + 1 := h2
    show va_up (gK G) (gN G) kd k = 1 ∨ va_up (gK G) (gN G) kd k = 2 ∨ va_up (gK G) (gN G) kd k = 3 ∨ va_up (gK G) (gN G) kd k = 6 ∨ va_up (gK G) (gN G) kd k = 8
    by_cases e : k = gN G
    · rw [e, up_s]; exact hk
    · rw [up_n _ _ e]; exact d k h1 (by omega)
