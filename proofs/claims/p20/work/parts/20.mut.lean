theorem upd_nI (f : Nat → Nat) (i x : Nat) : upd (fun k => nI (f k)) i (nI x) = fun k => nI (va_up f i x k) := by
  funext k
  by_cases h : k = i <;> simp [upd, va_up, h]
theorem g_PD {D : va_G} {cl : List vw_C} {A : Nat → Prop} {ws : va_W} {t : State} {H : Heap} (ht : t.heap = H) (hP : va_P D cl ws H) (hD : va_D A ws) : va_P D cl ws t.heap ∧ va_D A ws := ⟨by rw [ht]; exact hP, hD⟩
