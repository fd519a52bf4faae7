theorem va_up2 {α : Type} (f : Nat → α) (k : Nat) (x y : α) : va_up (va_up f k x) k y = va_up f k y := by
  funext j
  unfold va_up
  by_cases h : j = k
  · simp [h]
  · simp [h]
/-- a run of bytes that are no space is one word -/
theorem spl_run {B S E S1 E1 : Nat → Nat} {a w : Nat} (he : spl B S E a = (w, S1, E1)) (h2 : a = 0 ∨ B (a - 1) = 32) : ∀ d, (∀ j, j < d + 1 → B (a + j) ≠ 32) → spl B S E (a + (d + 1)) = (w + 1, va_up S1 w a, va_up E1 w (a + (d + 1))) := by
  intro d
  induction d with
  | zero =>
    intro h
    exact spl_st he (h 0 (by omega)) h2
  | succ d ih =>
    intro h
    have h1 := ih (fun j hj => h j (by omega))
    have h3 := spl_go h1 (h (d + 1) (by omega)) (by
      intro z
      rcases z with z | z
      · omega
      · have h4 := h d (by omega)
        rw [show a + (d + 1) - 1 = a + d by omega] at z
        exact h4 z)
    rw [show a + (d + 1 + 1) = a + (d + 1) + 1 by omega, h3, show w + 1 - 1 = w by omega, va_up2]
