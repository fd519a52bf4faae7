theorem va_up2 {α : Type} (f : Nat → α) (k : Nat) (x y : α) : va_up (va_up f k x) k y = va_up f k y := by
  funext j
  unfold va_up
  by_cases h : j = k
  · simp [h]
  · simp [h]
/-- a run of bytes that are no space is one word -/
theorem spl_run {B S E S1 E1 : Nat → Nat} {a w : Nat} (he : spl B S E a = (w, S1, E1)) (h2 : a = 0 ∨ B (a - 1) = 32) : ∀ d, (∀ j, j < d + 1 → B (a + j) ≠ 32) → spl B S E (a + (d + 1)) = (w + 1, va_up S1 w a, va_up E1 w (a + (d + 1))) := by
  intro d
  induction d with
  | zero =>
    intro h
    exact spl_st he (h 0 (by omega)) h2
  | succ d ih =>
    intro h
    have h1 := ih (fun j hj => h j (by omega))
    have h3 := spl_go h1 (h (d + 1) (by omega)) (by
      intro z
      rcases z with z | z
      · omega
      · have h4 := h d (by omega)
        rw [show a + (d + 1) - 1 = a + d by omega] at z
        exact h4 z)
    rw [show a + (d + 1 + 1) = a + (d + 1) + 1 by omega, h3, show w + 1 - 1 = w by omega, va_up2]
theorem spl_run2 {B S E S1 E1 : Nat → Nat} {a z w : Nat} (he : spl B S E a = (w, S1, E1)) (h2 : a = 0 ∨ B (a - 1) = 32) (hn : ∀ j, a + j < z → B (a + j) ≠ 32) (hz : a < z) : spl B S E z = (w + 1, va_up S1 w a, va_up E1 w z) := by
  have h := spl_run he h2 (z - a - 1) (fun j hj => hn j (by omega))
  rw [show a + (z - a - 1 + 1) = z by omega] at h
  exact h
theorem ns_up {B : Nat → Nat} {a q : Nat} (hn : ∀ j, a + j < q → B (a + j) ≠ 32) (h : B q ≠ 32) : ∀ j, a + j < q + 1 → B (a + j) ≠ 32 := by
  intro j hj
  by_cases hq : a + j = q
  · rw [hq]
    exact h
  · exact hn j (by omega)
/-- the words of the reference in memory: strings of their own, with the tape's bytes -/
def kWD (g : kG) (μ ν : km_M) (ma wd : Nat) (M : Nat → Option Nat) (sa va : Nat → Nat) (h : Nat → Nat → Nat) (B S1 E1 : Nat → Nat) (w : Nat) : Prop :=
  (∀ x, ν x = none → μ x = none) ∧ (∀ x e, μ x = some e → x ≠ ma → x ≠ wd → ν x = some e) ∧ ∀ i, i < w → M i = some (sa i) ∧ μ (sa i) = none ∧ μ (va i) = none ∧ ν (sa i) = some (.inr (7, [.ref (va i), .int (nI 0), .int (nI 0), .int (nI 0)])) ∧ ν (va i) = some (.inl (g.2.2.1 0, (E1 i - S1 i), .inl (fun j => sb ((h i) j)))) ∧ (∀ j, j < E1 i - S1 i → h i j = B (S1 i + j)) ∧ ∀ q, h i q < 256
theorem kWD_0 {g : kG} {μ ν : km_M} {ma wd : Nat} {e1 e2 : va_E} {M : Nat → Option Nat} {sa va : Nat → Nat} {h : Nat → Nat → Nat} {B S1 E1 : Nat → Nat} (h1 : μ ma = some e1) (hf : ∀ x, x ≠ ma → ν x = μ x) (hm : ν ma = some e2) : kWD g μ ν ma wd M sa va h B S1 E1 0 := by
  refine ⟨fun x hx => ?_, fun x e hx n1 _ => (hf x n1).trans hx, fun i hi => absurd hi (Nat.not_lt_zero _)⟩
  have n1 : x ≠ ma := fun z => by rw [z, hm] at hx; cases hx
  exact (hf x n1).symm.trans hx
theorem kWD_step {g : kG} {μ ν ρ : km_M} {ma wd qs vb a z : Nat} {e1 e2 e3 e4 : va_E} {M : Nat → Option Nat} {sa va : Nat → Nat} {h : Nat → Nat → Nat} {k : Nat → Nat} {B S1 E1 : Nat → Nat} {w : Nat} (hI : kWD g μ ν ma wd M sa va h B S1 E1 w) (h1 : μ ma = some e1) (h2 : μ wd = some e2) (h3 : ρ ma = some e3) (h4 : ρ wd = some e4)
    (hq : ν qs = none) (hb : ν vb = none) (hf : ∀ x, x ≠ ma → x ≠ wd → x ≠ qs → x ≠ vb → ρ x = ν x) (hs : ρ qs = some (.inr (7, [.ref vb, .int (nI 0), .int (nI 0), .int (nI 0)]))) (hv : ρ vb = some (.inl (g.2.2.1 0, (z - a), .inl (fun j => sb (k j))))) (hk : ∀ j, j < z - a → k j = B (a + j)) (hl : ∀ q, k q < 256) :
    kWD g μ ρ ma wd (va_up M w (some qs)) (va_up sa w qs) (va_up va w vb) (va_up h w k) B (va_up S1 w a) (va_up E1 w z) (w + 1) := by
  obtain ⟨i1, i2, i3⟩ := hI
  refine ⟨fun x hx => ?_, fun x e hx n1 n2 => ?_, fun i hi => ?_⟩
  · have n1 : x ≠ ma := fun y => by rw [y, h3] at hx; cases hx
    have n2 : x ≠ wd := fun y => by rw [y, h4] at hx; cases hx
    have n3 : x ≠ qs := fun y => by rw [y, hs] at hx; cases hx
    have n4 : x ≠ vb := fun y => by rw [y, hv] at hx; cases hx
    exact i1 x ((hf x n1 n2 n3 n4).symm.trans hx)
  · have h5 := i2 x e hx n1 n2
    exact (hf x n1 n2 (km_apF h5 hq) (km_apF h5 hb)).trans h5
  · by_cases hw : i = w
    · subst hw
      have u1 : ∀ {α : Type} (f : Nat → α) (x : α), va_up f i x i = x := fun f x => if_pos rfl
      rw [u1, u1, u1, u1, u1, u1]
      exact ⟨rfl, i1 _ hq, i1 _ hb, hs, hv, hk, hl⟩
    · have u1 : ∀ {α : Type} (f : Nat → α) (x : α), va_up f w x i = f i := fun f x => if_neg hw
      rw [u1, u1, u1, u1, u1, u1]
      obtain ⟨j1, j2, j3, j4, j5, j6, j7⟩ := i3 i (by omega)
      exact ⟨j1, j2, j3, (hf _ (km_apF h1 j2).symm (km_apF h2 j2).symm (km_apF j4 hq) (km_apF j4 hb)).trans j4, (hf _ (km_apF h1 j3).symm (km_apF h2 j3).symm (km_apF j5 hq) (km_apF j5 hb)).trans j5, j6, j7⟩
theorem kWD_ma {g : kG} {μ ν : km_M} {ma wd : Nat} {e1 e : va_E} {M : Nat → Option Nat} {sa va : Nat → Nat} {h : Nat → Nat → Nat} {B S1 E1 : Nat → Nat} {w : Nat} (hI : kWD g μ ν ma wd M sa va h B S1 E1 w) (h1 : μ ma = some e1) : kWD g μ (km_up ν ma e) ma wd M sa va h B S1 E1 w := by
  obtain ⟨i1, i2, i3⟩ := hI
  refine ⟨fun x hx => i1 x (km_none hx).2, fun x y hx n1 n2 => (km_n n1).trans (i2 x y hx n1 n2), fun i hi => ?_⟩
  obtain ⟨j1, j2, j3, j4, j5, j6, j7⟩ := i3 i hi
  exact ⟨j1, j2, j3, (km_n (km_apF h1 j2).symm).trans j4, (km_n (km_apF h1 j3).symm).trans j5, j6, j7⟩
