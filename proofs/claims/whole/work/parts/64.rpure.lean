-- a text of its own against its place in the tape
theorem pN_shift {f B : Nat → Nat} {a n k : Nat} {P : Nat → Bool} (h : ∀ j, j < n → f j = B (a + j)) (hk : k ≤ n) : pN P (sg f k (n - k)) = pN P (sg B (a + k) (a + n - (a + k))) := by
  rw [sg_shift h (n - k) k (by omega), show a + n - (a + k) = n - k by omega]
theorem vNum_shift {f B : Nat → Nat} {a n k : Nat} (h : ∀ j, j < n → f j = B (a + j)) (hk : k ≤ n) : vNum B (a + k) (a + n) = (vNum f k n).map fun q => (q.1, a + q.2) := by
  have e : nD B (a + k) (a + n - (a + k)) = nD f k (n - k) := (pN_shift h hk).symm
  have hle : nD f k (n - k) ≤ n - k := pN_lez k (n - k)
  unfold vNum
  rw [e, ← sg_shift h (nD f k (n - k)) k (by omega)]
  by_cases hc : 1 ≤ nD f k (n - k) ∧ nD f k (n - k) ≤ 9 ∧ ¬ (1 < nD f k (n - k) ∧ f k = 48)
  · have hc2 : 1 ≤ nD f k (n - k) ∧ nD f k (n - k) ≤ 9 ∧ ¬ (1 < nD f k (n - k) ∧ B (a + k) = 48) := by
      rw [← h k (by omega)]
      exact hc
    rw [if_pos hc, if_pos hc2, Option.map_some, show a + k + nD f k (n - k) = a + (k + nD f k (n - k)) by omega]
  · rw [if_neg hc]
    by_cases h0 : 1 ≤ nD f k (n - k)
    · rw [if_neg (by rw [← h k (by omega)]; exact hc)]
      rfl
    · rw [if_neg (fun z => h0 z.1)]
      rfl
theorem vNum_le {f : Nat → Nat} {n k v p : Nat} (hk : k ≤ n) (h : vNum f k n = some (v, p)) : p ≤ n := by
  have hle : nD f k (n - k) ≤ n - k := pN_lez k (n - k)
  unfold vNum at h
  split at h
  · have h2 := (Prod.mk.inj (Option.some.inj h)).2
    omega
  · cases h
theorem vDot_shift {f B : Nat → Nat} {a n k c : Nat} (h : ∀ j, j < n → f j = B (a + j)) : vDot B (a + k) (a + n) c = (vDot f k n c).map fun q => a + q := by
  unfold vDot
  by_cases hc : k < n ∧ f k = c
  · rw [if_pos hc, if_pos ⟨by omega, by rw [← h k hc.1]; exact hc.2⟩]
    rfl
  · rw [if_neg hc, if_neg (fun z => hc ⟨by omega, by rw [h k (by omega)]; exact z.2⟩)]
    rfl
theorem vDt_le {f : Nat → Nat} {n k c p : Nat} (h : vDot f k n c = some p) : p ≤ n := by
  unfold vDot at h
  split at h
  · rename_i z
    have h2 := Option.some.inj h
    omega
  · cases h
theorem vMark_shift {f B : Nat → Nat} {a n k : Nat} (h : ∀ j, j < n → f j = B (a + j)) (hk : k ≤ n) : vMark B (a + k) (a + n) = (vMark f k n).map fun q => (q.1, a + q.2) := by
  have e : nM B (a + k) (a + n - (a + k)) = nM f k (n - k) := (pN_shift h hk).symm
  have hle : nM f k (n - k) ≤ n - k := pN_lez k (n - k)
  unfold vMark
  rw [e, ← sg_shift h (nM f k (n - k)) k (by omega)]
  by_cases h0 : 1 ≤ nM f k (n - k)
  · rw [← h k (by omega)]
    by_cases hc : 1 ≤ nM f k (n - k) ∧ nM f k (n - k) ≤ 8 ∧ ¬ ((sg f k (nM f k (n - k))).all dD = true ∧ 1 < nM f k (n - k) ∧ f k = 48)
    · rw [if_pos hc, if_pos hc, Option.map_some, show a + k + nM f k (n - k) = a + (k + nM f k (n - k)) by omega]
    · rw [if_neg hc, if_neg hc]
      rfl
  · rw [if_neg (fun z => h0 z.1), if_neg (fun z => h0 z.1)]
    rfl
theorem vMark_le {f : Nat → Nat} {n k p : Nat} {xs : List Nat} (hk : k ≤ n) (h : vMark f k n = some (xs, p)) : p ≤ n := by
  have hle : nM f k (n - k) ≤ n - k := pN_lez k (n - k)
  unfold vMark at h
  split at h
  · have h2 := (Prod.mk.inj (Option.some.inj h)).2
    omega
  · cases h
theorem vPre_shift {f B : Nat → Nat} {a n : Nat} (h : ∀ j, j < n → f j = B (a + j)) : ∀ (m k : Nat), k ≤ n → vPre B (a + n) m (a + k) = vPre f n m k
  | 0, _, _ => rfl
  | m + 1, k, hk => by
    rw [vPre, vPre, vMark_shift h hk]
    cases hm : vMark f k n with
    | none => rw [Option.map_none, Option.bind_none, Option.bind_none]
    | some q =>
      obtain ⟨xs, p⟩ := q
      have hp := vMark_le hk hm
      simp only [Option.map_some, Option.bind_some]
      by_cases hz : p = n
      · rw [if_pos hz, if_pos (by omega)]
      · rw [if_neg hz, if_neg (by omega), vDot_shift h]
        cases hd : vDot f p n 46 with
        | none => rw [Option.map_none, Option.bind_none, Option.bind_none]
        | some p1 =>
          simp only [Option.map_some, Option.bind_some]
          rw [vPre_shift h m p1 (vDt_le hd)]
theorem vFin_shift {f B : Nat → Nat} {a n x y w k : Nat} (h : ∀ j, j < n → f j = B (a + j)) : vFin B (a + n) x y w (a + k) = vFin f n x y w k := by
  unfold vFin
  by_cases hz : k = n
  · rw [if_pos hz, if_pos (by omega)]
  · rw [if_neg hz, if_neg (by omega), vDot_shift h]
    cases hd : vDot f k n 45 with
    | none => rw [Option.map_none, Option.bind_none, Option.bind_none]
    | some p1 =>
      simp only [Option.map_some, Option.bind_some]
      rw [vPre_shift h 4 p1 (vDt_le hd)]
theorem vR2_shift {f B : Nat → Nat} {a n k x y : Nat} (h : ∀ j, j < n → f j = B (a + j)) (hk : k ≤ n) : vR2 B (a + n) x y (a + k) = vR2 f n x y k := by
  unfold vR2
  rw [vNum_shift h hk]
  cases vNum f k n with
  | none => rw [Option.map_none, Option.bind_none, Option.bind_none]
  | some q =>
    rw [Option.map_some, Option.bind_some, Option.bind_some]
    exact vFin_shift h
theorem vR1_shift {f B : Nat → Nat} {a n k x : Nat} (h : ∀ j, j < n → f j = B (a + j)) (hk : k ≤ n) : vR1 B (a + n) x (a + k) = vR1 f n x k := by
  unfold vR1
  rw [vNum_shift h hk]
  cases vNum f k n with
  | none => rw [Option.map_none, Option.bind_none, Option.bind_none]
  | some q =>
    rw [Option.map_some, Option.bind_some, Option.bind_some, vDot_shift h]
    cases h2 : vDot f q.2 n 46 with
    | none => rw [Option.map_none, Option.bind_none, Option.bind_none]
    | some p1 =>
      rw [Option.map_some, Option.bind_some, Option.bind_some]
      exact vR2_shift h (vDt_le h2)
theorem vVer_shift {f B : Nat → Nat} {a n k : Nat} (h : ∀ j, j < n → f j = B (a + j)) (hk : k ≤ n) : vVer B (a + k) (a + n) = vVer f k n := by
  rw [vVer_R0, vVer_R0]
  unfold vR0
  rw [vNum_shift h hk]
  cases vNum f k n with
  | none => rw [Option.map_none, Option.bind_none, Option.bind_none]
  | some q =>
    rw [Option.map_some, Option.bind_some, Option.bind_some, vDot_shift h]
    cases h2 : vDot f q.2 n 46 with
    | none => rw [Option.map_none, Option.bind_none, Option.bind_none]
    | some p1 =>
      rw [Option.map_some, Option.bind_some, Option.bind_some]
      exact vR1_shift h (vDt_le h2)
theorem rsg_cong {f h : Nat → Nat} {n : Nat} (e : ∀ j, j < n → f j = h j) : rsg f n = rsg h n ∧ rsl f n = rsl h n := by
  unfold rsg rsl
  by_cases h0 : 0 < n
  · by_cases h1 : 1 < n
    · rw [e 0 h0, e 1 h1]
      exact ⟨rfl, rfl⟩
    · rw [e 0 h0]
      simp [h1]
  · have h1 : ¬ 1 < n := by omega
    simp [h0, h1]
theorem rsl_le (f : Nat → Nat) (n : Nat) : rsl f n ≤ n := by
  unfold rsl
  repeat' split
  all_goals omega
theorem rsg_b (f : Nat → Nat) (n : Nat) : rsg f n < 8 ∧ ¬ rsg f n = 0 := by
  unfold rsg
  repeat' split
  all_goals omega
theorem eq_l4 {f : Nat → Nat} {n : Nat} : eqP f n 4 ↔ (n = 2 ∧ f 0 = 124 ∧ f 1 = 124) := by
  unfold eqP
  constructor
  · rintro ⟨h1, h2⟩
    have h1 : n = 2 := h1
    exact ⟨h1, (h2 0 (by omega)), (h2 1 (by omega))⟩
  · rintro ⟨h1, h2, h3⟩
    refine ⟨h1, fun q hq => ?_⟩
    rcases (show q = 0 ∨ q = 1 by omega) with rfl | rfl
    · exact h2
    · exact h3
theorem eq_l5 {f : Nat → Nat} {n : Nat} : eqP f n 5 ↔ (n = 1 ∧ f 0 = 42) := by
  unfold eqP
  constructor
  · rintro ⟨h1, h2⟩
    have h1 : n = 1 := h1
    exact ⟨h1, (h2 0 (by omega))⟩
  · rintro ⟨h1, h2⟩
    refine ⟨h1, fun q hq => ?_⟩
    have hq0 : q = 0 := by omega
    subst hq0
    exact h2
theorem eq_e {f : Nat → Nat} {n : Nat} (h : eqP f n 1 ∨ eqP f n 2 ∨ eqP f n 3) : 2 < n ∧ (f 0 = 110 ∨ f 0 = 98 ∨ f 0 = 111) := by
  rcases h with ⟨h1, h2⟩ | ⟨h1, h2⟩ | ⟨h1, h2⟩
  · have h1 : n = 5 := h1
    exact ⟨by omega, Or.inl (h2 0 (by omega))⟩
  · have h1 : n = 6 := h1
    exact ⟨by omega, Or.inr (Or.inl (h2 0 (by omega)))⟩
  · have h1 : n = 4 := h1
    exact ⟨by omega, Or.inr (Or.inr (h2 0 (by omega)))⟩
theorem vVer_nd {f : Nat → Nat} {k n : Nat} (h : ¬ (k < n ∧ 48 ≤ f k ∧ f k ≤ 57)) : vVer f k n = none := by
  have e : nD f k (n - k) = 0 := by
    by_cases hk : k < n
    · exact nD_stop hk (fun z => h ⟨hk, z⟩)
    · exact nD_end (by omega)
  rw [vVer_R0]
  unfold vR0
  rw [vNum_z e]
  rfl
/-- a word of the reference as a test -/
theorem tstW {f B : Nat → Nat} {a n : Nat} (h : ∀ j, j < n → f j = B (a + j)) (h5 : ¬ eqP f n 5) : tstP B a (a + n) = (vVer f (rsl f n) n).map fun v => (rsg f n, v) := by
  unfold tstP
  by_cases h42 : 0 < n ∧ f 0 = 42
  · have hb : B a = 42 := by rw [← h42.2, h 0 h42.1]; rfl
    have hn : ¬ n = 1 := fun z => h5 (eq_l5.mpr ⟨z, h42.2⟩)
    have hs : sgP B a (a + n) = (0, a + 1) := by
      unfold sgP
      rw [hb]
      simp [h42.1]
    rw [hs, if_pos rfl, if_neg (by simp only; omega), vVer_nd]
    · rfl
    · have hr : rsl f n = 0 := by
        unfold rsl
        rw [h42.2]
        simp
      rw [hr, h42.2]
      omega
  · have hg := rsg_sgP (B := B) (a := a) (n := n) (fun z => h42 ⟨z.1, by rw [h 0 z.1]; exact z.2⟩)
    obtain ⟨e1, e2⟩ := rsg_cong (f := f) (h := fun k => B (a + k)) h
    rw [← e1, ← e2] at hg
    rw [hg, if_neg (rsg_b f n).2, vVer_shift h (rsl_le f n)]
theorem tst5 {f B : Nat → Nat} {a n : Nat} (h : ∀ j, j < n → f j = B (a + j)) (h5 : eqP f n 5) : tstP B a (a + n) = some (0, (0, 0, 0, [])) := by
  obtain ⟨h1, h2⟩ := eq_l5.mp h5
  have hb : B a = 42 := by rw [← h2, h 0 (by omega)]; rfl
  have hs : sgP B a (a + n) = (0, a + 1) := by
    unfold sgP
    rw [hb]
    simp [h1]
  unfold tstP
  rw [hs, if_pos rfl, if_pos (by simp only; omega)]
theorem orW {f B : Nat → Nat} {a n : Nat} (h : ∀ j, j < n → f j = B (a + j)) : (a + n - a = 2 ∧ B a = 124 ∧ B (a + 1) = 124) ↔ eqP f n 4 := by
  rw [eq_l4]
  constructor
  · rintro ⟨h1, h2, h3⟩
    exact ⟨by omega, by rw [h 0 (by omega)]; exact h2, by rw [h 1 (by omega)]; exact h3⟩
  · rintro ⟨h1, h2, h3⟩
    exact ⟨by omega, by rw [← h2, h 0 (by omega)]; rfl, by rw [← h3, h 1 (by omega)]⟩
theorem tokW_or {f B : Nat → Nat} {LF : Nat → Nat → Int64} {cnt a n : Nat} (h : ∀ j, j < n → f j = B (a + j)) (h4 : eqP f n 4) : tokC B LF cnt a (a + n) = some none := tok_or ((orW h).mpr h4)
theorem tokW_e {f B : Nat → Nat} {LF : Nat → Nat → Int64} {cnt a n : Nat} (h : ∀ j, j < n → f j = B (a + j)) (he : eqP f n 1 ∨ eqP f n 2 ∨ eqP f n 3) : tokC B LF cnt a (a + n) = none := by
  obtain ⟨h1, h2⟩ := eq_e he
  refine tok_bad (fun z => ?_) ?_
  · have z1 := z.1
    omega
  · rw [tstW h (fun z => by have z1 := (eq_l5.mp z).1; omega), vVer_nd]
    · rfl
    · have hr : rsl f n = 0 := by
        unfold rsl
        rcases h2 with h2 | h2 | h2 <;> rw [h2] <;> simp
      rw [hr]
      omega
theorem tokW_n {f B : Nat → Nat} {LF : Nat → Nat → Int64} {cnt a n : Nat} (h : ∀ j, j < n → f j = B (a + j)) (h4 : ¬ eqP f n 4) : ¬ tokC B LF cnt a (a + n) = some none := tok_ne (fun z => h4 ((orW h).mp z))
theorem tokW_bad {f B : Nat → Nat} {LF : Nat → Nat → Int64} {cnt a n : Nat} (h : ∀ j, j < n → f j = B (a + j)) (h4 : ¬ eqP f n 4) (h5 : ¬ eqP f n 5) (hv : vVer f (rsl f n) n = none) : tokC B LF cnt a (a + n) = none := tok_bad (fun z => h4 ((orW h).mp z)) (by rw [tstW h h5, hv]; rfl)
theorem tokW_t {f B : Nat → Nat} {LF : Nat → Nat → Int64} {cnt a n : Nat} {v : kVer} (h : ∀ j, j < n → f j = B (a + j)) (h4 : ¬ eqP f n 4) (h5 : ¬ eqP f n 5) (hv : vVer f (rsl f n) n = some v) : tokC B LF cnt a (a + n) = some (some (bN (fun k => hldV (rsg f n, v) (LF k)) cnt)) := tok_t (fun z => h4 ((orW h).mp z)) (by rw [tstW h h5, hv]; rfl)
theorem tokW_5 {f B : Nat → Nat} {LF : Nat → Nat → Int64} {cnt a n : Nat} (h : ∀ j, j < n → f j = B (a + j)) (h4 : ¬ eqP f n 4) (h5 : eqP f n 5) : tokC B LF cnt a (a + n) = some (some (bN (fun k => hldV (0, (0, 0, 0, [])) (LF k)) cnt)) := tok_t (fun z => h4 ((orW h).mp z)) (tst5 h h5)
-- bits
theorem bit_one : ∀ n, n ≤ 12 → (nI 1 <<< (nI n &&& 31)).toBitVec = BitVec.twoPow 32 n := by decide +kernel
theorem bN_bit (f : Nat → Bool) : ∀ n, n ≤ 12 → ∀ j, (bN f n).toBitVec.getLsbD j = (decide (j < n) && f j) := by
  intro n
  induction n with
  | zero =>
    intro _ j
    rw [bN]
    show (nI 0).toBitVec.getLsbD j = _
    rw [show (nI 0).toBitVec = 0#32 by decide +kernel]
    simp
  | succ n ih =>
    intro hn j
    have h1 := ih (by omega) j
    by_cases hf : f n = true
    · rw [bN_t hf, Int32.toBitVec_or, BitVec.getLsbD_or, h1, bit_one n (by omega), BitVec.getLsbD_twoPow]
      by_cases hj : j = n
      · subst hj
        simp [hf]
        omega
      · have h2 : decide (n = j) = false := decide_eq_false (fun z => hj z.symm)
        have h3 : decide (j < n + 1) = decide (j < n) := by
          rw [decide_eq_decide]
          omega
        rw [h2, h3]
        simp
    · rw [bN_f hf, h1]
      by_cases hj : j = n
      · subst hj
        simp [hf]
      · have h3 : decide (j < n + 1) = decide (j < n) := by
          rw [decide_eq_decide]
          omega
        rw [h3]
theorem bN_or (f h : Nat → Bool) {n : Nat} (hn : n ≤ 12) : bN f n ||| bN h n = bN (fun k => f k || h k) n := by
  apply Int32.toBitVec_inj.mp
  apply BitVec.eq_of_getLsbD_eq
  intro j _
  rw [Int32.toBitVec_or, BitVec.getLsbD_or, bN_bit _ n hn, bN_bit _ n hn, bN_bit _ n hn]
  cases decide (j < n) <;> simp
theorem bN_and (f h : Nat → Bool) {n : Nat} (hn : n ≤ 12) : bN f n &&& bN h n = bN (fun k => f k && h k) n := by
  apply Int32.toBitVec_inj.mp
  apply BitVec.eq_of_getLsbD_eq
  intro j _
  rw [Int32.toBitVec_and, BitVec.getLsbD_and, bN_bit _ n hn, bN_bit _ n hn, bN_bit _ n hn]
  cases decide (j < n) <;> simp
theorem bN_congr {f h : Nat → Bool} : ∀ {n : Nat}, (∀ k, k < n → f k = h k) → bN f n = bN h n := by
  intro n
  induction n with
  | zero => intro _; rfl
  | succ n ih =>
    intro e
    rw [bN, bN, e n (by omega), ih (fun k hk => e k (by omega))]
theorem bN_no : ∀ n, bN (fun _ => false) n = nI 0 := by
  intro n
  induction n with
  | zero => rfl
  | succ n ih => rw [bN_f (by decide), ih]
-- all and some of the first
def cA (P : Nat → Bool) : Nat → Bool
  | 0 => true
  | n + 1 => cA P n && P n
def cO (P : Nat → Bool) : Nat → Bool
  | 0 => false
  | n + 1 => cO P n || P n
theorem cA_iff {P : Nat → Bool} : ∀ {n : Nat}, cA P n = true ↔ ∀ z, z < n → P z = true := by
  intro n
  induction n with
  | zero => exact ⟨fun _ z hz => absurd hz (Nat.not_lt_zero _), fun _ => rfl⟩
  | succ n ih =>
    rw [cA, Bool.and_eq_true, ih]
    constructor
    · rintro ⟨h1, h2⟩ z hz
      by_cases e : z = n
      · rw [e]; exact h2
      · exact h1 z (by omega)
    · intro h
      exact ⟨fun z hz => h z (by omega), h n (by omega)⟩
theorem cO_iff {P : Nat → Bool} : ∀ {n : Nat}, cO P n = true ↔ ∃ c, c < n ∧ P c = true := by
  intro n
  induction n with
  | zero => exact ⟨fun h => (by cases h), fun h => (by obtain ⟨c, hc, _⟩ := h; exact absurd hc (Nat.not_lt_zero _))⟩
  | succ n ih =>
    rw [cO, Bool.or_eq_true, ih]
    constructor
    · rintro (⟨c, h1, h2⟩ | h)
      · exact ⟨c, by omega, h2⟩
      · exact ⟨n, by omega, h⟩
    · rintro ⟨c, h1, h2⟩
      by_cases e : c = n
      · exact Or.inr (by rw [← e]; exact h2)
      · exact Or.inl ⟨c, by omega, h2⟩
theorem cA_congr {P Q : Nat → Bool} : ∀ {n : Nat}, (∀ z, z < n → P z = Q z) → cA P n = cA Q n := by
  intro n
  induction n with
  | zero => intro _; rfl
  | succ n ih => intro h; rw [cA, cA, h n (by omega), ih (fun z hz => h z (by omega))]
theorem cO_congr {P Q : Nat → Bool} : ∀ {n : Nat}, (∀ z, z < n → P z = Q z) → cO P n = cO Q n := by
  intro n
  induction n with
  | zero => intro _; rfl
  | succ n ih => intro h; rw [cO, cO, h n (by omega), ih (fun z hz => h z (by omega))]
/-- the tests of a choice hold; those of a choice of a range -/
def chA (T : Nat → Nat × kVer) (F : Nat → Int64) (c n : Nat) : Bool := cA (fun z => hldV (T (4 * c + z)) F) n
def chO (T : Nat → Nat × kVer) (TS : Nat → Nat) (F : Nat → Int64) (ch : Nat) : Bool := cO (fun c => chA T F c (TS c)) ch
/-- what match answers, from where the reference's range stands -/
def rI (B S1 E1 : Nat → Nat) (LF : Nat → Nat → Int64) (cnt w : Nat) (X : Int32) (T : Nat → Nat × kVer) (TS : Nat → Nat) (ch n i : Nat) : Prop :=
  X = mtC (fun k => tokC B LF cnt (S1 k) (E1 k)) (bN (fun _ => true) cnt) (w - i) i (bN (fun k => chO T TS (LF k) ch) cnt) (ch + 1) n (bN (fun k => chA T (LF k) ch n) cnt)
theorem chA_up {T : Nat → Nat × kVer} {F : Nat → Int64} {c n j : Nat} {q : Nat × kVer} (h : 4 * c + n ≤ j) : chA (va_up T j q) F c n = chA T F c n := cA_congr (fun z hz => by rw [va_up_ne _ _ (show 4 * c + z ≠ j by omega)])
theorem chO_up {T : Nat → Nat × kVer} {TS : Nat → Nat} {F : Nat → Int64} {ch j : Nat} {q : Nat × kVer} (h4 : ∀ c, c < ch → TS c ≤ 4) (h : 4 * ch ≤ j) : chO (va_up T j q) TS F ch = chO T TS F ch := cO_congr (fun c hc => chA_up (by have := h4 c hc; omega))
section RI
variable {B S1 E1 : Nat → Nat} {LF : Nat → Nat → Int64} {cnt w : Nat} {X : Int32} {T : Nat → Nat × kVer} {TS : Nat → Nat} {ch n i : Nat}
theorem rI_0 (h : X = mtC (fun k => tokC B LF cnt (S1 k) (E1 k)) (bN (fun _ => true) cnt) w 0 (nI 0) 1 0 (bN (fun _ => true) cnt)) : rI B S1 E1 LF cnt w X T TS 0 0 0 := by
  unfold rI
  rw [h]
  show _ = mtC _ _ w 0 (bN (fun _ => false) cnt) 1 0 _
  rw [bN_no]
  rfl
theorem rI_test {q : Nat × kVer} (h : rI B S1 E1 LF cnt w X T TS ch n i) (hc : cnt ≤ 12) (hi : i < w) (hn : ¬ n = 4) (h4 : ∀ c, c < ch → TS c ≤ 4) (ht : tokC B LF cnt (S1 i) (E1 i) = some (some (bN (fun k => hldV q (LF k)) cnt))) : rI B S1 E1 LF cnt w X (va_up T (4 * ch + n) q) TS ch (n + 1) (i + 1) := by
  unfold rI at h ⊢
  rw [show w - i = (w - (i + 1)) + 1 by omega, mt_tT (i := i) ht hn, bN_and _ _ hc] at h
  rw [h]
  congr 1
  · exact bN_congr (fun k _ => (chO_up h4 (by omega)).symm)
  · refine bN_congr (fun k _ => ?_)
    show _ = (chA (va_up T (4 * ch + n) q) (LF k) ch n && hldV (va_up T (4 * ch + n) q (4 * ch + n)) (LF k))
    rw [chA_up (Nat.le_refl _), va_up_self]
theorem rI_or (h : rI B S1 E1 LF cnt w X T TS ch n i) (hc : cnt ≤ 12) (hi : i < w) (hn : ¬ n = 0) (hch : ¬ ch + 1 = 4) (ht : tokC B LF cnt (S1 i) (E1 i) = some none) : rI B S1 E1 LF cnt w X T (va_up TS ch n) (ch + 1) 0 (i + 1) := by
  unfold rI at h ⊢
  rw [show w - i = (w - (i + 1)) + 1 by omega, mt_oT (i := i) ht (by omega), bN_or _ _ hc] at h
  rw [h]
  congr 1
  refine bN_congr (fun k _ => ?_)
  show _ = (chO T (va_up TS ch n) (LF k) ch || chA T (LF k) ch (va_up TS ch n ch))
  rw [va_up_self]
  congr 1
  exact cO_congr (fun c hc => by rw [va_up_ne _ _ (show c ≠ ch by omega)])
theorem rI_bad (h : rI B S1 E1 LF cnt w X T TS ch n i) (hi : i < w) (ht : tokC B LF cnt (S1 i) (E1 i) = none) : X = (-4) := by
  unfold rI at h
  rw [show w - i = (w - (i + 1)) + 1 by omega, mt_n (i := i) ht] at h
  exact h
theorem rI_or0 (h : rI B S1 E1 LF cnt w X T TS ch n i) (hi : i < w) (ht : tokC B LF cnt (S1 i) (E1 i) = some none) (hn : n = 0 ∨ ch + 1 = 4) : X = (-4) := by
  unfold rI at h
  rw [show w - i = (w - (i + 1)) + 1 by omega, mt_oF (i := i) ht hn] at h
  exact h
theorem rI_t4 (h : rI B S1 E1 LF cnt w X T TS ch n i) (hi : i < w) (ht : ¬ tokC B LF cnt (S1 i) (E1 i) = some none) (hn : n = 4) : X = (-4) := by
  unfold rI at h
  rw [show w - i = (w - (i + 1)) + 1 by omega, mt_t4 (i := i) ht hn] at h
  exact h
theorem rI_w0 (h : rI B S1 E1 LF cnt w X T TS ch n i) (hi : i = w) (hn : n = 0) : X = (-4) := by
  unfold rI at h
  rw [show w - i = 0 by omega, mt_0, if_pos hn] at h
  exact h
theorem rI_end (h : rI B S1 E1 LF cnt w X T TS ch n i) (hc : cnt ≤ 12) (hi : i = w) (hn : ¬ n = 0) : X = bN (fun k => chO T (va_up TS ch n) (LF k) (ch + 1)) cnt := by
  unfold rI at h
  rw [show w - i = 0 by omega, mt_0, if_neg hn, bN_or _ _ hc] at h
  rw [h]
  refine bN_congr (fun k _ => ?_)
  show _ = (chO T (va_up TS ch n) (LF k) ch || chA T (LF k) ch (va_up TS ch n ch))
  rw [va_up_self]
  congr 1
  exact cO_congr (fun c hc => by rw [va_up_ne _ _ (show c ≠ ch by omega)])
end RI
