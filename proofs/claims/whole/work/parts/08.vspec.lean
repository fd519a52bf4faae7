theorem wb_tb (n : Nat) : (lN n).toBitVec = BitVec.ofNat 64 n := rfl
theorem wb_inj {a b : Int64} (h : a.toBitVec = b.toBitVec) : a = b := Int64.toBitVec_inj.mp h
theorem wb_tn {n : Nat} (h : n < 2 ^ 64) : (lN n).toBitVec.toNat = n := by rw [wb_tb, BitVec.toNat_ofNat, Nat.mod_eq_of_lt h]
theorem wb_c : ∀ k, k < 64 → ((nI k).toInt64 &&& 63) = lN k := by decide +kernel
theorem wb_sm : ∀ k, k < 64 → (BitVec.ofNat 64 k).smod 64 = BitVec.ofNat 64 k := by decide +kernel
theorem wb_shl (n : Nat) {k : Nat} (hk : k < 64) : lN n <<< ((nI k).toInt64 &&& 63) = lN (n * 2 ^ k) := by
  rw [wb_c k hk]
  apply wb_inj
  rw [Int64.toBitVec_shiftLeft, wb_tb, wb_tb, wb_tb, wb_sm k hk]
  apply BitVec.eq_of_toNat_eq
  rw [BitVec.shiftLeft_eq', BitVec.toNat_shiftLeft, BitVec.toNat_ofNat, BitVec.toNat_ofNat, BitVec.toNat_ofNat, Nat.mod_eq_of_lt (show k < 2 ^ 64 by omega), Nat.shiftLeft_eq, Nat.mul_mod, Nat.mod_mod, ← Nat.mul_mod]
theorem wb_or {a b : Nat} (ha : a < 2 ^ 64) (hb : b < 2 ^ 64) : lN a ||| lN b = lN (a ||| b) := by
  apply wb_inj
  rw [Int64.toBitVec_or, wb_tb, wb_tb, wb_tb]
  apply BitVec.eq_of_toNat_eq
  rw [BitVec.toNat_or, BitVec.toNat_ofNat, BitVec.toNat_ofNat, BitVec.toNat_ofNat, Nat.mod_eq_of_lt ha, Nat.mod_eq_of_lt hb, Nat.mod_eq_of_lt (Nat.or_lt_two_pow ha hb)]
-- rows of longs: the row without PRE, the order of two rows
def dpF (F : Nat → Int64) : Nat → Int64 := vp_updL (vp_updL (vp_updL (vp_updL F 3 9223372036854775807) 4 (-1)) 5 (-1)) 6 (-1)
def oF (F G : Nat → Int64) : Nat → Nat → Int32
  | _, 0 => nI 0
  | i, n + 1 => if F i = G i then oF F G (i + 1) n else if F i < G i then (-1) else nI 1
theorem oF_eq {F G : Nat → Int64} {i n : Nat} (h : F i = G i) : oF F G i (n + 1) = oF F G (i + 1) n := by rw [oF, if_pos h]
theorem oF_lt {F G : Nat → Int64} {i n : Nat} (h : ¬ F i = G i) (h2 : ¬ G i ≤ F i) : oF F G i (n + 1) = (-1) := by
  rw [oF, if_neg h, if_pos]
  rw [Int64.le_iff_toInt_le] at h2
  exact Int64.lt_iff_toInt_lt.mpr (by omega)
theorem oF_gt {F G : Nat → Int64} {i n : Nat} (h : ¬ F i = G i) (h2 : G i ≤ F i) : oF F G i (n + 1) = nI 1 := by
  rw [oF, if_neg h, if_neg]
  intro z
  have h3 := Int64.lt_iff_toInt_lt.mp z
  have h4 := Int64.le_iff_toInt_le.mp h2
  omega
-- what a version's text is: places in a tape
def vNum (B : Nat → Nat) (a z : Nat) : Option (Nat × Nat) := if 1 ≤ nD B a (z - a) ∧ nD B a (z - a) ≤ 9 ∧ ¬ (1 < nD B a (z - a) ∧ B a = 48) then some (vN 0 (sg B a (nD B a (z - a))), a + nD B a (z - a)) else none
def vDot (B : Nat → Nat) (a z ch : Nat) : Option Nat := if a < z ∧ B a = ch then some (a + 1) else none
def vThree (B : Nat → Nat) (a z : Nat) : Option (Nat × Nat × Nat × Nat) :=
  (vNum B a z).bind fun x => (vDot B x.2 z 46).bind fun a1 => (vNum B a1 z).bind fun y => (vDot B y.2 z 46).bind fun a2 => (vNum B a2 z).bind fun w => some (x.1, y.1, w.1, w.2)
def vMark (B : Nat → Nat) (a z : Nat) : Option (List Nat × Nat) := if 1 ≤ nM B a (z - a) ∧ nM B a (z - a) ≤ 8 ∧ ¬ ((sg B a (nM B a (z - a))).all dD = true ∧ 1 < nM B a (z - a) ∧ B a = 48) then some (sg B a (nM B a (z - a)), a + nM B a (z - a)) else none
def vPre (B : Nat → Nat) (z : Nat) : Nat → Nat → Option (List (List Nat))
  | 0, _ => none
  | n + 1, a => (vMark B a z).bind fun m => if m.2 = z then some [m.1] else (vDot B m.2 z 46).bind fun a1 => (vPre B z n a1).map fun ms => m.1 :: ms
abbrev kVer : Type := Nat × Nat × Nat × List (List Nat)
def vVer (B : Nat → Nat) (a z : Nat) : Option kVer :=
  (vThree B a z).bind fun q => if q.2.2.2 = z then some (q.1, q.2.1, q.2.2.1, []) else (vDot B q.2.2.2 z 45).bind fun a1 => (vPre B z 4 a1).map fun ms => (q.1, q.2.1, q.2.2.1, ms)
theorem vN_lt : ∀ (xs : List Nat) (a : Nat), (∀ x ∈ xs, x ≤ 57) → vN a xs < (a + 1) * 10 ^ xs.length
  | [], a, _ => by
    show a < (a + 1) * 10 ^ 0
    omega
  | x :: xs, a, h => by
    have h1 := vN_lt xs (a * 10 + (x - 48)) (fun y hy => h y (List.mem_cons_of_mem _ hy))
    have h2 := h x List.mem_cons_self
    show vN (a * 10 + (x - 48)) xs < (a + 1) * 10 ^ (xs.length + 1)
    rw [Nat.pow_succ]
    have h3 : (a * 10 + (x - 48) + 1) * 10 ^ xs.length ≤ ((a + 1) * 10) * 10 ^ xs.length := Nat.mul_le_mul_right _ (by omega)
    have h4 : (a + 1) * 10 * 10 ^ xs.length = (a + 1) * (10 ^ xs.length * 10) := by rw [Nat.mul_assoc, Nat.mul_comm 10]
    omega
theorem sg_mem {B : Nat → Nat} : ∀ (n i x : Nat), x ∈ sg B i n → ∃ k, k < n ∧ x = B (i + k)
  | 0, _, _, h => by cases h
  | n + 1, i, x, h => by
    rw [sg_cons] at h
    rcases List.mem_cons.mp h with h | h
    · exact ⟨0, by omega, h⟩
    · obtain ⟨k, h1, h2⟩ := sg_mem n (i + 1) x h
      refine ⟨k + 1, by omega, ?_⟩
      rw [h2]
      congr 1
      omega
theorem nD_dig {B : Nat → Nat} {a n : Nat} : ∀ x ∈ sg B a (nD B a n), 48 ≤ x ∧ x ≤ 57 := by
  intro x hx
  obtain ⟨k, h1, rfl⟩ := sg_mem _ _ _ hx
  exact of_decide_eq_true (pN_all n a k h1)
theorem pow9 {n : Nat} (h : n ≤ 9) : 10 ^ n ≤ 1000000000 := by
  have h1 : 10 ^ n ≤ 10 ^ 9 := Nat.pow_le_pow_right (by decide) h
  exact h1
/-- the two ways of a number -/
theorem vNum_cases (B : Nat → Nat) {a z : Nat} (haz : a ≤ z) : (vNum B a z = none ∧ nR (sg B a (nD B a (z - a))) = (-1)) ∨ (∃ v a1, vNum B a z = some (v, a1) ∧ nR (sg B a (nD B a (z - a))) = nI v ∧ v < 1000000000 ∧ a + nD B a (z - a) = a1 ∧ a1 ≤ z) := by
  unfold vNum
  have hle : nD B a (z - a) ≤ z - a := pN_lez a (z - a)
  by_cases h : 1 ≤ nD B a (z - a) ∧ nD B a (z - a) ≤ 9 ∧ ¬ (1 < nD B a (z - a) ∧ B a = 48)
  · rw [if_pos h]
    refine Or.inr ⟨_, _, rfl, nR_ok h.1 h.2.1 h.2.2, ?_, rfl, by omega⟩
    have h1 := vN_lt (sg B a (nD B a (z - a))) 0 (fun x hx => (nD_dig x hx).2)
    rw [sg_len] at h1
    have h2 := pow9 h.2.1
    omega
  · rw [if_neg h]
    exact Or.inl ⟨rfl, nR_no (by omega)⟩
/-- a mark's bytes as one number -/
def pkN : Nat → List Nat → Nat
  | a, [] => a
  | a, x :: xs => pkN (a * 256 + x) xs
theorem pk_one {a x : Nat} (hx : x < 128) (ha : a < 2 ^ 55) : lN a <<< ((nI 8).toInt64 &&& 63) ||| (sb x).toInt64 = lN (a * 256 + x) := by
  rw [wb_shl a (k := 8) (by decide), sb_small hx, nI_l (by omega), wb_or (by omega) (by omega)]
  congr 1
  have h := Nat.two_pow_add_eq_or_of_lt (i := 8) (b := x) (by omega) a
  have e : a * 2 ^ 8 = 2 ^ 8 * a := Nat.mul_comm _ _
  rw [e, ← h]
theorem pkI_N : ∀ (xs : List Nat) (a : Nat), (∀ x ∈ xs, x < 128) → (a + 1) * 256 ^ xs.length ≤ 2 ^ 63 → pkI (lN a) xs = lN (pkN a xs) ∧ pkN a xs + 1 ≤ (a + 1) * 256 ^ xs.length
  | [], a, _, _ => ⟨rfl, by show a + 1 ≤ (a + 1) * 256 ^ 0; omega⟩
  | x :: xs, a, h, hb => by
    have hx := h x List.mem_cons_self
    rw [List.length_cons, Nat.pow_succ] at hb ⊢
    have hp : 1 ≤ 256 ^ xs.length := Nat.pow_pos (by decide)
    have h1 : (a + 1) * (256 ^ xs.length * 256) = (a + 1) * 256 * 256 ^ xs.length := by rw [Nat.mul_assoc, Nat.mul_comm (256 ^ xs.length) 256]
    have h0 : (a + 1) * 256 * 1 ≤ (a + 1) * 256 * 256 ^ xs.length := Nat.mul_le_mul_left _ hp
    have h2 : (a * 256 + x + 1) * 256 ^ xs.length ≤ (a + 1) * 256 * 256 ^ xs.length := Nat.mul_le_mul_right _ (by omega)
    obtain ⟨r1, r2⟩ := pkI_N xs (a * 256 + x) (fun y hy => h y (List.mem_cons_of_mem _ hy)) (by omega)
    refine ⟨?_, by rw [pkN]; omega⟩
    rw [pkI, pk_one hx (by omega), r1, pkN]
theorem nM_lt {B : Nat → Nat} {a n : Nat} : ∀ x ∈ sg B a (nM B a n), x < 128 := by
  intro x hx
  obtain ⟨k, h1, rfl⟩ := sg_mem _ _ _ hx
  have h2 := of_decide_eq_true (pN_all (f := dM) n a k h1)
  omega
/-- a mark of bytes that aren't all digits: its number, filled up with zeros -/
def mK (xs : List Nat) : Nat := pkN 0 xs * 256 ^ (8 - xs.length)
theorem p256 {k : Nat} : 256 ^ k = 2 ^ (8 * k) := by
  have h : (256 : Nat) = 2 ^ 8 := by decide
  rw [h, ← Nat.pow_mul]
theorem mK_lt {xs : List Nat} (h1 : 1 ≤ xs.length) (h2 : xs.length ≤ 8) (h : ∀ x ∈ xs, x < 128) : pkI (lN 0) xs = lN (pkN 0 xs) ∧ mK xs < 2 ^ 63 := by
  cases xs with
  | nil => exact absurd h1 (by decide)
  | cons x r =>
    have hx := h x List.mem_cons_self
    rw [List.length_cons] at h2
    have hb : (x + 1) * 256 ^ r.length ≤ 2 ^ 63 := by
      have h3 : 256 ^ r.length ≤ 256 ^ 7 := Nat.pow_le_pow_right (by decide) (by omega)
      have h4 : (x + 1) * 256 ^ r.length ≤ 128 * 256 ^ 7 := Nat.mul_le_mul (by omega) h3
      exact Nat.le_trans h4 (by decide)
    obtain ⟨r1, r2⟩ := pkI_N r x (fun y hy => h y (List.mem_cons_of_mem _ hy)) hb
    have e0 : pkI (lN 0) (x :: r) = pkI (lN x) r := by
      rw [pkI, pk_one hx (by decide), Nat.zero_mul, Nat.zero_add]
    have e1 : pkN 0 (x :: r) = pkN x r := by rw [pkN, Nat.zero_mul, Nat.zero_add]
    refine ⟨by rw [e0, r1, e1], ?_⟩
    unfold mK
    rw [e1, List.length_cons]
    have h5 : (pkN x r + 1) * 256 ^ (8 - (r.length + 1)) ≤ (x + 1) * 256 ^ r.length * 256 ^ (8 - (r.length + 1)) := Nat.mul_le_mul_right _ r2
    have h6 : (x + 1) * 256 ^ r.length * 256 ^ (8 - (r.length + 1)) = (x + 1) * 256 ^ 7 := by
      rw [Nat.mul_assoc, ← Nat.pow_add]
      congr 2
      omega
    have h7 : (x + 1) * 256 ^ 7 ≤ 128 * 256 ^ 7 := Nat.mul_le_mul_right _ (by omega)
    have h8 : 1 ≤ 256 ^ (8 - (r.length + 1)) := Nat.pow_pos (by decide)
    have h9 : (pkN x r + 1) * 256 ^ (8 - (r.length + 1)) = pkN x r * 256 ^ (8 - (r.length + 1)) + 256 ^ (8 - (r.length + 1)) := by rw [Nat.add_mul, Nat.one_mul]
    have h10 : (128 : Nat) * 256 ^ 7 = 2 ^ 63 := by decide
    omega
/-- what a mark becomes: a number below 2^63 -/
def mV (xs : List Nat) : Nat := if xs.all dD = true then vN 0 xs else mK xs
theorem mR_mV {xs : List Nat} (h1 : 1 ≤ xs.length) (h2 : xs.length ≤ 8) (h : ∀ x ∈ xs, x < 128) (hz : ¬ (xs.all dD = true ∧ 1 < xs.length ∧ xs.head? = some 48)) : mR xs = lN (mV xs) ∧ mV xs < 2 ^ 63 := by
  unfold mR mV
  rw [if_pos ⟨h1, h2⟩]
  by_cases hd : xs.all dD = true
  · rw [if_pos hd, if_pos hd]
    have hv := vN_lt xs 0 (fun x hx => (of_decide_eq_true (List.all_eq_true.mp hd x hx)).2)
    have h9 := pow9 (n := xs.length) (by omega)
    have hn : nR xs = nI (vN 0 xs) := by
      unfold nR
      rw [if_pos ⟨h1, by omega, fun z => hz ⟨hd, z⟩⟩]
    rw [hn, nI_l (by omega)]
    exact ⟨rfl, by omega⟩
  · rw [if_neg hd, if_neg hd]
    obtain ⟨e1, e2⟩ := mK_lt h1 h2 h
    rw [e1, wb_shl _ (by omega)]
    refine ⟨?_, e2⟩
    unfold mK
    rw [p256]
/-- the two ways of a mark -/
theorem vMark_cases (B : Nat → Nat) {a z : Nat} (haz : a ≤ z) : (vMark B a z = none ∧ mR (sg B a (nM B a (z - a))) = (-1)) ∨ (∃ (xs : List Nat) (a1 : Nat), vMark B a z = some (xs, a1) ∧ mR (sg B a (nM B a (z - a))) = lN (mV xs) ∧ mV xs < 2 ^ 63 ∧ a + nM B a (z - a) = a1 ∧ a1 ≤ z ∧ xs.length = a1 - a) := by
  unfold vMark
  have hle : nM B a (z - a) ≤ z - a := pN_lez a (z - a)
  by_cases h : 1 ≤ nM B a (z - a) ∧ nM B a (z - a) ≤ 8 ∧ ¬ ((sg B a (nM B a (z - a))).all dD = true ∧ 1 < nM B a (z - a) ∧ B a = 48)
  · rw [if_pos h]
    have hz : ¬ ((sg B a (nM B a (z - a))).all dD = true ∧ 1 < (sg B a (nM B a (z - a))).length ∧ (sg B a (nM B a (z - a))).head? = some 48) := by
      rintro ⟨z1, z2, z3⟩
      rw [sg_len] at z2
      obtain ⟨k, hk⟩ : ∃ k, nM B a (z - a) = k + 1 := ⟨nM B a (z - a) - 1, by omega⟩
      rw [hk, sg_head] at z3
      exact h.2.2 ⟨z1, z2, Option.some.inj z3⟩
    obtain ⟨e1, e2⟩ := mR_mV (by rw [sg_len]; exact h.1) (by rw [sg_len]; exact h.2.1) nM_lt hz
    exact Or.inr ⟨_, _, rfl, e1, e2, rfl, by omega, by rw [sg_len]; omega⟩
  · rw [if_neg h]
    refine Or.inl ⟨rfl, ?_⟩
    by_cases hl : 1 ≤ nM B a (z - a) ∧ nM B a (z - a) ≤ 8
    · have h4 : (sg B a (nM B a (z - a))).all dD = true ∧ 1 < nM B a (z - a) ∧ B a = 48 := Decidable.not_not.mp (fun q => h ⟨hl.1, hl.2, q⟩)
      rw [mR_dig hl.1 hl.2 h4.1, nR_no (Or.inr (Or.inr h4.2))]
      decide
    · exact mR_no (by omega)
def mLen : List (List Nat) → Nat
  | [] => 0
  | [m] => m.length
  | m :: m1 :: r => m.length + 1 + mLen (m1 :: r)
theorem vPre_len (B : Nat → Nat) (z : Nat) : ∀ (n a : Nat) (ms : List (List Nat)), a ≤ z → vPre B z n a = some ms → ms ≠ [] ∧ ms.length ≤ n ∧ z - a = mLen ms ∧ ∀ m ∈ ms, 1 ≤ m.length ∧ m.length ≤ 8
  | 0, a, ms, _, h => by cases h
  | n + 1, a, ms, haz, h => by
    rw [vPre] at h
    rcases vMark_cases B haz with ⟨e, -⟩ | ⟨xs, a1, e, -, -, e3, e4, e5⟩
    · rw [e] at h
      cases h
    · have hlen : 1 ≤ xs.length ∧ xs.length ≤ 8 := by
        unfold vMark at e
        split at e
        · rename_i hh
          have e6 := (Prod.mk.inj (Option.some.inj e)).1
          rw [← e6, sg_len]
          exact ⟨hh.1, hh.2.1⟩
        · cases e
      rw [e, Option.bind_some] at h
      by_cases hz : a1 = z
      · rw [if_pos hz] at h
        cases h
        refine ⟨by simp, by simp, by show z - a = xs.length; omega, ?_⟩
        intro m hm
        rw [List.mem_singleton] at hm
        rw [hm]
        exact hlen
      · rw [if_neg hz] at h
        unfold vDot at h
        split at h
        · rename_i hd
          rw [Option.bind_some] at h
          cases hp : vPre B z n (a1 + 1) with
          | none => rw [hp] at h; cases h
          | some ms1 =>
            rw [hp] at h
            cases h
            obtain ⟨q1, q2, q3, q4⟩ := vPre_len B z n (a1 + 1) ms1 (by omega) hp
            refine ⟨by simp, by rw [List.length_cons]; omega, ?_, ?_⟩
            · cases ms1 with
              | nil => exact absurd rfl q1
              | cons m1 r =>
                show z - a = xs.length + 1 + mLen (m1 :: r)
                omega
            · intro m hm
              rcases List.mem_cons.mp hm with hm | hm
              · rw [hm]
                exact hlen
              · exact q4 m hm
        · cases h
theorem vDot_t {B : Nat → Nat} {a z ch : Nat} (h : a < z ∧ B a = ch) : vDot B a z ch = some (a + 1) := if_pos h
theorem vDot_f {B : Nat → Nat} {a z ch : Nat} (h : ¬ (a < z ∧ B a = ch)) : vDot B a z ch = none := if_neg h
theorem vVer_n3 {B : Nat → Nat} {a z : Nat} (h : vThree B a z = none) : vVer B a z = none := by rw [vVer, h]; rfl
theorem vVer_s {B : Nat → Nat} {a z x y w a3 : Nat} (h : vThree B a z = some (x, y, w, a3)) (hz : a3 = z) : vVer B a z = some (x, y, w, []) := by
  rw [vVer, h, Option.bind_some]
  exact if_pos hz
theorem vVer_d {B : Nat → Nat} {a z x y w a3 : Nat} (h : vThree B a z = some (x, y, w, a3)) (hz : ¬ a3 = z) (hd : vDot B a3 z 45 = none) : vVer B a z = none := by
  rw [vVer, h, Option.bind_some, if_neg hz]
  show (vDot B a3 z 45).bind _ = none
  rw [hd]
  rfl
theorem vVer_p {B : Nat → Nat} {a z x y w a3 a4 : Nat} (h : vThree B a z = some (x, y, w, a3)) (hz : ¬ a3 = z) (hd : vDot B a3 z 45 = some a4) : vVer B a z = (vPre B z 4 a4).map fun ms => (x, y, w, ms) := by
  rw [vVer, h, Option.bind_some, if_neg hz]
  show (vDot B a3 z 45).bind _ = _
  rw [hd]
  rfl
theorem vPre_n {B : Nat → Nat} {z n a : Nat} (h : vMark B a z = none) : vPre B z (n + 1) a = none := by rw [vPre, h]; rfl
theorem vPre_s {B : Nat → Nat} {z n a a1 : Nat} {xs : List Nat} (h : vMark B a z = some (xs, a1)) (hz : a1 = z) : vPre B z (n + 1) a = some [xs] := by
  rw [vPre, h, Option.bind_some]
  exact if_pos hz
theorem vPre_d {B : Nat → Nat} {z n a a1 : Nat} {xs : List Nat} (h : vMark B a z = some (xs, a1)) (hz : ¬ a1 = z) (hd : vDot B a1 z 46 = none) : vPre B z (n + 1) a = none := by
  rw [vPre, h, Option.bind_some, if_neg hz]
  show (vDot B a1 z 46).bind _ = none
  rw [hd]
  rfl
theorem vPre_c {B : Nat → Nat} {z n a a1 a2 : Nat} {xs : List Nat} (h : vMark B a z = some (xs, a1)) (hz : ¬ a1 = z) (hd : vDot B a1 z 46 = some a2) : vPre B z (n + 1) a = (vPre B z n a2).map fun ms => xs :: ms := by
  rw [vPre, h, Option.bind_some, if_neg hz]
  show (vDot B a1 z 46).bind _ = _
  rw [hd]
  rfl
theorem vPre_l {B : Nat → Nat} {z a a1 : Nat} {xs : List Nat} (h : vMark B a z = some (xs, a1)) (hz : ¬ a1 = z) : vPre B z 1 a = none := by
  rw [vPre, h, Option.bind_some, if_neg hz]
  show (vDot B a1 z 46).bind _ = none
  cases vDot B a1 z 46 <;> rfl
/-- a row with marks behind the third place -/
def pF (F : Nat → Int64) (ms : List (List Nat)) : Nat → Int64 := fun k => if 3 ≤ k ∧ k - 3 < ms.length then lN (mV (ms.getD (k - 3) [])) else F k
def rowOf (v : kVer) : Nat → Int64 := pF (dpF (vp_updL (vp_updL (vp_updL (fun _ => 0) 0 (lN v.1)) 1 (lN v.2.1)) 2 (lN v.2.2.1))) v.2.2.2
theorem seven {P : Nat → Prop} (h0 : P 0) (h1 : P 1) (h2 : P 2) (h3 : P 3) (h4 : P 4) (h5 : P 5) (h6 : P 6) : ∀ k, k < 7 → P k := by
  intro k hk
  rcases (show k = 0 ∨ k = 1 ∨ k = 2 ∨ k = 3 ∨ k = 4 ∨ k = 5 ∨ k = 6 by omega) with rfl | rfl | rfl | rfl | rfl | rfl | rfl <;> assumption
theorem dpF_row {F : Nat → Int64} {x y w : Nat} : ∀ k, k < 7 → dpF (vp_updL (vp_updL (vp_updL F 0 (lN x)) 1 (lN y)) 2 (lN w)) k = dpF (vp_updL (vp_updL (vp_updL (fun _ => 0) 0 (lN x)) 1 (lN y)) 2 (lN w)) k := seven rfl rfl rfl rfl rfl rfl rfl
theorem pF_congr {F G : Nat → Int64} (ms : List (List Nat)) (h : ∀ k, k < 7 → F k = G k) : ∀ k, k < 7 → pF F ms k = pF G ms k := by
  intro k hk
  simp only [pF]
  split
  · rfl
  · exact h k hk
theorem pF1 (F : Nat → Int64) (a : List Nat) : ∀ k, k < 7 → vp_updL F 3 (lN (mV a)) k = pF F [a] k := by
  intro k hk
  rcases (show k = 0 ∨ k = 1 ∨ k = 2 ∨ k = 3 ∨ k = 4 ∨ k = 5 ∨ k = 6 by omega) with rfl | rfl | rfl | rfl | rfl | rfl | rfl <;> simp [vp_updL, pF]
theorem pF2 (F : Nat → Int64) (a b : List Nat) : ∀ k, k < 7 → vp_updL (vp_updL F 3 (lN (mV a))) 4 (lN (mV b)) k = pF F [a, b] k := by
  intro k hk
  rcases (show k = 0 ∨ k = 1 ∨ k = 2 ∨ k = 3 ∨ k = 4 ∨ k = 5 ∨ k = 6 by omega) with rfl | rfl | rfl | rfl | rfl | rfl | rfl <;> simp [vp_updL, pF]
theorem pF3 (F : Nat → Int64) (a b c : List Nat) : ∀ k, k < 7 → vp_updL (vp_updL (vp_updL F 3 (lN (mV a))) 4 (lN (mV b))) 5 (lN (mV c)) k = pF F [a, b, c] k := by
  intro k hk
  rcases (show k = 0 ∨ k = 1 ∨ k = 2 ∨ k = 3 ∨ k = 4 ∨ k = 5 ∨ k = 6 by omega) with rfl | rfl | rfl | rfl | rfl | rfl | rfl <;> simp [vp_updL, pF]
theorem pF4 (F : Nat → Int64) (a b c d : List Nat) : ∀ k, k < 7 → vp_updL (vp_updL (vp_updL (vp_updL F 3 (lN (mV a))) 4 (lN (mV b))) 5 (lN (mV c))) 6 (lN (mV d)) k = pF F [a, b, c, d] k := by
  intro k hk
  rcases (show k = 0 ∨ k = 1 ∨ k = 2 ∨ k = 3 ∨ k = 4 ∨ k = 5 ∨ k = 6 by omega) with rfl | rfl | rfl | rfl | rfl | rfl | rfl <;> simp [vp_updL, pF]
theorem pF0 (F : Nat → Int64) (k : Nat) : pF F [] k = F k := if_neg (fun h => absurd h.2 (Nat.not_lt_zero _))
