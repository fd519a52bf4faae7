-- the rows of two versions, place by place
theorem oFs {F G : Nat → Int64} {i n a b : Nat} (hF : F i = lN a) (hG : G i = lN b) (ha : a < 2 ^ 63) (hb : b < 2 ^ 63) : oF F G i (n + 1) = if a = b then oF F G (i + 1) n else if a < b then (-1) else nI 1 := by
  rw [oF, hF, hG]
  by_cases h : a = b
  · rw [if_pos h, if_pos ((pk_lEQ ha hb).mpr h)]
  · rw [if_neg h, if_neg (fun z => h ((pk_lEQ ha hb).mp z))]
    by_cases h2 : a < b
    · rw [if_pos h2, if_pos ((pk_lLT ha hb).mpr h2)]
    · rw [if_neg h2, if_neg (fun z => h2 ((pk_lLT ha hb).mp z))]
theorem l_m1 {a : Nat} (ha : a < 2 ^ 63) : ¬ (-1 : Int64) = lN a ∧ (-1 : Int64) < lN a := by
  have h1 : (-1 : Int64).toInt = -1 := by decide
  have h2 := pk_lT ha
  constructor
  · intro z
    rw [← z, h1] at h2
    omega
  · rw [Int64.lt_iff_toInt_lt, h1, h2]
    omega
theorem oFm1 {F G : Nat → Int64} {i n b : Nat} (hF : F i = -1) (hG : G i = lN b) (hb : b < 2 ^ 63) : oF F G i (n + 1) = (-1) := by
  rw [oF, hF, hG, if_neg (l_m1 hb).1, if_pos (l_m1 hb).2]
theorem oFm2 {F G : Nat → Int64} {i n a : Nat} (hF : F i = lN a) (hG : G i = -1) (ha : a < 2 ^ 63) : oF F G i (n + 1) = nI 1 := by
  rw [oF, hF, hG, if_neg (fun z => (l_m1 ha).1 z.symm), if_neg]
  intro z
  have h1 := Int64.lt_iff_toInt_lt.mp z
  have h2 := Int64.lt_iff_toInt_lt.mp (l_m1 ha).2
  omega
theorem maxl : (9223372036854775807 : Int64) = lN 9223372036854775807 := by decide +kernel
theorem rw0 (v : kVer) : rowOf v 0 = lN v.1 := by simp [rowOf, pF, dpF, vp_updL]
theorem rw1 (v : kVer) : rowOf v 1 = lN v.2.1 := by simp [rowOf, pF, dpF, vp_updL]
theorem rw2 (v : kVer) : rowOf v 2 = lN v.2.2.1 := by simp [rowOf, pF, dpF, vp_updL]
theorem rwM {v : kVer} {k : Nat} {xs : List Nat} (h : v.2.2.2[k]? = some xs) : rowOf v (3 + k) = lN (mV xs) := by
  have hk : k < v.2.2.2.length := by
    rcases Nat.lt_or_ge k v.2.2.2.length with z | z
    · exact z
    · rw [List.getElem?_eq_none z] at h; cases h
  simp only [rowOf, pF]
  rw [if_pos ⟨by omega, by omega⟩, show 3 + k - 3 = k by omega, List.getD_eq_getElem?_getD, h]
  rfl
theorem rwE {v : kVer} (h : v.2.2.2 = []) : rowOf v 3 = lN 9223372036854775807 := by
  rw [← maxl]
  simp [rowOf, pF, dpF, vp_updL, h]
theorem rwN {v : kVer} {k : Nat} (h : v.2.2.2.length ≤ k) (h1 : 1 ≤ k) (h4 : k < 4) : rowOf v (3 + k) = -1 := by
  simp only [rowOf, pF]
  rw [if_neg (by omega)]
  rcases (show k = 1 ∨ k = 2 ∨ k = 3 by omega) with rfl | rfl | rfl <;> simp [dpF, vp_updL]
theorem mV_lt {f : Nat → Nat} {n : Nat} (h : okM f n) : mV (sg f 0 n) < 9223372036854775807 := by
  by_cases hd : (sg f 0 n).all dD = true
  · rw [mV_dig hd]
    have := vN_small hd h.2.1
    omega
  · rw [mV_txt hd h.2.1]
    obtain ⟨k, hk⟩ : ∃ q, n = q + 1 := ⟨n - 1, by have := h.1; omega⟩
    have h1 := okM_b h (k := 0) (by omega)
    have hb : ∀ x ∈ sg f (0 + 1) k, x < 256 := by
      intro x hx
      obtain ⟨q, hq, rfl⟩ := sg_mem _ _ _ hx
      have h2 := okM_b h (k := 0 + 1 + q) (by omega)
      omega
    rw [hk, mKp_cons]
    have h3 := mKp_lt 7 (sg f (0 + 1) k) hb
    have h4 : f 0 * 256 ^ 7 ≤ 122 * 256 ^ 7 := Nat.mul_le_mul_right _ h1.2
    have h5 : (122 : Nat) * 256 ^ 7 + 256 ^ 7 < 9223372036854775807 := by decide
    exact Nat.lt_trans (Nat.add_lt_add_of_le_of_lt h4 h3) h5
/-- a version of the reference in memory -/
def kMV (g : kG) (μ : km_M) (a na ka : Nat) (NN : Nat → Nat) (M : Nat → Option Nat) (sa sv : Nat → Nat) (F : Nat → Nat → Nat) (v : kVer) : Prop :=
  μ a = some (.inr (5, [.ref na, .ref ka, .int (nI v.2.2.2.length)])) ∧ μ na = some (.inl (g.2.2.1 1, 3, .inl (fun j => nI (NN j)))) ∧ NN 0 = v.1 ∧ NN 1 = v.2.1 ∧ NN 2 = v.2.2.1 ∧ v.1 < 1000000000 ∧ v.2.1 < 1000000000 ∧ v.2.2.1 < 1000000000 ∧
  μ ka = some (.inl (g.2.2.1 5, 4, .inr (.inr (.inr (.inr M))))) ∧ v.2.2.2.length ≤ 4 ∧
  ∀ (k : Nat) (xs : List Nat), v.2.2.2[k]? = some xs → M k = some (sa k) ∧ μ (sa k) = some (.inr (7, [.ref (sv k), .int (nI 0), .int (nI 0), .int (nI 0)])) ∧ μ (sv k) = some (.inl (g.2.2.1 0, xs.length, .inl (fun j => sb (F k j)))) ∧ (∀ q, F k q < 256) ∧ sg (F k) 0 xs.length = xs ∧ okM (F k) xs.length
/-- the order of the first three places -/
theorem or3 {v w : kVer} (b0 : v.1 < 1000000000) (b1 : v.2.1 < 1000000000) (b2 : v.2.2.1 < 1000000000) (c0 : w.1 < 1000000000) (c1 : w.2.1 < 1000000000) (c2 : w.2.2.1 < 1000000000) :
    oF (rowOf v) (rowOf w) 0 7 = if v.1 = w.1 then (if v.2.1 = w.2.1 then (if v.2.2.1 = w.2.2.1 then oF (rowOf v) (rowOf w) 3 4 else if v.2.2.1 < w.2.2.1 then (-1) else nI 1) else if v.2.1 < w.2.1 then (-1) else nI 1) else if v.1 < w.1 then (-1) else nI 1 := by
  rw [oFs (rw0 v) (rw0 w) (by omega) (by omega), oFs (rw1 v) (rw1 w) (by omega) (by omega), oFs (rw2 v) (rw2 w) (by omega) (by omega)]
theorem or_00 {v w : kVer} (hv : v.2.2.2 = []) (hw : w.2.2.2 = []) : oF (rowOf v) (rowOf w) 3 4 = nI 0 := by
  rw [oFs (rwE hv) (rwE hw) (by decide) (by decide), if_pos rfl]
  have n1 : ∀ k, 1 ≤ k → k < 4 → rowOf v (3 + k) = rowOf w (3 + k) := fun k h1 h2 => by rw [rwN (by rw [hv]; exact Nat.zero_le _) h1 h2, rwN (by rw [hw]; exact Nat.zero_le _) h1 h2]
  rw [oF_eq (n1 1 (by omega) (by omega)), oF_eq (n1 2 (by omega) (by omega)), oF_eq (n1 3 (by omega) (by omega))]
  rfl
theorem or_01 {v w : kVer} {xs : List Nat} (hv : v.2.2.2 = []) (hw : w.2.2.2[0]? = some xs) (hx : mV xs < 9223372036854775807) : oF (rowOf v) (rowOf w) 3 4 = nI 1 := by
  rw [oFs (rwE hv) (rwM (k := 0) hw) (by decide) (by omega), if_neg (by omega), if_neg (by omega)]
theorem or_10 {v w : kVer} {xs : List Nat} (hv : v.2.2.2[0]? = some xs) (hw : w.2.2.2 = []) (hx : mV xs < 9223372036854775807) : oF (rowOf v) (rowOf w) 3 4 = (-1) := by
  rw [oFs (rwM (k := 0) hv) (rwE hw) (by omega) (by decide), if_neg (by omega), if_pos hx]
theorem or_k {v w : kVer} {k : Nat} {xs ys : List Nat} (hv : v.2.2.2[k]? = some xs) (hw : w.2.2.2[k]? = some ys) (hx : mV xs < 9223372036854775807) (hy : mV ys < 9223372036854775807) (hk : k < 4) :
    oF (rowOf v) (rowOf w) (3 + k) (4 - k) = if mV xs = mV ys then oF (rowOf v) (rowOf w) (3 + (k + 1)) (4 - (k + 1)) else if mV xs < mV ys then (-1) else nI 1 := by
  rw [show 4 - k = (4 - (k + 1)) + 1 by omega, oFs (rwM hv) (rwM hw) (by omega) (by omega)]
  rfl
/-- behind the marks that both have -/
theorem or_e {v w : kVer} {k : Nat} (h1 : 1 ≤ k) (hv4 : v.2.2.2.length ≤ 4) (hw4 : w.2.2.2.length ≤ 4) (hv : k ≤ v.2.2.2.length) (hw : k ≤ w.2.2.2.length) (hk : v.2.2.2.length ≤ k ∨ w.2.2.2.length ≤ k)
    (bv : ∀ (k : Nat) (xs : List Nat), v.2.2.2[k]? = some xs → mV xs < 9223372036854775807) (bw : ∀ (k : Nat) (xs : List Nat), w.2.2.2[k]? = some xs → mV xs < 9223372036854775807) :
    oF (rowOf v) (rowOf w) (3 + k) (4 - k) = if v.2.2.2.length < w.2.2.2.length then (-1) else if w.2.2.2.length < v.2.2.2.length then nI 1 else nI 0 := by
  by_cases h4 : k = 4
  · rw [h4, if_neg (by omega), if_neg (by omega)]
    rfl
  · rcases Nat.lt_trichotomy v.2.2.2.length w.2.2.2.length with hl | hl | hl
    · rw [if_pos hl]
      have hk2 : k < w.2.2.2.length := by omega
      rw [show 4 - k = (4 - k - 1) + 1 by omega, oFm1 (rwN (by omega) h1 (by omega)) (rwM (List.getElem?_eq_getElem hk2)) (by have := bw k _ (List.getElem?_eq_getElem hk2); omega)]
    · rw [if_neg (by omega), if_neg (by omega)]
      have n1 : ∀ q, k ≤ q → q < 4 → rowOf v (3 + q) = rowOf w (3 + q) := fun q h2 h3 => by rw [rwN (by omega) (by omega) h3, rwN (by omega) (by omega) h3]
      rcases (show k = 1 ∨ k = 2 ∨ k = 3 by omega) with rfl | rfl | rfl
      · rw [show 4 - 1 = 2 + 1 by rfl, oF_eq (n1 1 (by omega) (by omega)), oF_eq (n1 2 (by omega) (by omega)), oF_eq (n1 3 (by omega) (by omega))]
        rfl
      · rw [show 4 - 2 = 1 + 1 by rfl, oF_eq (n1 2 (by omega) (by omega)), oF_eq (n1 3 (by omega) (by omega))]
        rfl
      · rw [show 4 - 3 = 0 + 1 by rfl, oF_eq (n1 3 (by omega) (by omega))]
        rfl
    · rw [if_neg (by omega), if_pos hl]
      have hk2 : k < v.2.2.2.length := by omega
      rw [show 4 - k = (4 - k - 1) + 1 by omega, oFm2 (rwM (List.getElem?_eq_getElem hk2)) (rwN (by omega) h1 (by omega)) (by have := bv k _ (List.getElem?_eq_getElem hk2); omega)]
