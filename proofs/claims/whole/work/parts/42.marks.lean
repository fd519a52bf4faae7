-- marks: the order of their bytes is the order of their numbers
def mKp : Nat → List Nat → Nat
  | _, [] => 0
  | 0, _ :: _ => 0
  | n + 1, x :: xs => x * 256 ^ n + mKp n xs
theorem mKp_lt : ∀ (n : Nat) (xs : List Nat), (∀ x ∈ xs, x < 256) → mKp n xs < 256 ^ n
  | 0, [], _ => by decide
  | n + 1, [], _ => Nat.pow_pos (by decide)
  | 0, _ :: _, _ => by show 0 < 256 ^ 0; decide
  | n + 1, x :: xs, h => by
    have h1 := mKp_lt n xs (fun y hy => h y (List.mem_cons_of_mem _ hy))
    have h2 := h x List.mem_cons_self
    show x * 256 ^ n + mKp n xs < 256 ^ (n + 1)
    rw [Nat.pow_succ]
    have h3 : (x + 1) * 256 ^ n ≤ 256 * 256 ^ n := Nat.mul_le_mul_right _ (by omega)
    rw [Nat.add_mul, Nat.one_mul] at h3
    rw [Nat.mul_comm (256 ^ n) 256]
    omega
theorem pkN_mKp : ∀ (xs : List Nat) (a n : Nat), xs.length ≤ n → pkN a xs * 256 ^ (n - xs.length) = a * 256 ^ n + mKp n xs
  | [], a, n, _ => by
    show a * 256 ^ (n - 0) = a * 256 ^ n + mKp n []
    cases n <;> rfl
  | x :: xs, a, 0, h => by simp at h
  | x :: xs, a, n + 1, h => by
    rw [List.length_cons] at h ⊢
    have h1 := pkN_mKp xs (a * 256 + x) n (by omega)
    show pkN (a * 256 + x) xs * 256 ^ (n + 1 - (xs.length + 1)) = a * 256 ^ (n + 1) + (x * 256 ^ n + mKp n xs)
    rw [show n + 1 - (xs.length + 1) = n - xs.length by omega, h1, Nat.pow_succ, Nat.add_mul, Nat.mul_assoc a, Nat.mul_comm 256 (256 ^ n)]
    omega
theorem mK_mKp {xs : List Nat} (h : xs.length ≤ 8) : mK xs = mKp 8 xs := by
  unfold mK
  rw [pkN_mKp xs 0 8 h, Nat.zero_mul, Nat.zero_add]
theorem mKp_cons (f : Nat → Nat) (N i n : Nat) : mKp (N + 1) (sg f i (n + 1)) = f i * 256 ^ N + mKp N (sg f (i + 1) n) := rfl
theorem sg_lt256 {f : Nat → Nat} (hf : ∀ k, f k < 256) (i n : Nat) : ∀ x ∈ sg f i n, x < 256 := by
  intro x hx
  obtain ⟨k, -, rfl⟩ := sg_mem _ _ _ hx
  exact hf _
/-- the first difference decides -/
theorem mKp_A {f h : Nat → Nat} (hf : ∀ k, f k < 256) (hh : ∀ k, h k < 256) : ∀ (k N i n m : Nat), n ≤ N → m ≤ N → k < n → k < m → (∀ j, j < k → f (i + j) = h (i + j)) → f (i + k) < h (i + k) → mKp N (sg f i n) < mKp N (sg h i m) := by
  intro k
  induction k with
  | zero =>
    intro N i n m hn hm h1 h2 _ hlt
    obtain ⟨n, rfl⟩ : ∃ q, n = q + 1 := ⟨n - 1, by omega⟩
    obtain ⟨m, rfl⟩ : ∃ q, m = q + 1 := ⟨m - 1, by omega⟩
    obtain ⟨N, rfl⟩ : ∃ q, N = q + 1 := ⟨N - 1, by omega⟩
    rw [mKp_cons, mKp_cons]
    have b1 := mKp_lt N (sg f (i + 1) n) (sg_lt256 hf _ _)
    rw [Nat.add_zero] at hlt
    have b2 : (f i + 1) * 256 ^ N ≤ h i * 256 ^ N := Nat.mul_le_mul_right _ hlt
    rw [Nat.add_mul, Nat.one_mul] at b2
    omega
  | succ k ih =>
    intro N i n m hn hm h1 h2 he hlt
    obtain ⟨n, rfl⟩ : ∃ q, n = q + 1 := ⟨n - 1, by omega⟩
    obtain ⟨m, rfl⟩ : ∃ q, m = q + 1 := ⟨m - 1, by omega⟩
    obtain ⟨N, rfl⟩ : ∃ q, N = q + 1 := ⟨N - 1, by omega⟩
    rw [mKp_cons, mKp_cons]
    have e0 := he 0 (by omega)
    rw [Nat.add_zero] at e0
    have b := ih N (i + 1) n m (by omega) (by omega) (by omega) (by omega) (fun j hj => by
      have e := he (j + 1) (by omega)
      rw [show i + 1 + j = i + (j + 1) by omega]
      exact e) (by rw [show i + 1 + k = i + (k + 1) by omega]; exact hlt)
    rw [e0]
    omega
/-- a beginning is below what is longer -/
theorem mKp_B {f h : Nat → Nat} : ∀ (n N i m : Nat), m ≤ N → n < m → (∀ j, j < n → f (i + j) = h (i + j)) → 1 ≤ h (i + n) → mKp N (sg f i n) < mKp N (sg h i m) := by
  intro n
  induction n with
  | zero =>
    intro N i m hm h1 _ hp
    obtain ⟨m, rfl⟩ : ∃ q, m = q + 1 := ⟨m - 1, by omega⟩
    obtain ⟨N, rfl⟩ : ∃ q, N = q + 1 := ⟨N - 1, by omega⟩
    rw [mKp_cons]
    rw [Nat.add_zero] at hp
    have b : 1 * 256 ^ N ≤ h i * 256 ^ N := Nat.mul_le_mul_right _ hp
    have p0 : 0 < 256 ^ N := Nat.pow_pos (by decide)
    show 0 < _
    omega
  | succ n ih =>
    intro N i m hm h1 he hp
    obtain ⟨m, rfl⟩ : ∃ q, m = q + 1 := ⟨m - 1, by omega⟩
    obtain ⟨N, rfl⟩ : ∃ q, N = q + 1 := ⟨N - 1, by omega⟩
    rw [mKp_cons, mKp_cons]
    have e0 := he 0 (by omega)
    rw [Nat.add_zero] at e0
    have b := ih N (i + 1) m (by omega) (by omega) (fun j hj => by
      have e := he (j + 1) (by omega)
      rw [show i + 1 + j = i + (j + 1) by omega]
      exact e) (by rw [show i + 1 + n = i + (n + 1) by omega]; exact hp)
    rw [e0]
    omega
theorem sg_eq {f h : Nat → Nat} : ∀ (n i : Nat), (∀ j, j < n → f (i + j) = h (i + j)) → sg f i n = sg h i n
  | 0, _, _ => rfl
  | n + 1, i, he => by
    have e0 := he 0 (by omega)
    rw [Nat.add_zero] at e0
    have t := sg_eq (f := f) (h := h) n (i + 1) (fun j hj => by
      have e := he (j + 1) (by omega)
      rw [show i + 1 + j = i + (j + 1) by omega]
      exact e)
    rw [sg_cons, sg_cons, e0, t]
/-- a mark: what its bytes are -/
def okM (f : Nat → Nat) (n : Nat) : Prop := 1 ≤ n ∧ n ≤ 8 ∧ (∀ k, k < n → dM (f k) = true) ∧ ¬ ((sg f 0 n).all dD = true ∧ 1 < n ∧ f 0 = 48)
theorem okM_b {f : Nat → Nat} {n : Nat} (h : okM f n) {k : Nat} (hk : k < n) : 45 ≤ f k ∧ f k ≤ 122 := by
  have h1 := of_decide_eq_true (h.2.2.1 k hk)
  omega
theorem mV_dig {f : Nat → Nat} {n : Nat} (h : (sg f 0 n).all dD = true) : mV (sg f 0 n) = vN 0 (sg f 0 n) := if_pos h
theorem mV_txt {f : Nat → Nat} {n : Nat} (h : ¬ (sg f 0 n).all dD = true) (hn : n ≤ 8) : mV (sg f 0 n) = mKp 8 (sg f 0 n) := by
  unfold mV
  rw [if_neg h, mK_mKp (by rw [sg_len]; exact hn)]
theorem vN_small {f : Nat → Nat} {n : Nat} (h : (sg f 0 n).all dD = true) (hn : n ≤ 8) : vN 0 (sg f 0 n) < 100000000 := by
  have h1 := vN_lt (sg f 0 n) 0 (fun x hx => (of_decide_eq_true (List.all_eq_true.mp h x hx)).2)
  rw [sg_len] at h1
  have h2 : 10 ^ n ≤ 10 ^ 8 := Nat.pow_le_pow_right (by decide) hn
  have h3 : (10 : Nat) ^ 8 = 100000000 := by decide
  omega
theorem mKp_big {f : Nat → Nat} {n : Nat} (h : okM f n) : 100000000 < mKp 8 (sg f 0 n) := by
  obtain ⟨k, hk⟩ : ∃ q, n = q + 1 := ⟨n - 1, by have := h.1; omega⟩
  have h1 := okM_b h (k := 0) (by omega)
  rw [hk, mKp_cons]
  have h2 : 45 * 256 ^ 7 ≤ f 0 * 256 ^ 7 := Nat.mul_le_mul_right _ h1.1
  have h3 : (100000000 : Nat) < 45 * 256 ^ 7 := by decide
  omega
theorem subS {a b : Nat} (ha : a < 2 ^ 30) (hb : b < 2 ^ 30) : (nI a - nI b = 0 ↔ a = b) ∧ (nI a - nI b < 0 ↔ a < b) := by
  have h := pk_sub_toInt ha hb
  constructor
  · rw [← Int32.toInt_inj, h]
    show (a : Int) - b = 0 ↔ a = b
    omega
  · rw [i0_lt, h]
    omega
