-- numbers: conditions and bytes as natural numbers
def bI (b : Bool) : Int32 := cond b (nI 1) (nI 0)
theorem bD_0 {P : Prop} [Decidable P] : bI (decide P) = 0 ↔ ¬ P := by
  by_cases h : P
  · rw [decide_eq_true h]
    exact ⟨fun z => absurd z (by decide), fun z => absurd h z⟩
  · rw [decide_eq_false h]
    exact ⟨fun _ => h, fun _ => by decide⟩
theorem bD_n {P : Prop} [Decidable P] : ¬ bI (decide P) = 0 ↔ P := by
  rw [bD_0]
  exact Decidable.not_not
theorem bI_t {P : Prop} [Decidable P] (h : P) : nI 1 = bI (decide P) := by rw [decide_eq_true h]; rfl
theorem bI_f {P : Prop} [Decidable P] (h : ¬ P) : nI 0 = bI (decide P) := by rw [decide_eq_false h]; rfl
theorem bI_c {P Q : Prop} [Decidable P] [Decidable Q] (h : P ↔ Q) : bI (decide P) = bI (decide Q) := by
  by_cases hp : P
  · rw [decide_eq_true hp, decide_eq_true (h.mp hp)]
  · rw [decide_eq_false hp, decide_eq_false (fun z => hp (h.mpr z))]
theorem nar_b (b : Bool) : narrow .boolean (.int (bI b)) = .int (bI b) := by cases b <;> decide
theorem ii1 (a : Nat) : nI a + Int32.ofInt 1 = nI (a + 1) := by
  have h : Int32.ofInt 1 = 1 := by decide
  rw [h]
  exact nI_1 a
theorem nJ_eq_t {a b : Nat} (ha : a < 2 ^ 31) (hb : b < 2 ^ 31) : nI a = nI b ↔ a = b := nI_eq ha hb
theorem nJ_eq_f {a b : Nat} (ha : a < 2 ^ 31) (hb : b < 2 ^ 31) : ¬ nI a = nI b ↔ a ≠ b := not_congr (nI_eq ha hb)
theorem nJ_ne_t {a b : Nat} (ha : a < 2 ^ 31) (hb : b < 2 ^ 31) : ¬ nI a = nI b ↔ a ≠ b := not_congr (nI_eq ha hb)
theorem nJ_ne_f {a b : Nat} (ha : a < 2 ^ 31) (hb : b < 2 ^ 31) : nI a = nI b ↔ a = b := nI_eq ha hb
theorem nJ_lt_t {a b : Nat} (ha : a < 2 ^ 31) (hb : b < 2 ^ 31) : nI a < nI b ↔ a < b := nI_ltI ha hb
theorem nJ_lt_f {a b : Nat} (ha : a < 2 ^ 31) (hb : b < 2 ^ 31) : ¬ nI a < nI b ↔ b ≤ a := by rw [nI_ltI ha hb]; omega
theorem nJ_ge_t {a b : Nat} (ha : a < 2 ^ 31) (hb : b < 2 ^ 31) : nI b ≤ nI a ↔ b ≤ a := nI_leI hb ha
theorem nJ_ge_f {a b : Nat} (ha : a < 2 ^ 31) (hb : b < 2 ^ 31) : ¬ nI b ≤ nI a ↔ a < b := by rw [nI_leI hb ha]; omega
theorem nJ_gt_t {a b : Nat} (ha : a < 2 ^ 31) (hb : b < 2 ^ 31) : nI b < nI a ↔ b < a := nI_ltI hb ha
theorem nJ_gt_f {a b : Nat} (ha : a < 2 ^ 31) (hb : b < 2 ^ 31) : ¬ nI b < nI a ↔ a ≤ b := by rw [nI_ltI hb ha]; omega
theorem nJ_le_t {a b : Nat} (ha : a < 2 ^ 31) (hb : b < 2 ^ 31) : nI a ≤ nI b ↔ a ≤ b := nI_leI ha hb
theorem nJ_le_f {a b : Nat} (ha : a < 2 ^ 31) (hb : b < 2 ^ 31) : ¬ nI a ≤ nI b ↔ b < a := by rw [nI_leI ha hb]; omega
theorem lc_eq_t {x y : Int64} : lg_cmp x y = 0 ↔ x = y := lg_cmp_eq x y
theorem lc_eq_f {x y : Int64} : ¬ lg_cmp x y = 0 ↔ ¬ x = y := not_congr (lg_cmp_eq x y)
theorem lc_ne_t {x y : Int64} : ¬ lg_cmp x y = 0 ↔ ¬ x = y := not_congr (lg_cmp_eq x y)
theorem lc_ne_f {x y : Int64} : lg_cmp x y = 0 ↔ x = y := lg_cmp_eq x y
theorem lc_lt_t {x y : Int64} : lg_cmp x y < 0 ↔ x < y := lg_cmp_lt x y
theorem lc_lt_f {x y : Int64} : ¬ lg_cmp x y < 0 ↔ ¬ x < y := not_congr (lg_cmp_lt x y)
theorem lc_ge_t {x y : Int64} : 0 ≤ lg_cmp x y ↔ y ≤ x := lg_cmp_ge x y
theorem lc_ge_f {x y : Int64} : ¬ 0 ≤ lg_cmp x y ↔ ¬ y ≤ x := not_congr (lg_cmp_ge x y)
theorem lc_gt_t {x y : Int64} : 0 < lg_cmp x y ↔ y < x := lg_cmp_gt x y
theorem lc_gt_f {x y : Int64} : ¬ 0 < lg_cmp x y ↔ ¬ y < x := not_congr (lg_cmp_gt x y)
theorem lc_le_t {x y : Int64} : lg_cmp x y ≤ 0 ↔ x ≤ y := lg_cmp_le x y
theorem lc_le_f {x y : Int64} : ¬ lg_cmp x y ≤ 0 ↔ ¬ x ≤ y := not_congr (lg_cmp_le x y)
/-- a byte as an int -/
def sb (n : Nat) : Int32 := (nI n).toInt8.toInt32
theorem sb_tab : ∀ n : Nat, n < 256 → (sb n).toInt = if n < 128 then (n : Int) else (n : Int) - 256 := by decide +kernel
theorem sJ_eq_t {n c : Nat} (hn : n < 256) (hc : c < 128) : sb n = nI c ↔ n = c := by
  have h1 := sb_tab n hn
  have h2 := nI_toInt (n := c) (by omega)
  rw [← Int32.toInt_inj, h1, h2]
  split <;> omega
theorem sJ_eq_f {n c : Nat} (hn : n < 256) (hc : c < 128) : ¬ sb n = nI c ↔ n ≠ c := not_congr (sJ_eq_t hn hc)
theorem sJ_ne_t {n c : Nat} (hn : n < 256) (hc : c < 128) : ¬ sb n = nI c ↔ n ≠ c := not_congr (sJ_eq_t hn hc)
theorem sJ_ne_f {n c : Nat} (hn : n < 256) (hc : c < 128) : sb n = nI c ↔ n = c := sJ_eq_t hn hc
theorem sJ_lt_t {n c : Nat} (hn : n < 256) (hc : c < 128) : sb n < nI c ↔ n < c ∨ 128 ≤ n := by
  have h1 := sb_tab n hn
  have h2 := nI_toInt (n := c) (by omega)
  rw [Int32.lt_iff_toInt_lt, h1, h2]
  split <;> omega
theorem sJ_lt_f {n c : Nat} (hn : n < 256) (hc : c < 128) : ¬ sb n < nI c ↔ c ≤ n ∧ n < 128 := by
  rw [sJ_lt_t hn hc]
  omega
theorem sJ_gt_t {n c : Nat} (hn : n < 256) (hc : c < 128) : nI c < sb n ↔ c < n ∧ n < 128 := by
  have h1 := sb_tab n hn
  have h2 := nI_toInt (n := c) (by omega)
  rw [Int32.lt_iff_toInt_lt, h1, h2]
  split <;> omega
theorem sJ_gt_f {n c : Nat} (hn : n < 256) (hc : c < 128) : ¬ nI c < sb n ↔ n ≤ c ∨ 128 ≤ n := by
  rw [sJ_gt_t hn hc]
  omega
theorem sJ_ge_t {n c : Nat} (hn : n < 256) (hc : c < 128) : nI c ≤ sb n ↔ c ≤ n ∧ n < 128 := by
  have h1 := sb_tab n hn
  have h2 := nI_toInt (n := c) (by omega)
  rw [Int32.le_iff_toInt_le, h1, h2]
  split <;> omega
theorem sJ_ge_f {n c : Nat} (hn : n < 256) (hc : c < 128) : ¬ nI c ≤ sb n ↔ n < c ∨ 128 ≤ n := by
  rw [sJ_ge_t hn hc]
  omega
theorem sJ_le_t {n c : Nat} (hn : n < 256) (hc : c < 128) : sb n ≤ nI c ↔ n ≤ c ∨ 128 ≤ n := by
  have h1 := sb_tab n hn
  have h2 := nI_toInt (n := c) (by omega)
  rw [Int32.le_iff_toInt_le, h1, h2]
  split <;> omega
theorem sJ_le_f {n c : Nat} (hn : n < 256) (hc : c < 128) : ¬ sb n ≤ nI c ↔ c < n ∧ n < 128 := by
  rw [sJ_le_t hn hc]
  omega
theorem sb_small {n : Nat} (h : n < 128) : sb n = nI n := (sJ_eq_t (by omega) h).mpr rfl
/-- a digit's value -/
theorem sb_dig {n : Nat} (h : 48 ≤ n) (h2 : n ≤ 57) : sb n - nI 48 = nI (n - 48) := by
  rw [sb_small (by omega)]
  exact pk_sub h
theorem updn_at {f : Nat → Nat} {i v : Nat} : upd (fun j => nI (f j)) i (nI v) = fun j => nI (va_up f i v j) := by
  funext j
  simp only [upd, va_up]
  split <;> rfl
theorem updsb_at {f : Nat → Nat} {i v : Nat} : upd (fun j => sb (f j)) i (vp_nar .byte (sb v)) = fun j => sb (va_up f i v j) := by
  funext j
  have h : vp_nar .byte (sb v) = sb v := pk_vb (nI v)
  simp only [upd, va_up, h]
  split <;> rfl
theorem updc_at {f : Nat → Nat} {i v : Nat} (hv : v < 65536) : upd (fun j => nI (f j)) i (vp_nar .char (nI v)) = fun j => nI (va_up f i v j) := by
  funext j
  have h : vp_nar .char (nI v) = nI v := by
    unfold vp_nar
    rw [(pk_charN hv).1]
  simp only [upd, va_up, h]
  split <;> rfl
theorem kz_s (cA : ClassId) (N : Nat) : vp_cell cA (N, .inl (fun j => sb ((fun _ => 0) j))) = arrV cA N (fun _ => defaultValue .byte) := by
  have h : sb 0 = 0 := by decide
  show arrV cA N (fun _ => Value.int (sb 0)) = _
  rw [h]
  rfl
theorem kz_n {ty : FieldType} (h : defaultValue ty = .int 0) (cA : ClassId) (N : Nat) : vp_cell cA (N, .inl (fun j => nI ((fun _ => 0) j))) = arrV cA N (fun _ => defaultValue ty) := by
  have h0 : nI 0 = 0 := nI_0
  show arrV cA N (fun _ => Value.int (nI 0)) = _
  rw [h, h0]
section KB
variable {p : Program} {l : Launch} {e : Env} {R : Room} {s : State} {m : MethodId} {args : Array Value} {below : List Frame} {meth : Method} {c : Code} {H : Heap} {locs : List Loc} {cells slots : Nat} {Q : State → Prop} {pc : Nat} {ls : Array Slot} {rest : List Value}
theorem topi_eq {x y : Int32} (h : x = y) (k : W p l e R s m args below meth c H locs cells slots Q (F0 m pc ls (.int y :: rest))) : W p l e R s m args below meth c H locs cells slots Q (F0 m pc ls (.int x :: rest)) := by subst h; exact k
theorem topl_eq {x y : Int64} (h : x = y) (k : W p l e R s m args below meth c H locs cells slots Q (F0 m pc ls (.long y :: rest))) : W p l e R s m args below meth c H locs cells slots Q (F0 m pc ls (.long x :: rest)) := by subst h; exact k
end KB
theorem lJ_eq_t {a b : Nat} (ha : a < 2 ^ 63) (hb : b < 2 ^ 63) : lg_cmp (lN a) (lN b) = 0 ↔ a = b := by rw [lg_cmp_eq]; exact pk_lEQ ha hb
theorem lJ_eq_f {a b : Nat} (ha : a < 2 ^ 63) (hb : b < 2 ^ 63) : ¬ lg_cmp (lN a) (lN b) = 0 ↔ a ≠ b := not_congr (lJ_eq_t ha hb)
theorem lJ_ne_t {a b : Nat} (ha : a < 2 ^ 63) (hb : b < 2 ^ 63) : ¬ lg_cmp (lN a) (lN b) = 0 ↔ a ≠ b := not_congr (lJ_eq_t ha hb)
theorem lJ_ne_f {a b : Nat} (ha : a < 2 ^ 63) (hb : b < 2 ^ 63) : lg_cmp (lN a) (lN b) = 0 ↔ a = b := lJ_eq_t ha hb
theorem lJ_lt_t {a b : Nat} (ha : a < 2 ^ 63) (hb : b < 2 ^ 63) : lg_cmp (lN a) (lN b) < 0 ↔ a < b := by rw [lg_cmp_lt]; exact pk_lLT ha hb
theorem lJ_lt_f {a b : Nat} (ha : a < 2 ^ 63) (hb : b < 2 ^ 63) : ¬ lg_cmp (lN a) (lN b) < 0 ↔ b ≤ a := by rw [lJ_lt_t ha hb]; omega
theorem lJ_ge_t {a b : Nat} (ha : a < 2 ^ 63) (hb : b < 2 ^ 63) : 0 ≤ lg_cmp (lN a) (lN b) ↔ b ≤ a := by rw [lg_cmp_ge]; exact pk_lLE hb ha
theorem lJ_ge_f {a b : Nat} (ha : a < 2 ^ 63) (hb : b < 2 ^ 63) : ¬ 0 ≤ lg_cmp (lN a) (lN b) ↔ a < b := by rw [lJ_ge_t ha hb]; omega
theorem lJ_gt_t {a b : Nat} (ha : a < 2 ^ 63) (hb : b < 2 ^ 63) : 0 < lg_cmp (lN a) (lN b) ↔ b < a := by rw [lg_cmp_gt]; exact pk_lLT hb ha
theorem lJ_gt_f {a b : Nat} (ha : a < 2 ^ 63) (hb : b < 2 ^ 63) : ¬ 0 < lg_cmp (lN a) (lN b) ↔ a ≤ b := by rw [lJ_gt_t ha hb]; omega
theorem lJ_le_t {a b : Nat} (ha : a < 2 ^ 63) (hb : b < 2 ^ 63) : lg_cmp (lN a) (lN b) ≤ 0 ↔ a ≤ b := by rw [lg_cmp_le]; exact pk_lLE ha hb
theorem lJ_le_f {a b : Nat} (ha : a < 2 ^ 63) (hb : b < 2 ^ 63) : ¬ lg_cmp (lN a) (lN b) ≤ 0 ↔ b < a := by rw [lJ_le_t ha hb]; omega
theorem lm1_ge : ¬ 0 ≤ lg_cmp (-1) (lN 0) := by decide +kernel
-- texts as lists of numbers
def isD (n : Nat) : Prop := 48 ≤ n ∧ n ≤ 57
def isL (n : Nat) : Prop := (97 ≤ n ∧ n ≤ 122) ∨ (65 ≤ n ∧ n ≤ 90) ∨ n = 45
theorem isD_iff (n : Nat) : isD n ↔ 48 ≤ n ∧ n ≤ 57 := Iff.rfl
theorem isL_iff (n : Nat) : isL n ↔ (97 ≤ n ∧ n ≤ 122) ∨ (65 ≤ n ∧ n ≤ 90) ∨ n = 45 := Iff.rfl
abbrev dD (n : Nat) : Bool := decide (48 ≤ n ∧ n ≤ 57)
abbrev dM (n : Nat) : Bool := decide ((48 ≤ n ∧ n ≤ 57) ∨ (97 ≤ n ∧ n ≤ 122) ∨ (65 ≤ n ∧ n ≤ 90) ∨ n = 45)
/-- the bytes from i on, ahead of j -/
def sg (t : Nat → Nat) : Nat → Nat → List Nat
  | i, 0 => []
  | i, k + 1 => t i :: sg t (i + 1) k
theorem sg_len (t : Nat → Nat) : ∀ (k i : Nat), (sg t i k).length = k
  | 0, _ => rfl
  | k + 1, i => by rw [sg, List.length_cons, sg_len t k (i + 1)]
theorem sg_cons (t : Nat → Nat) (i k : Nat) : sg t i (k + 1) = t i :: sg t (i + 1) k := rfl
theorem sg_pos (t : Nat → Nat) {i j : Nat} (h : i < j) : sg t i (j - i) = t i :: sg t (i + 1) (j - (i + 1)) := by
  have e : j - i = (j - (i + 1)) + 1 := by omega
  rw [e]
  rfl
theorem sg_snoc (t : Nat → Nat) : ∀ (k i : Nat), sg t i (k + 1) = sg t i k ++ [t (i + k)]
  | 0, _ => rfl
  | k + 1, i => by
    rw [sg_cons, sg_snoc t k (i + 1), sg_cons]
    have e : i + 1 + k = i + (k + 1) := by omega
    rw [e]
    rfl
theorem sg_take (t : Nat → Nat) : ∀ (k n i : Nat), k ≤ n → (sg t i n).take k = sg t i k
  | 0, _, _, _ => rfl
  | k + 1, 0, _, h => by omega
  | k + 1, n + 1, i, h => by rw [sg_cons, sg_cons, List.take_succ_cons, sg_take t k n (i + 1) (by omega)]
theorem sg_drop (t : Nat → Nat) : ∀ (k n i : Nat), k ≤ n → (sg t i n).drop k = sg t (i + k) (n - k)
  | 0, _, _, _ => rfl
  | k + 1, 0, _, h => by omega
  | k + 1, n + 1, i, h => by
    rw [sg_cons, List.drop_succ_cons, sg_drop t k n (i + 1) (by omega)]
    have e1 : i + 1 + k = i + (k + 1) := by omega
    have e2 : n - k = n + 1 - (k + 1) := by omega
    rw [e1, e2]
theorem sg_at (t : Nat → Nat) : ∀ (n i k : Nat), k < n → (sg t i n)[k]? = some (t (i + k))
  | 0, _, _, h => by omega
  | n + 1, i, 0, h => rfl
  | n + 1, i, k + 1, h => by
    rw [sg_cons, List.getElem?_cons_succ, sg_at t n (i + 1) k (by omega)]
    have e1 : i + 1 + k = i + (k + 1) := by omega
    rw [e1]
/-- how many of a text's first entries have the property -/
def pN (f : Nat → Bool) : List Nat → Nat
  | [] => 0
  | x :: xs => if f x then pN f xs + 1 else 0
theorem pN_le (f : Nat → Bool) : ∀ xs : List Nat, pN f xs ≤ xs.length
  | [] => Nat.le_refl _
  | x :: xs => by
    rw [pN, List.length_cons]
    have h := pN_le f xs
    split <;> omega
theorem pN_t {f : Nat → Bool} {x : Nat} {xs : List Nat} (h : f x = true) : pN f (x :: xs) = pN f xs + 1 := by rw [pN, if_pos h]
theorem pN_f {f : Nat → Bool} {x : Nat} {xs : List Nat} (h : f x = false) : pN f (x :: xs) = 0 := by rw [pN, if_neg (by rw [h]; decide)]
theorem pN_all {f : Nat → Bool} {t : Nat → Nat} : ∀ (n i k : Nat), k < pN f (sg t i n) → f (t (i + k)) = true
  | 0, _, _, h => absurd h (Nat.not_lt_zero _)
  | n + 1, i, k, h => by
    rw [sg_cons, pN] at h
    split at h
    · rename_i h1
      cases k with
      | zero => exact h1
      | succ k =>
        have h2 := pN_all (f := f) (t := t) n (i + 1) k (by omega)
        have e1 : i + 1 + k = i + (k + 1) := by omega
        rw [e1] at h2
        exact h2
    · omega
/-- the number that digits write -/
def vN : Nat → List Nat → Nat
  | a, [] => a
  | a, x :: xs => vN (a * 10 + (x - 48)) xs
theorem vN_snoc : ∀ (xs : List Nat) (a x : Nat), vN a (xs ++ [x]) = vN a xs * 10 + (x - 48)
  | [], _, _ => rfl
  | y :: ys, a, x => vN_snoc ys (a * 10 + (y - 48)) x
/-- a text of digits: what readNumber and numberSince answer -/
def okN (most : Nat) (xs : List Nat) : Prop := 1 ≤ xs.length ∧ xs.length ≤ most ∧ ¬ (1 < xs.length ∧ xs.head? = some 48)
def nR (xs : List Nat) : Int32 := if 1 ≤ xs.length ∧ xs.length ≤ 9 ∧ ¬ (1 < xs.length ∧ xs.head? = some 48) then nI (vN 0 xs) else (-1)
/-- a byte of an int -/
def bt (v : Int32) (k : Nat) : Nat := (v >>> (nI k &&& 31)).toBitVec.toNat % 256
theorem bt_lt (v : Int32) (k : Nat) : bt v k < 256 := Nat.mod_lt _ (by decide)
theorem sb_mod (x : Int32) : x.toInt8.toInt32 = sb (x.toBitVec.toNat % 256) := by
  unfold sb
  congr 1
  apply Int8.toBitVec_inj.mp
  apply BitVec.eq_of_toNat_eq
  simp [nI]
  rw [BitVec.signExtend_eq_setWidth_of_le _ (by decide), BitVec.toNat_setWidth]
theorem bt_sb (v : Int32) (k : Nat) : (v >>> (nI k &&& 31)).toInt8.toInt32 = sb (bt v k) := sb_mod _
theorem bt_nI (v : Int32) (k : Nat) : (v >>> (nI k &&& 31)) &&& nI 255 = nI (bt v k) := pk_and _ 8 (by decide)
def pb4 (B : Nat → Nat) (n : Nat) (v : Int32) : Nat → Nat := va_up (va_up (va_up (va_up B n (bt v 24)) (n + 1) (bt v 16)) (n + 2) (bt v 8)) (n + 3) (bt v 0)
theorem up_lt {B : Nat → Nat} {M i v : Nat} (h : ∀ k, B k < M) (hv : v < M) : ∀ k, va_up B i v k < M := by
  intro k
  simp only [va_up]
  split
  · exact hv
  · exact h k
theorem pb4_lt {B : Nat → Nat} (h : ∀ k, B k < 256) (n : Nat) (v : Int32) : ∀ k, pb4 B n v k < 256 :=
  up_lt (up_lt (up_lt (up_lt h (bt_lt _ _)) (bt_lt _ _)) (bt_lt _ _)) (bt_lt _ _)
/-- the words of a tape: how many, where each starts, where each stops -/
def spl (B S E : Nat → Nat) : Nat → Nat × (Nat → Nat) × (Nat → Nat)
  | 0 => (0, S, E)
  | i + 1 => if B i = 32 then spl B S E i else if i = 0 ∨ B (i - 1) = 32 then ((spl B S E i).1 + 1, va_up (spl B S E i).2.1 (spl B S E i).1 i, va_up (spl B S E i).2.2 (spl B S E i).1 (i + 1)) else ((spl B S E i).1, (spl B S E i).2.1, va_up (spl B S E i).2.2 ((spl B S E i).1 - 1) (i + 1))
theorem spl_0 (B S E : Nat → Nat) : spl B S E 0 = (0, S, E) := rfl
theorem spl_sp {B S E : Nat → Nat} {i : Nat} (h : B i = 32) : spl B S E (i + 1) = spl B S E i := by rw [spl, if_pos h]
theorem spl_st {B S E S1 E1 : Nat → Nat} {i w : Nat} (he : spl B S E i = (w, S1, E1)) (h : B i ≠ 32) (h2 : i = 0 ∨ B (i - 1) = 32) : spl B S E (i + 1) = (w + 1, va_up S1 w i, va_up E1 w (i + 1)) := by rw [spl, if_neg h, if_pos h2, he]
theorem spl_go {B S E S1 E1 : Nat → Nat} {i w : Nat} (he : spl B S E i = (w, S1, E1)) (h : B i ≠ 32) (h2 : ¬ (i = 0 ∨ B (i - 1) = 32)) : spl B S E (i + 1) = (w, S1, va_up E1 (w - 1) (i + 1)) := by rw [spl, if_neg h, if_neg h2, he]
theorem spl_b (B S E : Nat → Nat) : ∀ i, 2 * (spl B S E i).1 ≤ i + 1 ∧ (i = 0 ∨ B (i - 1) = 32 → 2 * (spl B S E i).1 ≤ i) ∧ (0 < i → B (i - 1) ≠ 32 → 1 ≤ (spl B S E i).1) := by
  intro i
  induction i with
  | zero => exact ⟨Nat.zero_le _, fun _ => Nat.le_refl _, fun h => absurd h (Nat.lt_irrefl _)⟩
  | succ i ih =>
    obtain ⟨h1, h2, h3⟩ := ih
    rw [Nat.add_sub_cancel]
    rw [spl]
    by_cases hb : B i = 32
    · rw [if_pos hb]
      exact ⟨by omega, fun _ => by omega, fun _ z => absurd hb z⟩
    · rw [if_neg hb]
      by_cases hs : i = 0 ∨ B (i - 1) = 32
      · rw [if_pos hs]
        have h4 := h2 hs
        exact ⟨by simp only; omega, fun z => by rcases z with z | z; omega; exact absurd z hb, fun _ _ => by simp only; omega⟩
      · rw [if_neg hs]
        have h5 := h3 (by omega) (fun z => hs (Or.inr z))
        exact ⟨by simp only; omega, fun z => by rcases z with z | z; omega; exact absurd z hb, fun _ _ => h5⟩
theorem sg_head (t : Nat → Nat) (i k : Nat) : (sg t i (k + 1)).head? = some (t i) := rfl
theorem nR_ok {B : Nat → Nat} {i n : Nat} (h1 : 1 ≤ n) (h2 : n ≤ 9) (h3 : ¬ (1 < n ∧ B i = 48)) : nR (sg B i n) = nI (vN 0 (sg B i n)) := by
  obtain ⟨k, rfl⟩ : ∃ k, n = k + 1 := ⟨n - 1, by omega⟩
  unfold nR
  rw [sg_len, sg_head]
  rw [if_pos]
  exact ⟨h1, h2, fun z => h3 ⟨z.1, Option.some.inj z.2⟩⟩
theorem nR_no {B : Nat → Nat} {i n : Nat} (h : n < 1 ∨ 9 < n ∨ (1 < n ∧ B i = 48)) : nR (sg B i n) = (-1) := by
  unfold nR
  rw [sg_len]
  rw [if_neg]
  rintro ⟨h1, h2, h3⟩
  obtain ⟨k, rfl⟩ : ∃ k, n = k + 1 := ⟨n - 1, by omega⟩
  rw [sg_head] at h3
  rcases h with h | h | h
  · omega
  · omega
  · exact h3 ⟨h.1, by rw [h.2]⟩
/-- how many of the next bytes are digits; how many may stand in a mark -/
abbrev nD (B : Nat → Nat) (i n : Nat) : Nat := pN dD (sg B i n)
abbrev nM (B : Nat → Nat) (i n : Nat) : Nat := pN dM (sg B i n)
theorem pN_step {f : Nat → Bool} {B : Nat → Nat} {i z : Nat} (h : i < z) (hf : f (B i) = true) : pN f (sg B i (z - i)) = pN f (sg B (i + 1) (z - (i + 1))) + 1 := by rw [sg_pos B h, pN_t hf]
theorem pN_stop {f : Nat → Bool} {B : Nat → Nat} {i z : Nat} (h : i < z) (hf : f (B i) = false) : pN f (sg B i (z - i)) = 0 := by rw [sg_pos B h, pN_f hf]
theorem pN_end {f : Nat → Bool} {B : Nat → Nat} {i z : Nat} (h : z ≤ i) : pN f (sg B i (z - i)) = 0 := by
  have e : z - i = 0 := by omega
  rw [e]
  rfl
theorem nD_step {B : Nat → Nat} {i z : Nat} (h : i < z) (hf : 48 ≤ B i ∧ B i ≤ 57) : nD B i (z - i) = nD B (i + 1) (z - (i + 1)) + 1 := pN_step h (decide_eq_true hf)
theorem nD_stop {B : Nat → Nat} {i z : Nat} (h : i < z) (hf : ¬ (48 ≤ B i ∧ B i ≤ 57)) : nD B i (z - i) = 0 := pN_stop h (decide_eq_false hf)
theorem nD_end {B : Nat → Nat} {i z : Nat} (h : z ≤ i) : nD B i (z - i) = 0 := pN_end h
theorem nM_step {B : Nat → Nat} {i z : Nat} (h : i < z) (hf : dM (B i) = true) : nM B i (z - i) = nM B (i + 1) (z - (i + 1)) + 1 := pN_step h hf
theorem nM_stop {B : Nat → Nat} {i z : Nat} (h : i < z) (hf : dM (B i) = false) : nM B i (z - i) = 0 := pN_stop h hf
theorem nM_end {B : Nat → Nat} {i z : Nat} (h : z ≤ i) : nM B i (z - i) = 0 := pN_end h
theorem nD_digs {B : Nat → Nat} {a n k : Nat} (h : k ≤ nD B a n) : ∀ q, a ≤ q → q < a + k → 48 ≤ B q ∧ B q ≤ 57 := by
  intro q h1 h2
  have z := pN_all (f := dD) (t := B) n a (q - a) (by show q - a < nD B a n; omega)
  have e : a + (q - a) = q := by omega
  rw [e] at z
  exact of_decide_eq_true z
theorem pN_lez {f : Nat → Bool} {B : Nat → Nat} (i n : Nat) : pN f (sg B i n) ≤ n := by
  have h := pN_le f (sg B i n)
  rw [sg_len] at h
  exact h
/-- a mark's bytes in one long, as they are read -/
def pkI : Int64 → List Nat → Int64
  | a, [] => a
  | a, x :: xs => pkI (a <<< ((nI 8).toInt64 &&& 63) ||| (sb x).toInt64) xs
theorem pkI_snoc : ∀ (xs : List Nat) (a : Int64) (x : Nat), pkI a (xs ++ [x]) = pkI a xs <<< ((nI 8).toInt64 &&& 63) ||| (sb x).toInt64
  | [], _, _ => rfl
  | y :: ys, a, x => pkI_snoc ys (a <<< ((nI 8).toInt64 &&& 63) ||| (sb y).toInt64) x
/-- what readMark answers to a mark's bytes -/
def mR (xs : List Nat) : Int64 := if 1 ≤ xs.length ∧ xs.length ≤ 8 then (if xs.all dD = true then (nR xs).toInt64 else pkI (lN 0) xs <<< ((nI (8 * (8 - xs.length))).toInt64 &&& 63)) else (-1)
theorem mR_no {B : Nat → Nat} {i n : Nat} (h : n < 1 ∨ 8 < n) : mR (sg B i n) = (-1) := by
  unfold mR
  rw [sg_len, if_neg (by omega)]
theorem mR_dig {B : Nat → Nat} {i n : Nat} (h1 : 1 ≤ n) (h2 : n ≤ 8) (h : (sg B i n).all dD = true) : mR (sg B i n) = (nR (sg B i n)).toInt64 := by
  unfold mR
  rw [sg_len, if_pos ⟨h1, h2⟩, if_pos h]
theorem mR_txt {B : Nat → Nat} {i n : Nat} (h1 : 1 ≤ n) (h2 : n ≤ 8) (h : ¬ (sg B i n).all dD = true) : mR (sg B i n) = pkI (lN 0) (sg B i n) <<< ((nI (8 * (8 - n))).toInt64 &&& 63) := by
  unfold mR
  rw [sg_len, if_pos ⟨h1, h2⟩, if_neg h]
theorem all_snoc (B : Nat → Nat) (i k : Nat) : (sg B i (k + 1)).all dD = true ↔ ((sg B i k).all dD = true ∧ 48 ≤ B (i + k) ∧ B (i + k) ≤ 57) := by
  rw [sg_snoc, List.all_append, Bool.and_eq_true]
  simp [dD]
theorem all_dig {B : Nat → Nat} {i n : Nat} (h : (sg B i n).all dD = true) : ∀ k, i ≤ k → k < i + n → 48 ≤ B k ∧ B k ≤ 57 := by
  intro k h1 h2
  rw [List.all_eq_true] at h
  have h3 := h (B k) (by
    have h4 := sg_at B n i (k - i) (by omega)
    have e : i + (k - i) = k := by omega
    rw [e] at h4
    exact List.mem_of_getElem? h4)
  exact of_decide_eq_true h3
