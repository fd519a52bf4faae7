-- what version needs of numbers, dots and marks
theorem sg_shift {f B : Nat → Nat} {a n : Nat} (h : ∀ j, j < n → f j = B (a + j)) : ∀ (m k : Nat), k + m ≤ n → sg f k m = sg B (a + k) m
  | 0, _, _ => rfl
  | m + 1, k, hk => by
    rw [sg_cons, sg_cons, h k (by omega), sg_shift h m (k + 1) (by omega)]
    rfl
theorem sg_sbs (f : Nat → Nat) (i n : Nat) : sg (sbs f i n) 0 n = sg f i n := by
  have h := sg_shift (f := sbs f i n) (B := f) (a := i) (n := n) (fun j hj => if_pos hj) n 0 (by omega)
  exact h
theorem sbs_0 {f : Nat → Nat} {i n : Nat} (h : 0 < n) : sbs f i n 0 = f i := if_pos h
theorem numA {f : Nat → Nat} {p q n : Nat} (hq : q = p + nD f p (n - p)) (z0 : p = 0) (zt : q = n) : nRm 9 (sg f 0 n) = nR (sg f p (nD f p (n - p))) := by
  rw [← nRm_num, show nD f p (n - p) = n by omega, z0]
theorem numB {f : Nat → Nat} {p q n : Nat} (hq : q = p + nD f p (n - p)) : nRm 9 (sg (sbs f p (q - p)) 0 (q - p)) = nR (sg f p (nD f p (n - p))) := by
  rw [← nRm_num, sg_sbs, show q - p = nD f p (n - p) by omega]
theorem vNum_z {f : Nat → Nat} {p n : Nat} (h : nD f p (n - p) = 0) : vNum f p n = none := by
  unfold vNum
  rw [if_neg (by omega)]
theorem vRem_fin2 {B : Nat → Nat} {z k a x q : Nat} {N : Nat → Nat} (hk : k = 2) (h : vNum B a z = some (x, q)) : vRem B z k N a = vFin B z (va_up N k x 0) (va_up N k x 1) (va_up N k x 2) q := by
  subst hk
  exact vRem_fin h
theorem up_b {N : Nat → Nat} {k v M : Nat} (h : ∀ j, j < k → N j < M) (hv : v < M) : ∀ j, j < k + 1 → va_up N k v j < M := by
  intro j hj
  by_cases hk : j = k
  · rw [hk, va_up_self]
    exact hv
  · rw [va_up_ne _ _ hk]
    exact h j (by omega)
/-- the marks read so far, and where the text stands -/
def vMs (f : Nat → Nat) (n i x y w : Nat) (ms : List (List Nat)) (p : Nat) : Prop :=
  (p < n ∧ vVer f i n = (vPre f n (4 - ms.length) (p + 1)).map fun r => (x, y, w, ms ++ r)) ∨ (p = n ∧ vVer f i n = some (x, y, w, ms))
theorem vFin_s {f : Nat → Nat} {n x y w p : Nat} (h : p = n) : vFin f n x y w p = some (x, y, w, []) := if_pos h
theorem vFin_d {f : Nat → Nat} {n x y w p : Nat} (h : ¬ p = n) (hd : ¬ f p = 45) : vFin f n x y w p = none := by
  unfold vFin
  rw [if_neg h, vDot_f (fun z => hd z.2)]
  rfl
theorem vMs_0 {f : Nat → Nat} {n i x y w p : Nat} (hp : p < n) (hd : f p = 45) (hV : vVer f i n = vFin f n x y w p) : vMs f n i x y w [] p := by
  refine Or.inl ⟨hp, hV.trans ?_⟩
  unfold vFin
  rw [if_neg (by omega), vDot_t ⟨hp, hd⟩]
  rfl
theorem vMs_no {f : Nat → Nat} {n i x y w p : Nat} {ms : List (List Nat)} (h : vMs f n i x y w ms p) (hp : p < n) (hm : vMark f (p + 1) n = none ∨ ms.length = 4) : vVer f i n = none := by
  rcases h with ⟨_, h⟩ | ⟨h, _⟩
  · rw [h]
    rcases hm with hm | hm
    · cases hk : 4 - ms.length with
      | zero => rfl
      | succ k => rw [vPre_n hm]; rfl
    · rw [hm]
      rfl
  · omega
theorem vMs_s {f : Nat → Nat} {n i x y w p q : Nat} {ms : List (List Nat)} {xs : List Nat} (h : vMs f n i x y w ms p) (hp : p < n) (hl : ms.length < 4) (hm : vMark f (p + 1) n = some (xs, q)) (hq : q = n ∨ (q < n ∧ f q = 46)) : vMs f n i x y w (ms ++ [xs]) q := by
  rcases h with ⟨_, h⟩ | ⟨h, _⟩
  · rw [show 4 - ms.length = (4 - (ms.length + 1)) + 1 by omega] at h
    rcases hq with hq | ⟨hq, hd⟩
    · refine Or.inr ⟨hq, ?_⟩
      rw [h, vPre_s hm hq]
      rfl
    · refine Or.inl ⟨hq, ?_⟩
      rw [h, vPre_c hm (by omega) (vDot_t ⟨hq, hd⟩), Option.map_map, List.length_append]
      show Option.map _ (vPre f n (4 - (ms.length + 1)) (q + 1)) = _
      congr 1
      funext r
      simp
  · omega
theorem vMs_nd {f : Nat → Nat} {n i x y w p q : Nat} {ms : List (List Nat)} {xs : List Nat} (h : vMs f n i x y w ms p) (hp : p < n) (hl : ms.length < 4) (hm : vMark f (p + 1) n = some (xs, q)) (hq : q < n) (hd : ¬ f q = 46) : vVer f i n = none := by
  rcases h with ⟨_, h⟩ | ⟨h, _⟩
  · rw [show 4 - ms.length = (4 - (ms.length + 1)) + 1 by omega] at h
    rw [h, vPre_d hm (by omega) (vDot_f (fun z => hd z.2))]
    rfl
  · omega
theorem vMs_e {f : Nat → Nat} {n i x y w p : Nat} {ms : List (List Nat)} (h : vMs f n i x y w ms p) (hp : ¬ p < n) : vVer f i n = some (x, y, w, ms) := by
  rcases h with ⟨h, _⟩ | ⟨_, h⟩
  · omega
  · exact h
theorem nM_at {f : Nat → Nat} {p n k : Nat} (h : k < nM f p n) : dM (f (p + k)) = true := pN_all (f := dM) n p k h
theorem mkA {f : Nat → Nat} {p n q : Nat} (hq : q = p + nM f p (n - p)) (h1 : p < q) (h8 : q - p ≤ 8) (hz : ¬ ((sg (sbs f p (q - p)) 0 (q - p)).all dD = true ∧ 1 < q - p ∧ f p = 48)) :
    vMark f p n = some (sg f p (q - p), q) ∧ okM (sbs f p (q - p)) (q - p) := by
  have e : nM f p (n - p) = q - p := by omega
  constructor
  · unfold vMark
    rw [e, ← sg_sbs f p (q - p), if_pos ⟨by omega, h8, hz⟩, show p + (q - p) = q by omega]
  · refine ⟨by omega, h8, fun k hk => ?_, ?_⟩
    · rw [show sbs f p (q - p) k = f (p + k) from if_pos hk]
      exact nM_at (n := n - p) (by omega)
    · rw [sbs_0 (by omega)]
      exact hz
theorem mkN {f : Nat → Nat} {p n q : Nat} (hq : q = p + nM f p (n - p)) (h : q = p ∨ 8 < q - p ∨ ((sg (sbs f p (q - p)) 0 (q - p)).all dD = true ∧ 1 < q - p ∧ f p = 48)) : vMark f p n = none := by
  have e : nM f p (n - p) = q - p := by omega
  unfold vMark
  rw [e, ← sg_sbs f p (q - p), if_neg]
  rintro ⟨h1, h2, h3⟩
  rcases h with h | h | h
  · omega
  · omega
  · exact h3 h
theorem vN_i {n : Nat} {f : Nat → Nat} (h : (sg f 0 n).all dD = true) (hn : n ≤ 8) : 0 ≤ nI (vN 0 (sg f 0 n)) := nI_pos' (Nat.lt_trans (vN_small h hn) (by decide))
theorem nRm8 {f : Nat → Nat} {n : Nat} (h : (sg f 0 n).all dD = true) (h1 : 0 < n) (h8 : n ≤ 8) : (0 ≤ nRm 8 (sg f 0 n)) ↔ ¬ (1 < n ∧ f 0 = 48) := by
  by_cases hz : 1 < n ∧ f 0 = 48
  · rw [nRm_no (Or.inr (Or.inr (Or.inr hz)))]
    exact ⟨fun z => absurd z (by decide), fun z => absurd hz z⟩
  · rw [nRm_ok h h1 h8 hz]
    exact ⟨fun _ => hz, fun _ => vN_i h h8⟩
/-- what was in memory stays there -/
def kOld (μ ν : km_M) : Prop := ∀ x e, μ x = some e → ν x = some e
theorem kOld_r (μ : km_M) : kOld μ μ := fun _ _ h => h
theorem kOld_up {μ ν : km_M} {a : Nat} {e : va_E} (h : kOld μ ν) (ha : μ a = none) : kOld μ (km_up ν a e) := fun x _ hx => (km_n (km_apF hx ha)).trans (h x _ hx)
theorem kOld_n {μ ν : km_M} {a : Nat} (h : kOld μ ν) (ha : ν a = none) : μ a = none := by
  cases hx : μ a with
  | none => rfl
  | some e => rw [h a e hx] at ha; cases ha
theorem kOld_t {μ ν ρ : km_M} (h : kOld μ ν) (h2 : kOld ν ρ) : kOld μ ρ := fun x e hx => h2 x e (h x e hx)
/-- the marks of a version in memory -/
def kMK (g : kG) (ν : km_M) (M : Nat → Option Nat) (sa sv : Nat → Nat) (F : Nat → Nat → Nat) (ms : List (List Nat)) : Prop :=
  ∀ (k : Nat) (xs : List Nat), ms[k]? = some xs → M k = some (sa k) ∧ ν (sa k) = some (.inr (7, [.ref (sv k), .int (nI 0), .int (nI 0), .int (nI 0)])) ∧ ν (sv k) = some (.inl (g.2.2.1 0, xs.length, .inl (fun j => sb (F k j)))) ∧ (∀ q, F k q < 256) ∧ sg (F k) 0 xs.length = xs ∧ okM (F k) xs.length
theorem kMK_0 {g : kG} {ν : km_M} {M : Nat → Option Nat} {sa sv : Nat → Nat} {F : Nat → Nat → Nat} : kMK g ν M sa sv F [] := fun k xs h => by simp at h
theorem kMK_old {g : kG} {ν ρ : km_M} {M : Nat → Option Nat} {sa sv : Nat → Nat} {F : Nat → Nat → Nat} {ms : List (List Nat)} (hK : kMK g ν M sa sv F ms) (hf : kOld ν ρ) : kMK g ρ M sa sv F ms := fun k xs h => by
  obtain ⟨h1, h2, h3, h4⟩ := hK k xs h
  exact ⟨h1, hf _ _ h2, hf _ _ h3, h4⟩
theorem kMK_step {g : kG} {ν ρ : km_M} {M : Nat → Option Nat} {sa sv : Nat → Nat} {F : Nat → Nat → Nat} {ms : List (List Nat)} {vq ka rs d1 L p m : Nat} {f h : Nat → Nat} {l5 : List Value} {c5 : ClassId} {n5 : Nat} {y5 : (Nat → Int64) ⊕ (Nat → UInt32) ⊕ (Nat → UInt64) ⊕ (Nat → Option Nat)} (hK : kMK g ν M sa sv F ms) (hL : ms.length = L)
    (h1 : ν vq = some (.inr (5, l5))) (h2 : ν ka = some (.inl (c5, n5, .inr y5))) (hf : ∀ x e, ν x = some e → x ≠ vq → x ≠ ka → ρ x = some e) (hs : ρ rs = some (.inr (7, [.ref d1, .int (nI 0), .int (nI 0), .int (nI 0)]))) (hd : ρ d1 = some (.inl (g.2.2.1 0, m, .inl (fun j => sb (h j))))) (hl : ∀ q, h q < 256) (hx : sg h 0 m = sg f p m) (ho : okM h m) :
    kMK g ρ (va_up M L (some rs)) (va_up sa L rs) (va_up sv L d1) (va_up F L h) (ms ++ [sg f p m]) := by
  subst hL
  intro k xs hk
  by_cases hkl : k = ms.length
  · subst hkl
    rw [List.getElem?_append_right (Nat.le_refl _), Nat.sub_self] at hk
    have hk : sg f p m = xs := Option.some.inj hk
    have u1 : ∀ {α : Type} (q : Nat → α) (x : α), va_up q ms.length x ms.length = x := fun q x => if_pos rfl
    rw [u1, u1, u1, u1, ← hk, sg_len]
    exact ⟨rfl, hs, hd, hl, hx, ho⟩
  · have hlt : k < ms.length := by
      rcases Nat.lt_or_ge k ms.length with z | z
      · exact z
      · rw [List.getElem?_eq_none (by rw [List.length_append]; simp; omega)] at hk
        cases hk
    rw [List.getElem?_append_left hlt] at hk
    have u1 : ∀ {α : Type} (q : Nat → α) (x : α), va_up q ms.length x k = q k := fun q x => if_neg hkl
    rw [u1, u1, u1, u1]
    obtain ⟨j1, j2, j3, j4⟩ := hK k xs hk
    exact ⟨j1, hf _ _ j2 (km_apC j2 h1 (by decide)) (km_apB j2 h2), hf _ _ j3 (km_apA j3 h1) (km_ap j3 h2 (fun z => by cases z)), j4⟩
