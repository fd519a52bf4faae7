def kcl : List vw_C := [(RRT, TRT, 3), (RTP, TTP, 6), (RVE, TVE, 2), (RVR, TVR, 5), (RMD, TMD, 7), (RMV, TMV, 3), (RMR, TMR, 4), (RST, TST, 4)]
-- base; classes and slots; array classes; the addresses of the enum constants; of the literals; of their bytes
abbrev kG : Type := Nat × va_G × (Nat → ClassId) × (Nat → Nat) × (Nat → Nat) × (Nat → Nat)
def ktys (g : kG) : List (ClassId × FieldType) := [(g.2.2.1 0, .byte), (g.2.2.1 1, .int), (g.2.2.1 2, .long), (g.2.2.1 3, .char), (g.2.2.1 4, .object "VersionRanges$Version"), (g.2.2.1 5, .object "java/lang/String"), (g.2.2.1 6, .object "VersionRangesModel$Version")]
def kEnN : List String := ["ALL", "SAME", "BELOW", "AT_OR_BELOW", "ABOVE", "AT_OR_ABOVE", "CARET", "TILDE"]
def kEnF : List (String × String × String × List Int32) := [("VersionRanges$Sign", "hasBelow", "Z", [1, 0, 1, 1, 0, 0, 0, 0]), ("VersionRanges$Sign", "hasSame", "Z", [1, 1, 0, 1, 0, 1, 1, 1]), ("VersionRanges$Sign", "hasAbove", "Z", [1, 0, 0, 0, 1, 1, 1, 1])]
def kLen : List Nat := [0, 5, 6, 4, 2, 1, 2, 2, 1, 1, 1, 1, 1]
def kByt : List (List Int32) := [[], [110, 101, 101, 100, 115], [98, 114, 101, 97, 107, 115], [111, 119, 110, 115], [124, 124], [42], [60, 61], [62, 61], [60], [62], [94], [126], [61]]
def kLit : List (String × Nat × String × Nat) := [("java/lang/String", 7, "", 0), ("java/lang/StringLatin1", 151, "", 0), ("java/lang/StringUTF16", 295, "", 0), ("VersionRangesModel", 42, "", 0), ("VersionRangesModel", 105, "needs", 1), ("VersionRangesModel", 111, "breaks", 2), ("VersionRangesModel", 113, "owns", 3), ("VersionRangesModel", 125, "||", 4), ("VersionRangesModel", 127, "*", 5), ("VersionRangesModel", 84, "<=", 6), ("VersionRangesModel", 89, ">=", 7), ("VersionRangesModel", 91, "<", 8), ("VersionRangesModel", 93, ">", 9), ("VersionRangesModel", 97, "^", 10), ("VersionRangesModel", 99, "~", 11), ("VersionRangesModel", 95, "=", 12)]
def kZ : List (String × String × String × Int32) := [("java/lang/String", "COMPACT_STRINGS", "Z", 1), ("java/lang/StringUTF16", "$assertionsDisabled", "Z", 1), ("java/lang/StringUTF16", "HI_BYTE_SHIFT", "I", 0), ("java/lang/StringUTF16", "LO_BYTE_SHIFT", "I", 8), ("jdk/internal/util/ArraysSupport", "BIG_ENDIAN", "Z", 0), ("jdk/internal/util/ArraysSupport", "LOG2_ARRAY_BYTE_INDEX_SCALE", "I", 0), ("jdk/internal/util/ArraysSupport", "LOG2_ARRAY_INT_INDEX_SCALE", "I", 2), ("jdk/internal/util/ArraysSupport", "LOG2_ARRAY_LONG_INDEX_SCALE", "I", 3), ("jdk/internal/util/ArraysSupport", "LOG2_BYTE_BIT_SIZE", "I", 3)]
def kZq : List (String × String × String) := [("jdk/internal/util/ArraysSupport", "U", "Ljdk/internal/misc/Unsafe;"), ("jdk/internal/util/Preconditions", "SIOOBE_FORMATTER", "Ljava/util/function/BiFunction;")]
def kAO : List String := ["VersionRanges$Version", "java/lang/String", "VersionRangesModel$Version"]
def kE (g : kG) (U : State) : Prop := va_K g.2.1 kcl (ktys g) U ∧ (∀ w ∈ kNest, va_Nw w U) ∧ va_En "VersionRanges$Sign" "LVersionRanges$Sign;" kEnN kEnF g.2.2.2.1 (fun q => g.1 ≤ q) U U.heap ∧ vk_S 13 kLen kByt g.2.2.2.2.1 g.2.2.2.2.2 (fun q => g.1 ≤ q) U U.heap ∧ (∀ q ∈ kLit, vk_R q.1 q.2.1 q.2.2.1 (g.2.2.2.2.1 q.2.2.2) U) ∧ (∀ q ∈ kZ, va_Z q.1 q.2.1 q.2.2.1 (.int q.2.2.2) (fun q => g.1 ≤ q) U U.heap) ∧ (∀ q ∈ kZq, va_Zq q.1 q.2.1 q.2.2 (fun q => g.1 ≤ q) U U.heap) ∧ (∀ C ∈ kAO, va_AO C U)
theorem nest_warm {w : Cond} (hw : isNestW w = true) {s U : State} (hW : s.WarmedH U.vm) (h : va_Nw w s) : va_Nw w U := by
  cases w <;> first | (cases hw; done) | exact va_Nw.warmF hW h | exact va_Nw.warmM hW h
theorem nest_same {w : Cond} (hw : isNestW w = true) {u U : State} (hv : U.vm = u.vm) (h : va_Nw w u) : va_Nw w U := by
  cases w <;> first | (cases hw; done) | exact va_Nw.same (by decide) hv.symm h | exact va_Nw.same rfl hv.symm h
theorem kE.warm {g : kG} {s U : State} (hW : s.WarmedH U.vm) (hq : ∀ a : Nat, a < s.heap.size → ¬ g.1 ≤ a → U.heap[a]? = s.heap[a]?) (h : kE g s) : kE g U := by
  obtain ⟨h1, h2, h3, h4, h5, h6, h7, h8⟩ := h
  exact ⟨va_K.moved hW.alike h1, fun w hw => nest_warm (List.mem_filter.mp hw).2 hW (h2 w hw), (h3.moved hW.alike).kept hq, (h4.moved hW.alike).kept hq, fun q hq1 => vk_R.warm hW (h5 q hq1), fun q hq1 => ((h6 q hq1).moved hW.alike).kept hq, fun q hq1 => ((h7 q hq1).moved hW.alike).kept hq, fun C hC => va_AO.moved hW.alike (h8 C hC)⟩
theorem kE.same {g : kG} {u U : State} (hv : U.vm = u.vm) (hh : U.heap = u.heap) (h : kE g u) : kE g U := by
  obtain ⟨h1, h2, h3, h4, h5, h6, h7, h8⟩ := h
  have ha : u.vm.Alike U.vm := by rw [hv]; exact Vm.Alike.refl _
  have hq : ∀ a : Nat, a < u.heap.size → ¬ g.1 ≤ a → U.heap[a]? = u.heap[a]? := fun a _ _ => by rw [hh]
  exact ⟨va_K.moved ha h1, fun w hw => nest_same (List.mem_filter.mp hw).2 hv (h2 w hw), (h3.moved ha).kept hq, (h4.moved ha).kept hq, fun q hq1 => vk_R.same hv (h5 q hq1), fun q hq1 => ((h6 q hq1).moved ha).kept hq, fun q hq1 => ((h7 q hq1).moved ha).kept hq, fun C hC => va_AO.moved ha (h8 C hC)⟩
-- A memory: a map from addresses to cells; the heap's own picture of it (own rows; no rows of the kit stand here, only uses of them)
abbrev km_M : Type := Nat → Option va_E
def km_up (μ : km_M) (a : Nat) (e : va_E) : km_M := fun x => if x = a then some e else μ x
theorem km_s (μ : km_M) (a : Nat) (e : va_E) : km_up μ a e a = some e := if_pos rfl
theorem km_n {μ : km_M} {a b : Nat} {e : va_E} (h : b ≠ a) : km_up μ a e b = μ b := if_neg h
theorem km_id {μ : km_M} {a : Nat} {e : va_E} (h : μ a = some e) : km_up μ a e = μ := by
  funext x
  simp only [km_up]
  split
  · rename_i hx
    rw [hx, h]
  · rfl
theorem km_u1 (μ : km_M) (a : Nat) (e e' : va_E) : km_up (km_up μ a e) a e' = km_up μ a e' := by
  funext x
  simp only [km_up]
  split <;> rfl
theorem km_uc (μ : km_M) {a b : Nat} (e e' : va_E) (h : a ≠ b) : km_up (km_up μ a e) b e' = km_up (km_up μ b e') a e := by
  funext x
  simp only [km_up]
  by_cases h1 : x = a
  · have h2 : ¬ x = b := fun z => h (h1.symm.trans z)
    rw [if_neg h2, if_pos h1, if_pos h1]
  · rw [if_neg h1, if_neg h1]
theorem km_u2 (μ : km_M) {a b : Nat} (e e' e2 : va_E) (h : a ≠ b) : km_up (km_up (km_up μ a e) b e2) a e' = km_up (km_up μ a e') b e2 := by
  rw [km_uc (km_up μ a e) e2 e' (Ne.symm h), km_u1]
theorem km_u3 (μ : km_M) {a b c : Nat} (e e' e2 e3 : va_E) (h : a ≠ b) (h2 : a ≠ c) : km_up (km_up (km_up (km_up μ a e) b e2) c e3) a e' = km_up (km_up (km_up μ a e') b e2) c e3 := by
  rw [km_uc (km_up (km_up μ a e) b e2) e3 e' (Ne.symm h2), km_u2 μ e e' e2 h]
theorem km_u4 (μ : km_M) {a b c d : Nat} (e e' e2 e3 e4 : va_E) (h : a ≠ b) (h2 : a ≠ c) (h3 : a ≠ d) : km_up (km_up (km_up (km_up (km_up μ a e) b e2) c e3) d e4) a e' = km_up (km_up (km_up (km_up μ a e') b e2) c e3) d e4 := by
  rw [km_uc (km_up (km_up (km_up μ a e) b e2) c e3) e4 e' (Ne.symm h3), km_u3 μ e e' e2 e3 h h2]
/-- two cells of other content lie apart -/
theorem km_ap {μ : km_M} {a b : Nat} {x y : va_E} (ha : μ a = some x) (hb : μ b = some y) (h : x ≠ y) : a ≠ b := by
  intro z
  subst z
  rw [ha] at hb
  exact h (Option.some.inj hb)
theorem km_apA {μ : km_M} {a b : Nat} {x : ClassId × vp_A} {y : Nat × List Value} (ha : μ a = some (.inl x)) (hb : μ b = some (.inr y)) : a ≠ b := km_ap ha hb (fun h => by cases h)
theorem km_apB {μ : km_M} {a b : Nat} {x : ClassId × vp_A} {y : Nat × List Value} (ha : μ a = some (.inr y)) (hb : μ b = some (.inl x)) : a ≠ b := km_ap ha hb (fun h => by cases h)
theorem km_apC {μ : km_M} {a b i j : Nat} {x y : List Value} (ha : μ a = some (.inr (i, x))) (hb : μ b = some (.inr (j, y))) (h : i ≠ j) : a ≠ b := km_ap ha hb (fun z => by cases z; exact h rfl)
theorem km_apN {μ : km_M} {a b n k : Nat} {c d : ClassId} {x y : (Nat → Int32) ⊕ (Nat → Int64) ⊕ (Nat → UInt32) ⊕ (Nat → UInt64) ⊕ (Nat → Option Nat)} (ha : μ a = some (.inl (c, n, x))) (hb : μ b = some (.inl (d, k, y))) (h : n ≠ k) : a ≠ b := km_ap ha hb (fun z => by cases z; exact h rfl)
/-- an address that holds nothing yet lies apart from all that hold something -/
theorem km_apF {μ : km_M} {a b : Nat} {x : va_E} (ha : μ a = some x) (hb : μ b = none) : a ≠ b := by
  intro z
  subst z
  rw [ha] at hb
  cases hb
def km_rep (ws : va_W) (μ : km_M) : Prop := ∀ (a : Nat) (e : va_E), μ a = some e ↔ ∃ k : Nat, ws[k]? = some (a, e)
theorem km_lt {ws : va_W} {k : Nat} {q : Nat × va_E} (h : ws[k]? = some q) : k < ws.length := by
  rcases Nat.lt_or_ge k ws.length with h1 | h1
  · exact h1
  · rw [List.getElem?_eq_none h1] at h
    cases h
theorem km_rep_set {A : Nat → Prop} {ws : va_W} {μ : km_M} {q0 a : Nat} {e0 e : va_E} (hr : km_rep ws μ) (hD : va_D A ws) (hq : ws[q0]? = some (a, e0)) : km_rep (ws.set q0 (a, e)) (km_up μ a e) := by
  have hlt := km_lt hq
  intro b x
  by_cases hb : b = a
  · rw [hb, km_s]
    constructor
    · intro h
      cases h
      exact ⟨q0, by rw [List.getElem?_set_self hlt]⟩
    · rintro ⟨k, hk⟩
      by_cases hkq : q0 = k
      · rw [← hkq, List.getElem?_set_self hlt] at hk
        cases hk
        rfl
      · rw [List.getElem?_set_ne hkq] at hk
        exact absurd (hD.1 _ _ _ _ hq hk rfl) hkq
  · rw [km_n hb, hr b x]
    constructor
    · rintro ⟨k, hk⟩
      refine ⟨k, ?_⟩
      have hne : q0 ≠ k := by
        intro h
        rw [← h, hq] at hk
        cases hk
        exact hb rfl
      rw [List.getElem?_set_ne hne]
      exact hk
    · rintro ⟨k, hk⟩
      refine ⟨k, ?_⟩
      by_cases hkq : q0 = k
      · rw [← hkq, List.getElem?_set_self hlt] at hk
        cases hk
        exact absurd rfl hb
      · rw [List.getElem?_set_ne hkq] at hk
        exact hk
theorem km_rep_new {A : Nat → Prop} {ws : va_W} {μ : km_M} {q : Nat} {e : va_E} (hr : km_rep ws μ) (hD : va_D A (ws ++ [(q, e)])) : km_rep (ws ++ [(q, e)]) (km_up μ q e) ∧ μ q = none := by
  have hlast : (ws ++ [(q, e)])[ws.length]? = some (q, e) := by
    rw [List.getElem?_append_right (Nat.le_refl _), Nat.sub_self]
    rfl
  have hfresh : ∀ (k : Nat) (x : va_E), ¬ ws[k]? = some (q, x) := by
    intro k x hk
    have h1 : (ws ++ [(q, e)])[k]? = some (q, x) := by
      rw [List.getElem?_append_left (km_lt hk)]
      exact hk
    have h2 := hD.1 _ _ _ _ h1 hlast rfl
    have h3 := km_lt hk
    omega
  constructor
  · intro b x
    by_cases hb : b = q
    · rw [hb, km_s]
      constructor
      · intro h
        cases h
        exact ⟨ws.length, hlast⟩
      · rintro ⟨k, hk⟩
        have h2 := hD.1 _ _ _ _ hk hlast rfl
        rw [h2, hlast] at hk
        cases hk
        rfl
    · rw [km_n hb, hr b x]
      constructor
      · rintro ⟨k, hk⟩
        refine ⟨k, ?_⟩
        rw [List.getElem?_append_left (km_lt hk)]
        exact hk
      · rintro ⟨k, hk⟩
        refine ⟨k, ?_⟩
        rcases Nat.lt_or_ge k ws.length with h1 | h1
        · rw [List.getElem?_append_left h1] at hk
          exact hk
        · have h2 := km_lt hk
          rw [List.length_append] at h2
          have h3 : k = ws.length := by
            simp only [List.length_cons, List.length_nil] at h2
            omega
          rw [h3, hlast] at hk
          cases hk
          exact absurd rfl hb
  · cases hx : μ q with
    | none => rfl
    | some x =>
      obtain ⟨k, hk⟩ := (hr q x).mp hx
      exact absurd hk (hfresh k x)
