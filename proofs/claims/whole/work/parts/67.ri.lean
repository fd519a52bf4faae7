-- the reference's state in memory
def kLs (g : kG) (μ : km_M) (V : Nat → Option Nat) (vs : List kVer) : Prop := ∀ (k : Nat) (v : kVer), vs[k]? = some v → ∃ a, V k = some a ∧ kMX g μ a v
theorem kLs_kp {g : kG} {μ ν : km_M} {V : Nat → Option Nat} {vs : List kVer} (hk : kKp (mvC g) μ ν) (h : kLs g μ V vs) : kLs g ν V vs := fun k v hv => by
  obtain ⟨a, h1, h2⟩ := h k v hv
  exact ⟨a, h1, kMX_kp hk h2⟩
theorem kLs_0 {g : kG} {μ : km_M} {V : Nat → Option Nat} : kLs g μ V [] := fun k v h => by simp at h
theorem kLs_add {g : kG} {μ : km_M} {V : Nat → Option Nat} {vs : List kVer} {a : Nat} {v : kVer} (h : kLs g μ V vs) (hv : kMX g μ a v) : kLs g μ (va_up V vs.length (some a)) (vs ++ [v]) := by
  intro k x hk
  by_cases hl : k = vs.length
  · subst hl
    rw [List.getElem?_append_right (Nat.le_refl _), Nat.sub_self] at hk
    have hk : v = x := Option.some.inj hk
    rw [va_up_self, ← hk]
    exact ⟨a, rfl, hv⟩
  · have hlt : k < vs.length := by
      rcases Nat.lt_or_ge k vs.length with z | z
      · exact z
      · rw [List.getElem?_eq_none (by rw [List.length_append]; simp; omega)] at hk
        cases hk
    rw [List.getElem?_append_left hlt] at hk
    rw [va_up_ne _ _ hl]
    exact h k x hk
/-- the cells that are the class's; the reference's -/
def clsC (g : kG) (e : va_E) : Prop := match e with
  | .inr q => q.1 < 4
  | .inl q => q.1 = g.2.2.1 2 ∨ q.1 = g.2.2.1 4 ∨ (q.1 = g.2.2.1 1 ∧ q.2.1 = 200) ∨ (q.1 = g.2.2.1 0 ∧ q.2.1 = 400)
def modC (g : kG) (e : va_E) : Prop := match e with
  | .inr q => 4 ≤ q.1
  | .inl q => q.1 = g.2.2.1 3 ∨ q.1 = g.2.2.1 5 ∨ q.1 = g.2.2.1 6 ∨ (q.1 = g.2.2.1 1 ∧ q.2.1 = 3) ∨ (q.1 = g.2.2.1 0 ∧ q.2.1 ≤ 8)
theorem mv_mod {g : kG} (e : va_E) (h : mvC g e) : modC g e := by
  cases e with
  | inl q =>
    rcases h with h | h | h
    · exact Or.inr (Or.inr (Or.inr (Or.inr h)))
    · exact Or.inr (Or.inr (Or.inr (Or.inl h)))
    · exact Or.inr (Or.inl h.1)
  | inr q =>
    have h : q.1 = 5 ∨ q.1 = 7 := h
    show 4 ≤ q.1
    omega
abbrev kArr : Type := (Nat → Int32) ⊕ (Nat → Int64) ⊕ (Nat → UInt32) ⊕ (Nat → UInt64) ⊕ (Nat → Option Nat)
theorem clsC_o {g : kG} {i : Nat} {x : List Value} (h : 4 ≤ i) : ¬ clsC g (.inr (i, x)) := fun z => absurd z (Nat.not_lt.mpr h)
theorem clsC_a {g : kG} (hty : kTy g) {i n : Nat} {x : kArr} (h : i = 3 ∨ i = 5 ∨ i = 6) : ¬ clsC g (.inl (g.2.2.1 i, n, x)) := by
  rintro (z | z | ⟨z, _⟩ | ⟨z, _⟩)
  · exact absurd (hty i 2 (by omega) (by decide) z) (by omega)
  · exact absurd (hty i 4 (by omega) (by decide) z) (by omega)
  · exact absurd (hty i 1 (by omega) (by decide) z) (by omega)
  · exact absurd (hty i 0 (by omega) (by decide) z) (by omega)
theorem modC_o {g : kG} {i : Nat} {x : List Value} (h : i < 4) : ¬ modC g (.inr (i, x)) := fun z => absurd z (Nat.not_le.mpr h)
theorem modC_l {g : kG} (hty : kTy g) {i n : Nat} {x : kArr} (h : i = 2 ∨ i = 4) : ¬ modC g (.inl (g.2.2.1 i, n, x)) := by
  rintro (z | z | z | ⟨z, _⟩ | ⟨z, _⟩)
  · exact absurd (hty i 3 (by omega) (by decide) z) (by omega)
  · exact absurd (hty i 5 (by omega) (by decide) z) (by omega)
  · exact absurd (hty i 6 (by omega) (by decide) z) (by omega)
  · exact absurd (hty i 1 (by omega) (by decide) z) (by omega)
  · exact absurd (hty i 0 (by omega) (by decide) z) (by omega)
theorem modC_i {g : kG} (hty : kTy g) {x : kArr} : ¬ modC g (.inl (g.2.2.1 1, 200, x)) := by
  rintro (z | z | z | ⟨_, z⟩ | ⟨z, _⟩)
  · exact absurd (hty 1 3 (by decide) (by decide) z) (by decide)
  · exact absurd (hty 1 5 (by decide) (by decide) z) (by decide)
  · exact absurd (hty 1 6 (by decide) (by decide) z) (by decide)
  · exact absurd z (show ¬ (200 : Nat) = 3 by decide)
  · exact absurd (hty 1 0 (by decide) (by decide) z) (by decide)
theorem modC_b {g : kG} (hty : kTy g) {x : kArr} : ¬ modC g (.inl (g.2.2.1 0, 400, x)) := by
  rintro (z | z | z | ⟨z, _⟩ | ⟨_, z⟩)
  · exact absurd (hty 0 3 (by decide) (by decide) z) (by decide)
  · exact absurd (hty 0 5 (by decide) (by decide) z) (by decide)
  · exact absurd (hty 0 6 (by decide) (by decide) z) (by decide)
  · exact absurd (hty 0 1 (by decide) (by decide) z) (by decide)
  · exact absurd z (show ¬ (400 : Nat) ≤ 8 by decide)
theorem kWD_kp {P : va_E → Prop} {g : kG} {μ ν : km_M} {ma wd : Nat} {e1 e2 : va_E} {M : Nat → Option Nat} {sa va : Nat → Nat} {h : Nat → Nat → Nat} {B S1 E1 : Nat → Nat} {w : Nat} (hI : kWD g μ ν ma wd M sa va h B S1 E1 w) (h1 : μ ma = some e1) (n1 : ¬ P e1) (h2 : μ wd = some e2) (n2 : ¬ P e2) : kKp P μ ν := fun x e hx hp =>
  hI.2.1 x e hx (fun z => by rw [z, h1] at hx; rw [← Option.some.inj hx] at hp; exact n1 hp) (fun z => by rw [z, h2] at hx; rw [← Option.some.inj hx] at hp; exact n2 hp)
def kRI (g : kG) (μ : km_M) (ma tp wd li : Nat) (B : Nat → Nat) (ln : Nat) (vs : List kVer) : Prop :=
  (∀ k, B k < 256) ∧ ln ≤ 400 ∧ vs.length ≤ 12 ∧ (∃ ws at0, μ ma = some (.inr (4, [.ref tp, .int (nI ln), .ref wd, .int (nI ws), .int (nI at0), .ref li, .int (nI vs.length)]))) ∧ μ tp = some (.inl (g.2.2.1 3, 400, .inl (fun j => nI (B j)))) ∧ (∃ M, μ wd = some (.inl (g.2.2.1 5, 400, .inr (.inr (.inr (.inr M)))))) ∧ ∃ V, μ li = some (.inl (g.2.2.1 6, 12, .inr (.inr (.inr (.inr V))))) ∧ kLs g μ V vs
theorem kRI_kp {g : kG} {μ ν : km_M} {ma tp wd li : Nat} {B : Nat → Nat} {ln : Nat} {vs : List kVer} (hk : kKp (modC g) μ ν) (h : kRI g μ ma tp wd li B ln vs) : kRI g ν ma tp wd li B ln vs := by
  obtain ⟨h1, h2, h3, ⟨ws, at0, h4⟩, h5, ⟨M, h6⟩, V, h7, h8⟩ := h
  exact ⟨h1, h2, h3, ⟨ws, at0, hk _ _ h4 (Nat.le_refl 4)⟩, hk _ _ h5 (Or.inl rfl), ⟨M, hk _ _ h6 (Or.inr (Or.inl rfl))⟩, V, hk _ _ h7 (Or.inr (Or.inr (Or.inl rfl))), kLs_kp (kKp_i hk mv_mod) h8⟩
theorem kCI_kp {g : kG} {μ ν : km_M} {xa ta ba sa oa la cd cr te bo br co er : Nat} {lv lr : Nat → Nat} {B : Nat → Nat} {ln : Nat} {vs : List kVer} (hk : kKp (clsC g) μ ν) (h : kCI g μ xa ta ba sa oa la cd cr te bo br co er lv lr B ln vs) : kCI g ν xa ta ba sa oa la cd cr te bo br co er lv lr B ln vs := by
  obtain ⟨h1, h2, h3, h4, ⟨ai, zi, S, E, h5, h6, h7⟩, h8, ⟨V, h9, h10⟩, ⟨lp, LF, h11, h12⟩, ⟨cp, CF, h13, h14⟩, k, bp, Fb, ep, Fc, h15, h16, h17, h18, h19, h20⟩ := h
  have o : ∀ {x i : Nat} {fs : List Value}, μ x = some (.inr (i, fs)) → i < 4 → ν x = some (.inr (i, fs)) := fun hx hi => hk _ _ hx hi
  have r : ∀ {x n : Nat} {y : kArr}, μ x = some (.inl (g.2.2.1 2, n, y)) → ν x = some (.inl (g.2.2.1 2, n, y)) := fun hx => hk _ _ hx (Or.inl rfl)
  exact ⟨h1, h2, h3, o h4 (by decide), ⟨ai, zi, S, E, o h5 (by decide), hk _ _ h6 (Or.inr (Or.inr (Or.inl ⟨rfl, rfl⟩))), hk _ _ h7 (Or.inr (Or.inr (Or.inl ⟨rfl, rfl⟩)))⟩, hk _ _ h8 (Or.inr (Or.inr (Or.inr ⟨rfl, rfl⟩))), ⟨V, hk _ _ h9 (Or.inr (Or.inl rfl)), h10⟩, ⟨lp, LF, fun q hq => ⟨o (h11 q hq).1 (by decide), r (h11 q hq).2⟩, h12⟩, ⟨cp, CF, o h13 (by decide), r h14⟩, k, bp, Fb, ep, Fc, h15, o h16 (by decide), o h17 (by decide), r h18, o h19 (by decide), r h20⟩
/-- what take leaves; what match answers -/
def tkR (B : Nat → Nat) (ln : Nat) (vs : List kVer) : Int32 × List kVer := match tkV B ln with
  | none => ((-4), vs)
  | some v => if vs.length = 12 then ((-3), vs) else (nI vs.length, vs ++ [v])
abbrev rwL (vs : List kVer) : Nat → Nat → Int64 := fun k => rowOf (vs.getD k (0, 0, 0, []))
def mtR (B : Nat → Nat) (ln : Nat) (vs : List kVer) : Int32 := mtC (fun k => tokC B (rwL vs) vs.length ((spw B ln).2.1 k) ((spw B ln).2.2 k)) (bN (fun _ => true) vs.length) (spw B ln).1 0 (nI 0) 1 0 (bN (fun _ => true) vs.length)
theorem tkR_n {B : Nat → Nat} {ln : Nat} {vs : List kVer} (h : tkV B ln = none) : tkR B ln vs = ((-4), vs) := by unfold tkR; rw [h]
theorem tkR_f {B : Nat → Nat} {ln : Nat} {vs : List kVer} {v : kVer} (h : tkV B ln = some v) (h2 : vs.length = 12) : tkR B ln vs = ((-3), vs) := by unfold tkR; rw [h]; exact if_pos h2
theorem tkR_s {B : Nat → Nat} {ln : Nat} {vs : List kVer} {v : kVer} (h : tkV B ln = some v) (h2 : ¬ vs.length = 12) : tkR B ln vs = (nI vs.length, vs ++ [v]) := by unfold tkR; rw [h]; exact if_neg h2
theorem tk_w {B S1 E1 : Nat → Nat} {ln w : Nat} {f : Nat → Nat} (hsp : spl B (fun _ => 0) (fun _ => 0) ln = (w, S1, E1)) (hw : w = 1) (hlt : S1 0 < E1 0) (hf : ∀ j, j < E1 0 - S1 0 → f j = B (S1 0 + j)) : tkV B ln = vVer f 0 (E1 0 - S1 0) := by
  have e : spw B ln = (w, S1, E1) := hsp
  unfold tkV
  rw [e, if_pos hw]
  have h := vVer_shift (k := 0) hf (Nat.zero_le _)
  rw [show S1 0 + 0 = S1 0 from rfl, show S1 0 + (E1 0 - S1 0) = E1 0 by omega] at h
  exact h
theorem tk_w0 {B S1 E1 : Nat → Nat} {ln w : Nat} (hsp : spl B (fun _ => 0) (fun _ => 0) ln = (w, S1, E1)) (hw : ¬ w = 1) : tkV B ln = none := by
  have e : spw B ln = (w, S1, E1) := hsp
  exact tk_n (by rw [e]; exact hw)
theorem spl_w {B S1 E1 : Nat → Nat} {ln w : Nat} (hsp : spl B (fun _ => 0) (fun _ => 0) ln = (w, S1, E1)) : 2 * w ≤ ln + 1 ∧ ∀ k, k < w → S1 k < E1 k ∧ E1 k ≤ ln := by
  have h1 := (spl_b B (fun _ => 0) (fun _ => 0) ln).1
  have h2 := spl_ok B (fun _ => 0) (fun _ => 0) ln
  rw [hsp] at h1 h2
  exact ⟨h1, h2⟩
theorem mtR_w {B S1 E1 : Nat → Nat} {ln w : Nat} {vs : List kVer} (hsp : spl B (fun _ => 0) (fun _ => 0) ln = (w, S1, E1)) : mtR B ln vs = mtC (fun k => tokC B (rwL vs) vs.length (S1 k) (E1 k)) (bN (fun _ => true) vs.length) w 0 (nI 0) 1 0 (bN (fun _ => true) vs.length) := by
  have e : spw B ln = (w, S1, E1) := hsp
  unfold mtR
  rw [e]
theorem chO_iff {T : Nat → Nat × kVer} {TS : Nat → Nat} {F : Nat → Int64} {ch : Nat} : chO T TS F ch = true ↔ ∃ c, c < ch ∧ ∀ z, z < TS c → hldV (T (4 * c + z)) F = true := by
  unfold chO chA
  rw [cO_iff]
  simp only [cA_iff]
theorem or_z (x : Int32) : x ||| nI 0 = x := by
  apply Int32.toBitVec_inj.mp
  rw [Int32.toBitVec_or, show (nI 0).toBitVec = 0#32 by decide +kernel]
  simp
abbrev kD : Type := Nat × Nat × Nat × (Nat → Nat) × (Nat → Option Nat) × (Nat → Nat) × (Nat → Nat) × (Nat → Nat → Nat)
def kMD (g : kG) (μ : km_M) (d : kD) (v : kVer) : Prop := kMV g μ d.1 d.2.1 d.2.2.1 d.2.2.2.1 d.2.2.2.2.1 d.2.2.2.2.2.1 d.2.2.2.2.2.2.1 d.2.2.2.2.2.2.2 v
theorem kSk (g : kG) (μ : km_M) (VE : Nat → Option Nat) (X : Nat → kVer) : ∃ f : Nat → kD, ∀ j a, VE j = some a → kMX g μ a (X j) → VE j = some (f j).1 ∧ kMD g μ (f j) (X j) := by
  have h : ∀ j, ∃ d : kD, ∀ a, VE j = some a → kMX g μ a (X j) → VE j = some d.1 ∧ kMD g μ d (X j) := by
    intro j
    by_cases hj : ∃ a, VE j = some a ∧ kMX g μ a (X j)
    · obtain ⟨a, h1, na, ka, NN, M, sa, sv, F, h2⟩ := hj
      exact ⟨(a, na, ka, NN, M, sa, sv, F), fun _ _ _ => ⟨h1, h2⟩⟩
    · exact ⟨(0, 0, 0, fun _ => 0, fun _ => none, fun _ => 0, fun _ => 0, fun _ _ => 0), fun a h1 h2 => absurd ⟨a, h1, h2⟩ hj⟩
  exact ⟨fun j => Classical.choose (h j), fun j => Classical.choose_spec (h j)⟩
theorem kEn_sk {g : kG} {μ : km_M} {SG TS : Nat → Nat} {VE : Nat → Option Nat} {T : Nat → Nat × kVer} {ch : Nat} (h : ∀ c q, c < ch → q < TS c → kEn g μ SG VE T (4 * c + q)) : ∃ f : Nat → kD, ∀ c q, c < ch → q < TS c → SG (4 * c + q) = (T (4 * c + q)).1 ∧ (T (4 * c + q)).1 < 8 ∧ (((T (4 * c + q)).1 = 0 ∧ VE (4 * c + q) = none) ∨ (¬ (T (4 * c + q)).1 = 0 ∧ VE (4 * c + q) = some (f (4 * c + q)).1 ∧ kMD g μ (f (4 * c + q)) (T (4 * c + q)).2)) := by
  obtain ⟨f, hf⟩ := kSk g μ VE (fun j => (T j).2)
  refine ⟨f, fun c q h1 h2 => ?_⟩
  obtain ⟨h3, h4, h5⟩ := h c q h1 h2
  refine ⟨h3, h4, ?_⟩
  rcases h5 with h5 | ⟨h5, a, h6, h7⟩
  · exact Or.inl h5
  · exact Or.inr ⟨h5, hf _ a h6 h7⟩
theorem kLs_sk {g : kG} {μ : km_M} {V : Nat → Option Nat} {vs : List kVer} (h : kLs g μ V vs) : ∃ f : Nat → kD, ∀ (k : Nat) (v : kVer), vs[k]? = some v → V k = some (f k).1 ∧ kMD g μ (f k) v := by
  obtain ⟨f, hf⟩ := kSk g μ V (fun j => vs.getD j (0, 0, 0, []))
  refine ⟨f, fun k v hv => ?_⟩
  obtain ⟨a, h1, h2⟩ := h k v hv
  have e : vs.getD k (0, 0, 0, []) = v := by rw [List.getD_eq_getElem?_getD, hv]; rfl
  have h3 := hf k a h1 (by show kMX g μ a (vs.getD k (0, 0, 0, [])); rw [e]; exact h2)
  rw [e] at h3
  exact h3
theorem mv_nMd {g : kG} (e : va_E) (h : mvC g e) : nMd e := by
  cases e with
  | inl q => exact trivial
  | inr q =>
    have h : q.1 = 5 ∨ q.1 = 7 := h
    show q.1 ≠ 4
    omega
theorem cl_nMd {g : kG} (e : va_E) (h : clsC g e) : nMd e := by
  cases e with
  | inl q => exact trivial
  | inr q =>
    have h : q.1 < 4 := h
    show q.1 ≠ 4
    omega
