-- array classes of other types are others
def kTy (g : kG) : Prop := ∀ i j, i < 7 → j < 7 → g.2.2.1 i = g.2.2.1 j → i = j
theorem k_tyne {s : State} {c1 : ClassId} {t1 t2 : FieldType} (h1 : ArrOfT s c1 t1) (h2 : ArrOfT s c1 t2) : t1 = t2 := by
  obtain ⟨_, k1, e1, p1, q1⟩ := h1 0 (fun _ => .null)
  obtain ⟨_, k2, e2, p2, q2⟩ := h2 0 (fun _ => .null)
  have e3 : k1 = k2 := Option.some.inj (e1.symm.trans e2)
  rw [e3, q2] at q1
  cases q1
  rfl
theorem k_tyE {g : kG} {s : State} (hE : kE g s) : kTy g := by
  have h := hE.1.2
  have hg : ∀ i, i < 7 → ∃ t, (ktys g)[i]? = some (g.2.2.1 i, t) ∧ ∀ j, j < 7 → (∃ c, (ktys g)[j]? = some (c, t)) → i = j := by
    intro i hi
    rcases (show i = 0 ∨ i = 1 ∨ i = 2 ∨ i = 3 ∨ i = 4 ∨ i = 5 ∨ i = 6 by omega) with rfl | rfl | rfl | rfl | rfl | rfl | rfl
    all_goals refine ⟨_, rfl, fun j hj hc => ?_⟩
    all_goals obtain ⟨c, hc⟩ := hc
    all_goals rcases (show j = 0 ∨ j = 1 ∨ j = 2 ∨ j = 3 ∨ j = 4 ∨ j = 5 ∨ j = 6 by omega) with rfl | rfl | rfl | rfl | rfl | rfl | rfl
    all_goals first | rfl | (exfalso; simp [ktys] at hc)
  intro i j hi hj e
  obtain ⟨t1, a1, b1⟩ := hg i hi
  obtain ⟨t2, a2, b2⟩ := hg j hj
  have z1 := (h i _ a1).1
  have z2 := (h j _ a2).1
  rw [show g.2.2.1 j = g.2.2.1 i from e.symm] at z2
  have z3 : t1 = t2 := k_tyne z1 z2
  exact b1 j hj ⟨_, by rw [z3]; exact a2⟩
theorem k_ty {g : kG} {μ : km_M} {s : State} {H : Heap} {locs : List Loc} (hM : kS g μ s H locs) : kTy g := k_tyE hM.2.1
section KW4
variable {p : Program} {l : Launch} {e : Env} {R : Room} {s : State} {m : MethodId} {args : Array Value} {below : List Frame} {meth : Method} {c : Code} {H : Heap} {locs : List Loc} {cells slots : Nat} {Q : State → Prop}
variable {cc : ByteArray} {pc : Nat} {ls : Array Slot} {rest : List Value} {g : kG} {μ : km_M} {a : Nat}
theorem k_aastN (hx : p.tables.exec = Jvm.exec) (hb : c.code = cc) (hM : kS g μ s H locs) (t0 : Nat) {cA : ClassId} {C : String} {n : Nat} {f f1 : Nat → Option Nat} (ha : μ a = some (.inl (cA, n, .inr (.inr (.inr (.inr f)))))) (ht : (ktys g)[t0]? = some (cA, .object C)) {i : Nat} (hi : i < n) (hn : n < 2 ^ 31) (hf : va_up f i none = f1) (hdg : decode cc pc = .ok (.aastore, 1))
    (kk : ∀ (H1 : Heap) (locs1 : List Loc), kS g (km_up μ a (.inl (cA, n, .inr (.inr (.inr (.inr f1)))))) s H1 locs1 → W p l e R s m args below meth c H1 locs1 cells slots Q (F0 m (pc + 1) ls rest)) : W p l e R s m args below meth c H locs cells slots Q (F0 m pc ls (.null :: .int (nI i) :: .ref a :: rest)) := by
  subst hf
  obtain ⟨ws, hP, hD, hr⟩ := hM.2.2.1
  obtain ⟨q0, hq⟩ := (hr _ _).mp ha
  refine va_astqN hx hb hM.2.1.1 hP hD hM.2.2.2 q0 t0 hq ht (vp_in_nI hi hn) hdg (fun H1 locs1 hP1 hD1 hS1 => kk H1 locs1 (hM.set hD hr hq ?_ ?_ hS1))
  · rw [nI_clamp (by omega)] at hP1
    exact hP1
  · rw [nI_clamp (by omega)] at hD1
    exact hD1
end KW4
/-- cells of a kind stay -/
def kKp (P : va_E → Prop) (μ ν : km_M) : Prop := ∀ x e, μ x = some e → P e → ν x = some e
theorem kKp_r {P : va_E → Prop} (μ : km_M) : kKp P μ μ := fun _ _ h _ => h
theorem kKp_up {P : va_E → Prop} {μ ν : km_M} {a : Nat} {e0 e : va_E} (h : kKp P μ ν) (ha : μ a = some e0) (hn : ¬ P e0) : kKp P μ (km_up ν a e) := fun x y hx hy => (km_n (fun z => by rw [z, ha] at hx; rw [← Option.some.inj hx] at hy; exact hn hy)).trans (h x y hx hy)
theorem kKp_fr {P : va_E → Prop} {μ ν : km_M} {a : Nat} {e : va_E} (h : kKp P μ ν) (ha : μ a = none) : kKp P μ (km_up ν a e) := fun x _ hx hy => (km_n (km_apF hx ha)).trans (h x _ hx hy)
theorem kKp_old {P : va_E → Prop} {μ ν ρ : km_M} (h : kKp P μ ν) (ho : kOld ν ρ) : kKp P μ ρ := fun x e hx hy => ho _ _ (h x e hx hy)
theorem kKp_t {P : va_E → Prop} {μ ν ρ : km_M} (h : kKp P μ ν) (ho : kKp P ν ρ) : kKp P μ ρ := fun x e hx hy => ho _ _ (h x e hx hy) hy
theorem kKp_i {P Q : va_E → Prop} {μ ν : km_M} (h : kKp P μ ν) (hq : ∀ e, Q e → P e) : kKp Q μ ν := fun x e hx hy => h x e hx (hq e hy)
def nMd (e : va_E) : Prop := match e with
  | .inr q => q.1 ≠ 4
  | .inl _ => True
/-- the cells of which the reference's versions are made -/
def mvC (g : kG) (e : va_E) : Prop := match e with
  | .inr q => q.1 = 5 ∨ q.1 = 7
  | .inl q => (q.1 = g.2.2.1 0 ∧ q.2.1 ≤ 8) ∨ (q.1 = g.2.2.1 1 ∧ q.2.1 = 3) ∨ (q.1 = g.2.2.1 5 ∧ q.2.1 = 4)
theorem mvC_n {g : kG} {cl : ClassId} {n : Nat} {x : (Nat → Int32) ⊕ (Nat → Int64) ⊕ (Nat → UInt32) ⊕ (Nat → UInt64) ⊕ (Nat → Option Nat)} (h : 8 < n) : ¬ mvC g (.inl (cl, n, x)) := by
  rintro (⟨_, z⟩ | ⟨_, z⟩ | ⟨_, z⟩)
  · exact absurd z (Nat.not_le.mpr h)
  · have z : n = 3 := z
    omega
  · have z : n = 4 := z
    omega
theorem mvC_o {g : kG} {i : Nat} {x : List Value} (h : i ≠ 5 ∧ i ≠ 7) : ¬ mvC g (.inr (i, x)) := fun z => z.elim h.1 h.2
theorem mvC_ts {g : kG} (hty : kTy g) {x : (Nat → Int32) ⊕ (Nat → Int64) ⊕ (Nat → UInt32) ⊕ (Nat → UInt64) ⊕ (Nat → Option Nat)} : ¬ mvC g (.inl (g.2.2.1 1, 4, x)) := by
  rintro (⟨z, _⟩ | ⟨_, z⟩ | ⟨z, _⟩)
  · exact absurd (hty 1 0 (by decide) (by decide) z) (by decide)
  · exact absurd z (show ¬ (4 : Nat) = 3 by decide)
  · exact absurd (hty 1 5 (by decide) (by decide) z) (by decide)
/-- a version of the reference at an address -/
def kMX (g : kG) (μ : km_M) (a : Nat) (v : kVer) : Prop := ∃ (na ka : Nat) (NN : Nat → Nat) (M : Nat → Option Nat) (sa sv : Nat → Nat) (F : Nat → Nat → Nat), kMV g μ a na ka NN M sa sv F v
theorem kMX_kp {g : kG} {μ ν : km_M} {a : Nat} {v : kVer} (hk : kKp (mvC g) μ ν) (h : kMX g μ a v) : kMX g ν a v := by
  obtain ⟨na, ka, NN, M, sa, sv, F, h1, h2, h3, h4, h5, h6, h7, h8, h9, h10, h11⟩ := h
  refine ⟨na, ka, NN, M, sa, sv, F, hk _ _ h1 (Or.inl rfl), hk _ _ h2 (Or.inr (Or.inl ⟨rfl, rfl⟩)), h3, h4, h5, h6, h7, h8, hk _ _ h9 (Or.inr (Or.inr ⟨rfl, rfl⟩)), h10, fun k xs hx => ?_⟩
  obtain ⟨j1, j2, j3, j4, j5, j6⟩ := h11 k xs hx
  exact ⟨j1, hk _ _ j2 (Or.inr rfl), hk _ _ j3 (Or.inl ⟨rfl, j6.2.1⟩), j4, j5, j6⟩
/-- a test of a range in memory -/
def kEn (g : kG) (ν : km_M) (SG : Nat → Nat) (VE : Nat → Option Nat) (T : Nat → Nat × kVer) (j : Nat) : Prop :=
  SG j = (T j).1 ∧ (T j).1 < 8 ∧ (((T j).1 = 0 ∧ VE j = none) ∨ (¬ (T j).1 = 0 ∧ ∃ a, VE j = some a ∧ kMX g ν a (T j).2))
theorem kEn_kp {g : kG} {μ ν : km_M} {SG : Nat → Nat} {VE : Nat → Option Nat} {T : Nat → Nat × kVer} {j : Nat} (hk : kKp (mvC g) μ ν) (h : kEn g μ SG VE T j) : kEn g ν SG VE T j := by
  obtain ⟨h1, h2, h3⟩ := h
  refine ⟨h1, h2, ?_⟩
  rcases h3 with h3 | ⟨h3, a, h4, h5⟩
  · exact Or.inl h3
  · exact Or.inr ⟨h3, a, h4, kMX_kp hk h5⟩
theorem kEn_up {g : kG} {ν : km_M} {SG : Nat → Nat} {VE : Nat → Option Nat} {T : Nat → Nat × kVer} {j k x : Nat} {y : Option Nat} {q : Nat × kVer} (h : kEn g ν SG VE T j) (hj : j ≠ k) : kEn g ν (va_up SG k x) (va_up VE k y) (va_up T k q) j := by
  unfold kEn
  rw [va_up_ne _ _ hj, va_up_ne _ _ hj, va_up_ne _ _ hj]
  exact h
theorem kEn_up1 {g : kG} {ν : km_M} {SG : Nat → Nat} {VE : Nat → Option Nat} {T : Nat → Nat × kVer} {j k : Nat} {q : Nat × kVer} (h : kEn g ν SG VE T j) (hj : j ≠ k) : kEn g ν SG VE (va_up T k q) j := by
  unfold kEn
  rw [va_up_ne _ _ hj]
  exact h
/-- the tests of a range so far -/
def kRT (g : kG) (ν : km_M) (SG : Nat → Nat) (VE : Nat → Option Nat) (TS : Nat → Nat) (T : Nat → Nat × kVer) (ch n : Nat) : Prop :=
  (∀ j, 4 * ch + n ≤ j → SG j = 0 ∧ VE j = none) ∧ (∀ c q, c < ch → q < TS c → kEn g ν SG VE T (4 * c + q)) ∧ ∀ q, q < n → kEn g ν SG VE T (4 * ch + q)
section RT
variable {g : kG} {ν ρ : km_M} {SG : Nat → Nat} {VE : Nat → Option Nat} {TS : Nat → Nat} {T : Nat → Nat × kVer} {ch n : Nat}
theorem kRT_0 : kRT g ν (fun _ => 0) (fun _ => none) TS T 0 0 := ⟨fun _ _ => ⟨rfl, rfl⟩, fun _ _ h => absurd h (Nat.not_lt_zero _), fun _ h => absurd h (Nat.not_lt_zero _)⟩
theorem kRT_kp (hk : kKp (mvC g) ν ρ) (h : kRT g ν SG VE TS T ch n) : kRT g ρ SG VE TS T ch n := ⟨h.1, fun c q h1 h2 => kEn_kp hk (h.2.1 c q h1 h2), fun q h1 => kEn_kp hk (h.2.2 q h1)⟩
theorem kRT_star {z : kVer} (h : kRT g ν SG VE TS T ch n) (h4 : ∀ c, c < ch → TS c ≤ 4) : kRT g ν SG VE TS (va_up T (4 * ch + n) (0, z)) ch (n + 1) := by
  refine ⟨fun j hj => h.1 j (by omega), fun c q h1 h2 => kEn_up1 (h.2.1 c q h1 h2) (by have := h4 c h1; omega), fun q hq => ?_⟩
  by_cases e : q = n
  · subst e
    unfold kEn
    rw [va_up_self]
    exact ⟨(h.1 _ (Nat.le_refl _)).1, (by decide : (0 : Nat) < 8), Or.inl ⟨rfl, (h.1 _ (Nat.le_refl _)).2⟩⟩
  · exact kEn_up1 (h.2.2 q (by omega)) (by omega)
theorem kRT_test {x a : Nat} {v : kVer} (h : kRT g ν SG VE TS T ch n) (h4 : ∀ c, c < ch → TS c ≤ 4) (hx : x < 8 ∧ ¬ x = 0) (hv : kMX g ν a v) : kRT g ν (va_up SG (4 * ch + n) x) (va_up VE (4 * ch + n) (some a)) TS (va_up T (4 * ch + n) (x, v)) ch (n + 1) := by
  refine ⟨fun j hj => ?_, fun c q h1 h2 => kEn_up (h.2.1 c q h1 h2) (by have := h4 c h1; omega), fun q hq => ?_⟩
  · rw [va_up_ne _ _ (by omega), va_up_ne _ _ (by omega)]
    exact h.1 j (by omega)
  · by_cases e : q = n
    · subst e
      unfold kEn
      rw [va_up_self, va_up_self, va_up_self]
      exact ⟨rfl, hx.1, Or.inr ⟨hx.2, a, rfl, hv⟩⟩
    · exact kEn_up (h.2.2 q (by omega)) (by omega)
theorem kRT_ch (h : kRT g ν SG VE TS T ch n) (hn : n ≤ 4) : kRT g ν SG VE (va_up TS ch n) T (ch + 1) 0 := by
  refine ⟨fun j hj => h.1 j (by omega), fun c q h1 h2 => ?_, fun _ h => absurd h (Nat.not_lt_zero _)⟩
  by_cases e : c = ch
  · subst e
    rw [va_up_self] at h2
    exact h.2.2 q h2
  · rw [va_up_ne _ _ e] at h2
    exact h.2.1 c q (by omega) h2
end RT
theorem up_le {N : Nat → Nat} {k v M : Nat} (h : ∀ j, j < k → N j ≤ M) (hv : v ≤ M) : ∀ j, j < k + 1 → va_up N k v j ≤ M := by
  intro j hj
  by_cases hk : j = k
  · rw [hk, va_up_self]
    exact hv
  · rw [va_up_ne _ _ hk]
    exact h j (by omega)
