-- a contract with a weaker end
theorem met_i {l : Launch} {y : MethodName} {ws : List Cond} {rm : Room} {g : kG} {μ : km_M} {av : List Value} {P P' : Int32 → km_M → Prop} {mc ms : Nat} {fr : Addr → Prop} (h : Met l y ws rm (kPre g μ av) (kQi g P) mc ms fr) (hp : kTy g → ∀ r μ1, P r μ1 → P' r μ1) : Met l y ws rm (kPre g μ av) (kQi g P') mc ms fr := by
  intro p e ha hc hk s m args below hf happ hP hK
  obtain ⟨n, o, h1, h2, h3, ⟨⟨r, u, h4, h5, h6⟩, h7⟩, h8⟩ := h p e ha hc hk s m args below hf happ hP hK
  exact ⟨n, o, h1, h2, h3, ⟨⟨r, u, h4, hp (k_tyE hP.2.2.1) r u h5, h6⟩, h7⟩, h8⟩
-- what the calls answer and leave
def fdR (ln : Nat) : Int32 := if ln + 20 ≤ 400 then nI (ln + 20) else (-3)
def fdB (B : Nat → Nat) (ln : Nat) (v1 v2 v3 v4 v5 : Int32) : Nat → Nat := if ln + 20 ≤ 400 then pb20 B ln v1 v2 v3 v4 v5 else B
def fdL (ln : Nat) : Nat := if ln + 20 ≤ 400 then ln + 20 else ln
def edR (ln : Nat) (n : Int32) : Int32 := if 0 ≤ n.toInt ∧ n.toInt ≤ (ln : Int) then n else (-1)
def edL (ln : Nat) (n : Int32) : Nat := if 0 ≤ n.toInt ∧ n.toInt ≤ (ln : Int) then n.toInt.toNat else ln
def vAt (vs : List kVer) (k : Int32) : kVer := vs.getD k.toInt.toNat (0, 0, 0, [])
def cmR (vs : List kVer) (k q : Int32) : Int32 := if (0 ≤ k.toInt ∧ k.toInt < (vs.length : Int)) ∧ (0 ≤ q.toInt ∧ q.toInt < (vs.length : Int)) then oF (rowOf (vAt vs k)) (rowOf (vAt vs q)) 0 7 else (-2)
def ptR (vs : List kVer) (k q : Int32) : Int32 := if 0 ≤ q.toInt ∧ q.toInt ≤ 3 then (if 0 ≤ k.toInt ∧ k.toInt < (vs.length : Int) then nI (ptV (vAt vs k) q.toInt.toNat) else (-2)) else (-1)
def rkR (vs : List kVer) (k : Int32) : Int32 := if 0 ≤ k.toInt ∧ k.toInt < (vs.length : Int) then nI (rkN (fun j => oF (rowOf (vs.getD j (0, 0, 0, []))) (rowOf (vAt vs k)) 0 7) vs.length) else (-2)
theorem pb20_lt {B : Nat → Nat} (h : ∀ k, B k < 256) (n : Nat) (a b c d f : Int32) : ∀ k, pb20 B n a b c d f k < 256 := pb4_lt (pb4_lt (pb4_lt (pb4_lt (pb4_lt h _ _) _ _) _ _) _ _) _ _
theorem nI_tn {i : Nat} (h : i < 2 ^ 31) : (nI i).toInt.toNat = i := by rw [nI_toInt h]; rfl
theorem vAt_n {vs : List kVer} {i : Nat} (h : i < 2 ^ 31) : vAt vs (nI i) = vs.getD i (0, 0, 0, []) := by unfold vAt; rw [nI_tn h]
theorem gD_s {vs : List kVer} {i : Nat} {v : kVer} (h : vs[i]? = some v) : vs.getD i (0, 0, 0, []) = v := by rw [List.getD_eq_getElem?_getD, h]; rfl
theorem gS_lt {vs : List kVer} {i : Nat} {v : kVer} (h : vs[i]? = some v) : i < vs.length := by
  rcases Nat.lt_or_ge i vs.length with z | z
  · exact z
  · rw [List.getElem?_eq_none z] at h
    cases h
theorem rw_all {vs : List kVer} {lp : Nat → Nat} {LF : Nat → Nat → Int64} (h : ∀ (k : Nat) (v : kVer), vs[k]? = some v → lp k = mLen v.2.2.2 ∧ ∀ j, j < 7 → LF k j = rowOf v j) {i : Nat} (hi : i < vs.length) : lp i = mLen (vs.getD i (0, 0, 0, [])).2.2.2 ∧ ∀ j, j < 7 → LF i j = rwL vs i j := by
  obtain ⟨v, hv⟩ : ∃ x, vs[i]? = some x := ⟨_, List.getElem?_eq_getElem hi⟩
  have e := gD_s hv
  obtain ⟨h1, h2⟩ := h i v hv
  refine ⟨by rw [e]; exact h1, fun j hj => ?_⟩
  show LF i j = rowOf (vs.getD i (0, 0, 0, [])) j
  rw [e]
  exact h2 j hj
theorem in_nI {i n : Nat} (h : i < n) (hn : n < 2 ^ 31) : 0 ≤ (nI i).toInt ∧ (nI i).toInt < (n : Int) := by
  rw [nI_toInt (by omega)]
  omega
theorem cmR_f {vs : List kVer} {k q : Int32} (h : ¬ ((0 ≤ k.toInt ∧ k.toInt < (vs.length : Int)) ∧ (0 ≤ q.toInt ∧ q.toInt < (vs.length : Int)))) : (-2) = cmR vs k q := by unfold cmR; rw [if_neg h]
theorem cmR_t {vs : List kVer} {i j : Nat} (h12 : vs.length ≤ 12) (hi : i < vs.length) (hj : j < vs.length) : cmR vs (nI i) (nI j) = oF (rwL vs i) (rwL vs j) 0 7 := by
  unfold cmR
  rw [if_pos ⟨in_nI hi (by omega), in_nI hj (by omega)⟩, vAt_n (by omega), vAt_n (by omega)]
theorem ptR_f {vs : List kVer} {k q : Int32} (h : ¬ (0 ≤ q.toInt ∧ q.toInt ≤ 3)) : (-1) = ptR vs k q := by unfold ptR; rw [if_neg h]
theorem ptR_g {vs : List kVer} {k q : Int32} (h : 0 ≤ q.toInt ∧ q.toInt ≤ 3) (h2 : ¬ (0 ≤ k.toInt ∧ k.toInt < (vs.length : Int))) : (-2) = ptR vs k q := by unfold ptR; rw [if_pos h, if_neg h2]
theorem ptR_t {vs : List kVer} {i j : Nat} (h12 : vs.length ≤ 12) (hi : i < vs.length) (hj : j ≤ 3) : ptR vs (nI i) (nI j) = nI (ptV (vs.getD i (0, 0, 0, [])) j) := by
  unfold ptR
  rw [if_pos (by rw [nI_toInt (by omega)]; omega), if_pos (in_nI hi (by omega)), vAt_n (by omega), nI_tn (by omega)]
theorem rkR_f {vs : List kVer} {k : Int32} (h : ¬ (0 ≤ k.toInt ∧ k.toInt < (vs.length : Int))) : (-2) = rkR vs k := by unfold rkR; rw [if_neg h]
theorem rkR_t {vs : List kVer} {i : Nat} (h12 : vs.length ≤ 12) (hi : i < vs.length) : rkR vs (nI i) = nI (rkN (fun j => oF (rwL vs j) (rwL vs i) 0 7) vs.length) := by
  unfold rkR
  rw [if_pos (in_nI hi (by omega)), vAt_n (by omega)]
theorem rkN_congr {f h : Nat → Int32} : ∀ {n : Nat}, (∀ k, k < n → f k = h k) → rkN f n = rkN h n := by
  intro n
  induction n with
  | zero => intro _; rfl
  | succ n ih => intro e; rw [rkN, rkN, e n (by omega), ih (fun k hk => e k (by omega))]
theorem pt_row {v : kVer} {j : Nat} (hj : j ≤ 3) (h3 : ¬ j = 3) : (rowOf v j).toInt32 = nI (ptV v j) := by
  unfold ptV
  rcases (show j = 0 ∨ j = 1 ∨ j = 2 by omega) with rfl | rfl | rfl
  · rw [rw0, if_pos rfl]
    exact lN_i _
  · rw [rw1, if_neg (by decide), if_pos rfl]
    exact lN_i _
  · rw [rw2, if_neg (by decide), if_neg (by decide), if_pos rfl]
    exact lN_i _
theorem pt_3 (v : kVer) : ptV v 3 = mLen v.2.2.2 := by
  unfold ptV
  rw [if_neg (by decide), if_neg (by decide), if_neg (by decide)]
theorem hldV_congr {q : Nat × kVer} {F G : Nat → Int64} (h : ∀ k, k < 7 → F k = G k) : hldV q F = hldV q G := by
  unfold hldV hldR
  rw [oF_congr h (fun _ _ => rfl) 7 0 (by omega), oF_congr h (fun _ _ => rfl) 7 0 (by omega)]
theorem tokC_congr {B : Nat → Nat} {LF LG : Nat → Nat → Int64} {cnt a z : Nat} (h : ∀ i, i < cnt → ∀ k, k < 7 → LF i k = LG i k) : tokC B LF cnt a z = tokC B LG cnt a z := by
  unfold tokC
  split
  · rfl
  · congr 1
    funext q
    rw [bN_congr (fun k hk => hldV_congr (h k hk))]
theorem mtR_of {B : Nat → Nat} {ln : Nat} {vs : List kVer} {LF : Nat → Nat → Int64} (h : ∀ i, i < vs.length → ∀ k, k < 7 → LF i k = rwL vs i k) : mtC (fun k => tokC B LF vs.length ((spw B ln).2.1 k) ((spw B ln).2.2 k)) (bN (fun _ => true) vs.length) (spw B ln).1 0 (nI 0) 1 0 (bN (fun _ => true) vs.length) = mtR B ln vs := by
  unfold mtR
  exact mtC_congr _ _ _ _ _ _ (fun k _ _ => tokC_congr h)
theorem fd_t {B : Nat → Nat} {ln : Nat} {v1 v2 v3 v4 v5 : Int32} (h : ln + 20 ≤ 400) : nI (ln + 20) = fdR ln ∧ fdB B ln v1 v2 v3 v4 v5 = pb20 B ln v1 v2 v3 v4 v5 ∧ fdL ln = ln + 20 := ⟨(if_pos h).symm, if_pos h, if_pos h⟩
theorem fd_f {B : Nat → Nat} {ln : Nat} {v1 v2 v3 v4 v5 : Int32} (h : ¬ ln + 20 ≤ 400) : (-3) = fdR ln ∧ fdB B ln v1 v2 v3 v4 v5 = B ∧ fdL ln = ln := ⟨(if_neg h).symm, if_neg h, if_neg h⟩
theorem ed_t {ln j : Nat} (hj : j ≤ ln) (h4 : ln ≤ 400) : nI j = edR ln (nI j) ∧ edL ln (nI j) = j := by
  have h : 0 ≤ (nI j).toInt ∧ (nI j).toInt ≤ (ln : Int) := by
    rw [nI_toInt (by omega)]
    omega
  unfold edR edL
  rw [if_pos h, if_pos h, nI_tn (by omega)]
  exact ⟨rfl, rfl⟩
theorem ed_f {ln : Nat} {n : Int32} (h : ¬ (0 ≤ n.toInt ∧ n.toInt ≤ (ln : Int))) : (-1) = edR ln n ∧ edL ln n = ln := ⟨(if_neg h).symm, if_neg h⟩
theorem lst_add {vs : List kVer} {lp : Nat → Nat} {LF : Nat → Nat → Int64} {v : kVer} {cp : Nat} {CF : Nat → Int64} (h : ∀ (k : Nat) (v : kVer), vs[k]? = some v → lp k = mLen v.2.2.2 ∧ ∀ j, j < 7 → LF k j = rowOf v j) (hc : cp = mLen v.2.2.2) (hF : ∀ j, j < 7 → CF j = rowOf v j) :
    ∀ (k : Nat) (x : kVer), (vs ++ [v])[k]? = some x → va_up lp vs.length cp k = mLen x.2.2.2 ∧ ∀ j, j < 7 → va_up LF vs.length CF k j = rowOf x j := by
  intro k x hk
  by_cases hl : k = vs.length
  · subst hl
    rw [List.getElem?_append_right (Nat.le_refl _), Nat.sub_self] at hk
    have hk : v = x := Option.some.inj hk
    rw [va_up_self, va_up_self, ← hk]
    exact ⟨hc, hF⟩
  · have hlt : k < vs.length := by
      rcases Nat.lt_or_ge k vs.length with z | z
      · exact z
      · rw [List.getElem?_eq_none (by rw [List.length_append]; simp; omega)] at hk
        cases hk
    rw [List.getElem?_append_left hlt] at hk
    rw [va_up_ne _ _ hl, va_up_ne _ _ hl]
    exact h k x hk
theorem cpy7 {f h : Nat → Int64} {j : Nat} (hj : j < 7) : va_cpy f h 0 0 7 j = f j := by
  simp only [va_cpy, Nat.zero_le, true_and, Nat.zero_add, Nat.sub_zero]
  rw [if_pos hj]
