-- the words of a tape don't depend on what the two arrays held before
theorem spl_ind (B S E S' E' : Nat → Nat) : ∀ i, (spl B S E i).1 = (spl B S' E' i).1 ∧ ∀ k, k < (spl B S E i).1 → (spl B S E i).2.1 k = (spl B S' E' i).2.1 k ∧ (spl B S E i).2.2 k = (spl B S' E' i).2.2 k := by
  intro i
  induction i with
  | zero => exact ⟨rfl, fun k h => absurd h (Nat.not_lt_zero _)⟩
  | succ i ih =>
    obtain ⟨h1, h2⟩ := ih
    rw [spl, spl]
    by_cases hb : B i = 32
    · rw [if_pos hb, if_pos hb]
      exact ⟨h1, h2⟩
    · rw [if_neg hb, if_neg hb]
      by_cases hs : i = 0 ∨ B (i - 1) = 32
      · rw [if_pos hs, if_pos hs]
        refine ⟨by simp only; omega, fun k hk => ?_⟩
        simp only at hk ⊢
        rw [← h1]
        by_cases hkw : k = (spl B S E i).1
        · rw [hkw, va_up_self, va_up_self, va_up_self, va_up_self]
          exact ⟨rfl, rfl⟩
        · rw [va_up_ne _ _ hkw, va_up_ne _ _ hkw, va_up_ne _ _ hkw, va_up_ne _ _ hkw]
          exact h2 k (by omega)
      · rw [if_neg hs, if_neg hs]
        refine ⟨h1, fun k hk => ?_⟩
        simp only at hk ⊢
        rw [← h1]
        refine ⟨(h2 k hk).1, ?_⟩
        by_cases hkw : k = (spl B S E i).1 - 1
        · rw [hkw, va_up_self, va_up_self]
        · rw [va_up_ne _ _ hkw, va_up_ne _ _ hkw]
          exact (h2 k hk).2
theorem spl_ok (B S E : Nat → Nat) : ∀ i k, k < (spl B S E i).1 → (spl B S E i).2.1 k < (spl B S E i).2.2 k ∧ (spl B S E i).2.2 k ≤ i := by
  intro i
  induction i with
  | zero => intro k h; exact absurd h (Nat.not_lt_zero _)
  | succ i ih =>
    intro k hk
    have hb3 := spl_b B S E i
    rw [spl] at hk ⊢
    by_cases hb : B i = 32
    · rw [if_pos hb] at hk ⊢
      have h := ih k hk
      exact ⟨h.1, by omega⟩
    · rw [if_neg hb] at hk ⊢
      by_cases hs : i = 0 ∨ B (i - 1) = 32
      · rw [if_pos hs] at hk ⊢
        simp only at hk ⊢
        by_cases hkw : k = (spl B S E i).1
        · rw [hkw, va_up_self, va_up_self]
          omega
        · rw [va_up_ne _ _ hkw, va_up_ne _ _ hkw]
          have h := ih k (by omega)
          exact ⟨h.1, by omega⟩
      · rw [if_neg hs] at hk ⊢
        simp only at hk ⊢
        by_cases hkw : k = (spl B S E i).1 - 1
        · have h := ih k hk
          rw [hkw, va_up_self]
          rw [hkw] at h
          omega
        · rw [va_up_ne _ _ hkw]
          have h := ih k hk
          exact ⟨h.1, by omega⟩
abbrev spw (B : Nat → Nat) (n : Nat) : Nat × (Nat → Nat) × (Nat → Nat) := spl B (fun _ => 0) (fun _ => 0) n
/-- the version that a tape is, if it is one -/
def tkV (B : Nat → Nat) (n : Nat) : Option kVer := if (spw B n).1 = 1 then vVer B ((spw B n).2.1 0) ((spw B n).2.2 0) else none
theorem tk_n {B : Nat → Nat} {n : Nat} (h : ¬ (spw B n).1 = 1) : tkV B n = none := if_neg h
theorem tk_s {B : Nat → Nat} {n a z : Nat} (h : (spw B n).1 = 1) (ha : a = (spw B n).2.1 0) (hz : z = (spw B n).2.2 0) : tkV B n = vVer B a z := by
  unfold tkV
  rw [if_pos h, ha, hz]
/-- a bit for each place that has the property -/
def bN (f : Nat → Bool) : Nat → Int32
  | 0 => nI 0
  | n + 1 => if f n then bN f n ||| (nI 1 <<< (nI n &&& 31)) else bN f n
theorem bN_t {f : Nat → Bool} {n : Nat} (h : f n = true) : bN f (n + 1) = bN f n ||| (nI 1 <<< (nI n &&& 31)) := by rw [bN, if_pos h]
theorem bN_f {f : Nat → Bool} {n : Nat} (h : ¬ f n = true) : bN f (n + 1) = bN f n := by rw [bN, if_neg h]
theorem bN_all : ∀ n, n ≤ 12 → (nI 1 <<< (nI n &&& 31)) - nI 1 = bN (fun _ => true) n := by decide +kernel
/-- whether a test holds for a row -/
def hldR (k : Nat) (Fb Fc F : Nat → Int64) : Bool := decide (¬ enO k (oF F Fb 0 7) = 0 ∧ ((k = 6 ∨ k = 7) → ¬ 0 ≤ oF F Fc 0 7))
theorem oF_congr {F F' G G' : Nat → Int64} (h : ∀ k, k < 7 → F k = F' k) (h' : ∀ k, k < 7 → G k = G' k) : ∀ n i, i + n ≤ 7 → oF F G i n = oF F' G' i n := by
  intro n
  induction n with
  | zero => intro i _; rfl
  | succ n ih =>
    intro i hi
    rw [oF, oF, h i (by omega), h' i (by omega), ih (i + 1) (by omega)]
theorem hldR_congr {k : Nat} {Fb Fb' Fc Fc' F : Nat → Int64} (h : ∀ k, k < 7 → Fb k = Fb' k) (h' : ∀ k, k < 7 → Fc k = Fc' k) : hldR k Fb Fc F = hldR k Fb' Fc' F := by
  unfold hldR
  rw [oF_congr (fun _ _ => rfl) h 7 0 (by omega), oF_congr (fun _ _ => rfl) h' 7 0 (by omega)]
theorem hldR_0 (Fb Fc F : Nat → Int64) : hldR 0 Fb Fc F = true := by
  unfold hldR
  apply decide_eq_true
  refine ⟨?_, fun h => by omega⟩
  unfold enO
  repeat' split
  all_goals decide
/-- a word as a test: its sign and its version ('*' has the sign 0) -/
def tstP (B : Nat → Nat) (a z : Nat) : Option (Nat × kVer) := if (sgP B a z).1 = 0 then (if (sgP B a z).2 = z then some (0, (0, 0, 0, [])) else none) else (vVer B (sgP B a z).2 z).map fun v => ((sgP B a z).1, v)
def hldV (q : Nat × kVer) (F : Nat → Int64) : Bool := hldR q.1 (rowOf q.2) (n3F (fun _ => 0) (ceT q.1 q.2.1 q.2.2.1 q.2.2.2.1)) F
/-- a word of a range: none: no test; some none: the word ||; else a bit for each version that the test has -/
def tokC (B : Nat → Nat) (LF : Nat → Nat → Int64) (cnt a z : Nat) : Option (Option Int32) := if z - a = 2 ∧ B a = 124 ∧ B (a + 1) = 124 then some none else (tstP B a z).map fun q => some (bN (fun k => hldV q (LF k)) cnt)
/-- what match answers to words from the i-th on -/
def mtC (T : Nat → Option (Option Int32)) (al : Int32) : Nat → Nat → Int32 → Nat → Nat → Int32 → Int32
  | 0, _, fo, _, te, cb => if te = 0 then (-4) else fo ||| cb
  | n + 1, i, fo, ch, te, cb => match T i with
    | none => (-4)
    | some none => if te = 0 ∨ ch = 4 then (-4) else mtC T al n (i + 1) (fo ||| cb) (ch + 1) 0 al
    | some (some b) => if te = 4 then (-4) else mtC T al n (i + 1) fo ch (te + 1) (cb &&& b)
theorem mt_0 {T : Nat → Option (Option Int32)} {al : Int32} {i : Nat} {fo : Int32} {ch te : Nat} {cb : Int32} : mtC T al 0 i fo ch te cb = if te = 0 then (-4) else fo ||| cb := rfl
theorem mt_n {T : Nat → Option (Option Int32)} {al : Int32} {n i : Nat} {fo : Int32} {ch te : Nat} {cb : Int32} (h : T i = none) : mtC T al (n + 1) i fo ch te cb = (-4) := by rw [mtC, h]
theorem mt_oF {T : Nat → Option (Option Int32)} {al : Int32} {n i : Nat} {fo : Int32} {ch te : Nat} {cb : Int32} (h : T i = some none) (h2 : te = 0 ∨ ch = 4) : mtC T al (n + 1) i fo ch te cb = (-4) := by rw [mtC, h]; exact if_pos h2
theorem mt_oT {T : Nat → Option (Option Int32)} {al : Int32} {n i : Nat} {fo : Int32} {ch te : Nat} {cb : Int32} (h : T i = some none) (h2 : ¬ (te = 0 ∨ ch = 4)) : mtC T al (n + 1) i fo ch te cb = mtC T al n (i + 1) (fo ||| cb) (ch + 1) 0 al := by rw [mtC, h]; exact if_neg h2
theorem mt_t4 {T : Nat → Option (Option Int32)} {al : Int32} {n i : Nat} {fo : Int32} {ch te : Nat} {cb : Int32} (h : ¬ T i = some none) (h2 : te = 4) : mtC T al (n + 1) i fo ch te cb = (-4) := by
  rw [mtC]
  split
  · rfl
  · rename_i z; exact absurd z h
  · exact if_pos h2
theorem mt_tT {T : Nat → Option (Option Int32)} {al : Int32} {n i : Nat} {fo : Int32} {ch te : Nat} {cb b : Int32} (h : T i = some (some b)) (h2 : ¬ te = 4) : mtC T al (n + 1) i fo ch te cb = mtC T al n (i + 1) fo ch (te + 1) (cb &&& b) := by rw [mtC, h]; exact if_neg h2
set_option maxHeartbeats 800000 in
set_option maxRecDepth 100000 in
theorem mVR_addVersionOfTape (l : Launch) (g : kG) (μ : km_M) {xa ta la cd te cnt : Nat} (hxa : μ xa = some (.inr (3, [.ref ta, .ref la, .ref cd, .ref te, .int (nI cnt)]))) (hcnt : cnt ≤ 12) {ba sa oa ln ai zi : Nat} (ht : μ ta = some (.inr (1, [.ref ba, .ref sa, .ref oa, .int (nI ln), .int (nI ai), .int (nI zi)]))) {B : Nat → Nat} (hB : ∀ k, B k < 256) (hb0 : μ ba = some (.inl (g.2.2.1 0, 400, .inl (fun j => sb (B j))))) {S E : Nat → Nat} (hs0 : μ sa = some (.inl (g.2.2.1 1, 200, .inl (fun j => nI (S j))))) (ho0 : μ oa = some (.inl (g.2.2.1 1, 200, .inl (fun j => nI (E j))))) (hso : sa ≠ oa) (hln : ln ≤ 400) {V : Nat → Option Nat} {lv lr lp : Nat → Nat} {LF : Nat → Nat → Int64} (hla : μ la = some (.inl (g.2.2.1 4, 12, .inr (.inr (.inr (.inr V)))))) (hV : ∀ k, k < 12 → V k = some (lv k)) (hL : ∀ k, k < 12 → μ (lv k) = some (.inr (2, [.ref (lr k), .int (nI (lp k))])) ∧ μ (lr k) = some (.inl (g.2.2.1 2, 7, .inr (.inl (LF k))))) {cr cp : Nat} {CF : Nat → Int64} (hcd : μ cd = some (.inr (2, [.ref cr, .int (nI cp)]))) (hcr : μ cr = some (.inl (g.2.2.1 2, 7, .inr (.inl CF)))) (nlc : ∀ k, k < 12 → lv k ≠ cd) (nlr : ∀ k, k < 12 → lr k ≠ cr) : Met l yVR_addVersionOfTape (Cond.code yVR_addVersionOfTape cVR_addVersionOfTape 1 (some .int) :: Wd) ({ frames := 4, cells := 0, slots := 0, locals := 93 } : Room) (kPre g μ [.ref xa]) (kQi g (fun (r : Int32) (μ1 : km_M) => ∃ (S1 E1 : Nat → Nat) (a1 z1 cp1 : Nat) (CF1 : Nat → Int64), (tkV B ln = none ∧ r = (-4) ∧ μ1 = km_up (km_up (km_up (km_up (km_up μ sa (.inl (g.2.2.1 1, 200, .inl (fun j => nI (S1 j))))) oa (.inl (g.2.2.1 1, 200, .inl (fun j => nI (E1 j))))) ta (.inr (1, [.ref ba, .ref sa, .ref oa, .int (nI ln), .int (nI a1), .int (nI z1)]))) cr (.inl (g.2.2.1 2, 7, .inr (.inl CF1)))) cd (.inr (2, [.ref cr, .int (nI cp1)]))) ∨ (∃ v, tkV B ln = some v ∧ cnt = 12 ∧ r = (-3) ∧ μ1 = km_up (km_up (km_up (km_up (km_up μ sa (.inl (g.2.2.1 1, 200, .inl (fun j => nI (S1 j))))) oa (.inl (g.2.2.1 1, 200, .inl (fun j => nI (E1 j))))) ta (.inr (1, [.ref ba, .ref sa, .ref oa, .int (nI ln), .int (nI a1), .int (nI z1)]))) cr (.inl (g.2.2.1 2, 7, .inr (.inl CF1)))) cd (.inr (2, [.ref cr, .int (nI cp1)]))) ∨ (∃ v, tkV B ln = some v ∧ cnt < 12 ∧ r = nI cnt ∧ cp1 = mLen v.2.2.2 ∧ (∀ j, j < 7 → CF1 j = rowOf v j) ∧ μ1 = km_up (km_up (km_up (km_up (km_up (km_up (km_up (km_up μ sa (.inl (g.2.2.1 1, 200, .inl (fun j => nI (S1 j))))) oa (.inl (g.2.2.1 1, 200, .inl (fun j => nI (E1 j))))) ta (.inr (1, [.ref ba, .ref sa, .ref oa, .int (nI ln), .int (nI a1), .int (nI z1)]))) cr (.inl (g.2.2.1 2, 7, .inr (.inl CF1)))) cd (.inr (2, [.ref cr, .int (nI cp1)]))) (lr cnt) (.inl (g.2.2.1 2, 7, .inr (.inl (va_cpy CF1 (LF cnt) 0 0 7))))) (lv cnt) (.inr (2, [.ref (lr cnt), .int (nI cp1)]))) xa (.inr (3, [.ref ta, .ref la, .ref cd, .ref te, .int (nI (cnt + 1))]))))) 0 0 (kF g) := by
  refine k_met (by decide) (Nat.le_of_ble_eq_true rfl) ?_
  intro p e s m below meth c hx hb hr hlocks hml hown hnm hW ls hl H locs hM
  have hl : lv_has ls 1 [(0, .ref xa)] := hl
  refine lv_aload_n hx hb dVR_addVersionOfTape_0 rfl (lv_at hl 0 rfl) ?_
  refine k_get (own := RVR) (ref := RVR) (C := RVR) (T := TVR) (N := 5) (ci := 3) (v := .ref ta) hx hb hW inVR hown hM hxa rfl 0 (by decide) (hW _ w_94) (fun _ h => h) rfl dVR_addVersionOfTape_1 ?_
  refine kc_i (va_runVN (C := RTP) (As := []) (b := ta) (rest := []) (Ts := Wd) ⟨hx, hb, hml, hown, hW⟩ (mTP_splitWords l g μ ht hB hb0 hs0 ho0 hso hln) ⟨(va_cnB 0 hW (k_gC w_137) rfl rfl rfl (hM.2.1.2.1 _ n_134) (hW _ w_2) (by decide +kernel) ⟨Nat.le_of_ble_eq_true rfl, Nat.le_of_ble_eq_true rfl⟩), hW _ w_136, hW _ p_3⟩ (k_preV (q := (RTP, TTP, 6)) hM ht rfl) rfl rfl hl.1 rfl (lv_room (Nat.le_of_ble_eq_true rfl)) dVR_addVersionOfTape_4 ⟨Nat.zero_le _, Nat.zero_le _⟩) hM (fun r μ1 H locs hp hM => ?_)
  obtain ⟨rfl, hmu⟩ := hp
  rw [hmu] at hM
  have hM : kS g (km_up (km_up μ sa (.inl (g.2.2.1 1, 200, .inl (fun j => nI (((spl B S E ln).2.1) j))))) oa (.inl (g.2.2.1 1, 200, .inl (fun j => nI (((spl B S E ln).2.2) j))))) s H locs := hM
  have hsi := spl_ind B S E (fun _ => 0) (fun _ => 0) ln
  have hso1 := spl_ok B S E ln
  have hsb := spl_b B S E ln
  generalize hsp : spl B S E ln = sq at hM hsi hso1 hsb ⊢
  obtain ⟨w, S1, E1⟩ := sq
  have hw2 : 2 * w ≤ ln + 1 := hsb.1
  have hok : ∀ k, k < w → S1 k < E1 k ∧ E1 k ≤ ln := hso1
  have hin : w = (spw B ln).1 ∧ ∀ k, k < w → S1 k = (spw B ln).2.1 k ∧ E1 k = (spw B ln).2.2 k := hsi
  have hM : kS g (km_up (km_up μ sa (.inl (g.2.2.1 1, 200, .inl (fun j => nI (S1 j))))) oa (.inl (g.2.2.1 1, 200, .inl (fun j => nI (E1 j))))) s H locs := hM
  refine topi_eq (y := nI w) rfl ?_
  refine lv_iconst (v := nI 1) hx hb dVR_addVersionOfTape_7 (by decide) ?_
  refine lv_icmp_eq (tgt := 14) hx hb dVR_addVersionOfTape_8 (by decide) (fun h8 => ?_) (fun h8 => ?_)
  · have h8 := (nJ_eq_t (a := w) (b := 1) (by omega) (by omega)).mp h8
    refine lv_aload_n hx hb dVR_addVersionOfTape_14 rfl (lv_at hl 0 rfl) ?_
    refine k_get (own := RVR) (ref := RVR) (C := RVR) (T := TVR) (N := 5) (ci := 3) (v := .ref ta) hx hb hW inVR hown hM ((km_n (km_apB hxa ho0)).trans ((km_n (km_apB hxa hs0)).trans hxa)) rfl 0 (by decide) (hW _ w_94) (fun _ h => h) rfl dVR_addVersionOfTape_15 ?_
    refine lv_iconst (v := nI 0) hx hb dVR_addVersionOfTape_18 (by decide) ?_
    refine kc_v (va_runVN (C := RTP) (As := [.int (nI 0)]) (b := ta) (rest := []) (Ts := Wd) ⟨hx, hb, hml, hown, hW⟩ (mTP_enterWord l g (km_up (km_up μ sa (.inl (g.2.2.1 1, 200, .inl (fun j => nI (S1 j))))) oa (.inl (g.2.2.1 1, 200, .inl (fun j => nI (E1 j))))) ((km_n (km_apB ht ho0)).trans ((km_n (km_apB ht hs0)).trans ht)) ((km_n hso).trans (km_s _ _ _)) (km_s _ _ _) (k := 0) (by omega)) ⟨(va_cnB 1 hW (k_gC w_141) rfl rfl rfl (hM.2.1.2.1 _ n_138) (hW _ w_2) (by decide +kernel) ⟨Nat.le_of_ble_eq_true rfl, Nat.le_of_ble_eq_true rfl⟩), hW _ w_140, hW _ p_4⟩ (k_preV (q := (RTP, TTP, 6)) hM ((km_n (km_apB ht ho0)).trans ((km_n (km_apB ht hs0)).trans ht)) rfl) rfl rfl hl.1 rfl (lv_room (Nat.le_of_ble_eq_true rfl)) dVR_addVersionOfTape_19 ⟨Nat.zero_le _, Nat.zero_le _⟩) hM (fun μ1 H locs hp hM => ?_)
    rw [hp] at hM
    have hse := hok 0 (by omega)
    have hM : kS g (km_up (km_up (km_up μ sa (.inl (g.2.2.1 1, 200, .inl (fun j => nI (S1 j))))) oa (.inl (g.2.2.1 1, 200, .inl (fun j => nI (E1 j))))) ta (.inr (1, [.ref ba, .ref sa, .ref oa, .int (nI ln), .int (nI (S1 0)), .int (nI (E1 0))]))) s H locs := hM
    refine lv_aload_n hx hb dVR_addVersionOfTape_22 rfl (lv_at hl 0 rfl) ?_
    refine k_get (own := RVR) (ref := RVR) (C := RVR) (T := TVR) (N := 5) (ci := 3) (v := .ref cd) hx hb hW inVR hown hM ((km_n (km_apC hxa ht (by decide))).trans ((km_n (km_apB hxa ho0)).trans ((km_n (km_apB hxa hs0)).trans hxa))) rfl 2 (by decide) (hW _ w_96) (fun _ h => h) rfl dVR_addVersionOfTape_23 ?_
    refine lv_aload_n hx hb dVR_addVersionOfTape_26 rfl (lv_at hl 0 rfl) ?_
    refine k_get (own := RVR) (ref := RVR) (C := RVR) (T := TVR) (N := 5) (ci := 3) (v := .ref ta) hx hb hW inVR hown hM ((km_n (km_apC hxa ht (by decide))).trans ((km_n (km_apB hxa ho0)).trans ((km_n (km_apB hxa hs0)).trans hxa))) rfl 0 (by decide) (hW _ w_94) (fun _ h => h) rfl dVR_addVersionOfTape_27 ?_
    refine kc_i (va_runVN (C := RVE) (As := [.ref ta]) (b := cd) (rest := []) (Ts := Wd) ⟨hx, hb, hml, hown, hW⟩ (mVE_readFrom l g (km_up (km_up (km_up μ sa (.inl (g.2.2.1 1, 200, .inl (fun j => nI (S1 j))))) oa (.inl (g.2.2.1 1, 200, .inl (fun j => nI (E1 j))))) ta (.inr (1, [.ref ba, .ref sa, .ref oa, .int (nI ln), .int (nI (S1 0)), .int (nI (E1 0))]))) ((km_n (km_apC hcd ht (by decide))).trans ((km_n (km_apB hcd ho0)).trans ((km_n (km_apB hcd hs0)).trans hcd))) ((km_n (km_apA hcr ht)).trans ((km_n (km_apN hcr ho0 (by decide))).trans ((km_n (km_apN hcr hs0 (by decide))).trans hcr))) (km_s _ _ _) hB ((km_n (km_apA hb0 ht)).trans ((km_n (km_apN hb0 ho0 (by decide))).trans ((km_n (km_apN hb0 hs0 (by decide))).trans hb0))) (by omega) (by omega)) ⟨(va_cnB 1 hW (k_gC w_145) rfl rfl rfl (hM.2.1.2.1 _ n_142) (hW _ w_3) (by decide +kernel) ⟨Nat.le_of_ble_eq_true rfl, Nat.le_of_ble_eq_true rfl⟩), hW _ w_144, hW _ p_5⟩ (k_preV (q := (RVE, TVE, 2)) hM ((km_n (km_apC hcd ht (by decide))).trans ((km_n (km_apB hcd ho0)).trans ((km_n (km_apB hcd hs0)).trans hcd))) rfl) rfl rfl hl.1 rfl (lv_room (Nat.le_of_ble_eq_true rfl)) dVR_addVersionOfTape_30 ⟨Nat.zero_le _, Nat.zero_le _⟩) hM (fun r μ1 H locs hp hM => ?_)
    obtain ⟨F1, pb1, a1, hmu, hcase⟩ := hp
    subst hmu
    have hM : kS g (km_up (km_up (km_up (km_up (km_up (km_up μ sa (.inl (g.2.2.1 1, 200, .inl (fun j => nI (S1 j))))) oa (.inl (g.2.2.1 1, 200, .inl (fun j => nI (E1 j))))) ta (.inr (1, [.ref ba, .ref sa, .ref oa, .int (nI ln), .int (nI (S1 0)), .int (nI (E1 0))]))) ta (.inr (1, [.ref ba, .ref sa, .ref oa, .int (nI ln), .int (nI a1), .int (nI (E1 0))]))) cr (.inl (g.2.2.1 2, 7, .inr (.inl F1)))) cd (.inr (2, [.ref cr, .int (nI pb1)]))) s H locs := hM
    have hM : kS g (km_up (km_up (km_up (km_up (km_up μ sa (.inl (g.2.2.1 1, 200, .inl (fun j => nI (S1 j))))) oa (.inl (g.2.2.1 1, 200, .inl (fun j => nI (E1 j))))) ta (.inr (1, [.ref ba, .ref sa, .ref oa, .int (nI ln), .int (nI a1), .int (nI (E1 0))]))) cr (.inl (g.2.2.1 2, 7, .inr (.inl F1)))) cd (.inr (2, [.ref cr, .int (nI pb1)]))) s H locs := kS_eq (congrArg (fun z => km_up z cd (.inr (2, [.ref cr, .int (nI pb1)]))) (congrArg (fun z => km_up z cr (.inl (g.2.2.1 2, 7, .inr (.inl F1)))) (km_u1 _ _ _ _))) hM
    rcases hcase with ⟨hp1, rfl⟩ | ⟨v1, hp1, rfl, hpb1, hF1⟩
    · skip
      refine lv_if_ne (tgt := 39) hx hb dVR_addVersionOfTape_33 (by decide) (fun h => absurd (by decide) h) (fun _ => ?_)
      refine lv_bipush (v := (-4)) hx hb dVR_addVersionOfTape_36 (by decide) ?_
      exact kr_i hx hb hr hlocks hM dVR_addVersionOfTape_38 (⟨_, _, _, _, _, _, Or.inl ⟨(tk_s (by rw [← hin.1]; exact h8) (hin.2 0 (by omega)).1 (hin.2 0 (by omega)).2).trans hp1, rfl, rfl⟩⟩)
    · skip
      refine lv_if_ne (tgt := 39) hx hb dVR_addVersionOfTape_33 (by decide) (fun _ => ?_) (fun h => absurd h (by decide))
      refine lv_aload_n hx hb dVR_addVersionOfTape_39 rfl (lv_at hl 0 rfl) ?_
      refine k_get (own := RVR) (ref := RVR) (C := RVR) (T := TVR) (N := 5) (ci := 3) (v := .int (nI cnt)) hx hb hW inVR hown hM ((km_n (km_apC hxa hcd (by decide))).trans ((km_n (km_apB hxa hcr)).trans ((km_n (km_apC hxa ht (by decide))).trans ((km_n (km_apB hxa ho0)).trans ((km_n (km_apB hxa hs0)).trans hxa))))) rfl 4 (by decide) (hW _ w_98) (fun _ h => h) rfl dVR_addVersionOfTape_40 ?_
      refine lv_bipush (v := nI 12) hx hb dVR_addVersionOfTape_43 (by decide) ?_
      refine lv_icmp_lt (tgt := 51) hx hb dVR_addVersionOfTape_45 (by decide) (fun h45 => ?_) (fun h45 => ?_)
      · have h45 := (nJ_lt_t (a := cnt) (b := 12) (by omega) (by omega)).mp h45
        refine lv_aload_n hx hb dVR_addVersionOfTape_51 rfl (lv_at hl 0 rfl) ?_
        refine k_get (own := RVR) (ref := RVR) (C := RVR) (T := TVR) (N := 5) (ci := 3) (v := .ref la) hx hb hW inVR hown hM ((km_n (km_apC hxa hcd (by decide))).trans ((km_n (km_apB hxa hcr)).trans ((km_n (km_apC hxa ht (by decide))).trans ((km_n (km_apB hxa ho0)).trans ((km_n (km_apB hxa hs0)).trans hxa))))) rfl 1 (by decide) (hW _ w_95) (fun _ h => h) rfl dVR_addVersionOfTape_52 ?_
        refine lv_aload_n hx hb dVR_addVersionOfTape_55 rfl (lv_at hl 0 rfl) ?_
        refine k_get (own := RVR) (ref := RVR) (C := RVR) (T := TVR) (N := 5) (ci := 3) (v := .int (nI cnt)) hx hb hW inVR hown hM ((km_n (km_apC hxa hcd (by decide))).trans ((km_n (km_apB hxa hcr)).trans ((km_n (km_apC hxa ht (by decide))).trans ((km_n (km_apB hxa ho0)).trans ((km_n (km_apB hxa hs0)).trans hxa))))) rfl 4 (by decide) (hW _ w_98) (fun _ h => h) rfl dVR_addVersionOfTape_56 ?_
        refine k_aald (i := cnt) (r := some (lv cnt)) hx hb hM 4 ((km_n (km_apA hla hcd)).trans ((km_n (km_apN hla hcr (by decide))).trans ((km_n (km_apA hla ht)).trans ((km_n (km_apN hla ho0 (by decide))).trans ((km_n (km_apN hla hs0 (by decide))).trans hla))))) rfl (by omega) (by omega) (hV _ (by omega)) dVR_addVersionOfTape_59 ?_
        refine lv_aload_n hx hb dVR_addVersionOfTape_60 rfl (lv_at hl 0 rfl) ?_
        refine k_get (own := RVR) (ref := RVR) (C := RVR) (T := TVR) (N := 5) (ci := 3) (v := .ref cd) hx hb hW inVR hown hM ((km_n (km_apC hxa hcd (by decide))).trans ((km_n (km_apB hxa hcr)).trans ((km_n (km_apC hxa ht (by decide))).trans ((km_n (km_apB hxa ho0)).trans ((km_n (km_apB hxa hs0)).trans hxa))))) rfl 2 (by decide) (hW _ w_96) (fun _ h => h) rfl dVR_addVersionOfTape_61 ?_
        refine kc_v (va_runVN (C := RVE) (As := [.ref cd]) (b := lv cnt) (rest := []) (Ts := Wd) ⟨hx, hb, hml, hown, hW⟩ (mVE_copyFrom l g (km_up (km_up (km_up (km_up (km_up μ sa (.inl (g.2.2.1 1, 200, .inl (fun j => nI (S1 j))))) oa (.inl (g.2.2.1 1, 200, .inl (fun j => nI (E1 j))))) ta (.inr (1, [.ref ba, .ref sa, .ref oa, .int (nI ln), .int (nI a1), .int (nI (E1 0))]))) cr (.inl (g.2.2.1 2, 7, .inr (.inl F1)))) cd (.inr (2, [.ref cr, .int (nI pb1)]))) ((km_n (nlc cnt (by omega))).trans ((km_n (km_apB (hL cnt (by omega)).1 hcr)).trans ((km_n (km_apC (hL cnt (by omega)).1 ht (by decide))).trans ((km_n (km_apB (hL cnt (by omega)).1 ho0)).trans ((km_n (km_apB (hL cnt (by omega)).1 hs0)).trans (hL cnt (by omega)).1))))) ((km_n (km_apA (hL cnt (by omega)).2 hcd)).trans ((km_n (nlr cnt (by omega))).trans ((km_n (km_apA (hL cnt (by omega)).2 ht)).trans ((km_n (km_apN (hL cnt (by omega)).2 ho0 (by decide))).trans ((km_n (km_apN (hL cnt (by omega)).2 hs0 (by decide))).trans (hL cnt (by omega)).2))))) (km_s _ _ _) ((km_n (km_apA hcr hcd)).trans (km_s _ _ _))) ⟨(va_cnB 1 hW (k_gC w_186) rfl rfl rfl (hM.2.1.2.1 _ n_183) (hW _ w_3) (by decide +kernel) ⟨Nat.le_of_ble_eq_true rfl, Nat.le_of_ble_eq_true rfl⟩), hW _ w_185, hW _ p_13⟩ (k_preV (q := (RVE, TVE, 2)) hM ((km_n (nlc cnt (by omega))).trans ((km_n (km_apB (hL cnt (by omega)).1 hcr)).trans ((km_n (km_apC (hL cnt (by omega)).1 ht (by decide))).trans ((km_n (km_apB (hL cnt (by omega)).1 ho0)).trans ((km_n (km_apB (hL cnt (by omega)).1 hs0)).trans (hL cnt (by omega)).1))))) rfl) rfl rfl hl.1 rfl (lv_room (Nat.le_of_ble_eq_true rfl)) dVR_addVersionOfTape_64 ⟨Nat.zero_le _, Nat.zero_le _⟩) hM (fun μ1 H locs hp hM => ?_)
        rw [hp] at hM
        have hM : kS g (km_up (km_up (km_up (km_up (km_up (km_up (km_up μ sa (.inl (g.2.2.1 1, 200, .inl (fun j => nI (S1 j))))) oa (.inl (g.2.2.1 1, 200, .inl (fun j => nI (E1 j))))) ta (.inr (1, [.ref ba, .ref sa, .ref oa, .int (nI ln), .int (nI a1), .int (nI (E1 0))]))) cr (.inl (g.2.2.1 2, 7, .inr (.inl F1)))) cd (.inr (2, [.ref cr, .int (nI pb1)]))) (lr cnt) (.inl (g.2.2.1 2, 7, .inr (.inl (va_cpy F1 (LF cnt) 0 0 7))))) (lv cnt) (.inr (2, [.ref (lr cnt), .int (nI pb1)]))) s H locs := hM
        refine lv_aload_n hx hb dVR_addVersionOfTape_67 rfl (lv_at hl 0 rfl) ?_
        refine lv_dup hx hb dVR_addVersionOfTape_68 rfl ?_
        refine k_get (own := RVR) (ref := RVR) (C := RVR) (T := TVR) (N := 5) (ci := 3) (v := .int (nI cnt)) hx hb hW inVR hown hM ((km_n (km_apC hxa (hL cnt (by omega)).1 (by decide))).trans ((km_n (km_apB hxa (hL cnt (by omega)).2)).trans ((km_n (km_apC hxa hcd (by decide))).trans ((km_n (km_apB hxa hcr)).trans ((km_n (km_apC hxa ht (by decide))).trans ((km_n (km_apB hxa ho0)).trans ((km_n (km_apB hxa hs0)).trans hxa))))))) rfl 4 (by decide) (hW _ w_98) (fun _ h => h) rfl dVR_addVersionOfTape_69 ?_
        refine lv_iconst (v := nI 1) hx hb dVR_addVersionOfTape_72 (by decide) ?_
        refine lv_iadd hx hb dVR_addVersionOfTape_73 ?_
        refine topi_eq (y := nI (cnt + 1)) (nI_add cnt 1) ?_
        refine k_put (own := RVR) (ref := RVR) (C := RVR) (T := TVR) (N := 5) (ci := 3) (v := .int (nI (cnt + 1))) (ty := .int) (fs' := [.ref ta, .ref la, .ref cd, .ref te, .int (nI (cnt + 1))]) hx hb hW inVR tyVR tyokVR nmokVR hown hM ((km_n (km_apC hxa (hL cnt (by omega)).1 (by decide))).trans ((km_n (km_apB hxa (hL cnt (by omega)).2)).trans ((km_n (km_apC hxa hcd (by decide))).trans ((km_n (km_apB hxa hcr)).trans ((km_n (km_apC hxa ht (by decide))).trans ((km_n (km_apB hxa ho0)).trans ((km_n (km_apB hxa hs0)).trans hxa))))))) rfl 4 (by decide) (hW _ w_98) (fun _ h => h) rfl (by decide +kernel) rfl rfl (Nat.le_of_ble_eq_true rfl) dVR_addVersionOfTape_74 rfl (fun H locs hM => ?_)
        have hM : kS g (km_up (km_up (km_up (km_up (km_up (km_up (km_up (km_up μ sa (.inl (g.2.2.1 1, 200, .inl (fun j => nI (S1 j))))) oa (.inl (g.2.2.1 1, 200, .inl (fun j => nI (E1 j))))) ta (.inr (1, [.ref ba, .ref sa, .ref oa, .int (nI ln), .int (nI a1), .int (nI (E1 0))]))) cr (.inl (g.2.2.1 2, 7, .inr (.inl F1)))) cd (.inr (2, [.ref cr, .int (nI pb1)]))) (lr cnt) (.inl (g.2.2.1 2, 7, .inr (.inl (va_cpy F1 (LF cnt) 0 0 7))))) (lv cnt) (.inr (2, [.ref (lr cnt), .int (nI pb1)]))) xa (.inr (3, [.ref ta, .ref la, .ref cd, .ref te, .int (nI (cnt + 1))]))) s H locs := hM
        refine lv_aload_n hx hb dVR_addVersionOfTape_77 rfl (lv_at hl 0 rfl) ?_
        refine k_get (own := RVR) (ref := RVR) (C := RVR) (T := TVR) (N := 5) (ci := 3) (v := .int (nI (cnt + 1))) hx hb hW inVR hown hM (km_s _ _ _) rfl 4 (by decide) (hW _ w_98) (fun _ h => h) rfl dVR_addVersionOfTape_78 ?_
        refine lv_iconst (v := nI 1) hx hb dVR_addVersionOfTape_81 (by decide) ?_
        refine lv_isub hx hb dVR_addVersionOfTape_82 ?_
        refine topi_eq (y := nI cnt) (pk_sub (a := cnt + 1) (b := 1) (by omega)) ?_
        exact kr_i hx hb hr hlocks hM dVR_addVersionOfTape_83 (⟨_, _, _, _, _, _, Or.inr (Or.inr ⟨v1, (tk_s (by rw [← hin.1]; exact h8) (hin.2 0 (by omega)).1 (hin.2 0 (by omega)).2).trans hp1, by omega, rfl, hpb1, hF1, rfl⟩)⟩)
      · have h45 := (nJ_lt_f (a := cnt) (b := 12) (by omega) (by omega)).mp h45
        refine lv_bipush (v := (-3)) hx hb dVR_addVersionOfTape_48 (by decide) ?_
        exact kr_i hx hb hr hlocks hM dVR_addVersionOfTape_50 (⟨_, _, _, _, _, _, Or.inr (Or.inl ⟨v1, (tk_s (by rw [← hin.1]; exact h8) (hin.2 0 (by omega)).1 (hin.2 0 (by omega)).2).trans hp1, by omega, rfl, rfl⟩)⟩)
  · have h8 := (nJ_eq_f (a := w) (b := 1) (by omega) (by omega)).mp h8
    refine lv_bipush (v := (-4)) hx hb dVR_addVersionOfTape_11 (by decide) ?_
    exact kr_i hx hb hr hlocks hM dVR_addVersionOfTape_13 (⟨_, _, _, _, _, _, Or.inl ⟨tk_n (by rw [← hin.1]; exact h8), rfl, (by rw [km_id ((km_n (km_apB ht ho0)).trans ((km_n (km_apB ht hs0)).trans ht)), km_id ((km_n (km_apN hcr ho0 (by decide))).trans ((km_n (km_apN hcr hs0 (by decide))).trans hcr)), km_id ((km_n (km_apB hcd ho0)).trans ((km_n (km_apB hcd hs0)).trans hcd))])⟩⟩)
set_option maxHeartbeats 800000 in
set_option maxRecDepth 100000 in
theorem mVR_take (l : Launch) (g : kG) (μ : km_M) {xa ta la cd te cnt : Nat} (hxa : μ xa = some (.inr (3, [.ref ta, .ref la, .ref cd, .ref te, .int (nI cnt)]))) (hcnt : cnt ≤ 12) {ba sa oa ln ai zi : Nat} (ht : μ ta = some (.inr (1, [.ref ba, .ref sa, .ref oa, .int (nI ln), .int (nI ai), .int (nI zi)]))) {B : Nat → Nat} (hB : ∀ k, B k < 256) (hb0 : μ ba = some (.inl (g.2.2.1 0, 400, .inl (fun j => sb (B j))))) {S E : Nat → Nat} (hs0 : μ sa = some (.inl (g.2.2.1 1, 200, .inl (fun j => nI (S j))))) (ho0 : μ oa = some (.inl (g.2.2.1 1, 200, .inl (fun j => nI (E j))))) (hso : sa ≠ oa) (hln : ln ≤ 400) {V : Nat → Option Nat} {lv lr lp : Nat → Nat} {LF : Nat → Nat → Int64} (hla : μ la = some (.inl (g.2.2.1 4, 12, .inr (.inr (.inr (.inr V)))))) (hV : ∀ k, k < 12 → V k = some (lv k)) (hL : ∀ k, k < 12 → μ (lv k) = some (.inr (2, [.ref (lr k), .int (nI (lp k))])) ∧ μ (lr k) = some (.inl (g.2.2.1 2, 7, .inr (.inl (LF k))))) {cr cp : Nat} {CF : Nat → Int64} (hcd : μ cd = some (.inr (2, [.ref cr, .int (nI cp)]))) (hcr : μ cr = some (.inl (g.2.2.1 2, 7, .inr (.inl CF)))) (nlc : ∀ k, k < 12 → lv k ≠ cd) (nlr : ∀ k, k < 12 → lr k ≠ cr) : Met l yVR_take (Cond.code yVR_take cVR_take 2 (some .int) :: Wd) ({ frames := 5, cells := 0, slots := 0, locals := 113 } : Room) (kPre g μ [.ref xa]) (kQi g (fun (r : Int32) (μ1 : km_M) => ∃ (S1 E1 : Nat → Nat) (a1 z1 cp1 : Nat) (CF1 : Nat → Int64), (tkV B ln = none ∧ r = (-4) ∧ μ1 = km_up (km_up (km_up (km_up (km_up μ sa (.inl (g.2.2.1 1, 200, .inl (fun j => nI (S1 j))))) oa (.inl (g.2.2.1 1, 200, .inl (fun j => nI (E1 j))))) ta (.inr (1, [.ref ba, .ref sa, .ref oa, .int (nI 0), .int (nI a1), .int (nI z1)]))) cr (.inl (g.2.2.1 2, 7, .inr (.inl CF1)))) cd (.inr (2, [.ref cr, .int (nI cp1)]))) ∨ (∃ v, tkV B ln = some v ∧ cnt = 12 ∧ r = (-3) ∧ μ1 = km_up (km_up (km_up (km_up (km_up μ sa (.inl (g.2.2.1 1, 200, .inl (fun j => nI (S1 j))))) oa (.inl (g.2.2.1 1, 200, .inl (fun j => nI (E1 j))))) ta (.inr (1, [.ref ba, .ref sa, .ref oa, .int (nI 0), .int (nI a1), .int (nI z1)]))) cr (.inl (g.2.2.1 2, 7, .inr (.inl CF1)))) cd (.inr (2, [.ref cr, .int (nI cp1)]))) ∨ (∃ v, tkV B ln = some v ∧ cnt < 12 ∧ r = nI cnt ∧ cp1 = mLen v.2.2.2 ∧ (∀ j, j < 7 → CF1 j = rowOf v j) ∧ μ1 = km_up (km_up (km_up (km_up (km_up (km_up (km_up (km_up μ sa (.inl (g.2.2.1 1, 200, .inl (fun j => nI (S1 j))))) oa (.inl (g.2.2.1 1, 200, .inl (fun j => nI (E1 j))))) ta (.inr (1, [.ref ba, .ref sa, .ref oa, .int (nI 0), .int (nI a1), .int (nI z1)]))) cr (.inl (g.2.2.1 2, 7, .inr (.inl CF1)))) cd (.inr (2, [.ref cr, .int (nI cp1)]))) (lr cnt) (.inl (g.2.2.1 2, 7, .inr (.inl (va_cpy CF1 (LF cnt) 0 0 7))))) (lv cnt) (.inr (2, [.ref (lr cnt), .int (nI cp1)]))) xa (.inr (3, [.ref ta, .ref la, .ref cd, .ref te, .int (nI (cnt + 1))]))))) 0 0 (kF g) := by
  refine k_met (by decide) (Nat.le_of_ble_eq_true rfl) ?_
  intro p e s m below meth c hx hb hr hlocks hml hown hnm hW ls hl H locs hM
  have hl : lv_has ls 2 [(0, .ref xa)] := hl
  refine lv_aload_n hx hb dVR_take_0 rfl (lv_at hl 0 rfl) ?_
  refine kc_i (va_runV (C := RVR) (As := []) (b := xa) (rest := []) (Ts := Wd) ⟨hx, hb, hml, hown, hW⟩ (mVR_addVersionOfTape l g μ hxa hcnt ht hB hb0 hs0 ho0 hso hln hla hV hL hcd hcr nlc nlr) (cwV 0 hW (k_gV w_130 w_132 p_2 w_1 w_133) rfl rfl rfl (by decide +kernel) ⟨Nat.le_of_ble_eq_true rfl, Nat.le_of_ble_eq_true rfl⟩) (k_preV (q := (RVR, TVR, 5)) hM hxa rfl) rfl rfl hl.1 rfl (lv_room (Nat.le_of_ble_eq_true rfl)) dVR_take_1 ⟨Nat.zero_le _, Nat.zero_le _⟩) hM (fun r μ1 H locs hp hM => ?_)
  obtain ⟨S1, E1, a1, z1, cp1, CF1, hcase⟩ := hp
  rcases hcase with ⟨htk, rfl, hmu⟩ | ⟨v, htk, hc12, rfl, hmu⟩ | ⟨v, htk, hc12, rfl, hcp, hCF, hmu⟩
  · rw [hmu] at hM
    have hM : kS g (km_up (km_up (km_up (km_up (km_up μ sa (.inl (g.2.2.1 1, 200, .inl (fun j => nI (S1 j))))) oa (.inl (g.2.2.1 1, 200, .inl (fun j => nI (E1 j))))) ta (.inr (1, [.ref ba, .ref sa, .ref oa, .int (nI ln), .int (nI a1), .int (nI z1)]))) cr (.inl (g.2.2.1 2, 7, .inr (.inl CF1)))) cd (.inr (2, [.ref cr, .int (nI cp1)]))) s H locs := hM
    refine lv_istore_n (lv' := [(1, .int (-4)), (0, .ref xa)]) hx hb dVR_take_4 rfl hl (by decide) rfl (fun ls hl => ?_)
    refine lv_aload_n hx hb dVR_take_5 rfl (lv_at hl 1 rfl) ?_
    refine k_get (own := RVR) (ref := RVR) (C := RVR) (T := TVR) (N := 5) (ci := 3) (v := .ref ta) hx hb hW inVR hown hM ((km_n (km_apC hxa hcd (by decide))).trans ((km_n (km_apB hxa hcr)).trans ((km_n (km_apC hxa ht (by decide))).trans ((km_n (km_apB hxa ho0)).trans ((km_n (km_apB hxa hs0)).trans hxa))))) rfl 0 (by decide) (hW _ w_94) (fun _ h => h) rfl dVR_take_6 ?_
    refine lv_iconst (v := nI 0) hx hb dVR_take_9 (by decide) ?_
    refine k_putN (own := RVR) (ref := RTP) (C := RTP) (T := TTP) (N := 6) (ci := 1) (v := .int (nI 0)) (ty := .int) (fs' := [.ref ba, .ref sa, .ref oa, .int (nI 0), .int (nI a1), .int (nI z1)]) hx hb hW inTP tyTP tyokTP nmokTP hown hM ((km_n (km_apC ht hcd (by decide))).trans ((km_n (km_apB ht hcr)).trans (km_s _ _ _))) rfl 3 (by decide) (va_Nw.use rfl (hM.2.1.2.1 _ n_38)) (fun _ h => h) rfl (by decide +kernel) rfl rfl (Nat.le_of_ble_eq_true rfl) dVR_take_10 rfl (fun H locs hM => ?_)
    have hM : kS g (km_up (km_up (km_up (km_up (km_up μ sa (.inl (g.2.2.1 1, 200, .inl (fun j => nI (S1 j))))) oa (.inl (g.2.2.1 1, 200, .inl (fun j => nI (E1 j))))) ta (.inr (1, [.ref ba, .ref sa, .ref oa, .int (nI 0), .int (nI a1), .int (nI z1)]))) cr (.inl (g.2.2.1 2, 7, .inr (.inl CF1)))) cd (.inr (2, [.ref cr, .int (nI cp1)]))) s H locs := kS_eq (km_u3 _ _ _ _ _ (km_apB ht hcr) (km_apC ht hcd (by decide))) hM
    refine lv_iload_n hx hb dVR_take_13 rfl (lv_at hl 0 rfl) ?_
    exact kr_i hx hb hr hlocks hM dVR_take_14 (⟨_, _, _, _, _, _, Or.inl ⟨htk, rfl, rfl⟩⟩)
  · rw [hmu] at hM
    have hM : kS g (km_up (km_up (km_up (km_up (km_up μ sa (.inl (g.2.2.1 1, 200, .inl (fun j => nI (S1 j))))) oa (.inl (g.2.2.1 1, 200, .inl (fun j => nI (E1 j))))) ta (.inr (1, [.ref ba, .ref sa, .ref oa, .int (nI ln), .int (nI a1), .int (nI z1)]))) cr (.inl (g.2.2.1 2, 7, .inr (.inl CF1)))) cd (.inr (2, [.ref cr, .int (nI cp1)]))) s H locs := hM
    refine lv_istore_n (lv' := [(1, .int (-3)), (0, .ref xa)]) hx hb dVR_take_4 rfl hl (by decide) rfl (fun ls hl => ?_)
    refine lv_aload_n hx hb dVR_take_5 rfl (lv_at hl 1 rfl) ?_
    refine k_get (own := RVR) (ref := RVR) (C := RVR) (T := TVR) (N := 5) (ci := 3) (v := .ref ta) hx hb hW inVR hown hM ((km_n (km_apC hxa hcd (by decide))).trans ((km_n (km_apB hxa hcr)).trans ((km_n (km_apC hxa ht (by decide))).trans ((km_n (km_apB hxa ho0)).trans ((km_n (km_apB hxa hs0)).trans hxa))))) rfl 0 (by decide) (hW _ w_94) (fun _ h => h) rfl dVR_take_6 ?_
    refine lv_iconst (v := nI 0) hx hb dVR_take_9 (by decide) ?_
    refine k_putN (own := RVR) (ref := RTP) (C := RTP) (T := TTP) (N := 6) (ci := 1) (v := .int (nI 0)) (ty := .int) (fs' := [.ref ba, .ref sa, .ref oa, .int (nI 0), .int (nI a1), .int (nI z1)]) hx hb hW inTP tyTP tyokTP nmokTP hown hM ((km_n (km_apC ht hcd (by decide))).trans ((km_n (km_apB ht hcr)).trans (km_s _ _ _))) rfl 3 (by decide) (va_Nw.use rfl (hM.2.1.2.1 _ n_38)) (fun _ h => h) rfl (by decide +kernel) rfl rfl (Nat.le_of_ble_eq_true rfl) dVR_take_10 rfl (fun H locs hM => ?_)
    have hM : kS g (km_up (km_up (km_up (km_up (km_up μ sa (.inl (g.2.2.1 1, 200, .inl (fun j => nI (S1 j))))) oa (.inl (g.2.2.1 1, 200, .inl (fun j => nI (E1 j))))) ta (.inr (1, [.ref ba, .ref sa, .ref oa, .int (nI 0), .int (nI a1), .int (nI z1)]))) cr (.inl (g.2.2.1 2, 7, .inr (.inl CF1)))) cd (.inr (2, [.ref cr, .int (nI cp1)]))) s H locs := kS_eq (km_u3 _ _ _ _ _ (km_apB ht hcr) (km_apC ht hcd (by decide))) hM
    refine lv_iload_n hx hb dVR_take_13 rfl (lv_at hl 0 rfl) ?_
    exact kr_i hx hb hr hlocks hM dVR_take_14 (⟨_, _, _, _, _, _, Or.inr (Or.inl ⟨v, htk, hc12, rfl, rfl⟩)⟩)
  · rw [hmu] at hM
    have hM : kS g (km_up (km_up (km_up (km_up (km_up (km_up (km_up (km_up μ sa (.inl (g.2.2.1 1, 200, .inl (fun j => nI (S1 j))))) oa (.inl (g.2.2.1 1, 200, .inl (fun j => nI (E1 j))))) ta (.inr (1, [.ref ba, .ref sa, .ref oa, .int (nI ln), .int (nI a1), .int (nI z1)]))) cr (.inl (g.2.2.1 2, 7, .inr (.inl CF1)))) cd (.inr (2, [.ref cr, .int (nI cp1)]))) (lr cnt) (.inl (g.2.2.1 2, 7, .inr (.inl (va_cpy CF1 (LF cnt) 0 0 7))))) (lv cnt) (.inr (2, [.ref (lr cnt), .int (nI cp1)]))) xa (.inr (3, [.ref ta, .ref la, .ref cd, .ref te, .int (nI (cnt + 1))]))) s H locs := hM
    refine lv_istore_n (lv' := [(1, .int (nI cnt)), (0, .ref xa)]) hx hb dVR_take_4 rfl hl (by decide) rfl (fun ls hl => ?_)
    refine lv_aload_n hx hb dVR_take_5 rfl (lv_at hl 1 rfl) ?_
    refine k_get (own := RVR) (ref := RVR) (C := RVR) (T := TVR) (N := 5) (ci := 3) (v := .ref ta) hx hb hW inVR hown hM (km_s _ _ _) rfl 0 (by decide) (hW _ w_94) (fun _ h => h) rfl dVR_take_6 ?_
    refine lv_iconst (v := nI 0) hx hb dVR_take_9 (by decide) ?_
    refine k_putN (own := RVR) (ref := RTP) (C := RTP) (T := TTP) (N := 6) (ci := 1) (v := .int (nI 0)) (ty := .int) (fs' := [.ref ba, .ref sa, .ref oa, .int (nI 0), .int (nI a1), .int (nI z1)]) hx hb hW inTP tyTP tyokTP nmokTP hown hM ((km_n (km_apC ht hxa (by decide))).trans ((km_n (km_apC ht (hL cnt (by omega)).1 (by decide))).trans ((km_n (km_apB ht (hL cnt (by omega)).2)).trans ((km_n (km_apC ht hcd (by decide))).trans ((km_n (km_apB ht hcr)).trans (km_s _ _ _)))))) rfl 3 (by decide) (va_Nw.use rfl (hM.2.1.2.1 _ n_38)) (fun _ h => h) rfl (by decide +kernel) rfl rfl (Nat.le_of_ble_eq_true rfl) dVR_take_10 rfl (fun H locs hM => ?_)
    have hM : kS g (km_up (km_up (km_up (km_up (km_up (km_up (km_up (km_up μ sa (.inl (g.2.2.1 1, 200, .inl (fun j => nI (S1 j))))) oa (.inl (g.2.2.1 1, 200, .inl (fun j => nI (E1 j))))) ta (.inr (1, [.ref ba, .ref sa, .ref oa, .int (nI 0), .int (nI a1), .int (nI z1)]))) cr (.inl (g.2.2.1 2, 7, .inr (.inl CF1)))) cd (.inr (2, [.ref cr, .int (nI cp1)]))) (lr cnt) (.inl (g.2.2.1 2, 7, .inr (.inl (va_cpy CF1 (LF cnt) 0 0 7))))) (lv cnt) (.inr (2, [.ref (lr cnt), .int (nI cp1)]))) xa (.inr (3, [.ref ta, .ref la, .ref cd, .ref te, .int (nI (cnt + 1))]))) s H locs := kS_eq (km_u6 _ _ _ _ _ _ _ _ (km_apB ht hcr) (km_apC ht hcd (by decide)) (km_apB ht (hL cnt (by omega)).2) (km_apC ht (hL cnt (by omega)).1 (by decide)) (km_apC ht hxa (by decide))) hM
    refine lv_iload_n hx hb dVR_take_13 rfl (lv_at hl 0 rfl) ?_
    exact kr_i hx hb hr hlocks hM dVR_take_14 (⟨_, _, _, _, _, _, Or.inr (Or.inr ⟨v, htk, hc12, rfl, hcp, hCF, rfl⟩)⟩)
set_option maxHeartbeats 800000 in
set_option maxRecDepth 100000 in
theorem mVR_allBits (l : Launch) (g : kG) (μ : km_M) {xa ta la cd te cnt : Nat} (hxa : μ xa = some (.inr (3, [.ref ta, .ref la, .ref cd, .ref te, .int (nI cnt)]))) (hcnt : cnt ≤ 12) : Met l yVR_allBits (Cond.code yVR_allBits cVR_allBits 1 (some .int) :: Wd) ({ frames := 0, cells := 0, slots := 0, locals := 0 } : Room) (kPre g μ [.ref xa]) (kQi g (fun (r : Int32) (μ1 : km_M) => r = bN (fun _ => true) cnt ∧ μ1 = μ)) 0 0 (kF g) := by
  refine k_met (by decide) (Nat.le_of_ble_eq_true rfl) ?_
  intro p e s m below meth c hx hb hr hlocks hml hown hnm hW ls hl H locs hM
  have hl : lv_has ls 1 [(0, .ref xa)] := hl
  refine lv_iconst (v := nI 1) hx hb dVR_allBits_0 (by decide) ?_
  refine lv_aload_n hx hb dVR_allBits_1 rfl (lv_at hl 0 rfl) ?_
  refine k_get (own := RVR) (ref := RVR) (C := RVR) (T := TVR) (N := 5) (ci := 3) (v := .int (nI cnt)) hx hb hW inVR hown hM hxa rfl 4 (by decide) (hW _ w_98) (fun _ h => h) rfl dVR_allBits_2 ?_
  refine lv_ishl hx hb dVR_allBits_5 ?_
  refine lv_iconst (v := nI 1) hx hb dVR_allBits_6 (by decide) ?_
  refine lv_isub hx hb dVR_allBits_7 ?_
  refine topi_eq (y := (nI 1 <<< (nI cnt &&& 31)) - nI 1) rfl ?_
  exact kr_i hx hb hr hlocks hM dVR_allBits_8 (⟨bN_all cnt hcnt, rfl⟩)
set_option maxHeartbeats 800000 in
set_option maxRecDepth 100000 in
theorem mVR_bitsOfTest (l : Launch) (g : kG) (μ : km_M) {xa ta la cd te cnt : Nat} (hxa : μ xa = some (.inr (3, [.ref ta, .ref la, .ref cd, .ref te, .int (nI cnt)]))) (hcnt : cnt ≤ 12) {V : Nat → Option Nat} {lv lr lp : Nat → Nat} {LF : Nat → Nat → Int64} (hla : μ la = some (.inl (g.2.2.1 4, 12, .inr (.inr (.inr (.inr V)))))) (hV : ∀ k, k < 12 → V k = some (lv k)) (hL : ∀ k, k < 12 → μ (lv k) = some (.inr (2, [.ref (lr k), .int (nI (lp k))])) ∧ μ (lr k) = some (.inl (g.2.2.1 2, 7, .inr (.inl (LF k))))) {bo co k : Nat} (hte : μ te = some (.inr (0, [.ref bo, .ref co, .ref (g.2.2.2.1 k)]))) (hk8 : k < 8) {br bp : Nat} {Fb : Nat → Int64} (hbo : μ bo = some (.inr (2, [.ref br, .int (nI bp)]))) (hbr : μ br = some (.inl (g.2.2.1 2, 7, .inr (.inl Fb)))) {er ep : Nat} {Fc : Nat → Int64} (hco : μ co = some (.inr (2, [.ref er, .int (nI ep)]))) (her : μ er = some (.inl (g.2.2.1 2, 7, .inr (.inl Fc)))) : Met l yVR_bitsOfTest (Cond.code yVR_bitsOfTest cVR_bitsOfTest 3 (some .int) :: Wd) ({ frames := 2, cells := 0, slots := 0, locals := 44 } : Room) (kPre g μ [.ref xa]) (kQi g (fun (r : Int32) (μ1 : km_M) => r = bN (fun j => hldR k Fb Fc (LF j)) cnt ∧ μ1 = μ)) 0 0 (kF g) := by
  refine k_met (by decide) (Nat.le_of_ble_eq_true rfl) ?_
  intro p e s m below meth c hx hb hr hlocks hml hown hnm hW ls hl H locs hM
  have hl : lv_has ls 3 [(0, .ref xa)] := hl
  have cut4 : ∀ (n : Nat), ∀ (j : Nat), cnt - j < n → j ≤ cnt → ∀ (ls : Array Slot) (H : Heap) (locs : List Loc), lv_has ls 3 [(0, .ref xa), (1, .int (bN (fun j => hldR k Fb Fc (LF j)) j)), (2, .int (nI j))] → kS g (μ) s H locs → W p l e ({ frames := 2, cells := 0, slots := 0, locals := 44 } : Room) s m [.ref xa].toArray below meth c H locs 0 0 (MQ below (kQi g (fun (r : Int32) (μ1 : km_M) => r = bN (fun j => hldR k Fb Fc (LF j)) cnt ∧ μ1 = μ)) [.ref xa].toArray s 0 0 (kF g)) (F0 m 4 ls []) := by
    intro n
    induction n with
    | zero => intro j hlt; exact absurd hlt (Nat.not_lt_zero _)
    | succ n ih =>
      intro j hlt hj ls H locs hl hM
      refine lv_iload_n hx hb dVR_bitsOfTest_4 rfl (lv_at hl 2 rfl) ?_
      refine lv_aload_n hx hb dVR_bitsOfTest_5 rfl (lv_at hl 0 rfl) ?_
      refine k_get (own := RVR) (ref := RVR) (C := RVR) (T := TVR) (N := 5) (ci := 3) (v := .int (nI cnt)) hx hb hW inVR hown hM hxa rfl 4 (by decide) (hW _ w_98) (fun _ h => h) rfl dVR_bitsOfTest_6 ?_
      refine lv_icmp_ge (tgt := 40) hx hb dVR_bitsOfTest_9 (by decide) (fun h9 => ?_) (fun h9 => ?_)
      · have h9 := (nJ_ge_t (a := j) (b := cnt) (by omega) (by omega)).mp h9
        refine lv_iload_n hx hb dVR_bitsOfTest_40 rfl (lv_at hl 1 rfl) ?_
        exact kr_i hx hb hr hlocks hM dVR_bitsOfTest_41 (⟨by rw [show cnt = j by omega], rfl⟩)
      · have h9 := (nJ_ge_f (a := j) (b := cnt) (by omega) (by omega)).mp h9
        refine lv_aload_n hx hb dVR_bitsOfTest_12 rfl (lv_at hl 0 rfl) ?_
        refine k_get (own := RVR) (ref := RVR) (C := RVR) (T := TVR) (N := 5) (ci := 3) (v := .ref te) hx hb hW inVR hown hM hxa rfl 3 (by decide) (hW _ w_97) (fun _ h => h) rfl dVR_bitsOfTest_13 ?_
        refine lv_aload_n hx hb dVR_bitsOfTest_16 rfl (lv_at hl 0 rfl) ?_
        refine k_get (own := RVR) (ref := RVR) (C := RVR) (T := TVR) (N := 5) (ci := 3) (v := .ref la) hx hb hW inVR hown hM hxa rfl 1 (by decide) (hW _ w_95) (fun _ h => h) rfl dVR_bitsOfTest_17 ?_
        refine lv_iload_n hx hb dVR_bitsOfTest_20 rfl (lv_at hl 2 rfl) ?_
        refine k_aald (i := j) (r := some (lv j)) hx hb hM 4 hla rfl (by omega) (by omega) (hV _ (by omega)) dVR_bitsOfTest_21 ?_
        refine kc_i (va_runVN (C := RRT) (As := [.ref (lv j)]) (b := te) (rest := []) (Ts := Wd) ⟨hx, hb, hml, hown, hW⟩ (mRT_holdsFor l g μ hte hk8 hbo hbr hco her (hL j (by omega)).1 (hL j (by omega)).2) ⟨(va_cnB 1 hW (k_gC w_270) rfl rfl rfl (hM.2.1.2.1 _ n_267) (hW _ w_4) (by decide +kernel) ⟨Nat.le_of_ble_eq_true rfl, Nat.le_of_ble_eq_true rfl⟩), hW _ w_269, hW _ p_24⟩ (k_preV (q := (RRT, TRT, 3)) hM hte rfl) rfl rfl hl.1 rfl (lv_room (Nat.le_of_ble_eq_true rfl)) dVR_bitsOfTest_22 ⟨Nat.zero_le _, Nat.zero_le _⟩) hM (fun r μ1 H locs hp hM => ?_)
        obtain ⟨rfl, hmu⟩ := hp
        rw [hmu] at hM
        refine lv_if_eq (tgt := 34) hx hb dVR_bitsOfTest_25 (by decide) (fun h25 => ?_) (fun h25 => ?_)
        · have h25 := bD_0.mp h25
          refine lv_iinc (v := nI (j + 1)) (lv' := [(2, .int (nI (j + 1))), (0, .ref xa), (1, .int (bN (fun j => hldR k Fb Fc (LF j)) j))]) (k := 2) hx hb dVR_bitsOfTest_34 hl rfl (ii1 j) (by decide) rfl (fun ls hl => ?_)
          refine lv_goto (tgt := 4) hx hb dVR_bitsOfTest_37 (by decide) ?_
          try rw [← bN_f (f := fun j => hldR k Fb Fc (LF j)) (n := j) (fun z => h25 (of_decide_eq_true z))] at hl
          exact ih (j + 1) (by omega) (by first | assumption | omega | exact rfl) ls H locs (lv_sub hl [1, 2, 0] rfl) hM
        · have h25 := bD_n.mp h25
          refine lv_iload_n hx hb dVR_bitsOfTest_28 rfl (lv_at hl 1 rfl) ?_
          refine lv_iconst (v := nI 1) hx hb dVR_bitsOfTest_29 (by decide) ?_
          refine lv_iload_n hx hb dVR_bitsOfTest_30 rfl (lv_at hl 2 rfl) ?_
          refine lv_ishl hx hb dVR_bitsOfTest_31 ?_
          refine lv_ior hx hb dVR_bitsOfTest_32 ?_
          refine topi_eq (y := bN (fun j => hldR k Fb Fc (LF j)) (j + 1)) ((bN_t (f := fun j => hldR k Fb Fc (LF j)) (decide_eq_true h25)).symm) ?_
          refine lv_istore_n (lv' := [(1, .int (bN (fun j => hldR k Fb Fc (LF j)) (j + 1))), (0, .ref xa), (2, .int (nI j))]) hx hb dVR_bitsOfTest_33 rfl hl (by decide) rfl (fun ls hl => ?_)
          refine lv_iinc (v := nI (j + 1)) (lv' := [(2, .int (nI (j + 1))), (1, .int (bN (fun j => hldR k Fb Fc (LF j)) (j + 1))), (0, .ref xa)]) (k := 2) hx hb dVR_bitsOfTest_34 hl rfl (ii1 j) (by decide) rfl (fun ls hl => ?_)
          refine lv_goto (tgt := 4) hx hb dVR_bitsOfTest_37 (by decide) ?_
          try rw [← bN_f (f := fun j => hldR k Fb Fc (LF j)) (n := j) (fun z => h25 (of_decide_eq_true z))] at hl
          exact ih (j + 1) (by omega) (by first | assumption | omega | exact rfl) ls H locs (lv_sub hl [2, 1, 0] rfl) hM
  refine lv_iconst (v := nI 0) hx hb dVR_bitsOfTest_0 (by decide) ?_
  refine lv_istore_n (lv' := [(1, .int (nI 0)), (0, .ref xa)]) hx hb dVR_bitsOfTest_1 rfl hl (by decide) rfl (fun ls hl => ?_)
  refine lv_iconst (v := nI 0) hx hb dVR_bitsOfTest_2 (by decide) ?_
  refine lv_istore_n (lv' := [(2, .int (nI 0)), (1, .int (nI 0)), (0, .ref xa)]) hx hb dVR_bitsOfTest_3 rfl hl (by decide) rfl (fun ls hl => ?_)
  exact cut4 _ 0 (Nat.lt_succ_self _) (by first | assumption | omega | exact rfl) ls H locs (lv_sub hl [2, 1, 0] rfl) hM
