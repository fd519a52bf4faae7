theorem i0_lt {x : Int32} : x < 0 ↔ x.toInt < 0 := by rw [Int32.lt_iff_toInt_lt]; rfl
theorem iN_le {n : Nat} {x : Int32} (h : n < 2 ^ 31) : nI n ≤ x ↔ (n : Int) ≤ x.toInt := by rw [Int32.le_iff_toInt_le, nI_toInt h]
theorem iN_ge {n : Nat} {x : Int32} (h : n < 2 ^ 31) : x ≤ nI n ↔ x.toInt ≤ (n : Int) := by rw [Int32.le_iff_toInt_le, nI_toInt h]
theorem iN_lt {n : Nat} {x : Int32} (h : n < 2 ^ 31) : nI n < x ↔ (n : Int) < x.toInt := by rw [Int32.lt_iff_toInt_lt, nI_toInt h]
theorem iN_of {x : Int32} {n : Nat} (hn : n < 2 ^ 31) (h : 0 ≤ x.toInt ∧ x.toInt < (n : Int)) : ∃ j : Nat, j < n ∧ x = nI j := vp_in_of (vp_in_iff.mpr h) hn
def pb20 (B : Nat → Nat) (n : Nat) (a b c d f : Int32) : Nat → Nat := pb4 (pb4 (pb4 (pb4 (pb4 B n a) (n + 4) b) (n + 8) c) (n + 12) d) (n + 16) f
/-- how many of the first n answers are below zero -/
def rkN (f : Nat → Int32) : Nat → Nat
  | 0 => 0
  | n + 1 => rkN f n + (if f n < 0 then 1 else 0)
theorem rkN_le (f : Nat → Int32) : ∀ n, rkN f n ≤ n
  | 0 => Nat.le_refl _
  | n + 1 => by
    have h := rkN_le f n
    rw [rkN]
    split <;> omega
theorem rkN_t {f : Nat → Int32} {n : Nat} (h : ¬ 0 ≤ f n) : rkN f (n + 1) = rkN f n + 1 := by
  rw [rkN, if_pos]
  rw [Int32.le_iff_toInt_le] at h
  exact Int32.lt_iff_toInt_lt.mpr (by omega)
theorem rkN_f {f : Nat → Int32} {n : Nat} (h : 0 ≤ f n) : rkN f (n + 1) = rkN f n := by
  rw [rkN, if_neg]
  · rfl
  · intro z
    have h1 := Int32.le_iff_toInt_le.mp h
    have h2 := Int32.lt_iff_toInt_lt.mp z
    omega
set_option maxHeartbeats 800000 in
set_option maxRecDepth 100000 in
theorem mVR_isListed (l : Launch) (g : kG) (μ : km_M) {xa ta la cd te cnt : Nat} (hxa : μ xa = some (.inr (3, [.ref ta, .ref la, .ref cd, .ref te, .int (nI cnt)]))) (hcnt : cnt ≤ 12) {k : Int32} : Met l yVR_isListed (Cond.code yVR_isListed cVR_isListed 2 (some .boolean) :: Wd) ({ frames := 0, cells := 0, slots := 0, locals := 0 } : Room) (kPre g μ [.ref xa, .int k]) (kQi g (fun (r : Int32) (μ1 : km_M) => r = bI (decide (0 ≤ k.toInt ∧ k.toInt < (cnt : Int))) ∧ μ1 = μ)) 0 0 (kF g) := by
  refine k_met (by decide) (Nat.le_of_ble_eq_true rfl) ?_
  intro p e s m below meth c hx hb hr hlocks hml hown hnm hW ls hl H locs hM
  have hl : lv_has ls 2 [(0, .ref xa), (1, .int k)] := hl
  refine lv_iload_n hx hb dVR_isListed_0 rfl (lv_at hl 1 rfl) ?_
  refine lv_if_lt (tgt := 16) hx hb dVR_isListed_1 (by decide) (fun h1 => ?_) (fun h1 => ?_)
  · have h1 := i0_lt.mp h1
    refine lv_iconst (v := nI 0) hx hb dVR_isListed_16 (by decide) ?_
    exact kr_z hx hb hr (by decide) hlocks hM dVR_isListed_17 (⟨by first | rfl | exact bI_t (by omega) | exact bI_f (by omega), rfl⟩)
  · have h1 := (not_congr i0_lt).mp h1
    refine lv_iload_n hx hb dVR_isListed_4 rfl (lv_at hl 1 rfl) ?_
    refine lv_aload_n hx hb dVR_isListed_5 rfl (lv_at hl 0 rfl) ?_
    refine k_get (own := RVR) (ref := RVR) (C := RVR) (T := TVR) (N := 5) (ci := 3) (v := .int (nI cnt)) hx hb hW inVR hown hM hxa rfl 4 (by decide) (hW _ w_98) (fun _ h => h) rfl dVR_isListed_6 ?_
    refine lv_icmp_ge (tgt := 16) hx hb dVR_isListed_9 (by decide) (fun h9 => ?_) (fun h9 => ?_)
    · have h9 := (iN_le (by omega)).mp h9
      refine lv_iconst (v := nI 0) hx hb dVR_isListed_16 (by decide) ?_
      exact kr_z hx hb hr (by decide) hlocks hM dVR_isListed_17 (⟨by first | rfl | exact bI_t (by omega) | exact bI_f (by omega), rfl⟩)
    · have h9 := (not_congr (iN_le (n := cnt) (by omega))).mp h9
      refine lv_iconst (v := nI 1) hx hb dVR_isListed_12 (by decide) ?_
      refine lv_goto (tgt := 17) hx hb dVR_isListed_13 (by decide) ?_
      exact kr_z hx hb hr (by decide) hlocks hM dVR_isListed_17 (⟨by first | rfl | exact bI_t (by omega) | exact bI_f (by omega), rfl⟩)
set_option maxHeartbeats 800000 in
set_option maxRecDepth 100000 in
theorem mVR_feed (l : Launch) (g : kG) (μ : km_M) {xa ta la cd te cnt : Nat} (hxa : μ xa = some (.inr (3, [.ref ta, .ref la, .ref cd, .ref te, .int (nI cnt)]))) (hcnt : cnt ≤ 12) {ba sa oa ln ai zi : Nat} (ht : μ ta = some (.inr (1, [.ref ba, .ref sa, .ref oa, .int (nI ln), .int (nI ai), .int (nI zi)]))) {B : Nat → Nat} (hB : ∀ k, B k < 256) (hb0 : μ ba = some (.inl (g.2.2.1 0, 400, .inl (fun j => sb (B j))))) (hln : ln ≤ 400) {v1 v2 v3 v4 v5 : Int32} : Met l yVR_feed (Cond.code yVR_feed cVR_feed 6 (some .int) :: Wd) ({ frames := 1, cells := 0, slots := 0, locals := 22 } : Room) (kPre g μ [.ref xa, .int v1, .int v2, .int v3, .int v4, .int v5]) (kQi g (fun (r : Int32) (μ1 : km_M) => (ln + 20 ≤ 400 ∧ r = nI (ln + 20) ∧ μ1 = km_up (km_up μ ba (.inl (g.2.2.1 0, 400, .inl (fun j => sb ((pb20 B ln v1 v2 v3 v4 v5) j))))) ta (.inr (1, [.ref ba, .ref sa, .ref oa, .int (nI (ln + 20)), .int (nI ai), .int (nI zi)]))) ∨ (¬ ln + 20 ≤ 400 ∧ r = (-3) ∧ μ1 = μ))) 0 0 (kF g) := by
  refine k_met (by decide) (Nat.le_of_ble_eq_true rfl) ?_
  intro p e s m below meth c hx hb hr hlocks hml hown hnm hW ls hl H locs hM
  have hl : lv_has ls 6 [(0, .ref xa), (1, .int v1), (2, .int v2), (3, .int v3), (4, .int v4), (5, .int v5)] := hl
  refine lv_aload_n hx hb dVR_feed_0 rfl (lv_at hl 0 rfl) ?_
  refine k_get (own := RVR) (ref := RVR) (C := RVR) (T := TVR) (N := 5) (ci := 3) (v := .ref ta) hx hb hW inVR hown hM hxa rfl 0 (by decide) (hW _ w_94) (fun _ h => h) rfl dVR_feed_1 ?_
  refine lv_bipush (v := nI 20) hx hb dVR_feed_4 (by decide) ?_
  refine kc_i (va_runVN (C := RTP) (As := [.int (nI 20)]) (b := ta) (rest := []) (Ts := Wd) ⟨hx, hb, hml, hown, hW⟩ (mTP_hasRoomFor l g μ ht (k := 20) (by omega) (by omega)) ⟨(va_cnB 1 hW (k_gC w_117) rfl rfl rfl (hM.2.1.2.1 _ n_114) (hW _ w_2) (by decide +kernel) ⟨Nat.le_of_ble_eq_true rfl, Nat.le_of_ble_eq_true rfl⟩), hW _ w_116, hW _ p_0⟩ (k_preV (q := (RTP, TTP, 6)) hM ht rfl) rfl rfl hl.1 rfl (lv_room (Nat.le_of_ble_eq_true rfl)) dVR_feed_6 ⟨Nat.zero_le _, Nat.zero_le _⟩) hM (fun r μ1 H locs hp hM => ?_)
  obtain ⟨rfl, hmu⟩ := hp
  rw [hmu] at hM
  refine lv_if_ne (tgt := 15) hx hb dVR_feed_9 (by decide) (fun h9 => ?_) (fun h9 => ?_)
  · have h9 := bD_n.mp h9
    refine lv_aload_n hx hb dVR_feed_15 rfl (lv_at hl 0 rfl) ?_
    refine k_get (own := RVR) (ref := RVR) (C := RVR) (T := TVR) (N := 5) (ci := 3) (v := .ref ta) hx hb hW inVR hown hM hxa rfl 0 (by decide) (hW _ w_94) (fun _ h => h) rfl dVR_feed_16 ?_
    refine lv_iload_n hx hb dVR_feed_19 rfl (lv_at hl 1 rfl) ?_
    refine kc_v (va_runVN (C := RTP) (As := [.int v1]) (b := ta) (rest := []) (Ts := Wd) ⟨hx, hb, hml, hown, hW⟩ (mTP_addFour l g μ ht hB hb0 (v := v1) (by omega)) ⟨(va_cnB 1 hW (k_gC w_121) rfl rfl rfl (hM.2.1.2.1 _ n_118) (hW _ w_2) (by decide +kernel) ⟨Nat.le_of_ble_eq_true rfl, Nat.le_of_ble_eq_true rfl⟩), hW _ w_120, hW _ p_1⟩ (k_preV (q := (RTP, TTP, 6)) hM ht rfl) rfl rfl hl.1 rfl (lv_room (Nat.le_of_ble_eq_true rfl)) dVR_feed_20 ⟨Nat.zero_le _, Nat.zero_le _⟩) hM (fun μ1 H locs hp hM => ?_)
    rw [hp] at hM
    have hM : kS g (km_up (km_up μ ba (.inl (g.2.2.1 0, 400, .inl (fun j => sb ((pb4 B ln v1) j))))) ta (.inr (1, [.ref ba, .ref sa, .ref oa, .int (nI (ln + 4)), .int (nI ai), .int (nI zi)]))) s H locs := hM
    refine lv_aload_n hx hb dVR_feed_23 rfl (lv_at hl 0 rfl) ?_
    refine k_get (own := RVR) (ref := RVR) (C := RVR) (T := TVR) (N := 5) (ci := 3) (v := .ref ta) hx hb hW inVR hown hM ((km_n (km_apC hxa ht (by decide))).trans ((km_n (km_apB hxa hb0)).trans hxa)) rfl 0 (by decide) (hW _ w_94) (fun _ h => h) rfl dVR_feed_24 ?_
    refine lv_iload_n hx hb dVR_feed_27 rfl (lv_at hl 2 rfl) ?_
    refine kc_v (va_runVN (C := RTP) (As := [.int v2]) (b := ta) (rest := []) (Ts := Wd) ⟨hx, hb, hml, hown, hW⟩ (mTP_addFour l g (km_up (km_up μ ba (.inl (g.2.2.1 0, 400, .inl (fun j => sb ((pb4 B ln v1) j))))) ta (.inr (1, [.ref ba, .ref sa, .ref oa, .int (nI (ln + 4)), .int (nI ai), .int (nI zi)]))) (km_s _ _ _) (pb4_lt hB _ _) ((km_n (km_apA hb0 ht)).trans (km_s _ _ _)) (v := v2) (by omega)) ⟨(va_cnB 1 hW (k_gC w_121) rfl rfl rfl (hM.2.1.2.1 _ n_118) (hW _ w_2) (by decide +kernel) ⟨Nat.le_of_ble_eq_true rfl, Nat.le_of_ble_eq_true rfl⟩), hW _ w_120, hW _ p_1⟩ (k_preV (q := (RTP, TTP, 6)) hM (km_s _ _ _) rfl) rfl rfl hl.1 rfl (lv_room (Nat.le_of_ble_eq_true rfl)) dVR_feed_28 ⟨Nat.zero_le _, Nat.zero_le _⟩) hM (fun μ1 H locs hp hM => ?_)
    rw [hp] at hM
    have hM : kS g (km_up (km_up (km_up (km_up μ ba (.inl (g.2.2.1 0, 400, .inl (fun j => sb ((pb4 B ln v1) j))))) ta (.inr (1, [.ref ba, .ref sa, .ref oa, .int (nI (ln + 4)), .int (nI ai), .int (nI zi)]))) ba (.inl (g.2.2.1 0, 400, .inl (fun j => sb ((pb4 (pb4 B ln v1) (ln + 4) v2) j))))) ta (.inr (1, [.ref ba, .ref sa, .ref oa, .int (nI (ln + 8)), .int (nI ai), .int (nI zi)]))) s H locs := hM
    have hM : kS g (km_up (km_up (km_up μ ba (.inl (g.2.2.1 0, 400, .inl (fun j => sb ((pb4 (pb4 B ln v1) (ln + 4) v2) j))))) ta (.inr (1, [.ref ba, .ref sa, .ref oa, .int (nI (ln + 4)), .int (nI ai), .int (nI zi)]))) ta (.inr (1, [.ref ba, .ref sa, .ref oa, .int (nI (ln + 8)), .int (nI ai), .int (nI zi)]))) s H locs := kS_eq (congrArg (fun z => km_up z ta (.inr (1, [.ref ba, .ref sa, .ref oa, .int (nI (ln + 8)), .int (nI ai), .int (nI zi)]))) (km_u2 _ _ _ _ (km_apA hb0 ht))) hM
    have hM : kS g (km_up (km_up μ ba (.inl (g.2.2.1 0, 400, .inl (fun j => sb ((pb4 (pb4 B ln v1) (ln + 4) v2) j))))) ta (.inr (1, [.ref ba, .ref sa, .ref oa, .int (nI (ln + 8)), .int (nI ai), .int (nI zi)]))) s H locs := kS_eq (km_u1 _ _ _ _) hM
    refine lv_aload_n hx hb dVR_feed_31 rfl (lv_at hl 0 rfl) ?_
    refine k_get (own := RVR) (ref := RVR) (C := RVR) (T := TVR) (N := 5) (ci := 3) (v := .ref ta) hx hb hW inVR hown hM ((km_n (km_apC hxa ht (by decide))).trans ((km_n (km_apB hxa hb0)).trans hxa)) rfl 0 (by decide) (hW _ w_94) (fun _ h => h) rfl dVR_feed_32 ?_
    refine lv_iload_n hx hb dVR_feed_35 rfl (lv_at hl 3 rfl) ?_
    refine kc_v (va_runVN (C := RTP) (As := [.int v3]) (b := ta) (rest := []) (Ts := Wd) ⟨hx, hb, hml, hown, hW⟩ (mTP_addFour l g (km_up (km_up μ ba (.inl (g.2.2.1 0, 400, .inl (fun j => sb ((pb4 (pb4 B ln v1) (ln + 4) v2) j))))) ta (.inr (1, [.ref ba, .ref sa, .ref oa, .int (nI (ln + 8)), .int (nI ai), .int (nI zi)]))) (km_s _ _ _) (pb4_lt (pb4_lt hB _ _) _ _) ((km_n (km_apA hb0 ht)).trans (km_s _ _ _)) (v := v3) (by omega)) ⟨(va_cnB 1 hW (k_gC w_121) rfl rfl rfl (hM.2.1.2.1 _ n_118) (hW _ w_2) (by decide +kernel) ⟨Nat.le_of_ble_eq_true rfl, Nat.le_of_ble_eq_true rfl⟩), hW _ w_120, hW _ p_1⟩ (k_preV (q := (RTP, TTP, 6)) hM (km_s _ _ _) rfl) rfl rfl hl.1 rfl (lv_room (Nat.le_of_ble_eq_true rfl)) dVR_feed_36 ⟨Nat.zero_le _, Nat.zero_le _⟩) hM (fun μ1 H locs hp hM => ?_)
    rw [hp] at hM
    have hM : kS g (km_up (km_up (km_up (km_up μ ba (.inl (g.2.2.1 0, 400, .inl (fun j => sb ((pb4 (pb4 B ln v1) (ln + 4) v2) j))))) ta (.inr (1, [.ref ba, .ref sa, .ref oa, .int (nI (ln + 8)), .int (nI ai), .int (nI zi)]))) ba (.inl (g.2.2.1 0, 400, .inl (fun j => sb ((pb4 (pb4 (pb4 B ln v1) (ln + 4) v2) (ln + 8) v3) j))))) ta (.inr (1, [.ref ba, .ref sa, .ref oa, .int (nI (ln + 12)), .int (nI ai), .int (nI zi)]))) s H locs := hM
    have hM : kS g (km_up (km_up (km_up μ ba (.inl (g.2.2.1 0, 400, .inl (fun j => sb ((pb4 (pb4 (pb4 B ln v1) (ln + 4) v2) (ln + 8) v3) j))))) ta (.inr (1, [.ref ba, .ref sa, .ref oa, .int (nI (ln + 8)), .int (nI ai), .int (nI zi)]))) ta (.inr (1, [.ref ba, .ref sa, .ref oa, .int (nI (ln + 12)), .int (nI ai), .int (nI zi)]))) s H locs := kS_eq (congrArg (fun z => km_up z ta (.inr (1, [.ref ba, .ref sa, .ref oa, .int (nI (ln + 12)), .int (nI ai), .int (nI zi)]))) (km_u2 _ _ _ _ (km_apA hb0 ht))) hM
    have hM : kS g (km_up (km_up μ ba (.inl (g.2.2.1 0, 400, .inl (fun j => sb ((pb4 (pb4 (pb4 B ln v1) (ln + 4) v2) (ln + 8) v3) j))))) ta (.inr (1, [.ref ba, .ref sa, .ref oa, .int (nI (ln + 12)), .int (nI ai), .int (nI zi)]))) s H locs := kS_eq (km_u1 _ _ _ _) hM
    refine lv_aload_n hx hb dVR_feed_39 rfl (lv_at hl 0 rfl) ?_
    refine k_get (own := RVR) (ref := RVR) (C := RVR) (T := TVR) (N := 5) (ci := 3) (v := .ref ta) hx hb hW inVR hown hM ((km_n (km_apC hxa ht (by decide))).trans ((km_n (km_apB hxa hb0)).trans hxa)) rfl 0 (by decide) (hW _ w_94) (fun _ h => h) rfl dVR_feed_40 ?_
    refine lv_iload hx hb dVR_feed_43 (lv_at hl 4 rfl) ?_
    refine kc_v (va_runVN (C := RTP) (As := [.int v4]) (b := ta) (rest := []) (Ts := Wd) ⟨hx, hb, hml, hown, hW⟩ (mTP_addFour l g (km_up (km_up μ ba (.inl (g.2.2.1 0, 400, .inl (fun j => sb ((pb4 (pb4 (pb4 B ln v1) (ln + 4) v2) (ln + 8) v3) j))))) ta (.inr (1, [.ref ba, .ref sa, .ref oa, .int (nI (ln + 12)), .int (nI ai), .int (nI zi)]))) (km_s _ _ _) (pb4_lt (pb4_lt (pb4_lt hB _ _) _ _) _ _) ((km_n (km_apA hb0 ht)).trans (km_s _ _ _)) (v := v4) (by omega)) ⟨(va_cnB 1 hW (k_gC w_121) rfl rfl rfl (hM.2.1.2.1 _ n_118) (hW _ w_2) (by decide +kernel) ⟨Nat.le_of_ble_eq_true rfl, Nat.le_of_ble_eq_true rfl⟩), hW _ w_120, hW _ p_1⟩ (k_preV (q := (RTP, TTP, 6)) hM (km_s _ _ _) rfl) rfl rfl hl.1 rfl (lv_room (Nat.le_of_ble_eq_true rfl)) dVR_feed_45 ⟨Nat.zero_le _, Nat.zero_le _⟩) hM (fun μ1 H locs hp hM => ?_)
    rw [hp] at hM
    have hM : kS g (km_up (km_up (km_up (km_up μ ba (.inl (g.2.2.1 0, 400, .inl (fun j => sb ((pb4 (pb4 (pb4 B ln v1) (ln + 4) v2) (ln + 8) v3) j))))) ta (.inr (1, [.ref ba, .ref sa, .ref oa, .int (nI (ln + 12)), .int (nI ai), .int (nI zi)]))) ba (.inl (g.2.2.1 0, 400, .inl (fun j => sb ((pb4 (pb4 (pb4 (pb4 B ln v1) (ln + 4) v2) (ln + 8) v3) (ln + 12) v4) j))))) ta (.inr (1, [.ref ba, .ref sa, .ref oa, .int (nI (ln + 16)), .int (nI ai), .int (nI zi)]))) s H locs := hM
    have hM : kS g (km_up (km_up (km_up μ ba (.inl (g.2.2.1 0, 400, .inl (fun j => sb ((pb4 (pb4 (pb4 (pb4 B ln v1) (ln + 4) v2) (ln + 8) v3) (ln + 12) v4) j))))) ta (.inr (1, [.ref ba, .ref sa, .ref oa, .int (nI (ln + 12)), .int (nI ai), .int (nI zi)]))) ta (.inr (1, [.ref ba, .ref sa, .ref oa, .int (nI (ln + 16)), .int (nI ai), .int (nI zi)]))) s H locs := kS_eq (congrArg (fun z => km_up z ta (.inr (1, [.ref ba, .ref sa, .ref oa, .int (nI (ln + 16)), .int (nI ai), .int (nI zi)]))) (km_u2 _ _ _ _ (km_apA hb0 ht))) hM
    have hM : kS g (km_up (km_up μ ba (.inl (g.2.2.1 0, 400, .inl (fun j => sb ((pb4 (pb4 (pb4 (pb4 B ln v1) (ln + 4) v2) (ln + 8) v3) (ln + 12) v4) j))))) ta (.inr (1, [.ref ba, .ref sa, .ref oa, .int (nI (ln + 16)), .int (nI ai), .int (nI zi)]))) s H locs := kS_eq (km_u1 _ _ _ _) hM
    refine lv_aload_n hx hb dVR_feed_48 rfl (lv_at hl 0 rfl) ?_
    refine k_get (own := RVR) (ref := RVR) (C := RVR) (T := TVR) (N := 5) (ci := 3) (v := .ref ta) hx hb hW inVR hown hM ((km_n (km_apC hxa ht (by decide))).trans ((km_n (km_apB hxa hb0)).trans hxa)) rfl 0 (by decide) (hW _ w_94) (fun _ h => h) rfl dVR_feed_49 ?_
    refine lv_iload hx hb dVR_feed_52 (lv_at hl 5 rfl) ?_
    refine kc_v (va_runVN (C := RTP) (As := [.int v5]) (b := ta) (rest := []) (Ts := Wd) ⟨hx, hb, hml, hown, hW⟩ (mTP_addFour l g (km_up (km_up μ ba (.inl (g.2.2.1 0, 400, .inl (fun j => sb ((pb4 (pb4 (pb4 (pb4 B ln v1) (ln + 4) v2) (ln + 8) v3) (ln + 12) v4) j))))) ta (.inr (1, [.ref ba, .ref sa, .ref oa, .int (nI (ln + 16)), .int (nI ai), .int (nI zi)]))) (km_s _ _ _) (pb4_lt (pb4_lt (pb4_lt (pb4_lt hB _ _) _ _) _ _) _ _) ((km_n (km_apA hb0 ht)).trans (km_s _ _ _)) (v := v5) (by omega)) ⟨(va_cnB 1 hW (k_gC w_121) rfl rfl rfl (hM.2.1.2.1 _ n_118) (hW _ w_2) (by decide +kernel) ⟨Nat.le_of_ble_eq_true rfl, Nat.le_of_ble_eq_true rfl⟩), hW _ w_120, hW _ p_1⟩ (k_preV (q := (RTP, TTP, 6)) hM (km_s _ _ _) rfl) rfl rfl hl.1 rfl (lv_room (Nat.le_of_ble_eq_true rfl)) dVR_feed_54 ⟨Nat.zero_le _, Nat.zero_le _⟩) hM (fun μ1 H locs hp hM => ?_)
    rw [hp] at hM
    have hM : kS g (km_up (km_up (km_up (km_up μ ba (.inl (g.2.2.1 0, 400, .inl (fun j => sb ((pb4 (pb4 (pb4 (pb4 B ln v1) (ln + 4) v2) (ln + 8) v3) (ln + 12) v4) j))))) ta (.inr (1, [.ref ba, .ref sa, .ref oa, .int (nI (ln + 16)), .int (nI ai), .int (nI zi)]))) ba (.inl (g.2.2.1 0, 400, .inl (fun j => sb ((pb4 (pb4 (pb4 (pb4 (pb4 B ln v1) (ln + 4) v2) (ln + 8) v3) (ln + 12) v4) (ln + 16) v5) j))))) ta (.inr (1, [.ref ba, .ref sa, .ref oa, .int (nI (ln + 20)), .int (nI ai), .int (nI zi)]))) s H locs := hM
    have hM : kS g (km_up (km_up (km_up μ ba (.inl (g.2.2.1 0, 400, .inl (fun j => sb ((pb4 (pb4 (pb4 (pb4 (pb4 B ln v1) (ln + 4) v2) (ln + 8) v3) (ln + 12) v4) (ln + 16) v5) j))))) ta (.inr (1, [.ref ba, .ref sa, .ref oa, .int (nI (ln + 16)), .int (nI ai), .int (nI zi)]))) ta (.inr (1, [.ref ba, .ref sa, .ref oa, .int (nI (ln + 20)), .int (nI ai), .int (nI zi)]))) s H locs := kS_eq (congrArg (fun z => km_up z ta (.inr (1, [.ref ba, .ref sa, .ref oa, .int (nI (ln + 20)), .int (nI ai), .int (nI zi)]))) (km_u2 _ _ _ _ (km_apA hb0 ht))) hM
    have hM : kS g (km_up (km_up μ ba (.inl (g.2.2.1 0, 400, .inl (fun j => sb ((pb4 (pb4 (pb4 (pb4 (pb4 B ln v1) (ln + 4) v2) (ln + 8) v3) (ln + 12) v4) (ln + 16) v5) j))))) ta (.inr (1, [.ref ba, .ref sa, .ref oa, .int (nI (ln + 20)), .int (nI ai), .int (nI zi)]))) s H locs := kS_eq (km_u1 _ _ _ _) hM
    refine lv_aload_n hx hb dVR_feed_57 rfl (lv_at hl 0 rfl) ?_
    refine k_get (own := RVR) (ref := RVR) (C := RVR) (T := TVR) (N := 5) (ci := 3) (v := .ref ta) hx hb hW inVR hown hM ((km_n (km_apC hxa ht (by decide))).trans ((km_n (km_apB hxa hb0)).trans hxa)) rfl 0 (by decide) (hW _ w_94) (fun _ h => h) rfl dVR_feed_58 ?_
    refine k_getN (own := RVR) (ref := RTP) (C := RTP) (T := TTP) (N := 6) (ci := 1) (v := .int (nI (ln + 20))) hx hb hW inTP hown hM (km_s _ _ _) rfl 3 (by decide) (va_Nw.use rfl (hM.2.1.2.1 _ n_38)) (fun _ h => h) rfl dVR_feed_61 ?_
    exact kr_i hx hb hr hlocks hM dVR_feed_64 (Or.inl ⟨h9, rfl, rfl⟩)
  · have h9 := bD_0.mp h9
    refine lv_bipush (v := (-3)) hx hb dVR_feed_12 (by decide) ?_
    exact kr_i hx hb hr hlocks hM dVR_feed_14 (Or.inr ⟨h9, rfl, rfl⟩)
set_option maxHeartbeats 800000 in
set_option maxRecDepth 100000 in
theorem mVR_end (l : Launch) (g : kG) (μ : km_M) {xa ta la cd te cnt : Nat} (hxa : μ xa = some (.inr (3, [.ref ta, .ref la, .ref cd, .ref te, .int (nI cnt)]))) (hcnt : cnt ≤ 12) {ba sa oa ln ai zi : Nat} (ht : μ ta = some (.inr (1, [.ref ba, .ref sa, .ref oa, .int (nI ln), .int (nI ai), .int (nI zi)]))) (hln : ln ≤ 400) {n : Int32} : Met l yVR_end (Cond.code yVR_end cVR_end 2 (some .int) :: Wd) ({ frames := 0, cells := 0, slots := 0, locals := 0 } : Room) (kPre g μ [.ref xa, .int n]) (kQi g (fun (r : Int32) (μ1 : km_M) => ((0 ≤ n.toInt ∧ n.toInt ≤ (ln : Int)) ∧ r = n ∧ ∃ j, n = nI j ∧ j ≤ ln ∧ μ1 = km_up μ ta (.inr (1, [.ref ba, .ref sa, .ref oa, .int (nI j), .int (nI ai), .int (nI zi)]))) ∨ (¬ (0 ≤ n.toInt ∧ n.toInt ≤ (ln : Int)) ∧ r = (-1) ∧ μ1 = μ))) 0 0 (kF g) := by
  refine k_met (by decide) (Nat.le_of_ble_eq_true rfl) ?_
  intro p e s m below meth c hx hb hr hlocks hml hown hnm hW ls hl H locs hM
  have hl : lv_has ls 2 [(0, .ref xa), (1, .int n)] := hl
  refine lv_iload_n hx hb dVR_end_0 rfl (lv_at hl 1 rfl) ?_
  refine lv_if_lt (tgt := 15) hx hb dVR_end_1 (by decide) (fun h1 => ?_) (fun h1 => ?_)
  · have h1 := i0_lt.mp h1
    refine lv_iconst (v := (-1)) hx hb dVR_end_15 (by decide) ?_
    exact kr_i hx hb hr hlocks hM dVR_end_16 (Or.inr ⟨by first | omega | (rw [nI_toInt hj]; omega), rfl, rfl⟩)
  · obtain ⟨j, hj, rfl⟩ := nI_of h1
    refine lv_iload_n hx hb dVR_end_4 rfl (lv_at hl 1 rfl) ?_
    refine lv_aload_n hx hb dVR_end_5 rfl (lv_at hl 0 rfl) ?_
    refine k_get (own := RVR) (ref := RVR) (C := RVR) (T := TVR) (N := 5) (ci := 3) (v := .ref ta) hx hb hW inVR hown hM hxa rfl 0 (by decide) (hW _ w_94) (fun _ h => h) rfl dVR_end_6 ?_
    refine k_getN (own := RVR) (ref := RTP) (C := RTP) (T := TTP) (N := 6) (ci := 1) (v := .int (nI ln)) hx hb hW inTP hown hM ht rfl 3 (by decide) (va_Nw.use rfl (hM.2.1.2.1 _ n_38)) (fun _ h => h) rfl dVR_end_9 ?_
    refine lv_icmp_le (tgt := 17) hx hb dVR_end_12 (by decide) (fun h12 => ?_) (fun h12 => ?_)
    · have h12 := (nJ_le_t (a := j) (b := ln) (by omega) (by omega)).mp h12
      refine lv_aload_n hx hb dVR_end_17 rfl (lv_at hl 0 rfl) ?_
      refine k_get (own := RVR) (ref := RVR) (C := RVR) (T := TVR) (N := 5) (ci := 3) (v := .ref ta) hx hb hW inVR hown hM hxa rfl 0 (by decide) (hW _ w_94) (fun _ h => h) rfl dVR_end_18 ?_
      refine lv_iload_n hx hb dVR_end_21 rfl (lv_at hl 1 rfl) ?_
      refine k_putN (own := RVR) (ref := RTP) (C := RTP) (T := TTP) (N := 6) (ci := 1) (v := .int (nI j)) (ty := .int) (fs' := [.ref ba, .ref sa, .ref oa, .int (nI j), .int (nI ai), .int (nI zi)]) hx hb hW inTP tyTP tyokTP nmokTP hown hM ht rfl 3 (by decide) (va_Nw.use rfl (hM.2.1.2.1 _ n_38)) (fun _ h => h) rfl (by decide +kernel) rfl rfl (Nat.le_of_ble_eq_true rfl) dVR_end_22 rfl (fun H locs hM => ?_)
      have hM : kS g (km_up μ ta (.inr (1, [.ref ba, .ref sa, .ref oa, .int (nI j), .int (nI ai), .int (nI zi)]))) s H locs := hM
      refine lv_iload_n hx hb dVR_end_25 rfl (lv_at hl 1 rfl) ?_
      exact kr_i hx hb hr hlocks hM dVR_end_26 (Or.inl ⟨by rw [nI_toInt hj]; omega, rfl, j, rfl, by omega, rfl⟩)
    · have h12 := (nJ_le_f (a := j) (b := ln) (by omega) (by omega)).mp h12
      refine lv_iconst (v := (-1)) hx hb dVR_end_15 (by decide) ?_
      exact kr_i hx hb hr hlocks hM dVR_end_16 (Or.inr ⟨by first | omega | (rw [nI_toInt hj]; omega), rfl, rfl⟩)
set_option maxHeartbeats 800000 in
set_option maxRecDepth 100000 in
theorem mVR_clear (l : Launch) (g : kG) (μ : km_M) {xa ta la cd te cnt : Nat} (hxa : μ xa = some (.inr (3, [.ref ta, .ref la, .ref cd, .ref te, .int (nI cnt)]))) (hcnt : cnt ≤ 12) : Met l yVR_clear (Cond.code yVR_clear cVR_clear 2 (some .int) :: Wd) ({ frames := 0, cells := 0, slots := 0, locals := 0 } : Room) (kPre g μ [.ref xa]) (kQi g (fun (r : Int32) (μ1 : km_M) => r = nI cnt ∧ μ1 = km_up μ xa (.inr (3, [.ref ta, .ref la, .ref cd, .ref te, .int (nI 0)])))) 0 0 (kF g) := by
  refine k_met (by decide) (Nat.le_of_ble_eq_true rfl) ?_
  intro p e s m below meth c hx hb hr hlocks hml hown hnm hW ls hl H locs hM
  have hl : lv_has ls 2 [(0, .ref xa)] := hl
  refine lv_aload_n hx hb dVR_clear_0 rfl (lv_at hl 0 rfl) ?_
  refine k_get (own := RVR) (ref := RVR) (C := RVR) (T := TVR) (N := 5) (ci := 3) (v := .int (nI cnt)) hx hb hW inVR hown hM hxa rfl 4 (by decide) (hW _ w_98) (fun _ h => h) rfl dVR_clear_1 ?_
  refine lv_istore_n (lv' := [(1, .int (nI cnt)), (0, .ref xa)]) hx hb dVR_clear_4 rfl hl (by decide) rfl (fun ls hl => ?_)
  refine lv_aload_n hx hb dVR_clear_5 rfl (lv_at hl 1 rfl) ?_
  refine lv_iconst (v := nI 0) hx hb dVR_clear_6 (by decide) ?_
  refine k_put (own := RVR) (ref := RVR) (C := RVR) (T := TVR) (N := 5) (ci := 3) (v := .int (nI 0)) (ty := .int) (fs' := [.ref ta, .ref la, .ref cd, .ref te, .int (nI 0)]) hx hb hW inVR tyVR tyokVR nmokVR hown hM hxa rfl 4 (by decide) (hW _ w_98) (fun _ h => h) rfl (by decide +kernel) rfl rfl (Nat.le_of_ble_eq_true rfl) dVR_clear_7 rfl (fun H locs hM => ?_)
  have hM : kS g (km_up μ xa (.inr (3, [.ref ta, .ref la, .ref cd, .ref te, .int (nI 0)]))) s H locs := hM
  refine lv_iload_n hx hb dVR_clear_10 rfl (lv_at hl 0 rfl) ?_
  exact kr_i hx hb hr hlocks hM dVR_clear_11 (⟨rfl, rfl⟩)
set_option maxHeartbeats 800000 in
set_option maxRecDepth 100000 in
theorem mVR_compare (l : Launch) (g : kG) (μ : km_M) {xa ta la cd te cnt : Nat} (hxa : μ xa = some (.inr (3, [.ref ta, .ref la, .ref cd, .ref te, .int (nI cnt)]))) (hcnt : cnt ≤ 12) {V : Nat → Option Nat} {lv lr lp : Nat → Nat} {LF : Nat → Nat → Int64} (hla : μ la = some (.inl (g.2.2.1 4, 12, .inr (.inr (.inr (.inr V)))))) (hV : ∀ k, k < 12 → V k = some (lv k)) (hL : ∀ k, k < 12 → μ (lv k) = some (.inr (2, [.ref (lr k), .int (nI (lp k))])) ∧ μ (lr k) = some (.inl (g.2.2.1 2, 7, .inr (.inl (LF k))))) {k q : Int32} : Met l yVR_compare (Cond.code yVR_compare cVR_compare 3 (some .int) :: Wd) ({ frames := 1, cells := 0, slots := 0, locals := 22 } : Room) (kPre g μ [.ref xa, .int k, .int q]) (kQi g (fun (r : Int32) (μ1 : km_M) => μ1 = μ ∧ ((¬ ((0 ≤ k.toInt ∧ k.toInt < (cnt : Int)) ∧ (0 ≤ q.toInt ∧ q.toInt < (cnt : Int))) ∧ r = (-2)) ∨ (∃ i j, i < cnt ∧ j < cnt ∧ k = nI i ∧ q = nI j ∧ r = oF (LF i) (LF j) 0 7)))) 0 0 (kF g) := by
  refine k_met (by decide) (Nat.le_of_ble_eq_true rfl) ?_
  intro p e s m below meth c hx hb hr hlocks hml hown hnm hW ls hl H locs hM
  have hl : lv_has ls 3 [(0, .ref xa), (1, .int k), (2, .int q)] := hl
  refine lv_aload_n hx hb dVR_compare_0 rfl (lv_at hl 0 rfl) ?_
  refine lv_iload_n hx hb dVR_compare_1 rfl (lv_at hl 1 rfl) ?_
  refine kc_i (va_runV (C := RVR) (As := [.int k]) (b := xa) (rest := []) (Ts := Wd) ⟨hx, hb, hml, hown, hW⟩ (mVR_isListed l g μ hxa hcnt (k := k)) (cwV 1 hW (k_gV w_194 w_196 p_14 w_1 w_197) rfl rfl rfl (by decide +kernel) ⟨Nat.le_of_ble_eq_true rfl, Nat.le_of_ble_eq_true rfl⟩) (k_preV (q := (RVR, TVR, 5)) hM hxa rfl) rfl rfl hl.1 rfl (lv_room (Nat.le_of_ble_eq_true rfl)) dVR_compare_2 ⟨Nat.zero_le _, Nat.zero_le _⟩) hM (fun r μ1 H locs hp hM => ?_)
  obtain ⟨rfl, hmu⟩ := hp
  rw [hmu] at hM
  rcases Decidable.em (0 ≤ k.toInt ∧ k.toInt < (cnt : Int)) with hl_i | hl_i
  · refine topi_eq (y := nI 1) (bI_t hl_i).symm ?_
    obtain ⟨i, hl_i, rfl⟩ := iN_of (by omega) hl_i
    refine lv_if_eq (tgt := 16) hx hb dVR_compare_5 (by decide) (fun h => absurd h (by decide)) (fun _ => ?_)
    refine lv_aload_n hx hb dVR_compare_8 rfl (lv_at hl 0 rfl) ?_
    refine lv_iload_n hx hb dVR_compare_9 rfl (lv_at hl 2 rfl) ?_
    refine kc_i (va_runV (C := RVR) (As := [.int q]) (b := xa) (rest := []) (Ts := Wd) ⟨hx, hb, hml, hown, hW⟩ (mVR_isListed l g μ hxa hcnt (k := q)) (cwV 1 hW (k_gV w_194 w_196 p_14 w_1 w_197) rfl rfl rfl (by decide +kernel) ⟨Nat.le_of_ble_eq_true rfl, Nat.le_of_ble_eq_true rfl⟩) (k_preV (q := (RVR, TVR, 5)) hM hxa rfl) rfl rfl hl.1 rfl (lv_room (Nat.le_of_ble_eq_true rfl)) dVR_compare_10 ⟨Nat.zero_le _, Nat.zero_le _⟩) hM (fun r μ1 H locs hp hM => ?_)
    obtain ⟨rfl, hmu⟩ := hp
    rw [hmu] at hM
    rcases Decidable.em (0 ≤ q.toInt ∧ q.toInt < (cnt : Int)) with hl_j | hl_j
    · refine topi_eq (y := nI 1) (bI_t hl_j).symm ?_
      obtain ⟨j, hl_j, rfl⟩ := iN_of (by omega) hl_j
      refine lv_if_ne (tgt := 19) hx hb dVR_compare_13 (by decide) (fun _ => ?_) (fun h => absurd h (by decide))
      refine lv_aload_n hx hb dVR_compare_19 rfl (lv_at hl 0 rfl) ?_
      refine k_get (own := RVR) (ref := RVR) (C := RVR) (T := TVR) (N := 5) (ci := 3) (v := .ref la) hx hb hW inVR hown hM hxa rfl 1 (by decide) (hW _ w_95) (fun _ h => h) rfl dVR_compare_20 ?_
      refine lv_iload_n hx hb dVR_compare_23 rfl (lv_at hl 1 rfl) ?_
      refine k_aald (i := i) (r := some (lv i)) hx hb hM 4 hla rfl (by omega) (by omega) (hV _ (by omega)) dVR_compare_24 ?_
      refine lv_aload_n hx hb dVR_compare_25 rfl (lv_at hl 0 rfl) ?_
      refine k_get (own := RVR) (ref := RVR) (C := RVR) (T := TVR) (N := 5) (ci := 3) (v := .ref la) hx hb hW inVR hown hM hxa rfl 1 (by decide) (hW _ w_95) (fun _ h => h) rfl dVR_compare_26 ?_
      refine lv_iload_n hx hb dVR_compare_29 rfl (lv_at hl 2 rfl) ?_
      refine k_aald (i := j) (r := some (lv j)) hx hb hM 4 hla rfl (by omega) (by omega) (hV _ (by omega)) dVR_compare_30 ?_
      refine kc_i (va_runVN (C := RVE) (As := [.ref (lv j)]) (b := lv i) (rest := []) (Ts := Wd) ⟨hx, hb, hml, hown, hW⟩ (mVE_orderTo l g μ (hL i (by omega)).1 (hL i (by omega)).2 (hL j (by omega)).1 (hL j (by omega)).2) ⟨(va_cnB 1 hW (k_gC w_201) rfl rfl rfl (hM.2.1.2.1 _ n_198) (hW _ w_3) (by decide +kernel) ⟨Nat.le_of_ble_eq_true rfl, Nat.le_of_ble_eq_true rfl⟩), hW _ w_200, hW _ p_15⟩ (k_preV (q := (RVE, TVE, 2)) hM (hL i (by omega)).1 rfl) rfl rfl hl.1 rfl (lv_room (Nat.le_of_ble_eq_true rfl)) dVR_compare_31 ⟨Nat.zero_le _, Nat.zero_le _⟩) hM (fun r μ1 H locs hp hM => ?_)
      obtain ⟨rfl, hmu⟩ := hp
      rw [hmu] at hM
      exact kr_i hx hb hr hlocks hM dVR_compare_34 (⟨rfl, Or.inr ⟨i, j, by omega, by omega, rfl, rfl, rfl⟩⟩)
    · refine topi_eq (y := nI 0) (bI_f hl_j).symm ?_
      refine lv_if_ne (tgt := 19) hx hb dVR_compare_13 (by decide) (fun h => absurd (by decide) h) (fun _ => ?_)
      refine lv_bipush (v := (-2)) hx hb dVR_compare_16 (by decide) ?_
      exact kr_i hx hb hr hlocks hM dVR_compare_18 (⟨rfl, Or.inl ⟨fun z => by first | exact hl_i z.1 | exact hl_j z.2, rfl⟩⟩)
  · refine topi_eq (y := nI 0) (bI_f hl_i).symm ?_
    refine lv_if_eq (tgt := 16) hx hb dVR_compare_5 (by decide) (fun _ => ?_) (fun h => absurd (by decide) h)
    refine lv_bipush (v := (-2)) hx hb dVR_compare_16 (by decide) ?_
    exact kr_i hx hb hr hlocks hM dVR_compare_18 (⟨rfl, Or.inl ⟨fun z => by first | exact hl_i z.1 | exact hl_j z.2, rfl⟩⟩)
set_option maxHeartbeats 800000 in
set_option maxRecDepth 100000 in
theorem mVR_part (l : Launch) (g : kG) (μ : km_M) {xa ta la cd te cnt : Nat} (hxa : μ xa = some (.inr (3, [.ref ta, .ref la, .ref cd, .ref te, .int (nI cnt)]))) (hcnt : cnt ≤ 12) {V : Nat → Option Nat} {lv lr lp : Nat → Nat} {LF : Nat → Nat → Int64} (hla : μ la = some (.inl (g.2.2.1 4, 12, .inr (.inr (.inr (.inr V)))))) (hV : ∀ k, k < 12 → V k = some (lv k)) (hL : ∀ k, k < 12 → μ (lv k) = some (.inr (2, [.ref (lr k), .int (nI (lp k))])) ∧ μ (lr k) = some (.inl (g.2.2.1 2, 7, .inr (.inl (LF k))))) {k q : Int32} : Met l yVR_part (Cond.code yVR_part cVR_part 3 (some .int) :: Wd) ({ frames := 1, cells := 0, slots := 0, locals := 21 } : Room) (kPre g μ [.ref xa, .int k, .int q]) (kQi g (fun (r : Int32) (μ1 : km_M) => μ1 = μ ∧ ((¬ (0 ≤ q.toInt ∧ q.toInt ≤ 3) ∧ r = (-1)) ∨ ((0 ≤ q.toInt ∧ q.toInt ≤ 3) ∧ ¬ (0 ≤ k.toInt ∧ k.toInt < (cnt : Int)) ∧ r = (-2)) ∨ (∃ i j, i < cnt ∧ j ≤ 3 ∧ k = nI i ∧ q = nI j ∧ r = if j = 3 then nI (lp i) else (LF i j).toInt32)))) 0 0 (kF g) := by
  refine k_met (by decide) (Nat.le_of_ble_eq_true rfl) ?_
  intro p e s m below meth c hx hb hr hlocks hml hown hnm hW ls hl H locs hM
  have hl : lv_has ls 3 [(0, .ref xa), (1, .int k), (2, .int q)] := hl
  refine lv_iload_n hx hb dVR_part_0 rfl (lv_at hl 2 rfl) ?_
  refine lv_if_lt (tgt := 9) hx hb dVR_part_1 (by decide) (fun h1 => ?_) (fun h1 => ?_)
  · have h1 := i0_lt.mp h1
    refine lv_iconst (v := (-1)) hx hb dVR_part_9 (by decide) ?_
    exact kr_i hx hb hr hlocks hM dVR_part_10 (⟨rfl, Or.inl ⟨by first | omega | (rw [nI_toInt hj]; omega), rfl⟩⟩)
  · obtain ⟨j, hj, rfl⟩ := nI_of h1
    refine lv_iload_n hx hb dVR_part_4 rfl (lv_at hl 2 rfl) ?_
    refine lv_iconst (v := nI 3) hx hb dVR_part_5 (by decide) ?_
    refine lv_icmp_le (tgt := 11) hx hb dVR_part_6 (by decide) (fun h6 => ?_) (fun h6 => ?_)
    · have h6 := (nJ_le_t (a := j) (b := 3) (by omega) (by omega)).mp h6
      refine lv_aload_n hx hb dVR_part_11 rfl (lv_at hl 0 rfl) ?_
      refine lv_iload_n hx hb dVR_part_12 rfl (lv_at hl 1 rfl) ?_
      refine kc_i (va_runV (C := RVR) (As := [.int k]) (b := xa) (rest := []) (Ts := Wd) ⟨hx, hb, hml, hown, hW⟩ (mVR_isListed l g μ hxa hcnt (k := k)) (cwV 1 hW (k_gV w_194 w_196 p_14 w_1 w_197) rfl rfl rfl (by decide +kernel) ⟨Nat.le_of_ble_eq_true rfl, Nat.le_of_ble_eq_true rfl⟩) (k_preV (q := (RVR, TVR, 5)) hM hxa rfl) rfl rfl hl.1 rfl (lv_room (Nat.le_of_ble_eq_true rfl)) dVR_part_13 ⟨Nat.zero_le _, Nat.zero_le _⟩) hM (fun r μ1 H locs hp hM => ?_)
      obtain ⟨rfl, hmu⟩ := hp
      rw [hmu] at hM
      rcases Decidable.em (0 ≤ k.toInt ∧ k.toInt < (cnt : Int)) with hl_i | hl_i
      · refine topi_eq (y := nI 1) (bI_t hl_i).symm ?_
        obtain ⟨i, hl_i, rfl⟩ := iN_of (by omega) hl_i
        refine lv_if_ne (tgt := 22) hx hb dVR_part_16 (by decide) (fun _ => ?_) (fun h => absurd h (by decide))
        refine lv_iload_n hx hb dVR_part_22 rfl (lv_at hl 2 rfl) ?_
        refine lv_iconst (v := nI 3) hx hb dVR_part_23 (by decide) ?_
        refine lv_icmp_ne (tgt := 39) hx hb dVR_part_24 (by decide) (fun h24 => ?_) (fun h24 => ?_)
        · have h24 := (nJ_ne_t (a := j) (b := 3) (by omega) (by omega)).mp h24
          refine lv_aload_n hx hb dVR_part_39 rfl (lv_at hl 0 rfl) ?_
          refine k_get (own := RVR) (ref := RVR) (C := RVR) (T := TVR) (N := 5) (ci := 3) (v := .ref la) hx hb hW inVR hown hM hxa rfl 1 (by decide) (hW _ w_95) (fun _ h => h) rfl dVR_part_40 ?_
          refine lv_iload_n hx hb dVR_part_43 rfl (lv_at hl 1 rfl) ?_
          refine k_aald (i := i) (r := some (lv i)) hx hb hM 4 hla rfl (by omega) (by omega) (hV _ (by omega)) dVR_part_44 ?_
          refine lv_iload_n hx hb dVR_part_45 rfl (lv_at hl 2 rfl) ?_
          refine kc_i (va_runVN (C := RVE) (As := [.int (nI j)]) (b := lv i) (rest := []) (Ts := Wd) ⟨hx, hb, hml, hown, hW⟩ (mVE_number l g μ (hL i (by omega)).1 (hL i (by omega)).2 (k := j) (by omega)) ⟨(va_cnB 1 hW (k_gC w_209) rfl rfl rfl (hM.2.1.2.1 _ n_206) (hW _ w_3) (by decide +kernel) ⟨Nat.le_of_ble_eq_true rfl, Nat.le_of_ble_eq_true rfl⟩), hW _ w_208, hW _ p_16⟩ (k_preV (q := (RVE, TVE, 2)) hM (hL i (by omega)).1 rfl) rfl rfl hl.1 rfl (lv_room (Nat.le_of_ble_eq_true rfl)) dVR_part_46 ⟨Nat.zero_le _, Nat.zero_le _⟩) hM (fun r μ1 H locs hp hM => ?_)
          obtain ⟨rfl, hmu⟩ := hp
          rw [hmu] at hM
          exact kr_i hx hb hr hlocks hM dVR_part_49 (⟨rfl, Or.inr (Or.inr ⟨i, j, by omega, by omega, rfl, rfl, by rw [if_neg h24]⟩)⟩)
        · have h24 := (nJ_ne_f (a := j) (b := 3) (by omega) (by omega)).mp h24
          refine lv_aload_n hx hb dVR_part_27 rfl (lv_at hl 0 rfl) ?_
          refine k_get (own := RVR) (ref := RVR) (C := RVR) (T := TVR) (N := 5) (ci := 3) (v := .ref la) hx hb hW inVR hown hM hxa rfl 1 (by decide) (hW _ w_95) (fun _ h => h) rfl dVR_part_28 ?_
          refine lv_iload_n hx hb dVR_part_31 rfl (lv_at hl 1 rfl) ?_
          refine k_aald (i := i) (r := some (lv i)) hx hb hM 4 hla rfl (by omega) (by omega) (hV _ (by omega)) dVR_part_32 ?_
          refine k_getN (own := RVR) (ref := RVE) (C := RVE) (T := TVE) (N := 2) (ci := 2) (v := .int (nI (lp i))) hx hb hW inVE hown hM (hL i (by omega)).1 rfl 1 (by decide) (va_Nw.use rfl (hM.2.1.2.1 _ n_67)) (fun _ h => h) rfl dVR_part_33 ?_
          refine lv_goto (tgt := 49) hx hb dVR_part_36 (by decide) ?_
          exact kr_i hx hb hr hlocks hM dVR_part_49 (⟨rfl, Or.inr (Or.inr ⟨i, j, by omega, by omega, rfl, rfl, by rw [if_pos h24]⟩)⟩)
      · refine topi_eq (y := nI 0) (bI_f hl_i).symm ?_
        refine lv_if_ne (tgt := 22) hx hb dVR_part_16 (by decide) (fun h => absurd (by decide) h) (fun _ => ?_)
        refine lv_bipush (v := (-2)) hx hb dVR_part_19 (by decide) ?_
        exact kr_i hx hb hr hlocks hM dVR_part_21 (⟨rfl, Or.inr (Or.inl ⟨by rw [nI_toInt hj]; omega, hl_i, rfl⟩)⟩)
    · have h6 := (nJ_le_f (a := j) (b := 3) (by omega) (by omega)).mp h6
      refine lv_iconst (v := (-1)) hx hb dVR_part_9 (by decide) ?_
      exact kr_i hx hb hr hlocks hM dVR_part_10 (⟨rfl, Or.inl ⟨by first | omega | (rw [nI_toInt hj]; omega), rfl⟩⟩)
