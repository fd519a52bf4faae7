/-- what the reference's sign and signLength answer -/
def rsg (f : Nat → Nat) (n : Nat) : Nat := if (1 < n ∧ f 0 = 60 ∧ f 1 = 61) then 3 else if (1 < n ∧ f 0 = 62 ∧ f 1 = 61) then 5 else if (0 < n ∧ f 0 = 60) then 2 else if (0 < n ∧ f 0 = 62) then 4 else if (0 < n ∧ f 0 = 94) then 6 else if (0 < n ∧ f 0 = 126) then 7 else 1
def rsl (f : Nat → Nat) (n : Nat) : Nat := if (1 < n ∧ f 0 = 60 ∧ f 1 = 61) then 2 else if (1 < n ∧ f 0 = 62 ∧ f 1 = 61) then 2 else if (0 < n ∧ f 0 = 60) then 1 else if (0 < n ∧ f 0 = 62) then 1 else if (0 < n ∧ f 0 = 61) then 1 else if (0 < n ∧ f 0 = 94) then 1 else if (0 < n ∧ f 0 = 126) then 1 else 0
theorem sw_1 {f : Nat → Nat} {n i b : Nat} (h : kLen.getD i 0 = 1) (hb : kb i 0 = b) : swP f n i ↔ (0 < n ∧ f 0 = b) := by
  unfold swP
  rw [h]
  constructor
  · intro z
    exact ⟨z.1, (z.2 0 (by omega)).trans hb⟩
  · intro z
    refine ⟨z.1, fun q hq => ?_⟩
    have hq0 : q = 0 := by omega
    subst hq0
    exact z.2.trans hb.symm
theorem sw_2 {f : Nat → Nat} {n i b c : Nat} (h : kLen.getD i 0 = 2) (hb : kb i 0 = b) (hc : kb i 1 = c) : swP f n i ↔ (1 < n ∧ f 0 = b ∧ f 1 = c) := by
  unfold swP
  rw [h]
  constructor
  · intro z
    exact ⟨z.1, (z.2 0 (by omega)).trans hb, (z.2 1 (by omega)).trans hc⟩
  · intro z
    refine ⟨z.1, fun q hq => ?_⟩
    rcases (show q = 0 ∨ q = 1 by omega) with rfl | rfl
    · exact z.2.1.trans hb.symm
    · exact z.2.2.trans hc.symm
theorem sw_l6 {f : Nat → Nat} {n : Nat} : swP f n 6 ↔ (1 < n ∧ f 0 = 60 ∧ f 1 = 61) := sw_2 rfl rfl rfl
theorem sw_l7 {f : Nat → Nat} {n : Nat} : swP f n 7 ↔ (1 < n ∧ f 0 = 62 ∧ f 1 = 61) := sw_2 rfl rfl rfl
theorem sw_l8 {f : Nat → Nat} {n : Nat} : swP f n 8 ↔ (0 < n ∧ f 0 = 60) := sw_1 rfl rfl
theorem sw_l9 {f : Nat → Nat} {n : Nat} : swP f n 9 ↔ (0 < n ∧ f 0 = 62) := sw_1 rfl rfl
theorem sw_l10 {f : Nat → Nat} {n : Nat} : swP f n 10 ↔ (0 < n ∧ f 0 = 94) := sw_1 rfl rfl
theorem sw_l11 {f : Nat → Nat} {n : Nat} : swP f n 11 ↔ (0 < n ∧ f 0 = 126) := sw_1 rfl rfl
theorem sw_l12 {f : Nat → Nat} {n : Nat} : swP f n 12 ↔ (0 < n ∧ f 0 = 61) := sw_1 rfl rfl
theorem rsg_sgP {B : Nat → Nat} {a n : Nat} (h42 : ¬ (0 < n ∧ B a = 42)) : sgP B a (a + n) = (rsg (fun k => B (a + k)) n, a + rsl (fun k => B (a + k)) n) := by
  unfold rsg rsl
  simp only [Nat.add_zero]
  unfold sgP
  have l0 : a < a + n ↔ 0 < n := by omega
  have l1 : a + 1 < a + n ↔ 1 < n := by omega
  simp only [l0, l1]
  by_cases hn : 0 < n
  · by_cases h1 : B a = 60
    · by_cases h2 : 1 < n ∧ B (a + 1) = 61
      · simp [hn, h1, h2.1, h2.2]
      · have h3 : ¬ (1 < n ∧ B a = 60 ∧ B (a + 1) = 61) := fun z => h2 ⟨z.1, z.2.2⟩
        simp [hn, h1, h2]
    · by_cases h62 : B a = 62
      · by_cases h2 : 1 < n ∧ B (a + 1) = 61
        · simp [hn, h62, h2.1, h2.2]
        · simp [hn, h62, h2]
      · have h4 : ¬ B a = 42 := fun z => h42 ⟨hn, z⟩
        by_cases h94 : B a = 94
        · simp [hn, h94]
        · by_cases h126 : B a = 126
          · simp [hn, h126]
          · by_cases h61 : B a = 61
            · simp [hn, h61]
            · simp [hn, h1, h62, h4, h94, h126, h61]
  · have hn1 : ¬ 1 < n := by omega
    simp [hn, hn1]
set_option maxHeartbeats 800000 in
set_option maxRecDepth 100000 in
theorem mMD_sign (l : Launch) (g : kG) (μ : km_M) {a va n : Nat} {f : Nat → Nat} (hs : μ a = some (.inr (7, [.ref va, .int (nI 0), .int (nI 0), .int (nI 0)]))) (hv : μ va = some (.inl (g.2.2.1 0, n, .inl (fun j => sb (f j))))) (hf : ∀ k, f k < 256) (hn : n ≤ 400) : Met l yMD_sign (Cond.code yMD_sign cMD_sign 1 (some .int) :: Wd) ({ frames := 4, cells := 0, slots := 0, locals := 88 } : Room) (kPre g μ [.ref a]) (kQi g (fun (r : Int32) (μ1 : km_M) => r = nI (rsg f n) ∧ μ1 = μ)) 0 0 (kF g) := by
  refine k_met (by decide) (Nat.le_of_ble_eq_true rfl) ?_
  intro p e s m below meth c hx hb hr hlocks hml hown hnm hW ls hl H locs hM
  have hl : lv_has ls 1 [(0, .ref a)] := hl
  refine lv_aload_n hx hb dMD_sign_0 rfl (lv_at hl 0 rfl) ?_
  refine va_ldcS hx hb hown (hM.2.1.2.2.2.2.1 ("VersionRangesModel", 84, "<=", 6) (by decide +kernel)) dMD_sign_1 ?_
  refine kc_i (va_runV (C := RST) (As := [.ref (g.2.2.2.2.1 6)]) (b := a) (rest := []) (Ts := Wd) ⟨hx, hb, hml, hown, hW⟩ (mST_startsWith l g μ hs hv hf hn (i := 6) (by decide)) (cwV 1 hW (k_gV w_604 w_605 w_606 w_9 w_607) rfl rfl rfl (by decide +kernel) ⟨Nat.le_of_ble_eq_true rfl, Nat.le_of_ble_eq_true rfl⟩) (k_preV (q := (RST, TST, 4)) hM hs rfl) rfl rfl hl.1 rfl (lv_room (Nat.le_of_ble_eq_true rfl)) dMD_sign_3 ⟨Nat.zero_le _, Nat.zero_le _⟩) hM (fun r μ1 H locs hp hM => ?_)
  obtain ⟨hmu, hcase⟩ := hp
  rw [hmu] at hM
  rcases hcase with ⟨w6, rfl⟩ | ⟨w6, rfl⟩
  · have w6 := sw_l6.mp w6
    refine lv_if_eq (tgt := 11) hx hb dMD_sign_6 (by decide) (fun h => absurd h (by decide)) (fun _ => ?_)
    refine lv_iconst (v := nI 3) hx hb dMD_sign_9 (by decide) ?_
    exact kr_i hx hb hr hlocks hM dMD_sign_10 (⟨congrArg nI (show 3 = rsg f n by unfold rsg; rw [if_pos w6]), rfl⟩)
  · have w6 := (not_congr sw_l6).mp w6
    refine lv_if_eq (tgt := 11) hx hb dMD_sign_6 (by decide) (fun _ => ?_) (fun h => absurd (by decide) h)
    refine lv_aload_n hx hb dMD_sign_11 rfl (lv_at hl 0 rfl) ?_
    refine va_ldcS hx hb hown (hM.2.1.2.2.2.2.1 ("VersionRangesModel", 89, ">=", 7) (by decide +kernel)) dMD_sign_12 ?_
    refine kc_i (va_runV (C := RST) (As := [.ref (g.2.2.2.2.1 7)]) (b := a) (rest := []) (Ts := Wd) ⟨hx, hb, hml, hown, hW⟩ (mST_startsWith l g μ hs hv hf hn (i := 7) (by decide)) (cwV 1 hW (k_gV w_604 w_605 w_606 w_9 w_607) rfl rfl rfl (by decide +kernel) ⟨Nat.le_of_ble_eq_true rfl, Nat.le_of_ble_eq_true rfl⟩) (k_preV (q := (RST, TST, 4)) hM hs rfl) rfl rfl hl.1 rfl (lv_room (Nat.le_of_ble_eq_true rfl)) dMD_sign_14 ⟨Nat.zero_le _, Nat.zero_le _⟩) hM (fun r μ1 H locs hp hM => ?_)
    obtain ⟨hmu, hcase⟩ := hp
    rw [hmu] at hM
    rcases hcase with ⟨w7, rfl⟩ | ⟨w7, rfl⟩
    · have w7 := sw_l7.mp w7
      refine lv_if_eq (tgt := 22) hx hb dMD_sign_17 (by decide) (fun h => absurd h (by decide)) (fun _ => ?_)
      refine lv_iconst (v := nI 5) hx hb dMD_sign_20 (by decide) ?_
      exact kr_i hx hb hr hlocks hM dMD_sign_21 (⟨congrArg nI (show 5 = rsg f n by unfold rsg; rw [if_neg w6, if_pos w7]), rfl⟩)
    · have w7 := (not_congr sw_l7).mp w7
      refine lv_if_eq (tgt := 22) hx hb dMD_sign_17 (by decide) (fun _ => ?_) (fun h => absurd (by decide) h)
      refine lv_aload_n hx hb dMD_sign_22 rfl (lv_at hl 0 rfl) ?_
      refine va_ldcS hx hb hown (hM.2.1.2.2.2.2.1 ("VersionRangesModel", 91, "<", 8) (by decide +kernel)) dMD_sign_23 ?_
      refine kc_i (va_runV (C := RST) (As := [.ref (g.2.2.2.2.1 8)]) (b := a) (rest := []) (Ts := Wd) ⟨hx, hb, hml, hown, hW⟩ (mST_startsWith l g μ hs hv hf hn (i := 8) (by decide)) (cwV 1 hW (k_gV w_604 w_605 w_606 w_9 w_607) rfl rfl rfl (by decide +kernel) ⟨Nat.le_of_ble_eq_true rfl, Nat.le_of_ble_eq_true rfl⟩) (k_preV (q := (RST, TST, 4)) hM hs rfl) rfl rfl hl.1 rfl (lv_room (Nat.le_of_ble_eq_true rfl)) dMD_sign_25 ⟨Nat.zero_le _, Nat.zero_le _⟩) hM (fun r μ1 H locs hp hM => ?_)
      obtain ⟨hmu, hcase⟩ := hp
      rw [hmu] at hM
      rcases hcase with ⟨w8, rfl⟩ | ⟨w8, rfl⟩
      · have w8 := sw_l8.mp w8
        refine lv_if_eq (tgt := 33) hx hb dMD_sign_28 (by decide) (fun h => absurd h (by decide)) (fun _ => ?_)
        refine lv_iconst (v := nI 2) hx hb dMD_sign_31 (by decide) ?_
        exact kr_i hx hb hr hlocks hM dMD_sign_32 (⟨congrArg nI (show 2 = rsg f n by unfold rsg; rw [if_neg w6, if_neg w7, if_pos w8]), rfl⟩)
      · have w8 := (not_congr sw_l8).mp w8
        refine lv_if_eq (tgt := 33) hx hb dMD_sign_28 (by decide) (fun _ => ?_) (fun h => absurd (by decide) h)
        refine lv_aload_n hx hb dMD_sign_33 rfl (lv_at hl 0 rfl) ?_
        refine va_ldcS hx hb hown (hM.2.1.2.2.2.2.1 ("VersionRangesModel", 93, ">", 9) (by decide +kernel)) dMD_sign_34 ?_
        refine kc_i (va_runV (C := RST) (As := [.ref (g.2.2.2.2.1 9)]) (b := a) (rest := []) (Ts := Wd) ⟨hx, hb, hml, hown, hW⟩ (mST_startsWith l g μ hs hv hf hn (i := 9) (by decide)) (cwV 1 hW (k_gV w_604 w_605 w_606 w_9 w_607) rfl rfl rfl (by decide +kernel) ⟨Nat.le_of_ble_eq_true rfl, Nat.le_of_ble_eq_true rfl⟩) (k_preV (q := (RST, TST, 4)) hM hs rfl) rfl rfl hl.1 rfl (lv_room (Nat.le_of_ble_eq_true rfl)) dMD_sign_36 ⟨Nat.zero_le _, Nat.zero_le _⟩) hM (fun r μ1 H locs hp hM => ?_)
        obtain ⟨hmu, hcase⟩ := hp
        rw [hmu] at hM
        rcases hcase with ⟨w9, rfl⟩ | ⟨w9, rfl⟩
        · have w9 := sw_l9.mp w9
          refine lv_if_eq (tgt := 44) hx hb dMD_sign_39 (by decide) (fun h => absurd h (by decide)) (fun _ => ?_)
          refine lv_iconst (v := nI 4) hx hb dMD_sign_42 (by decide) ?_
          exact kr_i hx hb hr hlocks hM dMD_sign_43 (⟨congrArg nI (show 4 = rsg f n by unfold rsg; rw [if_neg w6, if_neg w7, if_neg w8, if_pos w9]), rfl⟩)
        · have w9 := (not_congr sw_l9).mp w9
          refine lv_if_eq (tgt := 44) hx hb dMD_sign_39 (by decide) (fun _ => ?_) (fun h => absurd (by decide) h)
          refine lv_aload_n hx hb dMD_sign_44 rfl (lv_at hl 0 rfl) ?_
          refine va_ldcS hx hb hown (hM.2.1.2.2.2.2.1 ("VersionRangesModel", 97, "^", 10) (by decide +kernel)) dMD_sign_45 ?_
          refine kc_i (va_runV (C := RST) (As := [.ref (g.2.2.2.2.1 10)]) (b := a) (rest := []) (Ts := Wd) ⟨hx, hb, hml, hown, hW⟩ (mST_startsWith l g μ hs hv hf hn (i := 10) (by decide)) (cwV 1 hW (k_gV w_604 w_605 w_606 w_9 w_607) rfl rfl rfl (by decide +kernel) ⟨Nat.le_of_ble_eq_true rfl, Nat.le_of_ble_eq_true rfl⟩) (k_preV (q := (RST, TST, 4)) hM hs rfl) rfl rfl hl.1 rfl (lv_room (Nat.le_of_ble_eq_true rfl)) dMD_sign_47 ⟨Nat.zero_le _, Nat.zero_le _⟩) hM (fun r μ1 H locs hp hM => ?_)
          obtain ⟨hmu, hcase⟩ := hp
          rw [hmu] at hM
          rcases hcase with ⟨w10, rfl⟩ | ⟨w10, rfl⟩
          · have w10 := sw_l10.mp w10
            refine lv_if_eq (tgt := 56) hx hb dMD_sign_50 (by decide) (fun h => absurd h (by decide)) (fun _ => ?_)
            refine lv_bipush (v := nI 6) hx hb dMD_sign_53 (by decide) ?_
            exact kr_i hx hb hr hlocks hM dMD_sign_55 (⟨congrArg nI (show 6 = rsg f n by unfold rsg; rw [if_neg w6, if_neg w7, if_neg w8, if_neg w9, if_pos w10]), rfl⟩)
          · have w10 := (not_congr sw_l10).mp w10
            refine lv_if_eq (tgt := 56) hx hb dMD_sign_50 (by decide) (fun _ => ?_) (fun h => absurd (by decide) h)
            refine lv_aload_n hx hb dMD_sign_56 rfl (lv_at hl 0 rfl) ?_
            refine va_ldcS hx hb hown (hM.2.1.2.2.2.2.1 ("VersionRangesModel", 99, "~", 11) (by decide +kernel)) dMD_sign_57 ?_
            refine kc_i (va_runV (C := RST) (As := [.ref (g.2.2.2.2.1 11)]) (b := a) (rest := []) (Ts := Wd) ⟨hx, hb, hml, hown, hW⟩ (mST_startsWith l g μ hs hv hf hn (i := 11) (by decide)) (cwV 1 hW (k_gV w_604 w_605 w_606 w_9 w_607) rfl rfl rfl (by decide +kernel) ⟨Nat.le_of_ble_eq_true rfl, Nat.le_of_ble_eq_true rfl⟩) (k_preV (q := (RST, TST, 4)) hM hs rfl) rfl rfl hl.1 rfl (lv_room (Nat.le_of_ble_eq_true rfl)) dMD_sign_59 ⟨Nat.zero_le _, Nat.zero_le _⟩) hM (fun r μ1 H locs hp hM => ?_)
            obtain ⟨hmu, hcase⟩ := hp
            rw [hmu] at hM
            rcases hcase with ⟨w11, rfl⟩ | ⟨w11, rfl⟩
            · have w11 := sw_l11.mp w11
              refine lv_if_eq (tgt := 70) hx hb dMD_sign_62 (by decide) (fun h => absurd h (by decide)) (fun _ => ?_)
              refine lv_bipush (v := nI 7) hx hb dMD_sign_65 (by decide) ?_
              refine lv_goto (tgt := 71) hx hb dMD_sign_67 (by decide) ?_
              exact kr_i hx hb hr hlocks hM dMD_sign_71 (⟨congrArg nI (show 7 = rsg f n by unfold rsg; rw [if_neg w6, if_neg w7, if_neg w8, if_neg w9, if_neg w10, if_pos w11]), rfl⟩)
            · have w11 := (not_congr sw_l11).mp w11
              refine lv_if_eq (tgt := 70) hx hb dMD_sign_62 (by decide) (fun _ => ?_) (fun h => absurd (by decide) h)
              refine lv_iconst (v := nI 1) hx hb dMD_sign_70 (by decide) ?_
              exact kr_i hx hb hr hlocks hM dMD_sign_71 (⟨congrArg nI (show 1 = rsg f n by unfold rsg; rw [if_neg w6, if_neg w7, if_neg w8, if_neg w9, if_neg w10, if_neg w11]), rfl⟩)
set_option maxHeartbeats 800000 in
set_option maxRecDepth 100000 in
theorem mMD_signLength (l : Launch) (g : kG) (μ : km_M) {a va n : Nat} {f : Nat → Nat} (hs : μ a = some (.inr (7, [.ref va, .int (nI 0), .int (nI 0), .int (nI 0)]))) (hv : μ va = some (.inl (g.2.2.1 0, n, .inl (fun j => sb (f j))))) (hf : ∀ k, f k < 256) (hn : n ≤ 400) : Met l yMD_signLength (Cond.code yMD_signLength cMD_signLength 1 (some .int) :: Wd) ({ frames := 4, cells := 0, slots := 0, locals := 88 } : Room) (kPre g μ [.ref a]) (kQi g (fun (r : Int32) (μ1 : km_M) => r = nI (rsl f n) ∧ μ1 = μ)) 0 0 (kF g) := by
  refine k_met (by decide) (Nat.le_of_ble_eq_true rfl) ?_
  intro p e s m below meth c hx hb hr hlocks hml hown hnm hW ls hl H locs hM
  have hl : lv_has ls 1 [(0, .ref a)] := hl
  refine lv_aload_n hx hb dMD_signLength_0 rfl (lv_at hl 0 rfl) ?_
  refine va_ldcS hx hb hown (hM.2.1.2.2.2.2.1 ("VersionRangesModel", 84, "<=", 6) (by decide +kernel)) dMD_signLength_1 ?_
  refine kc_i (va_runV (C := RST) (As := [.ref (g.2.2.2.2.1 6)]) (b := a) (rest := []) (Ts := Wd) ⟨hx, hb, hml, hown, hW⟩ (mST_startsWith l g μ hs hv hf hn (i := 6) (by decide)) (cwV 1 hW (k_gV w_604 w_605 w_606 w_9 w_607) rfl rfl rfl (by decide +kernel) ⟨Nat.le_of_ble_eq_true rfl, Nat.le_of_ble_eq_true rfl⟩) (k_preV (q := (RST, TST, 4)) hM hs rfl) rfl rfl hl.1 rfl (lv_room (Nat.le_of_ble_eq_true rfl)) dMD_signLength_3 ⟨Nat.zero_le _, Nat.zero_le _⟩) hM (fun r μ1 H locs hp hM => ?_)
  obtain ⟨hmu, hcase⟩ := hp
  rw [hmu] at hM
  rcases hcase with ⟨w6, rfl⟩ | ⟨w6, rfl⟩
  · have w6 := sw_l6.mp w6
    refine lv_if_ne (tgt := 18) hx hb dMD_signLength_6 (by decide) (fun _ => ?_) (fun h => absurd h (by decide))
    refine lv_iconst (v := nI 2) hx hb dMD_signLength_18 (by decide) ?_
    exact kr_i hx hb hr hlocks hM dMD_signLength_19 (⟨congrArg nI (show 2 = rsl f n by unfold rsl; rw [if_pos w6]), rfl⟩)
  · have w6 := (not_congr sw_l6).mp w6
    refine lv_if_ne (tgt := 18) hx hb dMD_signLength_6 (by decide) (fun h => absurd (by decide) h) (fun _ => ?_)
    refine lv_aload_n hx hb dMD_signLength_9 rfl (lv_at hl 0 rfl) ?_
    refine va_ldcS hx hb hown (hM.2.1.2.2.2.2.1 ("VersionRangesModel", 89, ">=", 7) (by decide +kernel)) dMD_signLength_10 ?_
    refine kc_i (va_runV (C := RST) (As := [.ref (g.2.2.2.2.1 7)]) (b := a) (rest := []) (Ts := Wd) ⟨hx, hb, hml, hown, hW⟩ (mST_startsWith l g μ hs hv hf hn (i := 7) (by decide)) (cwV 1 hW (k_gV w_604 w_605 w_606 w_9 w_607) rfl rfl rfl (by decide +kernel) ⟨Nat.le_of_ble_eq_true rfl, Nat.le_of_ble_eq_true rfl⟩) (k_preV (q := (RST, TST, 4)) hM hs rfl) rfl rfl hl.1 rfl (lv_room (Nat.le_of_ble_eq_true rfl)) dMD_signLength_12 ⟨Nat.zero_le _, Nat.zero_le _⟩) hM (fun r μ1 H locs hp hM => ?_)
    obtain ⟨hmu, hcase⟩ := hp
    rw [hmu] at hM
    rcases hcase with ⟨w7, rfl⟩ | ⟨w7, rfl⟩
    · have w7 := sw_l7.mp w7
      refine lv_if_eq (tgt := 20) hx hb dMD_signLength_15 (by decide) (fun h => absurd h (by decide)) (fun _ => ?_)
      refine lv_iconst (v := nI 2) hx hb dMD_signLength_18 (by decide) ?_
      exact kr_i hx hb hr hlocks hM dMD_signLength_19 (⟨congrArg nI (show 2 = rsl f n by unfold rsl; rw [if_neg w6, if_pos w7]), rfl⟩)
    · have w7 := (not_congr sw_l7).mp w7
      refine lv_if_eq (tgt := 20) hx hb dMD_signLength_15 (by decide) (fun _ => ?_) (fun h => absurd (by decide) h)
      refine lv_aload_n hx hb dMD_signLength_20 rfl (lv_at hl 0 rfl) ?_
      refine va_ldcS hx hb hown (hM.2.1.2.2.2.2.1 ("VersionRangesModel", 91, "<", 8) (by decide +kernel)) dMD_signLength_21 ?_
      refine kc_i (va_runV (C := RST) (As := [.ref (g.2.2.2.2.1 8)]) (b := a) (rest := []) (Ts := Wd) ⟨hx, hb, hml, hown, hW⟩ (mST_startsWith l g μ hs hv hf hn (i := 8) (by decide)) (cwV 1 hW (k_gV w_604 w_605 w_606 w_9 w_607) rfl rfl rfl (by decide +kernel) ⟨Nat.le_of_ble_eq_true rfl, Nat.le_of_ble_eq_true rfl⟩) (k_preV (q := (RST, TST, 4)) hM hs rfl) rfl rfl hl.1 rfl (lv_room (Nat.le_of_ble_eq_true rfl)) dMD_signLength_23 ⟨Nat.zero_le _, Nat.zero_le _⟩) hM (fun r μ1 H locs hp hM => ?_)
      obtain ⟨hmu, hcase⟩ := hp
      rw [hmu] at hM
      rcases hcase with ⟨w8, rfl⟩ | ⟨w8, rfl⟩
      · have w8 := sw_l8.mp w8
        refine lv_if_ne (tgt := 65) hx hb dMD_signLength_26 (by decide) (fun _ => ?_) (fun h => absurd h (by decide))
        refine lv_iconst (v := nI 1) hx hb dMD_signLength_65 (by decide) ?_
        refine lv_goto (tgt := 70) hx hb dMD_signLength_66 (by decide) ?_
        exact kr_i hx hb hr hlocks hM dMD_signLength_70 (⟨congrArg nI (show 1 = rsl f n by unfold rsl; rw [if_neg w6, if_neg w7, if_pos w8]), rfl⟩)
      · have w8 := (not_congr sw_l8).mp w8
        refine lv_if_ne (tgt := 65) hx hb dMD_signLength_26 (by decide) (fun h => absurd (by decide) h) (fun _ => ?_)
        refine lv_aload_n hx hb dMD_signLength_29 rfl (lv_at hl 0 rfl) ?_
        refine va_ldcS hx hb hown (hM.2.1.2.2.2.2.1 ("VersionRangesModel", 93, ">", 9) (by decide +kernel)) dMD_signLength_30 ?_
        refine kc_i (va_runV (C := RST) (As := [.ref (g.2.2.2.2.1 9)]) (b := a) (rest := []) (Ts := Wd) ⟨hx, hb, hml, hown, hW⟩ (mST_startsWith l g μ hs hv hf hn (i := 9) (by decide)) (cwV 1 hW (k_gV w_604 w_605 w_606 w_9 w_607) rfl rfl rfl (by decide +kernel) ⟨Nat.le_of_ble_eq_true rfl, Nat.le_of_ble_eq_true rfl⟩) (k_preV (q := (RST, TST, 4)) hM hs rfl) rfl rfl hl.1 rfl (lv_room (Nat.le_of_ble_eq_true rfl)) dMD_signLength_32 ⟨Nat.zero_le _, Nat.zero_le _⟩) hM (fun r μ1 H locs hp hM => ?_)
        obtain ⟨hmu, hcase⟩ := hp
        rw [hmu] at hM
        rcases hcase with ⟨w9, rfl⟩ | ⟨w9, rfl⟩
        · have w9 := sw_l9.mp w9
          refine lv_if_ne (tgt := 65) hx hb dMD_signLength_35 (by decide) (fun _ => ?_) (fun h => absurd h (by decide))
          refine lv_iconst (v := nI 1) hx hb dMD_signLength_65 (by decide) ?_
          refine lv_goto (tgt := 70) hx hb dMD_signLength_66 (by decide) ?_
          exact kr_i hx hb hr hlocks hM dMD_signLength_70 (⟨congrArg nI (show 1 = rsl f n by unfold rsl; rw [if_neg w6, if_neg w7, if_neg w8, if_pos w9]), rfl⟩)
        · have w9 := (not_congr sw_l9).mp w9
          refine lv_if_ne (tgt := 65) hx hb dMD_signLength_35 (by decide) (fun h => absurd (by decide) h) (fun _ => ?_)
          refine lv_aload_n hx hb dMD_signLength_38 rfl (lv_at hl 0 rfl) ?_
          refine va_ldcS hx hb hown (hM.2.1.2.2.2.2.1 ("VersionRangesModel", 95, "=", 12) (by decide +kernel)) dMD_signLength_39 ?_
          refine kc_i (va_runV (C := RST) (As := [.ref (g.2.2.2.2.1 12)]) (b := a) (rest := []) (Ts := Wd) ⟨hx, hb, hml, hown, hW⟩ (mST_startsWith l g μ hs hv hf hn (i := 12) (by decide)) (cwV 1 hW (k_gV w_604 w_605 w_606 w_9 w_607) rfl rfl rfl (by decide +kernel) ⟨Nat.le_of_ble_eq_true rfl, Nat.le_of_ble_eq_true rfl⟩) (k_preV (q := (RST, TST, 4)) hM hs rfl) rfl rfl hl.1 rfl (lv_room (Nat.le_of_ble_eq_true rfl)) dMD_signLength_41 ⟨Nat.zero_le _, Nat.zero_le _⟩) hM (fun r μ1 H locs hp hM => ?_)
          obtain ⟨hmu, hcase⟩ := hp
          rw [hmu] at hM
          rcases hcase with ⟨w12, rfl⟩ | ⟨w12, rfl⟩
          · have w12 := sw_l12.mp w12
            refine lv_if_ne (tgt := 65) hx hb dMD_signLength_44 (by decide) (fun _ => ?_) (fun h => absurd h (by decide))
            refine lv_iconst (v := nI 1) hx hb dMD_signLength_65 (by decide) ?_
            refine lv_goto (tgt := 70) hx hb dMD_signLength_66 (by decide) ?_
            exact kr_i hx hb hr hlocks hM dMD_signLength_70 (⟨congrArg nI (show 1 = rsl f n by unfold rsl; rw [if_neg w6, if_neg w7, if_neg w8, if_neg w9, if_pos w12]), rfl⟩)
          · have w12 := (not_congr sw_l12).mp w12
            refine lv_if_ne (tgt := 65) hx hb dMD_signLength_44 (by decide) (fun h => absurd (by decide) h) (fun _ => ?_)
            refine lv_aload_n hx hb dMD_signLength_47 rfl (lv_at hl 0 rfl) ?_
            refine va_ldcS hx hb hown (hM.2.1.2.2.2.2.1 ("VersionRangesModel", 97, "^", 10) (by decide +kernel)) dMD_signLength_48 ?_
            refine kc_i (va_runV (C := RST) (As := [.ref (g.2.2.2.2.1 10)]) (b := a) (rest := []) (Ts := Wd) ⟨hx, hb, hml, hown, hW⟩ (mST_startsWith l g μ hs hv hf hn (i := 10) (by decide)) (cwV 1 hW (k_gV w_604 w_605 w_606 w_9 w_607) rfl rfl rfl (by decide +kernel) ⟨Nat.le_of_ble_eq_true rfl, Nat.le_of_ble_eq_true rfl⟩) (k_preV (q := (RST, TST, 4)) hM hs rfl) rfl rfl hl.1 rfl (lv_room (Nat.le_of_ble_eq_true rfl)) dMD_signLength_50 ⟨Nat.zero_le _, Nat.zero_le _⟩) hM (fun r μ1 H locs hp hM => ?_)
            obtain ⟨hmu, hcase⟩ := hp
            rw [hmu] at hM
            rcases hcase with ⟨w10, rfl⟩ | ⟨w10, rfl⟩
            · have w10 := sw_l10.mp w10
              refine lv_if_ne (tgt := 65) hx hb dMD_signLength_53 (by decide) (fun _ => ?_) (fun h => absurd h (by decide))
              refine lv_iconst (v := nI 1) hx hb dMD_signLength_65 (by decide) ?_
              refine lv_goto (tgt := 70) hx hb dMD_signLength_66 (by decide) ?_
              exact kr_i hx hb hr hlocks hM dMD_signLength_70 (⟨congrArg nI (show 1 = rsl f n by unfold rsl; rw [if_neg w6, if_neg w7, if_neg w8, if_neg w9, if_neg w12, if_pos w10]), rfl⟩)
            · have w10 := (not_congr sw_l10).mp w10
              refine lv_if_ne (tgt := 65) hx hb dMD_signLength_53 (by decide) (fun h => absurd (by decide) h) (fun _ => ?_)
              refine lv_aload_n hx hb dMD_signLength_56 rfl (lv_at hl 0 rfl) ?_
              refine va_ldcS hx hb hown (hM.2.1.2.2.2.2.1 ("VersionRangesModel", 99, "~", 11) (by decide +kernel)) dMD_signLength_57 ?_
              refine kc_i (va_runV (C := RST) (As := [.ref (g.2.2.2.2.1 11)]) (b := a) (rest := []) (Ts := Wd) ⟨hx, hb, hml, hown, hW⟩ (mST_startsWith l g μ hs hv hf hn (i := 11) (by decide)) (cwV 1 hW (k_gV w_604 w_605 w_606 w_9 w_607) rfl rfl rfl (by decide +kernel) ⟨Nat.le_of_ble_eq_true rfl, Nat.le_of_ble_eq_true rfl⟩) (k_preV (q := (RST, TST, 4)) hM hs rfl) rfl rfl hl.1 rfl (lv_room (Nat.le_of_ble_eq_true rfl)) dMD_signLength_59 ⟨Nat.zero_le _, Nat.zero_le _⟩) hM (fun r μ1 H locs hp hM => ?_)
              obtain ⟨hmu, hcase⟩ := hp
              rw [hmu] at hM
              rcases hcase with ⟨w11, rfl⟩ | ⟨w11, rfl⟩
              · have w11 := sw_l11.mp w11
                refine lv_if_eq (tgt := 69) hx hb dMD_signLength_62 (by decide) (fun h => absurd h (by decide)) (fun _ => ?_)
                refine lv_iconst (v := nI 1) hx hb dMD_signLength_65 (by decide) ?_
                refine lv_goto (tgt := 70) hx hb dMD_signLength_66 (by decide) ?_
                exact kr_i hx hb hr hlocks hM dMD_signLength_70 (⟨congrArg nI (show 1 = rsl f n by unfold rsl; rw [if_neg w6, if_neg w7, if_neg w8, if_neg w9, if_neg w12, if_neg w10, if_pos w11]), rfl⟩)
              · have w11 := (not_congr sw_l11).mp w11
                refine lv_if_eq (tgt := 69) hx hb dMD_signLength_62 (by decide) (fun _ => ?_) (fun h => absurd (by decide) h)
                refine lv_iconst (v := nI 0) hx hb dMD_signLength_69 (by decide) ?_
                exact kr_i hx hb hr hlocks hM dMD_signLength_70 (⟨congrArg nI (show 0 = rsl f n by unfold rsl; rw [if_neg w6, if_neg w7, if_neg w8, if_neg w9, if_neg w12, if_neg w10, if_neg w11]), rfl⟩)
