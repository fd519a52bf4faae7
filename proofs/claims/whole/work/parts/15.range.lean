set_option maxHeartbeats 800000 in
set_option maxRecDepth 100000 in
theorem mVE_copyFrom (l : Launch) (g : kG) (μ : km_M) {va ra pb : Nat} {F : Nat → Int64} (hv : μ va = some (.inr (2, [.ref ra, .int (nI pb)]))) (hr0 : μ ra = some (.inl (g.2.2.1 2, 7, .inr (.inl F)))) {wa qa pc : Nat} {G : Nat → Int64} (hw : μ wa = some (.inr (2, [.ref qa, .int (nI pc)]))) (hq0 : μ qa = some (.inl (g.2.2.1 2, 7, .inr (.inl G)))) : Met l yVE_copyFrom (Cond.code yVE_copyFrom cVE_copyFrom 2 none :: Wd) ({ frames := 1, cells := 0, slots := 0, locals := 40 } : Room) (kPre g μ [.ref va, .ref wa]) (kQv g (fun (μ1 : km_M) => μ1 = km_up (km_up μ ra (.inl (g.2.2.1 2, 7, .inr (.inl (va_cpy G F 0 0 7))))) va (.inr (2, [.ref ra, .int (nI pc)])))) 0 0 (kF g) := by
  refine k_met (by decide) (Nat.le_of_ble_eq_true rfl) ?_
  intro p e s m below meth c hx hb hr hlocks hml hown hnm hW ls hl H locs hM
  have hl : lv_has ls 2 [(0, .ref va), (1, .ref wa)] := hl
  refine lv_aload_n hx hb dVE_copyFrom_0 rfl (lv_at hl 1 rfl) ?_
  refine k_get (own := RVE) (ref := RVE) (C := RVE) (T := TVE) (N := 2) (ci := 2) (v := .ref qa) hx hb hW inVE hown hM hw rfl 0 (by decide) (hW _ w_65) (fun _ h => h) rfl dVE_copyFrom_1 ?_
  refine lv_iconst (v := nI 0) hx hb dVE_copyFrom_4 (by decide) ?_
  refine lv_aload_n hx hb dVE_copyFrom_5 rfl (lv_at hl 0 rfl) ?_
  refine k_get (own := RVE) (ref := RVE) (C := RVE) (T := TVE) (N := 2) (ci := 2) (v := .ref ra) hx hb hW inVE hown hM hv rfl 0 (by decide) (hW _ w_65) (fun _ h => h) rfl dVE_copyFrom_6 ?_
  refine lv_iconst (v := nI 0) hx hb dVE_copyFrom_9 (by decide) ?_
  refine lv_aload_n hx hb dVE_copyFrom_10 rfl (lv_at hl 0 rfl) ?_
  refine k_get (own := RVE) (ref := RVE) (C := RVE) (T := TVE) (N := 2) (ci := 2) (v := .ref ra) hx hb hW inVE hown hM hv rfl 0 (by decide) (hW _ w_65) (fun _ h => h) rfl dVE_copyFrom_11 ?_
  refine k_alen hx hb hM 2 hr0 rfl dVE_copyFrom_14 ?_
  refine k_copyl (sp := 0) (dp := 0) (n := 7) (f1 := va_cpy G F 0 0 7) hx hb (by rw [hml]; exact hl.1.symm) hown (hW _ w_187) (hW _ w_189) (hW _ w_188) (hW _ w_8) hM 2 hq0 hr0 rfl (by omega) (by omega) (by omega) (by omega) (Nat.le_of_ble_eq_true rfl) (Nat.le_of_ble_eq_true rfl) dVE_copyFrom_15 rfl (fun H locs hM => ?_)
  have hM : kS g (km_up μ ra (.inl (g.2.2.1 2, 7, .inr (.inl (va_cpy G F 0 0 7))))) s H locs := hM
  refine lv_aload_n hx hb dVE_copyFrom_18 rfl (lv_at hl 0 rfl) ?_
  refine lv_aload_n hx hb dVE_copyFrom_19 rfl (lv_at hl 1 rfl) ?_
  refine k_get (own := RVE) (ref := RVE) (C := RVE) (T := TVE) (N := 2) (ci := 2) (v := .int (nI pc)) hx hb hW inVE hown hM ((km_n (km_apB hw hr0)).trans hw) rfl 1 (by decide) (hW _ w_66) (fun _ h => h) rfl dVE_copyFrom_20 ?_
  refine k_put (own := RVE) (ref := RVE) (C := RVE) (T := TVE) (N := 2) (ci := 2) (v := .int (nI pc)) (ty := .int) (fs' := [.ref ra, .int (nI pc)]) hx hb hW inVE tyVE tyokVE nmokVE hown hM ((km_n (km_apB hv hr0)).trans hv) rfl 1 (by decide) (hW _ w_66) (fun _ h => h) rfl (by decide +kernel) rfl rfl (Nat.le_of_ble_eq_true rfl) dVE_copyFrom_23 rfl (fun H locs hM => ?_)
  have hM : kS g (km_up (km_up μ ra (.inl (g.2.2.1 2, 7, .inr (.inl (va_cpy G F 0 0 7))))) va (.inr (2, [.ref ra, .int (nI pc)]))) s H locs := hM
  exact kr_v hx hb hr hlocks hM dVE_copyFrom_26 rfl
set_option maxHeartbeats 800000 in
set_option maxRecDepth 100000 in
theorem mSG_hasOrder (l : Launch) (g : kG) (μ : km_M) {i : Nat} (hi : i < 8) {x : Int32} : Met l ySG_hasOrder (Cond.code ySG_hasOrder cSG_hasOrder 2 (some .boolean) :: Wd) ({ frames := 0, cells := 0, slots := 0, locals := 0 } : Room) (kPre g μ [.ref (g.2.2.2.1 i), .int x]) (kQi g (fun (r : Int32) (μ1 : km_M) => r = enO i x ∧ μ1 = μ)) 0 0 (kF g) := by
  refine k_met (by decide) (Nat.le_of_ble_eq_true rfl) ?_
  intro p e s m below meth c hx hb hr hlocks hml hown hnm hW ls hl H locs hM
  have hl : lv_has ls 2 [(0, .ref (g.2.2.2.1 i)), (1, .int x)] := hl
  refine lv_iload_n hx hb dSG_hasOrder_0 rfl (lv_at hl 1 rfl) ?_
  refine lv_if_ge (tgt := 11) hx hb dSG_hasOrder_1 (by decide) (fun h1 => ?_) (fun h1 => ?_)
  · skip
    refine lv_iload_n hx hb dSG_hasOrder_11 rfl (lv_at hl 1 rfl) ?_
    refine lv_if_le (tgt := 22) hx hb dSG_hasOrder_12 (by decide) (fun h12 => ?_) (fun h12 => ?_)
    · skip
      refine lv_aload_n hx hb dSG_hasOrder_22 rfl (lv_at hl 0 rfl) ?_
      refine va_getE hx hb hM.2.1.2.2.1 (hi) hM.2.2.2 hown (q := ("VersionRanges$Sign", "hasSame", "Z", [1, 1, 0, 1, 0, 1, 1, 1])) (by decide +kernel) (hW _ w_670) (fun _ h => h) dSG_hasOrder_23 ?_
      refine topi_eq (y := enS i) rfl ?_
      exact kr_z hx hb hr (by first | exact (en_nar i hi).1 | exact (en_nar i hi).2.1 | exact (en_nar i hi).2.2) hlocks hM dSG_hasOrder_26 (⟨by unfold enO; first | rw [if_neg h1] | rw [if_pos h1, if_neg h12] | rw [if_pos h1, if_pos h12], rfl⟩)
    · skip
      refine lv_aload_n hx hb dSG_hasOrder_15 rfl (lv_at hl 0 rfl) ?_
      refine va_getE hx hb hM.2.1.2.2.1 (hi) hM.2.2.2 hown (q := ("VersionRanges$Sign", "hasAbove", "Z", [1, 0, 0, 0, 1, 1, 1, 1])) (by decide +kernel) (hW _ w_669) (fun _ h => h) dSG_hasOrder_16 ?_
      refine topi_eq (y := enA i) rfl ?_
      refine lv_goto (tgt := 26) hx hb dSG_hasOrder_19 (by decide) ?_
      exact kr_z hx hb hr (by first | exact (en_nar i hi).1 | exact (en_nar i hi).2.1 | exact (en_nar i hi).2.2) hlocks hM dSG_hasOrder_26 (⟨by unfold enO; first | rw [if_neg h1] | rw [if_pos h1, if_neg h12] | rw [if_pos h1, if_pos h12], rfl⟩)
  · skip
    refine lv_aload_n hx hb dSG_hasOrder_4 rfl (lv_at hl 0 rfl) ?_
    refine va_getE hx hb hM.2.1.2.2.1 (hi) hM.2.2.2 hown (q := ("VersionRanges$Sign", "hasBelow", "Z", [1, 0, 1, 1, 0, 0, 0, 0])) (by decide +kernel) (hW _ w_668) (fun _ h => h) dSG_hasOrder_5 ?_
    refine topi_eq (y := enB i) rfl ?_
    refine lv_goto (tgt := 26) hx hb dSG_hasOrder_8 (by decide) ?_
    exact kr_z hx hb hr (by first | exact (en_nar i hi).1 | exact (en_nar i hi).2.1 | exact (en_nar i hi).2.2) hlocks hM dSG_hasOrder_26 (⟨by unfold enO; first | rw [if_neg h1] | rw [if_pos h1, if_neg h12] | rw [if_pos h1, if_pos h12], rfl⟩)
set_option maxHeartbeats 800000 in
set_option maxRecDepth 100000 in
theorem mRT_readSign (l : Launch) (g : kG) (μ : km_M) {ta ba sa oa ln ai zi : Nat} (ht : μ ta = some (.inr (1, [.ref ba, .ref sa, .ref oa, .int (nI ln), .int (nI ai), .int (nI zi)]))) {B : Nat → Nat} (hB : ∀ k, B k < 256) (hb0 : μ ba = some (.inl (g.2.2.1 0, 400, .inl (fun j => sb (B j))))) (hai : ai ≤ zi) (hzi : zi ≤ 400) : Met l yRT_readSign (Cond.code yRT_readSign cRT_readSign 1 (some (.object "VersionRanges$Sign")) :: Wd) ({ frames := 1, cells := 0, slots := 0, locals := 21 } : Room) (kPre g μ [.ref ta]) (kQr g (fun (r : Nat) (μ1 : km_M) => r = g.2.2.2.1 (sgP B ai zi).1 ∧ μ1 = km_up μ ta (.inr (1, [.ref ba, .ref sa, .ref oa, .int (nI ln), .int (nI ((sgP B ai zi).2)), .int (nI zi)])))) 0 0 (kF g) := by
  refine k_met (by decide) (Nat.le_of_ble_eq_true rfl) ?_
  intro p e s m below meth c hx hb hr hlocks hml hown hnm hW ls hl H locs hM
  have hl : lv_has ls 1 [(0, .ref ta)] := hl
  refine lv_aload_n hx hb dRT_readSign_0 rfl (lv_at hl 0 rfl) ?_
  refine lv_bipush (v := nI 42) hx hb dRT_readSign_1 (by decide) ?_
  refine kc_i (va_runVN (C := RTP) (As := [.int (nI 42)]) (b := ta) (rest := []) (Ts := Wd) ⟨hx, hb, hml, hown, hW⟩ (mTP_skip l g μ ht hB hb0 (ch := 42) (by omega) (by omega) (by omega)) ⟨(va_cnB 1 hW (k_gC w_149) rfl rfl rfl (hM.2.1.2.1 _ n_237) (hW _ w_2) (by decide +kernel) ⟨Nat.le_of_ble_eq_true rfl, Nat.le_of_ble_eq_true rfl⟩), hW _ w_148, hW _ p_6⟩ (k_preV (q := (RTP, TTP, 6)) hM ht rfl) rfl rfl hl.1 rfl (lv_room (Nat.le_of_ble_eq_true rfl)) dRT_readSign_3 ⟨Nat.zero_le _, Nat.zero_le _⟩) hM (fun r μ1 H locs hp hM => ?_)
  obtain ⟨rfl, hmu⟩ := hp
  rw [hmu] at hM
  rcases Decidable.em (ai < zi ∧ B ai = 42) with hs1 | hs1
  · refine topi_eq (y := nI 1) (bI_t hs1).symm ?_
    rw [if_pos hs1] at hM
    have hd1 := vDot_t hs1
    have hM : kS g (km_up μ ta (.inr (1, [.ref ba, .ref sa, .ref oa, .int (nI ln), .int (nI (ai + 1)), .int (nI zi)]))) s H locs := hM
    refine lv_if_eq (tgt := 13) hx hb dRT_readSign_6 (by decide) (fun h => absurd h (by decide)) (fun _ => ?_)
    refine va_gets (C := "VersionRanges$Sign") (n := "ALL") (d := "LVersionRanges$Sign;") (v := .ref (g.2.2.2.1 0)) hx hb (hM.2.1.2.2.1.1 0 (by decide)).1 hM.2.2.2 hown (hW _ w_82) (fun _ h => h) dRT_readSign_9 ?_
    exact kr_r hx hb hr (Or.inl ⟨_, rfl⟩) hlocks hM dRT_readSign_12 (⟨by rw [show sgP B ai zi = (0, ai + 1) by unfold sgP; rw [if_pos hs1]], by rw [show sgP B ai zi = (0, ai + 1) by unfold sgP; rw [if_pos hs1]]; first | done | exact rfl⟩)
  · refine topi_eq (y := nI 0) (bI_f hs1).symm ?_
    rw [if_neg hs1] at hM
    have hd1 := vDot_f hs1
    refine lv_if_eq (tgt := 13) hx hb dRT_readSign_6 (by decide) (fun _ => ?_) (fun h => absurd (by decide) h)
    refine lv_aload_n hx hb dRT_readSign_13 rfl (lv_at hl 0 rfl) ?_
    refine lv_bipush (v := nI 60) hx hb dRT_readSign_14 (by decide) ?_
    refine kc_i (va_runVN (C := RTP) (As := [.int (nI 60)]) (b := ta) (rest := []) (Ts := Wd) ⟨hx, hb, hml, hown, hW⟩ (mTP_skip l g μ ht hB hb0 (ch := 60) (by omega) (by omega) (by omega)) ⟨(va_cnB 1 hW (k_gC w_149) rfl rfl rfl (hM.2.1.2.1 _ n_237) (hW _ w_2) (by decide +kernel) ⟨Nat.le_of_ble_eq_true rfl, Nat.le_of_ble_eq_true rfl⟩), hW _ w_148, hW _ p_6⟩ (k_preV (q := (RTP, TTP, 6)) hM ht rfl) rfl rfl hl.1 rfl (lv_room (Nat.le_of_ble_eq_true rfl)) dRT_readSign_16 ⟨Nat.zero_le _, Nat.zero_le _⟩) hM (fun r μ1 H locs hp hM => ?_)
    obtain ⟨rfl, hmu⟩ := hp
    rw [hmu] at hM
    rcases Decidable.em (ai < zi ∧ B ai = 60) with hs2 | hs2
    · refine topi_eq (y := nI 1) (bI_t hs2).symm ?_
      rw [if_pos hs2] at hM
      have hd2 := vDot_t hs2
      have hM : kS g (km_up μ ta (.inr (1, [.ref ba, .ref sa, .ref oa, .int (nI ln), .int (nI (ai + 1)), .int (nI zi)]))) s H locs := hM
      refine lv_if_eq (tgt := 41) hx hb dRT_readSign_19 (by decide) (fun h => absurd h (by decide)) (fun _ => ?_)
      refine lv_aload_n hx hb dRT_readSign_22 rfl (lv_at hl 0 rfl) ?_
      refine lv_bipush (v := nI 61) hx hb dRT_readSign_23 (by decide) ?_
      refine kc_i (va_runVN (C := RTP) (As := [.int (nI 61)]) (b := ta) (rest := []) (Ts := Wd) ⟨hx, hb, hml, hown, hW⟩ (mTP_skip l g (km_up μ ta (.inr (1, [.ref ba, .ref sa, .ref oa, .int (nI ln), .int (nI (ai + 1)), .int (nI zi)]))) (km_s _ _ _) hB ((km_n (km_apA hb0 ht)).trans hb0) (ch := 61) (by omega) (by omega) (by omega)) ⟨(va_cnB 1 hW (k_gC w_149) rfl rfl rfl (hM.2.1.2.1 _ n_237) (hW _ w_2) (by decide +kernel) ⟨Nat.le_of_ble_eq_true rfl, Nat.le_of_ble_eq_true rfl⟩), hW _ w_148, hW _ p_6⟩ (k_preV (q := (RTP, TTP, 6)) hM (km_s _ _ _) rfl) rfl rfl hl.1 rfl (lv_room (Nat.le_of_ble_eq_true rfl)) dRT_readSign_25 ⟨Nat.zero_le _, Nat.zero_le _⟩) hM (fun r μ1 H locs hp hM => ?_)
      obtain ⟨rfl, hmu⟩ := hp
      rw [hmu] at hM
      rcases Decidable.em (ai + 1 < zi ∧ B (ai + 1) = 61) with hs3 | hs3
      · refine topi_eq (y := nI 1) (bI_t hs3).symm ?_
        rw [if_pos hs3] at hM
        have hd3 := vDot_t hs3
        have hM : kS g (km_up μ ta (.inr (1, [.ref ba, .ref sa, .ref oa, .int (nI ln), .int (nI (ai + 2)), .int (nI zi)]))) s H locs := kS_eq (km_u1 _ _ _ _) hM
        refine lv_if_eq (tgt := 37) hx hb dRT_readSign_28 (by decide) (fun h => absurd h (by decide)) (fun _ => ?_)
        refine va_gets (C := "VersionRanges$Sign") (n := "AT_OR_BELOW") (d := "LVersionRanges$Sign;") (v := .ref (g.2.2.2.1 3)) hx hb (hM.2.1.2.2.1.1 3 (by decide)).1 hM.2.2.2 hown (hW _ w_238) (fun _ h => h) dRT_readSign_31 ?_
        refine lv_goto (tgt := 40) hx hb dRT_readSign_34 (by decide) ?_
        exact kr_r hx hb hr (Or.inl ⟨_, rfl⟩) hlocks hM dRT_readSign_40 (⟨by rw [show sgP B ai zi = (3, ai + 2) by unfold sgP; rw [if_neg hs1, if_pos hs2, if_pos hs3]], by rw [show sgP B ai zi = (3, ai + 2) by unfold sgP; rw [if_neg hs1, if_pos hs2, if_pos hs3]]; first | done | exact rfl⟩)
      · refine topi_eq (y := nI 0) (bI_f hs3).symm ?_
        rw [if_neg hs3] at hM
        have hd3 := vDot_f hs3
        refine lv_if_eq (tgt := 37) hx hb dRT_readSign_28 (by decide) (fun _ => ?_) (fun h => absurd (by decide) h)
        refine va_gets (C := "VersionRanges$Sign") (n := "BELOW") (d := "LVersionRanges$Sign;") (v := .ref (g.2.2.2.1 2)) hx hb (hM.2.1.2.2.1.1 2 (by decide)).1 hM.2.2.2 hown (hW _ w_240) (fun _ h => h) dRT_readSign_37 ?_
        exact kr_r hx hb hr (Or.inl ⟨_, rfl⟩) hlocks hM dRT_readSign_40 (⟨by rw [show sgP B ai zi = (2, ai + 1) by unfold sgP; rw [if_neg hs1, if_pos hs2, if_neg hs3]], by rw [show sgP B ai zi = (2, ai + 1) by unfold sgP; rw [if_neg hs1, if_pos hs2, if_neg hs3]]; first | done | exact rfl⟩)
    · refine topi_eq (y := nI 0) (bI_f hs2).symm ?_
      rw [if_neg hs2] at hM
      have hd2 := vDot_f hs2
      refine lv_if_eq (tgt := 41) hx hb dRT_readSign_19 (by decide) (fun _ => ?_) (fun h => absurd (by decide) h)
      refine lv_aload_n hx hb dRT_readSign_41 rfl (lv_at hl 0 rfl) ?_
      refine lv_bipush (v := nI 62) hx hb dRT_readSign_42 (by decide) ?_
      refine kc_i (va_runVN (C := RTP) (As := [.int (nI 62)]) (b := ta) (rest := []) (Ts := Wd) ⟨hx, hb, hml, hown, hW⟩ (mTP_skip l g μ ht hB hb0 (ch := 62) (by omega) (by omega) (by omega)) ⟨(va_cnB 1 hW (k_gC w_149) rfl rfl rfl (hM.2.1.2.1 _ n_237) (hW _ w_2) (by decide +kernel) ⟨Nat.le_of_ble_eq_true rfl, Nat.le_of_ble_eq_true rfl⟩), hW _ w_148, hW _ p_6⟩ (k_preV (q := (RTP, TTP, 6)) hM ht rfl) rfl rfl hl.1 rfl (lv_room (Nat.le_of_ble_eq_true rfl)) dRT_readSign_44 ⟨Nat.zero_le _, Nat.zero_le _⟩) hM (fun r μ1 H locs hp hM => ?_)
      obtain ⟨rfl, hmu⟩ := hp
      rw [hmu] at hM
      rcases Decidable.em (ai < zi ∧ B ai = 62) with hs4 | hs4
      · refine topi_eq (y := nI 1) (bI_t hs4).symm ?_
        rw [if_pos hs4] at hM
        have hd4 := vDot_t hs4
        have hM : kS g (km_up μ ta (.inr (1, [.ref ba, .ref sa, .ref oa, .int (nI ln), .int (nI (ai + 1)), .int (nI zi)]))) s H locs := hM
        refine lv_if_eq (tgt := 69) hx hb dRT_readSign_47 (by decide) (fun h => absurd h (by decide)) (fun _ => ?_)
        refine lv_aload_n hx hb dRT_readSign_50 rfl (lv_at hl 0 rfl) ?_
        refine lv_bipush (v := nI 61) hx hb dRT_readSign_51 (by decide) ?_
        refine kc_i (va_runVN (C := RTP) (As := [.int (nI 61)]) (b := ta) (rest := []) (Ts := Wd) ⟨hx, hb, hml, hown, hW⟩ (mTP_skip l g (km_up μ ta (.inr (1, [.ref ba, .ref sa, .ref oa, .int (nI ln), .int (nI (ai + 1)), .int (nI zi)]))) (km_s _ _ _) hB ((km_n (km_apA hb0 ht)).trans hb0) (ch := 61) (by omega) (by omega) (by omega)) ⟨(va_cnB 1 hW (k_gC w_149) rfl rfl rfl (hM.2.1.2.1 _ n_237) (hW _ w_2) (by decide +kernel) ⟨Nat.le_of_ble_eq_true rfl, Nat.le_of_ble_eq_true rfl⟩), hW _ w_148, hW _ p_6⟩ (k_preV (q := (RTP, TTP, 6)) hM (km_s _ _ _) rfl) rfl rfl hl.1 rfl (lv_room (Nat.le_of_ble_eq_true rfl)) dRT_readSign_53 ⟨Nat.zero_le _, Nat.zero_le _⟩) hM (fun r μ1 H locs hp hM => ?_)
        obtain ⟨rfl, hmu⟩ := hp
        rw [hmu] at hM
        rcases Decidable.em (ai + 1 < zi ∧ B (ai + 1) = 61) with hs5 | hs5
        · refine topi_eq (y := nI 1) (bI_t hs5).symm ?_
          rw [if_pos hs5] at hM
          have hd5 := vDot_t hs5
          have hM : kS g (km_up μ ta (.inr (1, [.ref ba, .ref sa, .ref oa, .int (nI ln), .int (nI (ai + 2)), .int (nI zi)]))) s H locs := kS_eq (km_u1 _ _ _ _) hM
          refine lv_if_eq (tgt := 65) hx hb dRT_readSign_56 (by decide) (fun h => absurd h (by decide)) (fun _ => ?_)
          refine va_gets (C := "VersionRanges$Sign") (n := "AT_OR_ABOVE") (d := "LVersionRanges$Sign;") (v := .ref (g.2.2.2.1 5)) hx hb (hM.2.1.2.2.1.1 5 (by decide)).1 hM.2.2.2 hown (hW _ w_242) (fun _ h => h) dRT_readSign_59 ?_
          refine lv_goto (tgt := 68) hx hb dRT_readSign_62 (by decide) ?_
          exact kr_r hx hb hr (Or.inl ⟨_, rfl⟩) hlocks hM dRT_readSign_68 (⟨by rw [show sgP B ai zi = (5, ai + 2) by unfold sgP; rw [if_neg hs1, if_neg hs2, if_pos hs4, if_pos hs5]], by rw [show sgP B ai zi = (5, ai + 2) by unfold sgP; rw [if_neg hs1, if_neg hs2, if_pos hs4, if_pos hs5]]; first | done | exact rfl⟩)
        · refine topi_eq (y := nI 0) (bI_f hs5).symm ?_
          rw [if_neg hs5] at hM
          have hd5 := vDot_f hs5
          refine lv_if_eq (tgt := 65) hx hb dRT_readSign_56 (by decide) (fun _ => ?_) (fun h => absurd (by decide) h)
          refine va_gets (C := "VersionRanges$Sign") (n := "ABOVE") (d := "LVersionRanges$Sign;") (v := .ref (g.2.2.2.1 4)) hx hb (hM.2.1.2.2.1.1 4 (by decide)).1 hM.2.2.2 hown (hW _ w_244) (fun _ h => h) dRT_readSign_65 ?_
          exact kr_r hx hb hr (Or.inl ⟨_, rfl⟩) hlocks hM dRT_readSign_68 (⟨by rw [show sgP B ai zi = (4, ai + 1) by unfold sgP; rw [if_neg hs1, if_neg hs2, if_pos hs4, if_neg hs5]], by rw [show sgP B ai zi = (4, ai + 1) by unfold sgP; rw [if_neg hs1, if_neg hs2, if_pos hs4, if_neg hs5]]; first | done | exact rfl⟩)
      · refine topi_eq (y := nI 0) (bI_f hs4).symm ?_
        rw [if_neg hs4] at hM
        have hd4 := vDot_f hs4
        refine lv_if_eq (tgt := 69) hx hb dRT_readSign_47 (by decide) (fun _ => ?_) (fun h => absurd (by decide) h)
        refine lv_aload_n hx hb dRT_readSign_69 rfl (lv_at hl 0 rfl) ?_
        refine lv_bipush (v := nI 94) hx hb dRT_readSign_70 (by decide) ?_
        refine kc_i (va_runVN (C := RTP) (As := [.int (nI 94)]) (b := ta) (rest := []) (Ts := Wd) ⟨hx, hb, hml, hown, hW⟩ (mTP_skip l g μ ht hB hb0 (ch := 94) (by omega) (by omega) (by omega)) ⟨(va_cnB 1 hW (k_gC w_149) rfl rfl rfl (hM.2.1.2.1 _ n_237) (hW _ w_2) (by decide +kernel) ⟨Nat.le_of_ble_eq_true rfl, Nat.le_of_ble_eq_true rfl⟩), hW _ w_148, hW _ p_6⟩ (k_preV (q := (RTP, TTP, 6)) hM ht rfl) rfl rfl hl.1 rfl (lv_room (Nat.le_of_ble_eq_true rfl)) dRT_readSign_72 ⟨Nat.zero_le _, Nat.zero_le _⟩) hM (fun r μ1 H locs hp hM => ?_)
        obtain ⟨rfl, hmu⟩ := hp
        rw [hmu] at hM
        rcases Decidable.em (ai < zi ∧ B ai = 94) with hs6 | hs6
        · refine topi_eq (y := nI 1) (bI_t hs6).symm ?_
          rw [if_pos hs6] at hM
          have hd6 := vDot_t hs6
          have hM : kS g (km_up μ ta (.inr (1, [.ref ba, .ref sa, .ref oa, .int (nI ln), .int (nI (ai + 1)), .int (nI zi)]))) s H locs := hM
          refine lv_if_eq (tgt := 82) hx hb dRT_readSign_75 (by decide) (fun h => absurd h (by decide)) (fun _ => ?_)
          refine va_gets (C := "VersionRanges$Sign") (n := "CARET") (d := "LVersionRanges$Sign;") (v := .ref (g.2.2.2.1 6)) hx hb (hM.2.1.2.2.1.1 6 (by decide)).1 hM.2.2.2 hown (hW _ w_246) (fun _ h => h) dRT_readSign_78 ?_
          exact kr_r hx hb hr (Or.inl ⟨_, rfl⟩) hlocks hM dRT_readSign_81 (⟨by rw [show sgP B ai zi = (6, ai + 1) by unfold sgP; rw [if_neg hs1, if_neg hs2, if_neg hs4, if_pos hs6]], by rw [show sgP B ai zi = (6, ai + 1) by unfold sgP; rw [if_neg hs1, if_neg hs2, if_neg hs4, if_pos hs6]]; first | done | exact rfl⟩)
        · refine topi_eq (y := nI 0) (bI_f hs6).symm ?_
          rw [if_neg hs6] at hM
          have hd6 := vDot_f hs6
          refine lv_if_eq (tgt := 82) hx hb dRT_readSign_75 (by decide) (fun _ => ?_) (fun h => absurd (by decide) h)
          refine lv_aload_n hx hb dRT_readSign_82 rfl (lv_at hl 0 rfl) ?_
          refine lv_bipush (v := nI 126) hx hb dRT_readSign_83 (by decide) ?_
          refine kc_i (va_runVN (C := RTP) (As := [.int (nI 126)]) (b := ta) (rest := []) (Ts := Wd) ⟨hx, hb, hml, hown, hW⟩ (mTP_skip l g μ ht hB hb0 (ch := 126) (by omega) (by omega) (by omega)) ⟨(va_cnB 1 hW (k_gC w_149) rfl rfl rfl (hM.2.1.2.1 _ n_237) (hW _ w_2) (by decide +kernel) ⟨Nat.le_of_ble_eq_true rfl, Nat.le_of_ble_eq_true rfl⟩), hW _ w_148, hW _ p_6⟩ (k_preV (q := (RTP, TTP, 6)) hM ht rfl) rfl rfl hl.1 rfl (lv_room (Nat.le_of_ble_eq_true rfl)) dRT_readSign_85 ⟨Nat.zero_le _, Nat.zero_le _⟩) hM (fun r μ1 H locs hp hM => ?_)
          obtain ⟨rfl, hmu⟩ := hp
          rw [hmu] at hM
          rcases Decidable.em (ai < zi ∧ B ai = 126) with hs7 | hs7
          · refine topi_eq (y := nI 1) (bI_t hs7).symm ?_
            rw [if_pos hs7] at hM
            have hd7 := vDot_t hs7
            have hM : kS g (km_up μ ta (.inr (1, [.ref ba, .ref sa, .ref oa, .int (nI ln), .int (nI (ai + 1)), .int (nI zi)]))) s H locs := hM
            refine lv_if_eq (tgt := 95) hx hb dRT_readSign_88 (by decide) (fun h => absurd h (by decide)) (fun _ => ?_)
            refine va_gets (C := "VersionRanges$Sign") (n := "TILDE") (d := "LVersionRanges$Sign;") (v := .ref (g.2.2.2.1 7)) hx hb (hM.2.1.2.2.1.1 7 (by decide)).1 hM.2.2.2 hown (hW _ w_248) (fun _ h => h) dRT_readSign_91 ?_
            exact kr_r hx hb hr (Or.inl ⟨_, rfl⟩) hlocks hM dRT_readSign_94 (⟨by rw [show sgP B ai zi = (7, ai + 1) by unfold sgP; rw [if_neg hs1, if_neg hs2, if_neg hs4, if_neg hs6, if_pos hs7]], by rw [show sgP B ai zi = (7, ai + 1) by unfold sgP; rw [if_neg hs1, if_neg hs2, if_neg hs4, if_neg hs6, if_pos hs7]]; first | done | exact rfl⟩)
          · refine topi_eq (y := nI 0) (bI_f hs7).symm ?_
            rw [if_neg hs7] at hM
            have hd7 := vDot_f hs7
            refine lv_if_eq (tgt := 95) hx hb dRT_readSign_88 (by decide) (fun _ => ?_) (fun h => absurd (by decide) h)
            refine lv_aload_n hx hb dRT_readSign_95 rfl (lv_at hl 0 rfl) ?_
            refine lv_bipush (v := nI 61) hx hb dRT_readSign_96 (by decide) ?_
            refine kc_i (va_runVN (C := RTP) (As := [.int (nI 61)]) (b := ta) (rest := []) (Ts := Wd) ⟨hx, hb, hml, hown, hW⟩ (mTP_skip l g μ ht hB hb0 (ch := 61) (by omega) (by omega) (by omega)) ⟨(va_cnB 1 hW (k_gC w_149) rfl rfl rfl (hM.2.1.2.1 _ n_237) (hW _ w_2) (by decide +kernel) ⟨Nat.le_of_ble_eq_true rfl, Nat.le_of_ble_eq_true rfl⟩), hW _ w_148, hW _ p_6⟩ (k_preV (q := (RTP, TTP, 6)) hM ht rfl) rfl rfl hl.1 rfl (lv_room (Nat.le_of_ble_eq_true rfl)) dRT_readSign_98 ⟨Nat.zero_le _, Nat.zero_le _⟩) hM (fun r μ1 H locs hp hM => ?_)
            obtain ⟨rfl, hmu⟩ := hp
            rw [hmu] at hM
            rcases Decidable.em (ai < zi ∧ B ai = 61) with hs8 | hs8
            · refine topi_eq (y := nI 1) (bI_t hs8).symm ?_
              rw [if_pos hs8] at hM
              have hd8 := vDot_t hs8
              have hM : kS g (km_up μ ta (.inr (1, [.ref ba, .ref sa, .ref oa, .int (nI ln), .int (nI (ai + 1)), .int (nI zi)]))) s H locs := hM
              refine lv_pop hx hb dRT_readSign_101 rfl ?_
              refine va_gets (C := "VersionRanges$Sign") (n := "SAME") (d := "LVersionRanges$Sign;") (v := .ref (g.2.2.2.1 1)) hx hb (hM.2.1.2.2.1.1 1 (by decide)).1 hM.2.2.2 hown (hW _ w_250) (fun _ h => h) dRT_readSign_102 ?_
              exact kr_r hx hb hr (Or.inl ⟨_, rfl⟩) hlocks hM dRT_readSign_105 (⟨by rw [show sgP B ai zi = (1, ai + 1) by unfold sgP; rw [if_neg hs1, if_neg hs2, if_neg hs4, if_neg hs6, if_neg hs7, if_pos hs8]], by rw [show sgP B ai zi = (1, ai + 1) by unfold sgP; rw [if_neg hs1, if_neg hs2, if_neg hs4, if_neg hs6, if_neg hs7, if_pos hs8]]; first | done | exact rfl⟩)
            · refine topi_eq (y := nI 0) (bI_f hs8).symm ?_
              rw [if_neg hs8] at hM
              have hd8 := vDot_f hs8
              refine lv_pop hx hb dRT_readSign_101 rfl ?_
              refine va_gets (C := "VersionRanges$Sign") (n := "SAME") (d := "LVersionRanges$Sign;") (v := .ref (g.2.2.2.1 1)) hx hb (hM.2.1.2.2.1.1 1 (by decide)).1 hM.2.2.2 hown (hW _ w_250) (fun _ h => h) dRT_readSign_102 ?_
              exact kr_r hx hb hr (Or.inl ⟨_, rfl⟩) hlocks hM dRT_readSign_105 (⟨by rw [show sgP B ai zi = (1, ai) by unfold sgP; rw [if_neg hs1, if_neg hs2, if_neg hs4, if_neg hs6, if_neg hs7, if_neg hs8]], by rw [show sgP B ai zi = (1, ai) by unfold sgP; rw [if_neg hs1, if_neg hs2, if_neg hs4, if_neg hs6, if_neg hs7, if_neg hs8]]; first | done | exact (km_id ht).symm⟩)
set_option maxHeartbeats 800000 in
set_option maxRecDepth 100000 in
theorem mRT_setCeiling (l : Launch) (g : kG) (μ : km_M) {te bo co k : Nat} (hte : μ te = some (.inr (0, [.ref bo, .ref co, .ref (g.2.2.2.1 k)]))) (hk8 : k < 8) {br bp : Nat} {Fb : Nat → Int64} (hbo : μ bo = some (.inr (2, [.ref br, .int (nI bp)]))) (hbr : μ br = some (.inl (g.2.2.1 2, 7, .inr (.inl Fb)))) {cr cp : Nat} {Fc : Nat → Int64} (hco : μ co = some (.inr (2, [.ref cr, .int (nI cp)]))) (hcr : μ cr = some (.inl (g.2.2.1 2, 7, .inr (.inl Fc)))) (nbc : bo ≠ co) (nrc : br ≠ cr) {x y w : Nat} (hF0 : Fb 0 = lN x) (hF1 : Fb 1 = lN y) (hF2 : Fb 2 = lN w) (hx0 : x < 1000000000) (hy0 : y < 1000000000) (hw0 : w < 1000000000) : Met l yRT_setCeiling (Cond.code yRT_setCeiling cRT_setCeiling 7 none :: Wd) ({ frames := 2, cells := 0, slots := 0, locals := 47 } : Room) (kPre g μ [.ref te]) (kQv g (fun (μ1 : km_M) => μ1 = km_up (km_up μ cr (.inl (g.2.2.1 2, 7, .inr (.inl (n3F Fc (ceT k x y w)))))) co (.inr (2, [.ref cr, .int (nI 0)])))) 0 0 (kF g) := by
  refine k_met (by decide) (Nat.le_of_ble_eq_true rfl) ?_
  intro p e s m below meth c hx hb hr hlocks hml hown hnm hW ls hl H locs hM
  have hl : lv_has ls 7 [(0, .ref te)] := hl
  refine lv_aload_n hx hb dRT_setCeiling_0 rfl (lv_at hl 0 rfl) ?_
  refine k_get (own := RRT) (ref := RRT) (C := RRT) (T := TRT) (N := 3) (ci := 0) (v := .ref bo) hx hb hW inRT hown hM hte rfl 0 (by decide) (hW _ w_84) (fun _ h => h) rfl dRT_setCeiling_1 ?_
  refine lv_iconst (v := nI 0) hx hb dRT_setCeiling_4 (by decide) ?_
  refine kc_i (va_runVN (C := RVE) (As := [.int (nI 0)]) (b := bo) (rest := []) (Ts := Wd) ⟨hx, hb, hml, hown, hW⟩ (mVE_number l g μ hbo hbr (k := 0) (by omega)) ⟨(va_cnB 1 hW (k_gC w_209) rfl rfl rfl (hM.2.1.2.1 _ n_258) (hW _ w_3) (by decide +kernel) ⟨Nat.le_of_ble_eq_true rfl, Nat.le_of_ble_eq_true rfl⟩), hW _ w_208, hW _ p_16⟩ (k_preV (q := (RVE, TVE, 2)) hM hbo rfl) rfl rfl hl.1 rfl (lv_room (Nat.le_of_ble_eq_true rfl)) dRT_setCeiling_5 ⟨Nat.zero_le _, Nat.zero_le _⟩) hM (fun r μ1 H locs hp hM => ?_)
  obtain ⟨rfl, hmu⟩ := hp
  rw [hmu] at hM
  refine topi_eq (y := nI x) (by rw [hF0]; exact lN_i _) ?_
  refine lv_i2l (v := lN x) hx hb dRT_setCeiling_8 (nI_l (by omega)) ?_
  refine lv_lstore_n (lv' := [(1, .long (lN x)), (0, .ref te)]) hx hb dRT_setCeiling_9 rfl hl (by decide) rfl (fun ls hl => ?_)
  refine lv_aload_n hx hb dRT_setCeiling_10 rfl (lv_at hl 1 rfl) ?_
  refine k_get (own := RRT) (ref := RRT) (C := RRT) (T := TRT) (N := 3) (ci := 0) (v := .ref bo) hx hb hW inRT hown hM hte rfl 0 (by decide) (hW _ w_84) (fun _ h => h) rfl dRT_setCeiling_11 ?_
  refine lv_iconst (v := nI 1) hx hb dRT_setCeiling_14 (by decide) ?_
  refine kc_i (va_runVN (C := RVE) (As := [.int (nI 1)]) (b := bo) (rest := []) (Ts := Wd) ⟨hx, hb, hml, hown, hW⟩ (mVE_number l g μ hbo hbr (k := 1) (by omega)) ⟨(va_cnB 1 hW (k_gC w_209) rfl rfl rfl (hM.2.1.2.1 _ n_258) (hW _ w_3) (by decide +kernel) ⟨Nat.le_of_ble_eq_true rfl, Nat.le_of_ble_eq_true rfl⟩), hW _ w_208, hW _ p_16⟩ (k_preV (q := (RVE, TVE, 2)) hM hbo rfl) rfl rfl hl.1 rfl (lv_room (Nat.le_of_ble_eq_true rfl)) dRT_setCeiling_15 ⟨Nat.zero_le _, Nat.zero_le _⟩) hM (fun r μ1 H locs hp hM => ?_)
  obtain ⟨rfl, hmu⟩ := hp
  rw [hmu] at hM
  refine topi_eq (y := nI y) (by rw [hF1]; exact lN_i _) ?_
  refine lv_i2l (v := lN y) hx hb dRT_setCeiling_18 (nI_l (by omega)) ?_
  refine lv_lstore_n (lv' := [(3, .long (lN y)), (1, .long (lN x)), (0, .ref te)]) hx hb dRT_setCeiling_19 rfl hl (by decide) rfl (fun ls hl => ?_)
  refine lv_aload_n hx hb dRT_setCeiling_20 rfl (lv_at hl 2 rfl) ?_
  refine k_get (own := RRT) (ref := RRT) (C := RRT) (T := TRT) (N := 3) (ci := 0) (v := .ref bo) hx hb hW inRT hown hM hte rfl 0 (by decide) (hW _ w_84) (fun _ h => h) rfl dRT_setCeiling_21 ?_
  refine lv_iconst (v := nI 2) hx hb dRT_setCeiling_24 (by decide) ?_
  refine kc_i (va_runVN (C := RVE) (As := [.int (nI 2)]) (b := bo) (rest := []) (Ts := Wd) ⟨hx, hb, hml, hown, hW⟩ (mVE_number l g μ hbo hbr (k := 2) (by omega)) ⟨(va_cnB 1 hW (k_gC w_209) rfl rfl rfl (hM.2.1.2.1 _ n_258) (hW _ w_3) (by decide +kernel) ⟨Nat.le_of_ble_eq_true rfl, Nat.le_of_ble_eq_true rfl⟩), hW _ w_208, hW _ p_16⟩ (k_preV (q := (RVE, TVE, 2)) hM hbo rfl) rfl rfl hl.1 rfl (lv_room (Nat.le_of_ble_eq_true rfl)) dRT_setCeiling_25 ⟨Nat.zero_le _, Nat.zero_le _⟩) hM (fun r μ1 H locs hp hM => ?_)
  obtain ⟨rfl, hmu⟩ := hp
  rw [hmu] at hM
  refine topi_eq (y := nI w) (by rw [hF2]; exact lN_i _) ?_
  refine lv_i2l (v := lN w) hx hb dRT_setCeiling_28 (nI_l (by omega)) ?_
  refine lv_lstore (lv' := [(5, .long (lN w)), (3, .long (lN y)), (1, .long (lN x)), (0, .ref te)]) hx hb dRT_setCeiling_29 hl (by decide) rfl (fun ls hl => ?_)
  refine lv_aload_n hx hb dRT_setCeiling_31 rfl (lv_at hl 3 rfl) ?_
  refine k_get (own := RRT) (ref := RRT) (C := RRT) (T := TRT) (N := 3) (ci := 0) (v := .ref (g.2.2.2.1 k)) hx hb hW inRT hown hM hte rfl 2 (by decide) (hW _ w_86) (fun _ h => h) rfl dRT_setCeiling_32 ?_
  refine va_gets (C := "VersionRanges$Sign") (n := "TILDE") (d := "LVersionRanges$Sign;") (v := .ref (g.2.2.2.1 7)) hx hb (hM.2.1.2.2.1.1 7 (by decide)).1 hM.2.2.2 hown (hW _ w_248) (fun _ h => h) dRT_setCeiling_35 ?_
  refine lv_acmp_ne (rx := some (g.2.2.2.1 k)) (ry := some (g.2.2.2.1 7)) (tgt := 56) hx hb dRT_setCeiling_38 (by decide) (fun h38 => ?_) (fun h38 => ?_)
  · have h38 : ¬ k = 7 := fun z => h38 (by rw [z])
    refine lv_lload_n hx hb dRT_setCeiling_56 rfl (lv_at hl 2 rfl) ?_
    refine lv_lconst (v := lN 0) hx hb dRT_setCeiling_57 (by decide) ?_
    refine W.lcmp hx hb dRT_setCeiling_58 ?_
    refine lv_if_le (tgt := 77) hx hb dRT_setCeiling_59 (by decide) (fun h59 => ?_) (fun h59 => ?_)
    · have h59 := (lJ_le_t (a := x) (b := 0) (by omega) (by omega)).mp h59
      refine lv_lload_n hx hb dRT_setCeiling_77 rfl (lv_at hl 1 rfl) ?_
      refine lv_lconst (v := lN 0) hx hb dRT_setCeiling_78 (by decide) ?_
      refine W.lcmp hx hb dRT_setCeiling_79 ?_
      refine lv_if_le (tgt := 98) hx hb dRT_setCeiling_80 (by decide) (fun h80 => ?_) (fun h80 => ?_)
      · have h80 := (lJ_le_t (a := y) (b := 0) (by omega) (by omega)).mp h80
        refine lv_aload_n hx hb dRT_setCeiling_98 rfl (lv_at hl 3 rfl) ?_
        refine k_get (own := RRT) (ref := RRT) (C := RRT) (T := TRT) (N := 3) (ci := 0) (v := .ref co) hx hb hW inRT hown hM hte rfl 1 (by decide) (hW _ w_85) (fun _ h => h) rfl dRT_setCeiling_99 ?_
        refine lv_lconst (v := lN 0) hx hb dRT_setCeiling_102 (by decide) ?_
        refine lv_lconst (v := lN 0) hx hb dRT_setCeiling_103 (by decide) ?_
        refine lv_lload hx hb dRT_setCeiling_104 (lv_at hl 0 rfl) ?_
        refine lv_lconst (v := lN 1) hx hb dRT_setCeiling_106 (by decide) ?_
        refine lv_ladd hx hb dRT_setCeiling_107 ?_
        refine topl_eq (y := lN (w + 1)) (lN_add _ _) ?_
        refine kc_v (va_runVN (C := RVE) (As := [.long (lN 0), .long (lN 0), .long (lN (w + 1))]) (b := co) (rest := []) (Ts := Wd) ⟨hx, hb, hml, hown, hW⟩ (mVE_setNumbers l g μ hco hcr (x := lN 0) (y := lN 0) (z := lN (w + 1))) ⟨(va_cnB 3 hW (k_gC w_262) rfl rfl rfl (hM.2.1.2.1 _ n_259) (hW _ w_3) (by decide +kernel) ⟨Nat.le_of_ble_eq_true rfl, Nat.le_of_ble_eq_true rfl⟩), hW _ w_261, hW _ p_22⟩ (k_preV (q := (RVE, TVE, 2)) hM hco rfl) rfl rfl hl.1 rfl (lv_room (Nat.le_of_ble_eq_true rfl)) dRT_setCeiling_108 ⟨Nat.zero_le _, Nat.zero_le _⟩) hM (fun μ1 H locs hp hM => ?_)
        rw [hp] at hM
        have hM : kS g (km_up (km_up μ cr (.inl (g.2.2.1 2, 7, .inr (.inl (n3F Fc (0, 0, (w + 1))))))) co (.inr (2, [.ref cr, .int (nI 0)]))) s H locs := hM
        exact kr_v hx hb hr hlocks hM dRT_setCeiling_111 (by rw [show ceT k x y w = _ by unfold ceT; first | rw [if_pos h38] | rw [if_neg h38, if_pos h59] | rw [if_neg h38, if_neg (Nat.not_lt.mpr h59), if_pos h80] | rw [if_neg h38, if_neg (Nat.not_lt.mpr h59), if_neg (Nat.not_lt.mpr h80)]])
      · have h80 := (lJ_le_f (a := y) (b := 0) (by omega) (by omega)).mp h80
        refine lv_aload_n hx hb dRT_setCeiling_83 rfl (lv_at hl 3 rfl) ?_
        refine k_get (own := RRT) (ref := RRT) (C := RRT) (T := TRT) (N := 3) (ci := 0) (v := .ref co) hx hb hW inRT hown hM hte rfl 1 (by decide) (hW _ w_85) (fun _ h => h) rfl dRT_setCeiling_84 ?_
        refine lv_lconst (v := lN 0) hx hb dRT_setCeiling_87 (by decide) ?_
        refine lv_lload_n hx hb dRT_setCeiling_88 rfl (lv_at hl 1 rfl) ?_
        refine lv_lconst (v := lN 1) hx hb dRT_setCeiling_89 (by decide) ?_
        refine lv_ladd hx hb dRT_setCeiling_90 ?_
        refine topl_eq (y := lN (y + 1)) (lN_add _ _) ?_
        refine lv_lconst (v := lN 0) hx hb dRT_setCeiling_91 (by decide) ?_
        refine kc_v (va_runVN (C := RVE) (As := [.long (lN 0), .long (lN (y + 1)), .long (lN 0)]) (b := co) (rest := []) (Ts := Wd) ⟨hx, hb, hml, hown, hW⟩ (mVE_setNumbers l g μ hco hcr (x := lN 0) (y := lN (y + 1)) (z := lN 0)) ⟨(va_cnB 3 hW (k_gC w_262) rfl rfl rfl (hM.2.1.2.1 _ n_259) (hW _ w_3) (by decide +kernel) ⟨Nat.le_of_ble_eq_true rfl, Nat.le_of_ble_eq_true rfl⟩), hW _ w_261, hW _ p_22⟩ (k_preV (q := (RVE, TVE, 2)) hM hco rfl) rfl rfl hl.1 rfl (lv_room (Nat.le_of_ble_eq_true rfl)) dRT_setCeiling_92 ⟨Nat.zero_le _, Nat.zero_le _⟩) hM (fun μ1 H locs hp hM => ?_)
        rw [hp] at hM
        have hM : kS g (km_up (km_up μ cr (.inl (g.2.2.1 2, 7, .inr (.inl (n3F Fc (0, (y + 1), 0)))))) co (.inr (2, [.ref cr, .int (nI 0)]))) s H locs := hM
        refine lv_goto (tgt := 111) hx hb dRT_setCeiling_95 (by decide) ?_
        exact kr_v hx hb hr hlocks hM dRT_setCeiling_111 (by rw [show ceT k x y w = _ by unfold ceT; first | rw [if_pos h38] | rw [if_neg h38, if_pos h59] | rw [if_neg h38, if_neg (Nat.not_lt.mpr h59), if_pos h80] | rw [if_neg h38, if_neg (Nat.not_lt.mpr h59), if_neg (Nat.not_lt.mpr h80)]])
    · have h59 := (lJ_le_f (a := x) (b := 0) (by omega) (by omega)).mp h59
      refine lv_aload_n hx hb dRT_setCeiling_62 rfl (lv_at hl 3 rfl) ?_
      refine k_get (own := RRT) (ref := RRT) (C := RRT) (T := TRT) (N := 3) (ci := 0) (v := .ref co) hx hb hW inRT hown hM hte rfl 1 (by decide) (hW _ w_85) (fun _ h => h) rfl dRT_setCeiling_63 ?_
      refine lv_lload_n hx hb dRT_setCeiling_66 rfl (lv_at hl 2 rfl) ?_
      refine lv_lconst (v := lN 1) hx hb dRT_setCeiling_67 (by decide) ?_
      refine lv_ladd hx hb dRT_setCeiling_68 ?_
      refine topl_eq (y := lN (x + 1)) (lN_add _ _) ?_
      refine lv_lconst (v := lN 0) hx hb dRT_setCeiling_69 (by decide) ?_
      refine lv_lconst (v := lN 0) hx hb dRT_setCeiling_70 (by decide) ?_
      refine kc_v (va_runVN (C := RVE) (As := [.long (lN (x + 1)), .long (lN 0), .long (lN 0)]) (b := co) (rest := []) (Ts := Wd) ⟨hx, hb, hml, hown, hW⟩ (mVE_setNumbers l g μ hco hcr (x := lN (x + 1)) (y := lN 0) (z := lN 0)) ⟨(va_cnB 3 hW (k_gC w_262) rfl rfl rfl (hM.2.1.2.1 _ n_259) (hW _ w_3) (by decide +kernel) ⟨Nat.le_of_ble_eq_true rfl, Nat.le_of_ble_eq_true rfl⟩), hW _ w_261, hW _ p_22⟩ (k_preV (q := (RVE, TVE, 2)) hM hco rfl) rfl rfl hl.1 rfl (lv_room (Nat.le_of_ble_eq_true rfl)) dRT_setCeiling_71 ⟨Nat.zero_le _, Nat.zero_le _⟩) hM (fun μ1 H locs hp hM => ?_)
      rw [hp] at hM
      have hM : kS g (km_up (km_up μ cr (.inl (g.2.2.1 2, 7, .inr (.inl (n3F Fc ((x + 1), 0, 0)))))) co (.inr (2, [.ref cr, .int (nI 0)]))) s H locs := hM
      refine lv_goto (tgt := 111) hx hb dRT_setCeiling_74 (by decide) ?_
      exact kr_v hx hb hr hlocks hM dRT_setCeiling_111 (by rw [show ceT k x y w = _ by unfold ceT; first | rw [if_pos h38] | rw [if_neg h38, if_pos h59] | rw [if_neg h38, if_neg (Nat.not_lt.mpr h59), if_pos h80] | rw [if_neg h38, if_neg (Nat.not_lt.mpr h59), if_neg (Nat.not_lt.mpr h80)]])
  · have h38 := k_enum hM hk8 (by decide) h38
    refine lv_aload_n hx hb dRT_setCeiling_41 rfl (lv_at hl 3 rfl) ?_
    refine k_get (own := RRT) (ref := RRT) (C := RRT) (T := TRT) (N := 3) (ci := 0) (v := .ref co) hx hb hW inRT hown hM hte rfl 1 (by decide) (hW _ w_85) (fun _ h => h) rfl dRT_setCeiling_42 ?_
    refine lv_lload_n hx hb dRT_setCeiling_45 rfl (lv_at hl 2 rfl) ?_
    refine lv_lload_n hx hb dRT_setCeiling_46 rfl (lv_at hl 1 rfl) ?_
    refine lv_lconst (v := lN 1) hx hb dRT_setCeiling_47 (by decide) ?_
    refine lv_ladd hx hb dRT_setCeiling_48 ?_
    refine topl_eq (y := lN (y + 1)) (lN_add _ _) ?_
    refine lv_lconst (v := lN 0) hx hb dRT_setCeiling_49 (by decide) ?_
    refine kc_v (va_runVN (C := RVE) (As := [.long (lN x), .long (lN (y + 1)), .long (lN 0)]) (b := co) (rest := []) (Ts := Wd) ⟨hx, hb, hml, hown, hW⟩ (mVE_setNumbers l g μ hco hcr (x := lN x) (y := lN (y + 1)) (z := lN 0)) ⟨(va_cnB 3 hW (k_gC w_262) rfl rfl rfl (hM.2.1.2.1 _ n_259) (hW _ w_3) (by decide +kernel) ⟨Nat.le_of_ble_eq_true rfl, Nat.le_of_ble_eq_true rfl⟩), hW _ w_261, hW _ p_22⟩ (k_preV (q := (RVE, TVE, 2)) hM hco rfl) rfl rfl hl.1 rfl (lv_room (Nat.le_of_ble_eq_true rfl)) dRT_setCeiling_50 ⟨Nat.zero_le _, Nat.zero_le _⟩) hM (fun μ1 H locs hp hM => ?_)
    rw [hp] at hM
    have hM : kS g (km_up (km_up μ cr (.inl (g.2.2.1 2, 7, .inr (.inl (n3F Fc (x, (y + 1), 0)))))) co (.inr (2, [.ref cr, .int (nI 0)]))) s H locs := hM
    refine lv_goto (tgt := 111) hx hb dRT_setCeiling_53 (by decide) ?_
    exact kr_v hx hb hr hlocks hM dRT_setCeiling_111 (by rw [show ceT k x y w = _ by unfold ceT; first | rw [if_pos h38] | rw [if_neg h38, if_pos h59] | rw [if_neg h38, if_neg (Nat.not_lt.mpr h59), if_pos h80] | rw [if_neg h38, if_neg (Nat.not_lt.mpr h59), if_neg (Nat.not_lt.mpr h80)]])
