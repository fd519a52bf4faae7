set_option maxHeartbeats 800000 in
set_option maxRecDepth 100000 in
theorem mVE_readPre (l : Launch) (g : kG) (μ : km_M) {va ra pb : Nat} {F : Nat → Int64} (hv : μ va = some (.inr (2, [.ref ra, .int (nI pb)]))) (hr0 : μ ra = some (.inl (g.2.2.1 2, 7, .inr (.inl F)))) {ta ba sa oa ln ai zi : Nat} (ht : μ ta = some (.inr (1, [.ref ba, .ref sa, .ref oa, .int (nI ln), .int (nI ai), .int (nI zi)]))) {B : Nat → Nat} (hB : ∀ k, B k < 256) (hb0 : μ ba = some (.inl (g.2.2.1 0, 400, .inl (fun j => sb (B j))))) (hai : ai ≤ zi) (hzi : zi ≤ 400) : Met l yVE_readPre (Cond.code yVE_readPre cVE_readPre 3 (some .boolean) :: Wd) ({ frames := 2, cells := 0, slots := 0, locals := 49 } : Room) (kPre g μ [.ref va, .ref ta]) (kQi g (fun (r : Int32) (μ1 : km_M) => ∃ (F1 : Nat → Int64) (a1 : Nat), μ1 = km_up (km_up (km_up μ va (.inr (2, [.ref ra, .int (nI (zi - ai))]))) ta (.inr (1, [.ref ba, .ref sa, .ref oa, .int (nI ln), .int (nI a1), .int (nI zi)]))) ra (.inl (g.2.2.1 2, 7, .inr (.inl F1))) ∧ ((vPre B zi 4 ai = none ∧ r = nI 0) ∨ (∃ ms, vPre B zi 4 ai = some ms ∧ r = nI 1 ∧ a1 = zi ∧ ∀ k, k < 7 → F1 k = pF F ms k)))) 0 0 (kF g) := by
  refine k_met (by decide) (Nat.le_of_ble_eq_true rfl) ?_
  intro p e s m below meth c hx hb hr hlocks hml hown hnm hW ls hl H locs hM
  have hl : lv_has ls 3 [(0, .ref va), (1, .ref ta)] := hl
  refine lv_aload_n hx hb dVE_readPre_0 rfl (lv_at hl 0 rfl) ?_
  refine lv_aload_n hx hb dVE_readPre_1 rfl (lv_at hl 1 rfl) ?_
  refine k_getN (own := RVE) (ref := RTP) (C := RTP) (T := TTP) (N := 6) (ci := 1) (v := .int (nI zi)) hx hb hW inTP hown hM ht rfl 5 (by decide) (va_Nw.use rfl (hM.2.1.2.1 _ n_42)) (fun _ h => h) rfl dVE_readPre_2 ?_
  refine lv_aload_n hx hb dVE_readPre_5 rfl (lv_at hl 1 rfl) ?_
  refine k_getN (own := RVE) (ref := RTP) (C := RTP) (T := TTP) (N := 6) (ci := 1) (v := .int (nI ai)) hx hb hW inTP hown hM ht rfl 4 (by decide) (va_Nw.use rfl (hM.2.1.2.1 _ n_40)) (fun _ h => h) rfl dVE_readPre_6 ?_
  refine lv_isub hx hb dVE_readPre_9 ?_
  refine topi_eq (y := nI (zi - ai)) (pk_sub (a := zi) (b := ai) (by omega)) ?_
  refine k_put (own := RVE) (ref := RVE) (C := RVE) (T := TVE) (N := 2) (ci := 2) (v := .int (nI (zi - ai))) (ty := .int) (fs' := [.ref ra, .int (nI (zi - ai))]) hx hb hW inVE tyVE tyokVE nmokVE hown hM hv rfl 1 (by decide) (hW _ w_66) (fun _ h => h) rfl (by decide +kernel) rfl rfl (Nat.le_of_ble_eq_true rfl) dVE_readPre_10 rfl (fun H locs hM => ?_)
  have hM : kS g (km_up μ va (.inr (2, [.ref ra, .int (nI (zi - ai))]))) s H locs := hM
  refine lv_iconst (v := nI 0) hx hb dVE_readPre_13 (by decide) ?_
  refine lv_istore_n (lv' := [(2, .int (nI 0)), (0, .ref va), (1, .ref ta)]) hx hb dVE_readPre_14 rfl hl (by decide) rfl (fun ls hl => ?_)
  refine lv_iload_n hx hb dVE_readPre_15 rfl (lv_at hl 0 rfl) ?_
  refine lv_iconst (v := nI 4) hx hb dVE_readPre_16 (by decide) ?_
  refine lv_icmp_ge (tgt := 77) hx hb dVE_readPre_17 (by decide) (fun h => absurd h (by decide)) (fun _ => ?_)
  refine lv_iload_n hx hb dVE_readPre_20 rfl (lv_at hl 0 rfl) ?_
  refine lv_if_le (tgt := 35) hx hb dVE_readPre_21 (by decide) (fun _ => ?_) (fun h => absurd (by decide) h)
  refine lv_aload_n hx hb dVE_readPre_35 rfl (lv_at hl 1 rfl) ?_
  refine k_get (own := RVE) (ref := RVE) (C := RVE) (T := TVE) (N := 2) (ci := 2) (v := .ref ra) hx hb hW inVE hown hM (km_s _ _ _) rfl 0 (by decide) (hW _ w_65) (fun _ h => h) rfl dVE_readPre_36 ?_
  refine lv_iconst (v := nI 3) hx hb dVE_readPre_39 (by decide) ?_
  refine lv_iload_n hx hb dVE_readPre_40 rfl (lv_at hl 0 rfl) ?_
  refine lv_iadd hx hb dVE_readPre_41 ?_
  refine topi_eq (y := nI 3) (nI_add 3 0) ?_
  refine lv_aload_n hx hb dVE_readPre_42 rfl (lv_at hl 2 rfl) ?_
  refine kc_l (va_runVN (C := RTP) (As := []) (b := ta) (rest := [.int (nI 3), .ref ra]) (Ts := Wd) ⟨hx, hb, hml, hown, hW⟩ (mTP_readMark l g (km_up μ va (.inr (2, [.ref ra, .int (nI (zi - ai))]))) ((km_n (km_apC ht hv (by decide))).trans ht) hB ((km_n (km_apA hb0 hv)).trans hb0) (by omega) (by omega)) ⟨(va_cnB 0 hW (k_gC w_178) rfl rfl rfl (hM.2.1.2.1 _ n_175) (hW _ w_2) (by decide +kernel) ⟨Nat.le_of_ble_eq_true rfl, Nat.le_of_ble_eq_true rfl⟩), hW _ w_177, hW _ p_12⟩ (k_preV (q := (RTP, TTP, 6)) hM ((km_n (km_apC ht hv (by decide))).trans ht) rfl) rfl rfl hl.1 rfl (lv_room (Nat.le_of_ble_eq_true rfl)) dVE_readPre_43 ⟨Nat.zero_le _, Nat.zero_le _⟩) hM (fun r μ1 H locs hp hM => ?_)
  obtain ⟨rfl, hmu⟩ := hp
  rw [hmu] at hM
  have hM : kS g (km_up (km_up μ va (.inr (2, [.ref ra, .int (nI (zi - ai))]))) ta (.inr (1, [.ref ba, .ref sa, .ref oa, .int (nI ln), .int (nI (ai + nM B ai (zi - ai))), .int (nI zi)]))) s H locs := hM
  rcases vMark_cases B (a := ai) (z := zi) (by omega) with ⟨hv1, hr1⟩ | ⟨v1, a1, hv1, hr1, hlt1, ha1, hle1, hln1⟩
  · refine topl_eq (y := (-1)) hr1 ?_
    refine k_last (i := 3) (f1 := (vp_updL F 3 (-1))) hx hb hM 2 ((km_n (km_apA hr0 ht)).trans ((km_n (km_apA hr0 hv)).trans hr0)) rfl (by omega) (by omega) rfl dVE_readPre_46 (fun H locs hM => ?_)
    have hM : kS g (km_up (km_up (km_up μ va (.inr (2, [.ref ra, .int (nI (zi - ai))]))) ta (.inr (1, [.ref ba, .ref sa, .ref oa, .int (nI ln), .int (nI (ai + nM B ai (zi - ai))), .int (nI zi)]))) ra (.inl (g.2.2.1 2, 7, .inr (.inl (vp_updL F 3 (-1)))))) s H locs := hM
    refine lv_aload_n hx hb dVE_readPre_47 rfl (lv_at hl 1 rfl) ?_
    refine k_get (own := RVE) (ref := RVE) (C := RVE) (T := TVE) (N := 2) (ci := 2) (v := .ref ra) hx hb hW inVE hown hM ((km_n (km_apB hv hr0)).trans ((km_n (km_apC hv ht (by decide))).trans (km_s _ _ _))) rfl 0 (by decide) (hW _ w_65) (fun _ h => h) rfl dVE_readPre_48 ?_
    refine lv_iconst (v := nI 3) hx hb dVE_readPre_51 (by decide) ?_
    refine lv_iload_n hx hb dVE_readPre_52 rfl (lv_at hl 0 rfl) ?_
    refine lv_iadd hx hb dVE_readPre_53 ?_
    refine topi_eq (y := nI 3) (nI_add 3 0) ?_
    refine k_lald (i := 3) hx hb hM 2 (km_s _ _ _) rfl (by omega) (by omega) dVE_readPre_54 ?_
    refine topl_eq (y := (-1)) pk_uLs ?_
    refine lv_lconst (v := lN 0) hx hb dVE_readPre_55 (by decide) ?_
    refine W.lcmp hx hb dVE_readPre_56 ?_
    refine lv_if_ge (tgt := 62) hx hb dVE_readPre_57 (by decide) (fun h => absurd h lm1_ge) (fun _ => ?_)
    refine lv_iconst (v := nI 0) hx hb dVE_readPre_60 (by decide) ?_
    exact kr_z hx hb hr (by decide) hlocks hM dVE_readPre_61 (⟨_, _, rfl, Or.inl ⟨by rw [vPre_n hv1], rfl⟩⟩)
  · refine topl_eq (y := lN (mV v1)) hr1 ?_
    rw [ha1] at hM
    refine k_last (i := 3) (f1 := (vp_updL F 3 (lN (mV v1)))) hx hb hM 2 ((km_n (km_apA hr0 ht)).trans ((km_n (km_apA hr0 hv)).trans hr0)) rfl (by omega) (by omega) rfl dVE_readPre_46 (fun H locs hM => ?_)
    have hM : kS g (km_up (km_up (km_up μ va (.inr (2, [.ref ra, .int (nI (zi - ai))]))) ta (.inr (1, [.ref ba, .ref sa, .ref oa, .int (nI ln), .int (nI a1), .int (nI zi)]))) ra (.inl (g.2.2.1 2, 7, .inr (.inl (vp_updL F 3 (lN (mV v1))))))) s H locs := hM
    refine lv_aload_n hx hb dVE_readPre_47 rfl (lv_at hl 1 rfl) ?_
    refine k_get (own := RVE) (ref := RVE) (C := RVE) (T := TVE) (N := 2) (ci := 2) (v := .ref ra) hx hb hW inVE hown hM ((km_n (km_apB hv hr0)).trans ((km_n (km_apC hv ht (by decide))).trans (km_s _ _ _))) rfl 0 (by decide) (hW _ w_65) (fun _ h => h) rfl dVE_readPre_48 ?_
    refine lv_iconst (v := nI 3) hx hb dVE_readPre_51 (by decide) ?_
    refine lv_iload_n hx hb dVE_readPre_52 rfl (lv_at hl 0 rfl) ?_
    refine lv_iadd hx hb dVE_readPre_53 ?_
    refine topi_eq (y := nI 3) (nI_add 3 0) ?_
    refine k_lald (i := 3) hx hb hM 2 (km_s _ _ _) rfl (by omega) (by omega) dVE_readPre_54 ?_
    refine topl_eq (y := lN (mV v1)) pk_uLs ?_
    refine lv_lconst (v := lN 0) hx hb dVE_readPre_55 (by decide) ?_
    refine W.lcmp hx hb dVE_readPre_56 ?_
    refine lv_if_ge (tgt := 62) hx hb dVE_readPre_57 (by decide) (fun h57 => ?_) (fun h57 => ?_)
    · have h57 := (lJ_ge_t (a := (mV v1)) (b := 0) (by omega) (by omega)).mp h57
      refine lv_aload_n hx hb dVE_readPre_62 rfl (lv_at hl 2 rfl) ?_
      refine kc_i (va_runVN (C := RTP) (As := []) (b := ta) (rest := []) (Ts := Wd) ⟨hx, hb, hml, hown, hW⟩ (mTP_isAtStop l g (km_up (km_up (km_up μ va (.inr (2, [.ref ra, .int (nI (zi - ai))]))) ta (.inr (1, [.ref ba, .ref sa, .ref oa, .int (nI ln), .int (nI a1), .int (nI zi)]))) ra (.inl (g.2.2.1 2, 7, .inr (.inl (vp_updL F 3 (lN (mV v1))))))) ((km_n (km_apB ht hr0)).trans (km_s _ _ _)) (by omega) (by omega)) ⟨(va_cnB 0 hW (k_gC w_170) rfl rfl rfl (hM.2.1.2.1 _ n_167) (hW _ w_2) (by decide +kernel) ⟨Nat.le_of_ble_eq_true rfl, Nat.le_of_ble_eq_true rfl⟩), hW _ w_169, hW _ p_10⟩ (k_preV (q := (RTP, TTP, 6)) hM ((km_n (km_apB ht hr0)).trans (km_s _ _ _)) rfl) rfl rfl hl.1 rfl (lv_room (Nat.le_of_ble_eq_true rfl)) dVE_readPre_63 ⟨Nat.zero_le _, Nat.zero_le _⟩) hM (fun r μ1 H locs hp hM => ?_)
      obtain ⟨rfl, hmu⟩ := hp
      rw [hmu] at hM
      rcases Decidable.em (a1 = zi) with hz2 | hz2
      · refine topi_eq (y := nI 1) (bI_t hz2).symm ?_
        refine lv_if_eq (tgt := 71) hx hb dVE_readPre_66 (by decide) (fun h => absurd h (by decide)) (fun _ => ?_)
        refine lv_iconst (v := nI 1) hx hb dVE_readPre_69 (by decide) ?_
        exact kr_z hx hb hr (by decide) hlocks hM dVE_readPre_70 (⟨_, _, rfl, Or.inr ⟨[v1], by rw [vPre_s hv1 hz2], rfl, hz2, pF1 F v1⟩⟩)
      · refine topi_eq (y := nI 0) (bI_f hz2).symm ?_
        refine lv_if_eq (tgt := 71) hx hb dVE_readPre_66 (by decide) (fun _ => ?_) (fun h => absurd (by decide) h)
        refine lv_iinc (v := nI 1) (lv' := [(2, .int (nI 1)), (0, .ref va), (1, .ref ta)]) (k := 0) hx hb dVE_readPre_71 hl rfl (by decide) (by decide) rfl (fun ls hl => ?_)
        refine lv_goto (tgt := 15) hx hb dVE_readPre_74 (by decide) ?_
        refine lv_iload_n hx hb dVE_readPre_15 rfl (lv_at hl 0 rfl) ?_
        refine lv_iconst (v := nI 4) hx hb dVE_readPre_16 (by decide) ?_
        refine lv_icmp_ge (tgt := 77) hx hb dVE_readPre_17 (by decide) (fun h => absurd h (by decide)) (fun _ => ?_)
        refine lv_iload_n hx hb dVE_readPre_20 rfl (lv_at hl 0 rfl) ?_
        refine lv_if_le (tgt := 35) hx hb dVE_readPre_21 (by decide) (fun h => absurd h (by decide)) (fun _ => ?_)
        refine lv_aload_n hx hb dVE_readPre_24 rfl (lv_at hl 2 rfl) ?_
        refine lv_bipush (v := nI 46) hx hb dVE_readPre_25 (by decide) ?_
        refine kc_i (va_runVN (C := RTP) (As := [.int (nI 46)]) (b := ta) (rest := []) (Ts := Wd) ⟨hx, hb, hml, hown, hW⟩ (mTP_skip l g (km_up (km_up (km_up μ va (.inr (2, [.ref ra, .int (nI (zi - ai))]))) ta (.inr (1, [.ref ba, .ref sa, .ref oa, .int (nI ln), .int (nI a1), .int (nI zi)]))) ra (.inl (g.2.2.1 2, 7, .inr (.inl (vp_updL F 3 (lN (mV v1))))))) ((km_n (km_apB ht hr0)).trans (km_s _ _ _)) hB ((km_n (km_apN hb0 hr0 (by decide))).trans ((km_n (km_apA hb0 ht)).trans ((km_n (km_apA hb0 hv)).trans hb0))) (ch := 46) (by omega) (by omega) (by omega)) ⟨(va_cnB 1 hW (k_gC w_149) rfl rfl rfl (hM.2.1.2.1 _ n_146) (hW _ w_2) (by decide +kernel) ⟨Nat.le_of_ble_eq_true rfl, Nat.le_of_ble_eq_true rfl⟩), hW _ w_148, hW _ p_6⟩ (k_preV (q := (RTP, TTP, 6)) hM ((km_n (km_apB ht hr0)).trans (km_s _ _ _)) rfl) rfl rfl hl.1 rfl (lv_room (Nat.le_of_ble_eq_true rfl)) dVE_readPre_27 ⟨Nat.zero_le _, Nat.zero_le _⟩) hM (fun r μ1 H locs hp hM => ?_)
        obtain ⟨rfl, hmu⟩ := hp
        rw [hmu] at hM
        rcases Decidable.em (a1 < zi ∧ B a1 = 46) with hs3 | hs3
        · refine topi_eq (y := nI 1) (bI_t hs3).symm ?_
          rw [if_pos hs3] at hM
          have hd3 := vDot_t hs3
          have hM : kS g (km_up (km_up (km_up μ va (.inr (2, [.ref ra, .int (nI (zi - ai))]))) ta (.inr (1, [.ref ba, .ref sa, .ref oa, .int (nI ln), .int (nI (a1 + 1)), .int (nI zi)]))) ra (.inl (g.2.2.1 2, 7, .inr (.inl (vp_updL F 3 (lN (mV v1))))))) s H locs := kS_eq (km_u2 _ _ _ _ (km_apB ht hr0)) hM
          refine lv_if_ne (tgt := 35) hx hb dVE_readPre_30 (by decide) (fun _ => ?_) (fun h => absurd h (by decide))
          refine lv_aload_n hx hb dVE_readPre_35 rfl (lv_at hl 1 rfl) ?_
          refine k_get (own := RVE) (ref := RVE) (C := RVE) (T := TVE) (N := 2) (ci := 2) (v := .ref ra) hx hb hW inVE hown hM ((km_n (km_apB hv hr0)).trans ((km_n (km_apC hv ht (by decide))).trans (km_s _ _ _))) rfl 0 (by decide) (hW _ w_65) (fun _ h => h) rfl dVE_readPre_36 ?_
          refine lv_iconst (v := nI 3) hx hb dVE_readPre_39 (by decide) ?_
          refine lv_iload_n hx hb dVE_readPre_40 rfl (lv_at hl 0 rfl) ?_
          refine lv_iadd hx hb dVE_readPre_41 ?_
          refine topi_eq (y := nI 4) (nI_add 3 1) ?_
          refine lv_aload_n hx hb dVE_readPre_42 rfl (lv_at hl 2 rfl) ?_
          refine kc_l (va_runVN (C := RTP) (As := []) (b := ta) (rest := [.int (nI 4), .ref ra]) (Ts := Wd) ⟨hx, hb, hml, hown, hW⟩ (mTP_readMark l g (km_up (km_up (km_up μ va (.inr (2, [.ref ra, .int (nI (zi - ai))]))) ta (.inr (1, [.ref ba, .ref sa, .ref oa, .int (nI ln), .int (nI (a1 + 1)), .int (nI zi)]))) ra (.inl (g.2.2.1 2, 7, .inr (.inl (vp_updL F 3 (lN (mV v1))))))) ((km_n (km_apB ht hr0)).trans (km_s _ _ _)) hB ((km_n (km_apN hb0 hr0 (by decide))).trans ((km_n (km_apA hb0 ht)).trans ((km_n (km_apA hb0 hv)).trans hb0))) (by omega) (by omega)) ⟨(va_cnB 0 hW (k_gC w_178) rfl rfl rfl (hM.2.1.2.1 _ n_175) (hW _ w_2) (by decide +kernel) ⟨Nat.le_of_ble_eq_true rfl, Nat.le_of_ble_eq_true rfl⟩), hW _ w_177, hW _ p_12⟩ (k_preV (q := (RTP, TTP, 6)) hM ((km_n (km_apB ht hr0)).trans (km_s _ _ _)) rfl) rfl rfl hl.1 rfl (lv_room (Nat.le_of_ble_eq_true rfl)) dVE_readPre_43 ⟨Nat.zero_le _, Nat.zero_le _⟩) hM (fun r μ1 H locs hp hM => ?_)
          obtain ⟨rfl, hmu⟩ := hp
          rw [hmu] at hM
          have hM : kS g (km_up (km_up (km_up (km_up μ va (.inr (2, [.ref ra, .int (nI (zi - ai))]))) ta (.inr (1, [.ref ba, .ref sa, .ref oa, .int (nI ln), .int (nI (a1 + 1)), .int (nI zi)]))) ra (.inl (g.2.2.1 2, 7, .inr (.inl (vp_updL F 3 (lN (mV v1))))))) ta (.inr (1, [.ref ba, .ref sa, .ref oa, .int (nI ln), .int (nI (a1 + 1 + nM B (a1 + 1) (zi - (a1 + 1)))), .int (nI zi)]))) s H locs := hM
          have hM : kS g (km_up (km_up (km_up μ va (.inr (2, [.ref ra, .int (nI (zi - ai))]))) ta (.inr (1, [.ref ba, .ref sa, .ref oa, .int (nI ln), .int (nI (a1 + 1 + nM B (a1 + 1) (zi - (a1 + 1)))), .int (nI zi)]))) ra (.inl (g.2.2.1 2, 7, .inr (.inl (vp_updL F 3 (lN (mV v1))))))) s H locs := kS_eq (km_u2 _ _ _ _ (km_apB ht hr0)) hM
          rcases vMark_cases B (a := a1 + 1) (z := zi) (by omega) with ⟨hv4, hr4⟩ | ⟨v4, a4, hv4, hr4, hlt4, ha4, hle4, hln4⟩
          · refine topl_eq (y := (-1)) hr4 ?_
            refine k_last (i := 4) (f1 := (vp_updL (vp_updL F 3 (lN (mV v1))) 4 (-1))) hx hb hM 2 (km_s _ _ _) rfl (by omega) (by omega) rfl dVE_readPre_46 (fun H locs hM => ?_)
            have hM : kS g (km_up (km_up (km_up μ va (.inr (2, [.ref ra, .int (nI (zi - ai))]))) ta (.inr (1, [.ref ba, .ref sa, .ref oa, .int (nI ln), .int (nI (a1 + 1 + nM B (a1 + 1) (zi - (a1 + 1)))), .int (nI zi)]))) ra (.inl (g.2.2.1 2, 7, .inr (.inl (vp_updL (vp_updL F 3 (lN (mV v1))) 4 (-1)))))) s H locs := kS_eq (km_u1 _ _ _ _) hM
            refine lv_aload_n hx hb dVE_readPre_47 rfl (lv_at hl 1 rfl) ?_
            refine k_get (own := RVE) (ref := RVE) (C := RVE) (T := TVE) (N := 2) (ci := 2) (v := .ref ra) hx hb hW inVE hown hM ((km_n (km_apB hv hr0)).trans ((km_n (km_apC hv ht (by decide))).trans (km_s _ _ _))) rfl 0 (by decide) (hW _ w_65) (fun _ h => h) rfl dVE_readPre_48 ?_
            refine lv_iconst (v := nI 3) hx hb dVE_readPre_51 (by decide) ?_
            refine lv_iload_n hx hb dVE_readPre_52 rfl (lv_at hl 0 rfl) ?_
            refine lv_iadd hx hb dVE_readPre_53 ?_
            refine topi_eq (y := nI 4) (nI_add 3 1) ?_
            refine k_lald (i := 4) hx hb hM 2 (km_s _ _ _) rfl (by omega) (by omega) dVE_readPre_54 ?_
            refine topl_eq (y := (-1)) pk_uLs ?_
            refine lv_lconst (v := lN 0) hx hb dVE_readPre_55 (by decide) ?_
            refine W.lcmp hx hb dVE_readPre_56 ?_
            refine lv_if_ge (tgt := 62) hx hb dVE_readPre_57 (by decide) (fun h => absurd h lm1_ge) (fun _ => ?_)
            refine lv_iconst (v := nI 0) hx hb dVE_readPre_60 (by decide) ?_
            exact kr_z hx hb hr (by decide) hlocks hM dVE_readPre_61 (⟨_, _, rfl, Or.inl ⟨by rw [vPre_c hv1 hz2 hd3, vPre_n hv4]; rfl, rfl⟩⟩)
          · refine topl_eq (y := lN (mV v4)) hr4 ?_
            rw [ha4] at hM
            refine k_last (i := 4) (f1 := (vp_updL (vp_updL F 3 (lN (mV v1))) 4 (lN (mV v4)))) hx hb hM 2 (km_s _ _ _) rfl (by omega) (by omega) rfl dVE_readPre_46 (fun H locs hM => ?_)
            have hM : kS g (km_up (km_up (km_up μ va (.inr (2, [.ref ra, .int (nI (zi - ai))]))) ta (.inr (1, [.ref ba, .ref sa, .ref oa, .int (nI ln), .int (nI a4), .int (nI zi)]))) ra (.inl (g.2.2.1 2, 7, .inr (.inl (vp_updL (vp_updL F 3 (lN (mV v1))) 4 (lN (mV v4))))))) s H locs := kS_eq (km_u1 _ _ _ _) hM
            refine lv_aload_n hx hb dVE_readPre_47 rfl (lv_at hl 1 rfl) ?_
            refine k_get (own := RVE) (ref := RVE) (C := RVE) (T := TVE) (N := 2) (ci := 2) (v := .ref ra) hx hb hW inVE hown hM ((km_n (km_apB hv hr0)).trans ((km_n (km_apC hv ht (by decide))).trans (km_s _ _ _))) rfl 0 (by decide) (hW _ w_65) (fun _ h => h) rfl dVE_readPre_48 ?_
            refine lv_iconst (v := nI 3) hx hb dVE_readPre_51 (by decide) ?_
            refine lv_iload_n hx hb dVE_readPre_52 rfl (lv_at hl 0 rfl) ?_
            refine lv_iadd hx hb dVE_readPre_53 ?_
            refine topi_eq (y := nI 4) (nI_add 3 1) ?_
            refine k_lald (i := 4) hx hb hM 2 (km_s _ _ _) rfl (by omega) (by omega) dVE_readPre_54 ?_
            refine topl_eq (y := lN (mV v4)) pk_uLs ?_
            refine lv_lconst (v := lN 0) hx hb dVE_readPre_55 (by decide) ?_
            refine W.lcmp hx hb dVE_readPre_56 ?_
            refine lv_if_ge (tgt := 62) hx hb dVE_readPre_57 (by decide) (fun h57 => ?_) (fun h57 => ?_)
            · have h57 := (lJ_ge_t (a := (mV v4)) (b := 0) (by omega) (by omega)).mp h57
              refine lv_aload_n hx hb dVE_readPre_62 rfl (lv_at hl 2 rfl) ?_
              refine kc_i (va_runVN (C := RTP) (As := []) (b := ta) (rest := []) (Ts := Wd) ⟨hx, hb, hml, hown, hW⟩ (mTP_isAtStop l g (km_up (km_up (km_up μ va (.inr (2, [.ref ra, .int (nI (zi - ai))]))) ta (.inr (1, [.ref ba, .ref sa, .ref oa, .int (nI ln), .int (nI a4), .int (nI zi)]))) ra (.inl (g.2.2.1 2, 7, .inr (.inl (vp_updL (vp_updL F 3 (lN (mV v1))) 4 (lN (mV v4))))))) ((km_n (km_apB ht hr0)).trans (km_s _ _ _)) (by omega) (by omega)) ⟨(va_cnB 0 hW (k_gC w_170) rfl rfl rfl (hM.2.1.2.1 _ n_167) (hW _ w_2) (by decide +kernel) ⟨Nat.le_of_ble_eq_true rfl, Nat.le_of_ble_eq_true rfl⟩), hW _ w_169, hW _ p_10⟩ (k_preV (q := (RTP, TTP, 6)) hM ((km_n (km_apB ht hr0)).trans (km_s _ _ _)) rfl) rfl rfl hl.1 rfl (lv_room (Nat.le_of_ble_eq_true rfl)) dVE_readPre_63 ⟨Nat.zero_le _, Nat.zero_le _⟩) hM (fun r μ1 H locs hp hM => ?_)
              obtain ⟨rfl, hmu⟩ := hp
              rw [hmu] at hM
              rcases Decidable.em (a4 = zi) with hz5 | hz5
              · refine topi_eq (y := nI 1) (bI_t hz5).symm ?_
                refine lv_if_eq (tgt := 71) hx hb dVE_readPre_66 (by decide) (fun h => absurd h (by decide)) (fun _ => ?_)
                refine lv_iconst (v := nI 1) hx hb dVE_readPre_69 (by decide) ?_
                exact kr_z hx hb hr (by decide) hlocks hM dVE_readPre_70 (⟨_, _, rfl, Or.inr ⟨[v1, v4], by rw [vPre_c hv1 hz2 hd3, vPre_s hv4 hz5]; rfl, rfl, hz5, pF2 F v1 v4⟩⟩)
              · refine topi_eq (y := nI 0) (bI_f hz5).symm ?_
                refine lv_if_eq (tgt := 71) hx hb dVE_readPre_66 (by decide) (fun _ => ?_) (fun h => absurd (by decide) h)
                refine lv_iinc (v := nI 2) (lv' := [(2, .int (nI 2)), (0, .ref va), (1, .ref ta)]) (k := 0) hx hb dVE_readPre_71 hl rfl (by decide) (by decide) rfl (fun ls hl => ?_)
                refine lv_goto (tgt := 15) hx hb dVE_readPre_74 (by decide) ?_
                refine lv_iload_n hx hb dVE_readPre_15 rfl (lv_at hl 0 rfl) ?_
                refine lv_iconst (v := nI 4) hx hb dVE_readPre_16 (by decide) ?_
                refine lv_icmp_ge (tgt := 77) hx hb dVE_readPre_17 (by decide) (fun h => absurd h (by decide)) (fun _ => ?_)
                refine lv_iload_n hx hb dVE_readPre_20 rfl (lv_at hl 0 rfl) ?_
                refine lv_if_le (tgt := 35) hx hb dVE_readPre_21 (by decide) (fun h => absurd h (by decide)) (fun _ => ?_)
                refine lv_aload_n hx hb dVE_readPre_24 rfl (lv_at hl 2 rfl) ?_
                refine lv_bipush (v := nI 46) hx hb dVE_readPre_25 (by decide) ?_
                refine kc_i (va_runVN (C := RTP) (As := [.int (nI 46)]) (b := ta) (rest := []) (Ts := Wd) ⟨hx, hb, hml, hown, hW⟩ (mTP_skip l g (km_up (km_up (km_up μ va (.inr (2, [.ref ra, .int (nI (zi - ai))]))) ta (.inr (1, [.ref ba, .ref sa, .ref oa, .int (nI ln), .int (nI a4), .int (nI zi)]))) ra (.inl (g.2.2.1 2, 7, .inr (.inl (vp_updL (vp_updL F 3 (lN (mV v1))) 4 (lN (mV v4))))))) ((km_n (km_apB ht hr0)).trans (km_s _ _ _)) hB ((km_n (km_apN hb0 hr0 (by decide))).trans ((km_n (km_apA hb0 ht)).trans ((km_n (km_apA hb0 hv)).trans hb0))) (ch := 46) (by omega) (by omega) (by omega)) ⟨(va_cnB 1 hW (k_gC w_149) rfl rfl rfl (hM.2.1.2.1 _ n_146) (hW _ w_2) (by decide +kernel) ⟨Nat.le_of_ble_eq_true rfl, Nat.le_of_ble_eq_true rfl⟩), hW _ w_148, hW _ p_6⟩ (k_preV (q := (RTP, TTP, 6)) hM ((km_n (km_apB ht hr0)).trans (km_s _ _ _)) rfl) rfl rfl hl.1 rfl (lv_room (Nat.le_of_ble_eq_true rfl)) dVE_readPre_27 ⟨Nat.zero_le _, Nat.zero_le _⟩) hM (fun r μ1 H locs hp hM => ?_)
                obtain ⟨rfl, hmu⟩ := hp
                rw [hmu] at hM
                rcases Decidable.em (a4 < zi ∧ B a4 = 46) with hs6 | hs6
                · refine topi_eq (y := nI 1) (bI_t hs6).symm ?_
                  rw [if_pos hs6] at hM
                  have hd6 := vDot_t hs6
                  have hM : kS g (km_up (km_up (km_up μ va (.inr (2, [.ref ra, .int (nI (zi - ai))]))) ta (.inr (1, [.ref ba, .ref sa, .ref oa, .int (nI ln), .int (nI (a4 + 1)), .int (nI zi)]))) ra (.inl (g.2.2.1 2, 7, .inr (.inl (vp_updL (vp_updL F 3 (lN (mV v1))) 4 (lN (mV v4))))))) s H locs := kS_eq (km_u2 _ _ _ _ (km_apB ht hr0)) hM
                  refine lv_if_ne (tgt := 35) hx hb dVE_readPre_30 (by decide) (fun _ => ?_) (fun h => absurd h (by decide))
                  refine lv_aload_n hx hb dVE_readPre_35 rfl (lv_at hl 1 rfl) ?_
                  refine k_get (own := RVE) (ref := RVE) (C := RVE) (T := TVE) (N := 2) (ci := 2) (v := .ref ra) hx hb hW inVE hown hM ((km_n (km_apB hv hr0)).trans ((km_n (km_apC hv ht (by decide))).trans (km_s _ _ _))) rfl 0 (by decide) (hW _ w_65) (fun _ h => h) rfl dVE_readPre_36 ?_
                  refine lv_iconst (v := nI 3) hx hb dVE_readPre_39 (by decide) ?_
                  refine lv_iload_n hx hb dVE_readPre_40 rfl (lv_at hl 0 rfl) ?_
                  refine lv_iadd hx hb dVE_readPre_41 ?_
                  refine topi_eq (y := nI 5) (nI_add 3 2) ?_
                  refine lv_aload_n hx hb dVE_readPre_42 rfl (lv_at hl 2 rfl) ?_
                  refine kc_l (va_runVN (C := RTP) (As := []) (b := ta) (rest := [.int (nI 5), .ref ra]) (Ts := Wd) ⟨hx, hb, hml, hown, hW⟩ (mTP_readMark l g (km_up (km_up (km_up μ va (.inr (2, [.ref ra, .int (nI (zi - ai))]))) ta (.inr (1, [.ref ba, .ref sa, .ref oa, .int (nI ln), .int (nI (a4 + 1)), .int (nI zi)]))) ra (.inl (g.2.2.1 2, 7, .inr (.inl (vp_updL (vp_updL F 3 (lN (mV v1))) 4 (lN (mV v4))))))) ((km_n (km_apB ht hr0)).trans (km_s _ _ _)) hB ((km_n (km_apN hb0 hr0 (by decide))).trans ((km_n (km_apA hb0 ht)).trans ((km_n (km_apA hb0 hv)).trans hb0))) (by omega) (by omega)) ⟨(va_cnB 0 hW (k_gC w_178) rfl rfl rfl (hM.2.1.2.1 _ n_175) (hW _ w_2) (by decide +kernel) ⟨Nat.le_of_ble_eq_true rfl, Nat.le_of_ble_eq_true rfl⟩), hW _ w_177, hW _ p_12⟩ (k_preV (q := (RTP, TTP, 6)) hM ((km_n (km_apB ht hr0)).trans (km_s _ _ _)) rfl) rfl rfl hl.1 rfl (lv_room (Nat.le_of_ble_eq_true rfl)) dVE_readPre_43 ⟨Nat.zero_le _, Nat.zero_le _⟩) hM (fun r μ1 H locs hp hM => ?_)
                  obtain ⟨rfl, hmu⟩ := hp
                  rw [hmu] at hM
                  have hM : kS g (km_up (km_up (km_up (km_up μ va (.inr (2, [.ref ra, .int (nI (zi - ai))]))) ta (.inr (1, [.ref ba, .ref sa, .ref oa, .int (nI ln), .int (nI (a4 + 1)), .int (nI zi)]))) ra (.inl (g.2.2.1 2, 7, .inr (.inl (vp_updL (vp_updL F 3 (lN (mV v1))) 4 (lN (mV v4))))))) ta (.inr (1, [.ref ba, .ref sa, .ref oa, .int (nI ln), .int (nI (a4 + 1 + nM B (a4 + 1) (zi - (a4 + 1)))), .int (nI zi)]))) s H locs := hM
                  have hM : kS g (km_up (km_up (km_up μ va (.inr (2, [.ref ra, .int (nI (zi - ai))]))) ta (.inr (1, [.ref ba, .ref sa, .ref oa, .int (nI ln), .int (nI (a4 + 1 + nM B (a4 + 1) (zi - (a4 + 1)))), .int (nI zi)]))) ra (.inl (g.2.2.1 2, 7, .inr (.inl (vp_updL (vp_updL F 3 (lN (mV v1))) 4 (lN (mV v4))))))) s H locs := kS_eq (km_u2 _ _ _ _ (km_apB ht hr0)) hM
                  rcases vMark_cases B (a := a4 + 1) (z := zi) (by omega) with ⟨hv7, hr7⟩ | ⟨v7, a7, hv7, hr7, hlt7, ha7, hle7, hln7⟩
                  · refine topl_eq (y := (-1)) hr7 ?_
                    refine k_last (i := 5) (f1 := (vp_updL (vp_updL (vp_updL F 3 (lN (mV v1))) 4 (lN (mV v4))) 5 (-1))) hx hb hM 2 (km_s _ _ _) rfl (by omega) (by omega) rfl dVE_readPre_46 (fun H locs hM => ?_)
                    have hM : kS g (km_up (km_up (km_up μ va (.inr (2, [.ref ra, .int (nI (zi - ai))]))) ta (.inr (1, [.ref ba, .ref sa, .ref oa, .int (nI ln), .int (nI (a4 + 1 + nM B (a4 + 1) (zi - (a4 + 1)))), .int (nI zi)]))) ra (.inl (g.2.2.1 2, 7, .inr (.inl (vp_updL (vp_updL (vp_updL F 3 (lN (mV v1))) 4 (lN (mV v4))) 5 (-1)))))) s H locs := kS_eq (km_u1 _ _ _ _) hM
                    refine lv_aload_n hx hb dVE_readPre_47 rfl (lv_at hl 1 rfl) ?_
                    refine k_get (own := RVE) (ref := RVE) (C := RVE) (T := TVE) (N := 2) (ci := 2) (v := .ref ra) hx hb hW inVE hown hM ((km_n (km_apB hv hr0)).trans ((km_n (km_apC hv ht (by decide))).trans (km_s _ _ _))) rfl 0 (by decide) (hW _ w_65) (fun _ h => h) rfl dVE_readPre_48 ?_
                    refine lv_iconst (v := nI 3) hx hb dVE_readPre_51 (by decide) ?_
                    refine lv_iload_n hx hb dVE_readPre_52 rfl (lv_at hl 0 rfl) ?_
                    refine lv_iadd hx hb dVE_readPre_53 ?_
                    refine topi_eq (y := nI 5) (nI_add 3 2) ?_
                    refine k_lald (i := 5) hx hb hM 2 (km_s _ _ _) rfl (by omega) (by omega) dVE_readPre_54 ?_
                    refine topl_eq (y := (-1)) pk_uLs ?_
                    refine lv_lconst (v := lN 0) hx hb dVE_readPre_55 (by decide) ?_
                    refine W.lcmp hx hb dVE_readPre_56 ?_
                    refine lv_if_ge (tgt := 62) hx hb dVE_readPre_57 (by decide) (fun h => absurd h lm1_ge) (fun _ => ?_)
                    refine lv_iconst (v := nI 0) hx hb dVE_readPre_60 (by decide) ?_
                    exact kr_z hx hb hr (by decide) hlocks hM dVE_readPre_61 (⟨_, _, rfl, Or.inl ⟨by rw [vPre_c hv1 hz2 hd3, vPre_c hv4 hz5 hd6, vPre_n hv7]; rfl, rfl⟩⟩)
                  · refine topl_eq (y := lN (mV v7)) hr7 ?_
                    rw [ha7] at hM
                    refine k_last (i := 5) (f1 := (vp_updL (vp_updL (vp_updL F 3 (lN (mV v1))) 4 (lN (mV v4))) 5 (lN (mV v7)))) hx hb hM 2 (km_s _ _ _) rfl (by omega) (by omega) rfl dVE_readPre_46 (fun H locs hM => ?_)
                    have hM : kS g (km_up (km_up (km_up μ va (.inr (2, [.ref ra, .int (nI (zi - ai))]))) ta (.inr (1, [.ref ba, .ref sa, .ref oa, .int (nI ln), .int (nI a7), .int (nI zi)]))) ra (.inl (g.2.2.1 2, 7, .inr (.inl (vp_updL (vp_updL (vp_updL F 3 (lN (mV v1))) 4 (lN (mV v4))) 5 (lN (mV v7))))))) s H locs := kS_eq (km_u1 _ _ _ _) hM
                    refine lv_aload_n hx hb dVE_readPre_47 rfl (lv_at hl 1 rfl) ?_
                    refine k_get (own := RVE) (ref := RVE) (C := RVE) (T := TVE) (N := 2) (ci := 2) (v := .ref ra) hx hb hW inVE hown hM ((km_n (km_apB hv hr0)).trans ((km_n (km_apC hv ht (by decide))).trans (km_s _ _ _))) rfl 0 (by decide) (hW _ w_65) (fun _ h => h) rfl dVE_readPre_48 ?_
                    refine lv_iconst (v := nI 3) hx hb dVE_readPre_51 (by decide) ?_
                    refine lv_iload_n hx hb dVE_readPre_52 rfl (lv_at hl 0 rfl) ?_
                    refine lv_iadd hx hb dVE_readPre_53 ?_
                    refine topi_eq (y := nI 5) (nI_add 3 2) ?_
                    refine k_lald (i := 5) hx hb hM 2 (km_s _ _ _) rfl (by omega) (by omega) dVE_readPre_54 ?_
                    refine topl_eq (y := lN (mV v7)) pk_uLs ?_
                    refine lv_lconst (v := lN 0) hx hb dVE_readPre_55 (by decide) ?_
                    refine W.lcmp hx hb dVE_readPre_56 ?_
                    refine lv_if_ge (tgt := 62) hx hb dVE_readPre_57 (by decide) (fun h57 => ?_) (fun h57 => ?_)
                    · have h57 := (lJ_ge_t (a := (mV v7)) (b := 0) (by omega) (by omega)).mp h57
                      refine lv_aload_n hx hb dVE_readPre_62 rfl (lv_at hl 2 rfl) ?_
                      refine kc_i (va_runVN (C := RTP) (As := []) (b := ta) (rest := []) (Ts := Wd) ⟨hx, hb, hml, hown, hW⟩ (mTP_isAtStop l g (km_up (km_up (km_up μ va (.inr (2, [.ref ra, .int (nI (zi - ai))]))) ta (.inr (1, [.ref ba, .ref sa, .ref oa, .int (nI ln), .int (nI a7), .int (nI zi)]))) ra (.inl (g.2.2.1 2, 7, .inr (.inl (vp_updL (vp_updL (vp_updL F 3 (lN (mV v1))) 4 (lN (mV v4))) 5 (lN (mV v7))))))) ((km_n (km_apB ht hr0)).trans (km_s _ _ _)) (by omega) (by omega)) ⟨(va_cnB 0 hW (k_gC w_170) rfl rfl rfl (hM.2.1.2.1 _ n_167) (hW _ w_2) (by decide +kernel) ⟨Nat.le_of_ble_eq_true rfl, Nat.le_of_ble_eq_true rfl⟩), hW _ w_169, hW _ p_10⟩ (k_preV (q := (RTP, TTP, 6)) hM ((km_n (km_apB ht hr0)).trans (km_s _ _ _)) rfl) rfl rfl hl.1 rfl (lv_room (Nat.le_of_ble_eq_true rfl)) dVE_readPre_63 ⟨Nat.zero_le _, Nat.zero_le _⟩) hM (fun r μ1 H locs hp hM => ?_)
                      obtain ⟨rfl, hmu⟩ := hp
                      rw [hmu] at hM
                      rcases Decidable.em (a7 = zi) with hz8 | hz8
                      · refine topi_eq (y := nI 1) (bI_t hz8).symm ?_
                        refine lv_if_eq (tgt := 71) hx hb dVE_readPre_66 (by decide) (fun h => absurd h (by decide)) (fun _ => ?_)
                        refine lv_iconst (v := nI 1) hx hb dVE_readPre_69 (by decide) ?_
                        exact kr_z hx hb hr (by decide) hlocks hM dVE_readPre_70 (⟨_, _, rfl, Or.inr ⟨[v1, v4, v7], by rw [vPre_c hv1 hz2 hd3, vPre_c hv4 hz5 hd6, vPre_s hv7 hz8]; rfl, rfl, hz8, pF3 F v1 v4 v7⟩⟩)
                      · refine topi_eq (y := nI 0) (bI_f hz8).symm ?_
                        refine lv_if_eq (tgt := 71) hx hb dVE_readPre_66 (by decide) (fun _ => ?_) (fun h => absurd (by decide) h)
                        refine lv_iinc (v := nI 3) (lv' := [(2, .int (nI 3)), (0, .ref va), (1, .ref ta)]) (k := 0) hx hb dVE_readPre_71 hl rfl (by decide) (by decide) rfl (fun ls hl => ?_)
                        refine lv_goto (tgt := 15) hx hb dVE_readPre_74 (by decide) ?_
                        refine lv_iload_n hx hb dVE_readPre_15 rfl (lv_at hl 0 rfl) ?_
                        refine lv_iconst (v := nI 4) hx hb dVE_readPre_16 (by decide) ?_
                        refine lv_icmp_ge (tgt := 77) hx hb dVE_readPre_17 (by decide) (fun h => absurd h (by decide)) (fun _ => ?_)
                        refine lv_iload_n hx hb dVE_readPre_20 rfl (lv_at hl 0 rfl) ?_
                        refine lv_if_le (tgt := 35) hx hb dVE_readPre_21 (by decide) (fun h => absurd h (by decide)) (fun _ => ?_)
                        refine lv_aload_n hx hb dVE_readPre_24 rfl (lv_at hl 2 rfl) ?_
                        refine lv_bipush (v := nI 46) hx hb dVE_readPre_25 (by decide) ?_
                        refine kc_i (va_runVN (C := RTP) (As := [.int (nI 46)]) (b := ta) (rest := []) (Ts := Wd) ⟨hx, hb, hml, hown, hW⟩ (mTP_skip l g (km_up (km_up (km_up μ va (.inr (2, [.ref ra, .int (nI (zi - ai))]))) ta (.inr (1, [.ref ba, .ref sa, .ref oa, .int (nI ln), .int (nI a7), .int (nI zi)]))) ra (.inl (g.2.2.1 2, 7, .inr (.inl (vp_updL (vp_updL (vp_updL F 3 (lN (mV v1))) 4 (lN (mV v4))) 5 (lN (mV v7))))))) ((km_n (km_apB ht hr0)).trans (km_s _ _ _)) hB ((km_n (km_apN hb0 hr0 (by decide))).trans ((km_n (km_apA hb0 ht)).trans ((km_n (km_apA hb0 hv)).trans hb0))) (ch := 46) (by omega) (by omega) (by omega)) ⟨(va_cnB 1 hW (k_gC w_149) rfl rfl rfl (hM.2.1.2.1 _ n_146) (hW _ w_2) (by decide +kernel) ⟨Nat.le_of_ble_eq_true rfl, Nat.le_of_ble_eq_true rfl⟩), hW _ w_148, hW _ p_6⟩ (k_preV (q := (RTP, TTP, 6)) hM ((km_n (km_apB ht hr0)).trans (km_s _ _ _)) rfl) rfl rfl hl.1 rfl (lv_room (Nat.le_of_ble_eq_true rfl)) dVE_readPre_27 ⟨Nat.zero_le _, Nat.zero_le _⟩) hM (fun r μ1 H locs hp hM => ?_)
                        obtain ⟨rfl, hmu⟩ := hp
                        rw [hmu] at hM
                        rcases Decidable.em (a7 < zi ∧ B a7 = 46) with hs9 | hs9
                        · refine topi_eq (y := nI 1) (bI_t hs9).symm ?_
                          rw [if_pos hs9] at hM
                          have hd9 := vDot_t hs9
                          have hM : kS g (km_up (km_up (km_up μ va (.inr (2, [.ref ra, .int (nI (zi - ai))]))) ta (.inr (1, [.ref ba, .ref sa, .ref oa, .int (nI ln), .int (nI (a7 + 1)), .int (nI zi)]))) ra (.inl (g.2.2.1 2, 7, .inr (.inl (vp_updL (vp_updL (vp_updL F 3 (lN (mV v1))) 4 (lN (mV v4))) 5 (lN (mV v7))))))) s H locs := kS_eq (km_u2 _ _ _ _ (km_apB ht hr0)) hM
                          refine lv_if_ne (tgt := 35) hx hb dVE_readPre_30 (by decide) (fun _ => ?_) (fun h => absurd h (by decide))
                          refine lv_aload_n hx hb dVE_readPre_35 rfl (lv_at hl 1 rfl) ?_
                          refine k_get (own := RVE) (ref := RVE) (C := RVE) (T := TVE) (N := 2) (ci := 2) (v := .ref ra) hx hb hW inVE hown hM ((km_n (km_apB hv hr0)).trans ((km_n (km_apC hv ht (by decide))).trans (km_s _ _ _))) rfl 0 (by decide) (hW _ w_65) (fun _ h => h) rfl dVE_readPre_36 ?_
                          refine lv_iconst (v := nI 3) hx hb dVE_readPre_39 (by decide) ?_
                          refine lv_iload_n hx hb dVE_readPre_40 rfl (lv_at hl 0 rfl) ?_
                          refine lv_iadd hx hb dVE_readPre_41 ?_
                          refine topi_eq (y := nI 6) (nI_add 3 3) ?_
                          refine lv_aload_n hx hb dVE_readPre_42 rfl (lv_at hl 2 rfl) ?_
                          refine kc_l (va_runVN (C := RTP) (As := []) (b := ta) (rest := [.int (nI 6), .ref ra]) (Ts := Wd) ⟨hx, hb, hml, hown, hW⟩ (mTP_readMark l g (km_up (km_up (km_up μ va (.inr (2, [.ref ra, .int (nI (zi - ai))]))) ta (.inr (1, [.ref ba, .ref sa, .ref oa, .int (nI ln), .int (nI (a7 + 1)), .int (nI zi)]))) ra (.inl (g.2.2.1 2, 7, .inr (.inl (vp_updL (vp_updL (vp_updL F 3 (lN (mV v1))) 4 (lN (mV v4))) 5 (lN (mV v7))))))) ((km_n (km_apB ht hr0)).trans (km_s _ _ _)) hB ((km_n (km_apN hb0 hr0 (by decide))).trans ((km_n (km_apA hb0 ht)).trans ((km_n (km_apA hb0 hv)).trans hb0))) (by omega) (by omega)) ⟨(va_cnB 0 hW (k_gC w_178) rfl rfl rfl (hM.2.1.2.1 _ n_175) (hW _ w_2) (by decide +kernel) ⟨Nat.le_of_ble_eq_true rfl, Nat.le_of_ble_eq_true rfl⟩), hW _ w_177, hW _ p_12⟩ (k_preV (q := (RTP, TTP, 6)) hM ((km_n (km_apB ht hr0)).trans (km_s _ _ _)) rfl) rfl rfl hl.1 rfl (lv_room (Nat.le_of_ble_eq_true rfl)) dVE_readPre_43 ⟨Nat.zero_le _, Nat.zero_le _⟩) hM (fun r μ1 H locs hp hM => ?_)
                          obtain ⟨rfl, hmu⟩ := hp
                          rw [hmu] at hM
                          have hM : kS g (km_up (km_up (km_up (km_up μ va (.inr (2, [.ref ra, .int (nI (zi - ai))]))) ta (.inr (1, [.ref ba, .ref sa, .ref oa, .int (nI ln), .int (nI (a7 + 1)), .int (nI zi)]))) ra (.inl (g.2.2.1 2, 7, .inr (.inl (vp_updL (vp_updL (vp_updL F 3 (lN (mV v1))) 4 (lN (mV v4))) 5 (lN (mV v7))))))) ta (.inr (1, [.ref ba, .ref sa, .ref oa, .int (nI ln), .int (nI (a7 + 1 + nM B (a7 + 1) (zi - (a7 + 1)))), .int (nI zi)]))) s H locs := hM
                          have hM : kS g (km_up (km_up (km_up μ va (.inr (2, [.ref ra, .int (nI (zi - ai))]))) ta (.inr (1, [.ref ba, .ref sa, .ref oa, .int (nI ln), .int (nI (a7 + 1 + nM B (a7 + 1) (zi - (a7 + 1)))), .int (nI zi)]))) ra (.inl (g.2.2.1 2, 7, .inr (.inl (vp_updL (vp_updL (vp_updL F 3 (lN (mV v1))) 4 (lN (mV v4))) 5 (lN (mV v7))))))) s H locs := kS_eq (km_u2 _ _ _ _ (km_apB ht hr0)) hM
                          rcases vMark_cases B (a := a7 + 1) (z := zi) (by omega) with ⟨hv10, hr10⟩ | ⟨v10, a10, hv10, hr10, hlt10, ha10, hle10, hln10⟩
                          · refine topl_eq (y := (-1)) hr10 ?_
                            refine k_last (i := 6) (f1 := (vp_updL (vp_updL (vp_updL (vp_updL F 3 (lN (mV v1))) 4 (lN (mV v4))) 5 (lN (mV v7))) 6 (-1))) hx hb hM 2 (km_s _ _ _) rfl (by omega) (by omega) rfl dVE_readPre_46 (fun H locs hM => ?_)
                            have hM : kS g (km_up (km_up (km_up μ va (.inr (2, [.ref ra, .int (nI (zi - ai))]))) ta (.inr (1, [.ref ba, .ref sa, .ref oa, .int (nI ln), .int (nI (a7 + 1 + nM B (a7 + 1) (zi - (a7 + 1)))), .int (nI zi)]))) ra (.inl (g.2.2.1 2, 7, .inr (.inl (vp_updL (vp_updL (vp_updL (vp_updL F 3 (lN (mV v1))) 4 (lN (mV v4))) 5 (lN (mV v7))) 6 (-1)))))) s H locs := kS_eq (km_u1 _ _ _ _) hM
                            refine lv_aload_n hx hb dVE_readPre_47 rfl (lv_at hl 1 rfl) ?_
                            refine k_get (own := RVE) (ref := RVE) (C := RVE) (T := TVE) (N := 2) (ci := 2) (v := .ref ra) hx hb hW inVE hown hM ((km_n (km_apB hv hr0)).trans ((km_n (km_apC hv ht (by decide))).trans (km_s _ _ _))) rfl 0 (by decide) (hW _ w_65) (fun _ h => h) rfl dVE_readPre_48 ?_
                            refine lv_iconst (v := nI 3) hx hb dVE_readPre_51 (by decide) ?_
                            refine lv_iload_n hx hb dVE_readPre_52 rfl (lv_at hl 0 rfl) ?_
                            refine lv_iadd hx hb dVE_readPre_53 ?_
                            refine topi_eq (y := nI 6) (nI_add 3 3) ?_
                            refine k_lald (i := 6) hx hb hM 2 (km_s _ _ _) rfl (by omega) (by omega) dVE_readPre_54 ?_
                            refine topl_eq (y := (-1)) pk_uLs ?_
                            refine lv_lconst (v := lN 0) hx hb dVE_readPre_55 (by decide) ?_
                            refine W.lcmp hx hb dVE_readPre_56 ?_
                            refine lv_if_ge (tgt := 62) hx hb dVE_readPre_57 (by decide) (fun h => absurd h lm1_ge) (fun _ => ?_)
                            refine lv_iconst (v := nI 0) hx hb dVE_readPre_60 (by decide) ?_
                            exact kr_z hx hb hr (by decide) hlocks hM dVE_readPre_61 (⟨_, _, rfl, Or.inl ⟨by rw [vPre_c hv1 hz2 hd3, vPre_c hv4 hz5 hd6, vPre_c hv7 hz8 hd9, vPre_n hv10]; rfl, rfl⟩⟩)
                          · refine topl_eq (y := lN (mV v10)) hr10 ?_
                            rw [ha10] at hM
                            refine k_last (i := 6) (f1 := (vp_updL (vp_updL (vp_updL (vp_updL F 3 (lN (mV v1))) 4 (lN (mV v4))) 5 (lN (mV v7))) 6 (lN (mV v10)))) hx hb hM 2 (km_s _ _ _) rfl (by omega) (by omega) rfl dVE_readPre_46 (fun H locs hM => ?_)
                            have hM : kS g (km_up (km_up (km_up μ va (.inr (2, [.ref ra, .int (nI (zi - ai))]))) ta (.inr (1, [.ref ba, .ref sa, .ref oa, .int (nI ln), .int (nI a10), .int (nI zi)]))) ra (.inl (g.2.2.1 2, 7, .inr (.inl (vp_updL (vp_updL (vp_updL (vp_updL F 3 (lN (mV v1))) 4 (lN (mV v4))) 5 (lN (mV v7))) 6 (lN (mV v10))))))) s H locs := kS_eq (km_u1 _ _ _ _) hM
                            refine lv_aload_n hx hb dVE_readPre_47 rfl (lv_at hl 1 rfl) ?_
                            refine k_get (own := RVE) (ref := RVE) (C := RVE) (T := TVE) (N := 2) (ci := 2) (v := .ref ra) hx hb hW inVE hown hM ((km_n (km_apB hv hr0)).trans ((km_n (km_apC hv ht (by decide))).trans (km_s _ _ _))) rfl 0 (by decide) (hW _ w_65) (fun _ h => h) rfl dVE_readPre_48 ?_
                            refine lv_iconst (v := nI 3) hx hb dVE_readPre_51 (by decide) ?_
                            refine lv_iload_n hx hb dVE_readPre_52 rfl (lv_at hl 0 rfl) ?_
                            refine lv_iadd hx hb dVE_readPre_53 ?_
                            refine topi_eq (y := nI 6) (nI_add 3 3) ?_
                            refine k_lald (i := 6) hx hb hM 2 (km_s _ _ _) rfl (by omega) (by omega) dVE_readPre_54 ?_
                            refine topl_eq (y := lN (mV v10)) pk_uLs ?_
                            refine lv_lconst (v := lN 0) hx hb dVE_readPre_55 (by decide) ?_
                            refine W.lcmp hx hb dVE_readPre_56 ?_
                            refine lv_if_ge (tgt := 62) hx hb dVE_readPre_57 (by decide) (fun h57 => ?_) (fun h57 => ?_)
                            · have h57 := (lJ_ge_t (a := (mV v10)) (b := 0) (by omega) (by omega)).mp h57
                              refine lv_aload_n hx hb dVE_readPre_62 rfl (lv_at hl 2 rfl) ?_
                              refine kc_i (va_runVN (C := RTP) (As := []) (b := ta) (rest := []) (Ts := Wd) ⟨hx, hb, hml, hown, hW⟩ (mTP_isAtStop l g (km_up (km_up (km_up μ va (.inr (2, [.ref ra, .int (nI (zi - ai))]))) ta (.inr (1, [.ref ba, .ref sa, .ref oa, .int (nI ln), .int (nI a10), .int (nI zi)]))) ra (.inl (g.2.2.1 2, 7, .inr (.inl (vp_updL (vp_updL (vp_updL (vp_updL F 3 (lN (mV v1))) 4 (lN (mV v4))) 5 (lN (mV v7))) 6 (lN (mV v10))))))) ((km_n (km_apB ht hr0)).trans (km_s _ _ _)) (by omega) (by omega)) ⟨(va_cnB 0 hW (k_gC w_170) rfl rfl rfl (hM.2.1.2.1 _ n_167) (hW _ w_2) (by decide +kernel) ⟨Nat.le_of_ble_eq_true rfl, Nat.le_of_ble_eq_true rfl⟩), hW _ w_169, hW _ p_10⟩ (k_preV (q := (RTP, TTP, 6)) hM ((km_n (km_apB ht hr0)).trans (km_s _ _ _)) rfl) rfl rfl hl.1 rfl (lv_room (Nat.le_of_ble_eq_true rfl)) dVE_readPre_63 ⟨Nat.zero_le _, Nat.zero_le _⟩) hM (fun r μ1 H locs hp hM => ?_)
                              obtain ⟨rfl, hmu⟩ := hp
                              rw [hmu] at hM
                              rcases Decidable.em (a10 = zi) with hz11 | hz11
                              · refine topi_eq (y := nI 1) (bI_t hz11).symm ?_
                                refine lv_if_eq (tgt := 71) hx hb dVE_readPre_66 (by decide) (fun h => absurd h (by decide)) (fun _ => ?_)
                                refine lv_iconst (v := nI 1) hx hb dVE_readPre_69 (by decide) ?_
                                exact kr_z hx hb hr (by decide) hlocks hM dVE_readPre_70 (⟨_, _, rfl, Or.inr ⟨[v1, v4, v7, v10], by rw [vPre_c hv1 hz2 hd3, vPre_c hv4 hz5 hd6, vPre_c hv7 hz8 hd9, vPre_s hv10 hz11]; rfl, rfl, hz11, pF4 F v1 v4 v7 v10⟩⟩)
                              · refine topi_eq (y := nI 0) (bI_f hz11).symm ?_
                                refine lv_if_eq (tgt := 71) hx hb dVE_readPre_66 (by decide) (fun _ => ?_) (fun h => absurd (by decide) h)
                                refine lv_iinc (v := nI 4) (lv' := [(2, .int (nI 4)), (0, .ref va), (1, .ref ta)]) (k := 0) hx hb dVE_readPre_71 hl rfl (by decide) (by decide) rfl (fun ls hl => ?_)
                                refine lv_goto (tgt := 15) hx hb dVE_readPre_74 (by decide) ?_
                                refine lv_iload_n hx hb dVE_readPre_15 rfl (lv_at hl 0 rfl) ?_
                                refine lv_iconst (v := nI 4) hx hb dVE_readPre_16 (by decide) ?_
                                refine lv_icmp_ge (tgt := 77) hx hb dVE_readPre_17 (by decide) (fun _ => ?_) (fun h => absurd (by decide) h)
                                refine lv_iconst (v := nI 0) hx hb dVE_readPre_77 (by decide) ?_
                                exact kr_z hx hb hr (by decide) hlocks hM dVE_readPre_78 (⟨_, _, rfl, Or.inl ⟨by rw [vPre_c hv1 hz2 hd3, vPre_c hv4 hz5 hd6, vPre_c hv7 hz8 hd9, vPre_l hv10 hz11]; rfl, rfl⟩⟩)
                            · have h57 := (lJ_ge_f (a := (mV v10)) (b := 0) (by omega) (by omega)).mp h57
                              exact absurd h57 (Nat.not_lt_zero _)
                        · refine topi_eq (y := nI 0) (bI_f hs9).symm ?_
                          rw [if_neg hs9] at hM
                          have hd9 := vDot_f hs9
                          refine lv_if_ne (tgt := 35) hx hb dVE_readPre_30 (by decide) (fun h => absurd (by decide) h) (fun _ => ?_)
                          refine lv_iconst (v := nI 0) hx hb dVE_readPre_33 (by decide) ?_
                          exact kr_z hx hb hr (by decide) hlocks hM dVE_readPre_34 (⟨_, _, rfl, Or.inl ⟨by rw [vPre_c hv1 hz2 hd3, vPre_c hv4 hz5 hd6, vPre_d hv7 hz8 hd9]; rfl, rfl⟩⟩)
                    · have h57 := (lJ_ge_f (a := (mV v7)) (b := 0) (by omega) (by omega)).mp h57
                      exact absurd h57 (Nat.not_lt_zero _)
                · refine topi_eq (y := nI 0) (bI_f hs6).symm ?_
                  rw [if_neg hs6] at hM
                  have hd6 := vDot_f hs6
                  refine lv_if_ne (tgt := 35) hx hb dVE_readPre_30 (by decide) (fun h => absurd (by decide) h) (fun _ => ?_)
                  refine lv_iconst (v := nI 0) hx hb dVE_readPre_33 (by decide) ?_
                  exact kr_z hx hb hr (by decide) hlocks hM dVE_readPre_34 (⟨_, _, rfl, Or.inl ⟨by rw [vPre_c hv1 hz2 hd3, vPre_d hv4 hz5 hd6]; rfl, rfl⟩⟩)
            · have h57 := (lJ_ge_f (a := (mV v4)) (b := 0) (by omega) (by omega)).mp h57
              exact absurd h57 (Nat.not_lt_zero _)
        · refine topi_eq (y := nI 0) (bI_f hs3).symm ?_
          rw [if_neg hs3] at hM
          have hd3 := vDot_f hs3
          refine lv_if_ne (tgt := 35) hx hb dVE_readPre_30 (by decide) (fun h => absurd (by decide) h) (fun _ => ?_)
          refine lv_iconst (v := nI 0) hx hb dVE_readPre_33 (by decide) ?_
          exact kr_z hx hb hr (by decide) hlocks hM dVE_readPre_34 (⟨_, _, rfl, Or.inl ⟨by rw [vPre_d hv1 hz2 hd3], rfl⟩⟩)
    · have h57 := (lJ_ge_f (a := (mV v1)) (b := 0) (by omega) (by omega)).mp h57
      exact absurd h57 (Nat.not_lt_zero _)
