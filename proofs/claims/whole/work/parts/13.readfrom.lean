set_option maxHeartbeats 800000 in
set_option maxRecDepth 100000 in
theorem mVE_readFrom (l : Launch) (g : kG) (μ : km_M) {va ra pb : Nat} {F : Nat → Int64} (hv : μ va = some (.inr (2, [.ref ra, .int (nI pb)]))) (hr0 : μ ra = some (.inl (g.2.2.1 2, 7, .inr (.inl F)))) {ta ba sa oa ln ai zi : Nat} (ht : μ ta = some (.inr (1, [.ref ba, .ref sa, .ref oa, .int (nI ln), .int (nI ai), .int (nI zi)]))) {B : Nat → Nat} (hB : ∀ k, B k < 256) (hb0 : μ ba = some (.inl (g.2.2.1 0, 400, .inl (fun j => sb (B j))))) (hai : ai ≤ zi) (hzi : zi ≤ 400) : Met l yVE_readFrom (Cond.code yVE_readFrom cVE_readFrom 3 (some .boolean) :: Wd) ({ frames := 3, cells := 0, slots := 0, locals := 71 } : Room) (kPre g μ [.ref va, .ref ta]) (kQi g (fun (r : Int32) (μ1 : km_M) => ∃ (F1 : Nat → Int64) (pb1 a1 : Nat), μ1 = km_up (km_up (km_up μ ta (.inr (1, [.ref ba, .ref sa, .ref oa, .int (nI ln), .int (nI a1), .int (nI zi)]))) ra (.inl (g.2.2.1 2, 7, .inr (.inl F1)))) va (.inr (2, [.ref ra, .int (nI pb1)])) ∧ ((vVer B ai zi = none ∧ r = nI 0) ∨ (∃ v, vVer B ai zi = some v ∧ r = nI 1 ∧ pb1 = mLen v.2.2.2 ∧ ∀ k, k < 7 → F1 k = rowOf v k)))) 0 0 (kF g) := by
  refine k_met (by decide) (Nat.le_of_ble_eq_true rfl) ?_
  intro p e s m below meth c hx hb hr hlocks hml hown hnm hW ls hl H locs hM
  have hl : lv_has ls 3 [(0, .ref va), (1, .ref ta)] := hl
  refine lv_iconst (v := nI 0) hx hb dVE_readFrom_0 (by decide) ?_
  refine lv_istore_n (lv' := [(2, .int (nI 0)), (0, .ref va), (1, .ref ta)]) hx hb dVE_readFrom_1 rfl hl (by decide) rfl (fun ls hl => ?_)
  refine lv_iload_n hx hb dVE_readFrom_2 rfl (lv_at hl 0 rfl) ?_
  refine lv_iconst (v := nI 3) hx hb dVE_readFrom_3 (by decide) ?_
  refine lv_icmp_ge (tgt := 52) hx hb dVE_readFrom_4 (by decide) (fun h => absurd h (by decide)) (fun _ => ?_)
  refine lv_iload_n hx hb dVE_readFrom_7 rfl (lv_at hl 0 rfl) ?_
  refine lv_if_le (tgt := 22) hx hb dVE_readFrom_8 (by decide) (fun _ => ?_) (fun h => absurd (by decide) h)
  refine lv_aload_n hx hb dVE_readFrom_22 rfl (lv_at hl 1 rfl) ?_
  refine k_get (own := RVE) (ref := RVE) (C := RVE) (T := TVE) (N := 2) (ci := 2) (v := .ref ra) hx hb hW inVE hown hM hv rfl 0 (by decide) (hW _ w_65) (fun _ h => h) rfl dVE_readFrom_23 ?_
  refine lv_iload_n hx hb dVE_readFrom_26 rfl (lv_at hl 0 rfl) ?_
  refine lv_aload_n hx hb dVE_readFrom_27 rfl (lv_at hl 2 rfl) ?_
  refine kc_i (va_runVN (C := RTP) (As := []) (b := ta) (rest := [.int (nI 0), .ref ra]) (Ts := Wd) ⟨hx, hb, hml, hown, hW⟩ (mTP_readNumber l g μ ht hB hb0 (by omega) (by omega)) ⟨(va_cnB 0 hW (k_gC w_153) rfl rfl rfl (hM.2.1.2.1 _ n_150) (hW _ w_2) (by decide +kernel) ⟨Nat.le_of_ble_eq_true rfl, Nat.le_of_ble_eq_true rfl⟩), hW _ w_152, hW _ p_7⟩ (k_preV (q := (RTP, TTP, 6)) hM ht rfl) rfl rfl hl.1 rfl (lv_room (Nat.le_of_ble_eq_true rfl)) dVE_readFrom_28 ⟨Nat.zero_le _, Nat.zero_le _⟩) hM (fun r μ1 H locs hp hM => ?_)
  obtain ⟨rfl, hmu⟩ := hp
  rw [hmu] at hM
  have hM : kS g (km_up μ ta (.inr (1, [.ref ba, .ref sa, .ref oa, .int (nI ln), .int (nI (ai + nD B ai (zi - ai))), .int (nI zi)]))) s H locs := hM
  rcases vNum_cases B (a := ai) (z := zi) (by omega) with ⟨hv1, hr1⟩ | ⟨v1, a1, hv1, hr1, hlt1, ha1, hle1⟩
  · refine topi_eq (y := (-1)) hr1 ?_
    refine lv_i2l (v := (-1)) hx hb dVE_readFrom_31 (by decide) ?_
    refine k_last (i := 0) (f1 := (vp_updL F 0 (-1))) hx hb hM 2 ((km_n (km_apA hr0 ht)).trans hr0) rfl (by omega) (by omega) rfl dVE_readFrom_32 (fun H locs hM => ?_)
    have hM : kS g (km_up (km_up μ ta (.inr (1, [.ref ba, .ref sa, .ref oa, .int (nI ln), .int (nI (ai + nD B ai (zi - ai))), .int (nI zi)]))) ra (.inl (g.2.2.1 2, 7, .inr (.inl (vp_updL F 0 (-1)))))) s H locs := hM
    refine lv_aload_n hx hb dVE_readFrom_33 rfl (lv_at hl 1 rfl) ?_
    refine k_get (own := RVE) (ref := RVE) (C := RVE) (T := TVE) (N := 2) (ci := 2) (v := .ref ra) hx hb hW inVE hown hM ((km_n (km_apB hv hr0)).trans ((km_n (km_apC hv ht (by decide))).trans hv)) rfl 0 (by decide) (hW _ w_65) (fun _ h => h) rfl dVE_readFrom_34 ?_
    refine lv_iload_n hx hb dVE_readFrom_37 rfl (lv_at hl 0 rfl) ?_
    refine k_lald (i := 0) hx hb hM 2 (km_s _ _ _) rfl (by omega) (by omega) dVE_readFrom_38 ?_
    refine topl_eq (y := (-1)) pk_uLs ?_
    refine lv_lconst (v := lN 0) hx hb dVE_readFrom_39 (by decide) ?_
    refine W.lcmp hx hb dVE_readFrom_40 ?_
    refine lv_if_ge (tgt := 46) hx hb dVE_readFrom_41 (by decide) (fun h => absurd h lm1_ge) (fun _ => ?_)
    refine lv_iconst (v := nI 0) hx hb dVE_readFrom_44 (by decide) ?_
    exact kr_z hx hb hr (by decide) hlocks hM dVE_readFrom_45 (⟨_, _, _, (km_id ((km_n (km_apB hv hr0)).trans ((km_n (km_apC hv ht (by decide))).trans hv))).symm, Or.inl ⟨vVer_n3 (by simp only [vThree, hv1, Option.bind_some, Option.bind_none]), rfl⟩⟩)
  · refine topi_eq (y := nI v1) hr1 ?_
    rw [ha1] at hM
    refine lv_i2l (v := lN v1) hx hb dVE_readFrom_31 (nI_l (by omega)) ?_
    refine k_last (i := 0) (f1 := (vp_updL F 0 (lN v1))) hx hb hM 2 ((km_n (km_apA hr0 ht)).trans hr0) rfl (by omega) (by omega) rfl dVE_readFrom_32 (fun H locs hM => ?_)
    have hM : kS g (km_up (km_up μ ta (.inr (1, [.ref ba, .ref sa, .ref oa, .int (nI ln), .int (nI a1), .int (nI zi)]))) ra (.inl (g.2.2.1 2, 7, .inr (.inl (vp_updL F 0 (lN v1)))))) s H locs := hM
    refine lv_aload_n hx hb dVE_readFrom_33 rfl (lv_at hl 1 rfl) ?_
    refine k_get (own := RVE) (ref := RVE) (C := RVE) (T := TVE) (N := 2) (ci := 2) (v := .ref ra) hx hb hW inVE hown hM ((km_n (km_apB hv hr0)).trans ((km_n (km_apC hv ht (by decide))).trans hv)) rfl 0 (by decide) (hW _ w_65) (fun _ h => h) rfl dVE_readFrom_34 ?_
    refine lv_iload_n hx hb dVE_readFrom_37 rfl (lv_at hl 0 rfl) ?_
    refine k_lald (i := 0) hx hb hM 2 (km_s _ _ _) rfl (by omega) (by omega) dVE_readFrom_38 ?_
    refine topl_eq (y := lN v1) pk_uLs ?_
    refine lv_lconst (v := lN 0) hx hb dVE_readFrom_39 (by decide) ?_
    refine W.lcmp hx hb dVE_readFrom_40 ?_
    refine lv_if_ge (tgt := 46) hx hb dVE_readFrom_41 (by decide) (fun h41 => ?_) (fun h41 => ?_)
    · have h41 := (lJ_ge_t (a := v1) (b := 0) (by omega) (by omega)).mp h41
      refine lv_iinc (v := nI 1) (lv' := [(2, .int (nI 1)), (0, .ref va), (1, .ref ta)]) (k := 0) hx hb dVE_readFrom_46 hl rfl (by decide) (by decide) rfl (fun ls hl => ?_)
      refine lv_goto (tgt := 2) hx hb dVE_readFrom_49 (by decide) ?_
      refine lv_iload_n hx hb dVE_readFrom_2 rfl (lv_at hl 0 rfl) ?_
      refine lv_iconst (v := nI 3) hx hb dVE_readFrom_3 (by decide) ?_
      refine lv_icmp_ge (tgt := 52) hx hb dVE_readFrom_4 (by decide) (fun h => absurd h (by decide)) (fun _ => ?_)
      refine lv_iload_n hx hb dVE_readFrom_7 rfl (lv_at hl 0 rfl) ?_
      refine lv_if_le (tgt := 22) hx hb dVE_readFrom_8 (by decide) (fun h => absurd h (by decide)) (fun _ => ?_)
      refine lv_aload_n hx hb dVE_readFrom_11 rfl (lv_at hl 2 rfl) ?_
      refine lv_bipush (v := nI 46) hx hb dVE_readFrom_12 (by decide) ?_
      refine kc_i (va_runVN (C := RTP) (As := [.int (nI 46)]) (b := ta) (rest := []) (Ts := Wd) ⟨hx, hb, hml, hown, hW⟩ (mTP_skip l g (km_up (km_up μ ta (.inr (1, [.ref ba, .ref sa, .ref oa, .int (nI ln), .int (nI a1), .int (nI zi)]))) ra (.inl (g.2.2.1 2, 7, .inr (.inl (vp_updL F 0 (lN v1)))))) ((km_n (km_apB ht hr0)).trans (km_s _ _ _)) hB ((km_n (km_apN hb0 hr0 (by decide))).trans ((km_n (km_apA hb0 ht)).trans hb0)) (ch := 46) (by omega) (by omega) (by omega)) ⟨(va_cnB 1 hW (k_gC w_149) rfl rfl rfl (hM.2.1.2.1 _ n_146) (hW _ w_2) (by decide +kernel) ⟨Nat.le_of_ble_eq_true rfl, Nat.le_of_ble_eq_true rfl⟩), hW _ w_148, hW _ p_6⟩ (k_preV (q := (RTP, TTP, 6)) hM ((km_n (km_apB ht hr0)).trans (km_s _ _ _)) rfl) rfl rfl hl.1 rfl (lv_room (Nat.le_of_ble_eq_true rfl)) dVE_readFrom_14 ⟨Nat.zero_le _, Nat.zero_le _⟩) hM (fun r μ1 H locs hp hM => ?_)
      obtain ⟨rfl, hmu⟩ := hp
      rw [hmu] at hM
      rcases Decidable.em (a1 < zi ∧ B a1 = 46) with hs2 | hs2
      · refine topi_eq (y := nI 1) (bI_t hs2).symm ?_
        rw [if_pos hs2] at hM
        have hd2 := vDot_t hs2
        have hM : kS g (km_up (km_up μ ta (.inr (1, [.ref ba, .ref sa, .ref oa, .int (nI ln), .int (nI (a1 + 1)), .int (nI zi)]))) ra (.inl (g.2.2.1 2, 7, .inr (.inl (vp_updL F 0 (lN v1)))))) s H locs := kS_eq (km_u2 _ _ _ _ (km_apB ht hr0)) hM
        refine lv_if_ne (tgt := 22) hx hb dVE_readFrom_17 (by decide) (fun _ => ?_) (fun h => absurd h (by decide))
        refine lv_aload_n hx hb dVE_readFrom_22 rfl (lv_at hl 1 rfl) ?_
        refine k_get (own := RVE) (ref := RVE) (C := RVE) (T := TVE) (N := 2) (ci := 2) (v := .ref ra) hx hb hW inVE hown hM ((km_n (km_apB hv hr0)).trans ((km_n (km_apC hv ht (by decide))).trans hv)) rfl 0 (by decide) (hW _ w_65) (fun _ h => h) rfl dVE_readFrom_23 ?_
        refine lv_iload_n hx hb dVE_readFrom_26 rfl (lv_at hl 0 rfl) ?_
        refine lv_aload_n hx hb dVE_readFrom_27 rfl (lv_at hl 2 rfl) ?_
        refine kc_i (va_runVN (C := RTP) (As := []) (b := ta) (rest := [.int (nI 1), .ref ra]) (Ts := Wd) ⟨hx, hb, hml, hown, hW⟩ (mTP_readNumber l g (km_up (km_up μ ta (.inr (1, [.ref ba, .ref sa, .ref oa, .int (nI ln), .int (nI (a1 + 1)), .int (nI zi)]))) ra (.inl (g.2.2.1 2, 7, .inr (.inl (vp_updL F 0 (lN v1)))))) ((km_n (km_apB ht hr0)).trans (km_s _ _ _)) hB ((km_n (km_apN hb0 hr0 (by decide))).trans ((km_n (km_apA hb0 ht)).trans hb0)) (by omega) (by omega)) ⟨(va_cnB 0 hW (k_gC w_153) rfl rfl rfl (hM.2.1.2.1 _ n_150) (hW _ w_2) (by decide +kernel) ⟨Nat.le_of_ble_eq_true rfl, Nat.le_of_ble_eq_true rfl⟩), hW _ w_152, hW _ p_7⟩ (k_preV (q := (RTP, TTP, 6)) hM ((km_n (km_apB ht hr0)).trans (km_s _ _ _)) rfl) rfl rfl hl.1 rfl (lv_room (Nat.le_of_ble_eq_true rfl)) dVE_readFrom_28 ⟨Nat.zero_le _, Nat.zero_le _⟩) hM (fun r μ1 H locs hp hM => ?_)
        obtain ⟨rfl, hmu⟩ := hp
        rw [hmu] at hM
        have hM : kS g (km_up (km_up (km_up μ ta (.inr (1, [.ref ba, .ref sa, .ref oa, .int (nI ln), .int (nI (a1 + 1)), .int (nI zi)]))) ra (.inl (g.2.2.1 2, 7, .inr (.inl (vp_updL F 0 (lN v1)))))) ta (.inr (1, [.ref ba, .ref sa, .ref oa, .int (nI ln), .int (nI (a1 + 1 + nD B (a1 + 1) (zi - (a1 + 1)))), .int (nI zi)]))) s H locs := hM
        have hM : kS g (km_up (km_up μ ta (.inr (1, [.ref ba, .ref sa, .ref oa, .int (nI ln), .int (nI (a1 + 1 + nD B (a1 + 1) (zi - (a1 + 1)))), .int (nI zi)]))) ra (.inl (g.2.2.1 2, 7, .inr (.inl (vp_updL F 0 (lN v1)))))) s H locs := kS_eq (km_u2 _ _ _ _ (km_apB ht hr0)) hM
        rcases vNum_cases B (a := a1 + 1) (z := zi) (by omega) with ⟨hv3, hr3⟩ | ⟨v3, a3, hv3, hr3, hlt3, ha3, hle3⟩
        · refine topi_eq (y := (-1)) hr3 ?_
          refine lv_i2l (v := (-1)) hx hb dVE_readFrom_31 (by decide) ?_
          refine k_last (i := 1) (f1 := (vp_updL (vp_updL F 0 (lN v1)) 1 (-1))) hx hb hM 2 (km_s _ _ _) rfl (by omega) (by omega) rfl dVE_readFrom_32 (fun H locs hM => ?_)
          have hM : kS g (km_up (km_up μ ta (.inr (1, [.ref ba, .ref sa, .ref oa, .int (nI ln), .int (nI (a1 + 1 + nD B (a1 + 1) (zi - (a1 + 1)))), .int (nI zi)]))) ra (.inl (g.2.2.1 2, 7, .inr (.inl (vp_updL (vp_updL F 0 (lN v1)) 1 (-1)))))) s H locs := kS_eq (km_u1 _ _ _ _) hM
          refine lv_aload_n hx hb dVE_readFrom_33 rfl (lv_at hl 1 rfl) ?_
          refine k_get (own := RVE) (ref := RVE) (C := RVE) (T := TVE) (N := 2) (ci := 2) (v := .ref ra) hx hb hW inVE hown hM ((km_n (km_apB hv hr0)).trans ((km_n (km_apC hv ht (by decide))).trans hv)) rfl 0 (by decide) (hW _ w_65) (fun _ h => h) rfl dVE_readFrom_34 ?_
          refine lv_iload_n hx hb dVE_readFrom_37 rfl (lv_at hl 0 rfl) ?_
          refine k_lald (i := 1) hx hb hM 2 (km_s _ _ _) rfl (by omega) (by omega) dVE_readFrom_38 ?_
          refine topl_eq (y := (-1)) pk_uLs ?_
          refine lv_lconst (v := lN 0) hx hb dVE_readFrom_39 (by decide) ?_
          refine W.lcmp hx hb dVE_readFrom_40 ?_
          refine lv_if_ge (tgt := 46) hx hb dVE_readFrom_41 (by decide) (fun h => absurd h lm1_ge) (fun _ => ?_)
          refine lv_iconst (v := nI 0) hx hb dVE_readFrom_44 (by decide) ?_
          exact kr_z hx hb hr (by decide) hlocks hM dVE_readFrom_45 (⟨_, _, _, (km_id ((km_n (km_apB hv hr0)).trans ((km_n (km_apC hv ht (by decide))).trans hv))).symm, Or.inl ⟨vVer_n3 (by simp only [vThree, hv1, hd2, hv3, Option.bind_some, Option.bind_none]), rfl⟩⟩)
        · refine topi_eq (y := nI v3) hr3 ?_
          rw [ha3] at hM
          refine lv_i2l (v := lN v3) hx hb dVE_readFrom_31 (nI_l (by omega)) ?_
          refine k_last (i := 1) (f1 := (vp_updL (vp_updL F 0 (lN v1)) 1 (lN v3))) hx hb hM 2 (km_s _ _ _) rfl (by omega) (by omega) rfl dVE_readFrom_32 (fun H locs hM => ?_)
          have hM : kS g (km_up (km_up μ ta (.inr (1, [.ref ba, .ref sa, .ref oa, .int (nI ln), .int (nI a3), .int (nI zi)]))) ra (.inl (g.2.2.1 2, 7, .inr (.inl (vp_updL (vp_updL F 0 (lN v1)) 1 (lN v3)))))) s H locs := kS_eq (km_u1 _ _ _ _) hM
          refine lv_aload_n hx hb dVE_readFrom_33 rfl (lv_at hl 1 rfl) ?_
          refine k_get (own := RVE) (ref := RVE) (C := RVE) (T := TVE) (N := 2) (ci := 2) (v := .ref ra) hx hb hW inVE hown hM ((km_n (km_apB hv hr0)).trans ((km_n (km_apC hv ht (by decide))).trans hv)) rfl 0 (by decide) (hW _ w_65) (fun _ h => h) rfl dVE_readFrom_34 ?_
          refine lv_iload_n hx hb dVE_readFrom_37 rfl (lv_at hl 0 rfl) ?_
          refine k_lald (i := 1) hx hb hM 2 (km_s _ _ _) rfl (by omega) (by omega) dVE_readFrom_38 ?_
          refine topl_eq (y := lN v3) pk_uLs ?_
          refine lv_lconst (v := lN 0) hx hb dVE_readFrom_39 (by decide) ?_
          refine W.lcmp hx hb dVE_readFrom_40 ?_
          refine lv_if_ge (tgt := 46) hx hb dVE_readFrom_41 (by decide) (fun h41 => ?_) (fun h41 => ?_)
          · have h41 := (lJ_ge_t (a := v3) (b := 0) (by omega) (by omega)).mp h41
            refine lv_iinc (v := nI 2) (lv' := [(2, .int (nI 2)), (0, .ref va), (1, .ref ta)]) (k := 0) hx hb dVE_readFrom_46 hl rfl (by decide) (by decide) rfl (fun ls hl => ?_)
            refine lv_goto (tgt := 2) hx hb dVE_readFrom_49 (by decide) ?_
            refine lv_iload_n hx hb dVE_readFrom_2 rfl (lv_at hl 0 rfl) ?_
            refine lv_iconst (v := nI 3) hx hb dVE_readFrom_3 (by decide) ?_
            refine lv_icmp_ge (tgt := 52) hx hb dVE_readFrom_4 (by decide) (fun h => absurd h (by decide)) (fun _ => ?_)
            refine lv_iload_n hx hb dVE_readFrom_7 rfl (lv_at hl 0 rfl) ?_
            refine lv_if_le (tgt := 22) hx hb dVE_readFrom_8 (by decide) (fun h => absurd h (by decide)) (fun _ => ?_)
            refine lv_aload_n hx hb dVE_readFrom_11 rfl (lv_at hl 2 rfl) ?_
            refine lv_bipush (v := nI 46) hx hb dVE_readFrom_12 (by decide) ?_
            refine kc_i (va_runVN (C := RTP) (As := [.int (nI 46)]) (b := ta) (rest := []) (Ts := Wd) ⟨hx, hb, hml, hown, hW⟩ (mTP_skip l g (km_up (km_up μ ta (.inr (1, [.ref ba, .ref sa, .ref oa, .int (nI ln), .int (nI a3), .int (nI zi)]))) ra (.inl (g.2.2.1 2, 7, .inr (.inl (vp_updL (vp_updL F 0 (lN v1)) 1 (lN v3)))))) ((km_n (km_apB ht hr0)).trans (km_s _ _ _)) hB ((km_n (km_apN hb0 hr0 (by decide))).trans ((km_n (km_apA hb0 ht)).trans hb0)) (ch := 46) (by omega) (by omega) (by omega)) ⟨(va_cnB 1 hW (k_gC w_149) rfl rfl rfl (hM.2.1.2.1 _ n_146) (hW _ w_2) (by decide +kernel) ⟨Nat.le_of_ble_eq_true rfl, Nat.le_of_ble_eq_true rfl⟩), hW _ w_148, hW _ p_6⟩ (k_preV (q := (RTP, TTP, 6)) hM ((km_n (km_apB ht hr0)).trans (km_s _ _ _)) rfl) rfl rfl hl.1 rfl (lv_room (Nat.le_of_ble_eq_true rfl)) dVE_readFrom_14 ⟨Nat.zero_le _, Nat.zero_le _⟩) hM (fun r μ1 H locs hp hM => ?_)
            obtain ⟨rfl, hmu⟩ := hp
            rw [hmu] at hM
            rcases Decidable.em (a3 < zi ∧ B a3 = 46) with hs4 | hs4
            · refine topi_eq (y := nI 1) (bI_t hs4).symm ?_
              rw [if_pos hs4] at hM
              have hd4 := vDot_t hs4
              have hM : kS g (km_up (km_up μ ta (.inr (1, [.ref ba, .ref sa, .ref oa, .int (nI ln), .int (nI (a3 + 1)), .int (nI zi)]))) ra (.inl (g.2.2.1 2, 7, .inr (.inl (vp_updL (vp_updL F 0 (lN v1)) 1 (lN v3)))))) s H locs := kS_eq (km_u2 _ _ _ _ (km_apB ht hr0)) hM
              refine lv_if_ne (tgt := 22) hx hb dVE_readFrom_17 (by decide) (fun _ => ?_) (fun h => absurd h (by decide))
              refine lv_aload_n hx hb dVE_readFrom_22 rfl (lv_at hl 1 rfl) ?_
              refine k_get (own := RVE) (ref := RVE) (C := RVE) (T := TVE) (N := 2) (ci := 2) (v := .ref ra) hx hb hW inVE hown hM ((km_n (km_apB hv hr0)).trans ((km_n (km_apC hv ht (by decide))).trans hv)) rfl 0 (by decide) (hW _ w_65) (fun _ h => h) rfl dVE_readFrom_23 ?_
              refine lv_iload_n hx hb dVE_readFrom_26 rfl (lv_at hl 0 rfl) ?_
              refine lv_aload_n hx hb dVE_readFrom_27 rfl (lv_at hl 2 rfl) ?_
              refine kc_i (va_runVN (C := RTP) (As := []) (b := ta) (rest := [.int (nI 2), .ref ra]) (Ts := Wd) ⟨hx, hb, hml, hown, hW⟩ (mTP_readNumber l g (km_up (km_up μ ta (.inr (1, [.ref ba, .ref sa, .ref oa, .int (nI ln), .int (nI (a3 + 1)), .int (nI zi)]))) ra (.inl (g.2.2.1 2, 7, .inr (.inl (vp_updL (vp_updL F 0 (lN v1)) 1 (lN v3)))))) ((km_n (km_apB ht hr0)).trans (km_s _ _ _)) hB ((km_n (km_apN hb0 hr0 (by decide))).trans ((km_n (km_apA hb0 ht)).trans hb0)) (by omega) (by omega)) ⟨(va_cnB 0 hW (k_gC w_153) rfl rfl rfl (hM.2.1.2.1 _ n_150) (hW _ w_2) (by decide +kernel) ⟨Nat.le_of_ble_eq_true rfl, Nat.le_of_ble_eq_true rfl⟩), hW _ w_152, hW _ p_7⟩ (k_preV (q := (RTP, TTP, 6)) hM ((km_n (km_apB ht hr0)).trans (km_s _ _ _)) rfl) rfl rfl hl.1 rfl (lv_room (Nat.le_of_ble_eq_true rfl)) dVE_readFrom_28 ⟨Nat.zero_le _, Nat.zero_le _⟩) hM (fun r μ1 H locs hp hM => ?_)
              obtain ⟨rfl, hmu⟩ := hp
              rw [hmu] at hM
              have hM : kS g (km_up (km_up (km_up μ ta (.inr (1, [.ref ba, .ref sa, .ref oa, .int (nI ln), .int (nI (a3 + 1)), .int (nI zi)]))) ra (.inl (g.2.2.1 2, 7, .inr (.inl (vp_updL (vp_updL F 0 (lN v1)) 1 (lN v3)))))) ta (.inr (1, [.ref ba, .ref sa, .ref oa, .int (nI ln), .int (nI (a3 + 1 + nD B (a3 + 1) (zi - (a3 + 1)))), .int (nI zi)]))) s H locs := hM
              have hM : kS g (km_up (km_up μ ta (.inr (1, [.ref ba, .ref sa, .ref oa, .int (nI ln), .int (nI (a3 + 1 + nD B (a3 + 1) (zi - (a3 + 1)))), .int (nI zi)]))) ra (.inl (g.2.2.1 2, 7, .inr (.inl (vp_updL (vp_updL F 0 (lN v1)) 1 (lN v3)))))) s H locs := kS_eq (km_u2 _ _ _ _ (km_apB ht hr0)) hM
              rcases vNum_cases B (a := a3 + 1) (z := zi) (by omega) with ⟨hv5, hr5⟩ | ⟨v5, a5, hv5, hr5, hlt5, ha5, hle5⟩
              · refine topi_eq (y := (-1)) hr5 ?_
                refine lv_i2l (v := (-1)) hx hb dVE_readFrom_31 (by decide) ?_
                refine k_last (i := 2) (f1 := (vp_updL (vp_updL (vp_updL F 0 (lN v1)) 1 (lN v3)) 2 (-1))) hx hb hM 2 (km_s _ _ _) rfl (by omega) (by omega) rfl dVE_readFrom_32 (fun H locs hM => ?_)
                have hM : kS g (km_up (km_up μ ta (.inr (1, [.ref ba, .ref sa, .ref oa, .int (nI ln), .int (nI (a3 + 1 + nD B (a3 + 1) (zi - (a3 + 1)))), .int (nI zi)]))) ra (.inl (g.2.2.1 2, 7, .inr (.inl (vp_updL (vp_updL (vp_updL F 0 (lN v1)) 1 (lN v3)) 2 (-1)))))) s H locs := kS_eq (km_u1 _ _ _ _) hM
                refine lv_aload_n hx hb dVE_readFrom_33 rfl (lv_at hl 1 rfl) ?_
                refine k_get (own := RVE) (ref := RVE) (C := RVE) (T := TVE) (N := 2) (ci := 2) (v := .ref ra) hx hb hW inVE hown hM ((km_n (km_apB hv hr0)).trans ((km_n (km_apC hv ht (by decide))).trans hv)) rfl 0 (by decide) (hW _ w_65) (fun _ h => h) rfl dVE_readFrom_34 ?_
                refine lv_iload_n hx hb dVE_readFrom_37 rfl (lv_at hl 0 rfl) ?_
                refine k_lald (i := 2) hx hb hM 2 (km_s _ _ _) rfl (by omega) (by omega) dVE_readFrom_38 ?_
                refine topl_eq (y := (-1)) pk_uLs ?_
                refine lv_lconst (v := lN 0) hx hb dVE_readFrom_39 (by decide) ?_
                refine W.lcmp hx hb dVE_readFrom_40 ?_
                refine lv_if_ge (tgt := 46) hx hb dVE_readFrom_41 (by decide) (fun h => absurd h lm1_ge) (fun _ => ?_)
                refine lv_iconst (v := nI 0) hx hb dVE_readFrom_44 (by decide) ?_
                exact kr_z hx hb hr (by decide) hlocks hM dVE_readFrom_45 (⟨_, _, _, (km_id ((km_n (km_apB hv hr0)).trans ((km_n (km_apC hv ht (by decide))).trans hv))).symm, Or.inl ⟨vVer_n3 (by simp only [vThree, hv1, hd2, hv3, hd4, hv5, Option.bind_some, Option.bind_none]), rfl⟩⟩)
              · refine topi_eq (y := nI v5) hr5 ?_
                rw [ha5] at hM
                refine lv_i2l (v := lN v5) hx hb dVE_readFrom_31 (nI_l (by omega)) ?_
                refine k_last (i := 2) (f1 := (vp_updL (vp_updL (vp_updL F 0 (lN v1)) 1 (lN v3)) 2 (lN v5))) hx hb hM 2 (km_s _ _ _) rfl (by omega) (by omega) rfl dVE_readFrom_32 (fun H locs hM => ?_)
                have hM : kS g (km_up (km_up μ ta (.inr (1, [.ref ba, .ref sa, .ref oa, .int (nI ln), .int (nI a5), .int (nI zi)]))) ra (.inl (g.2.2.1 2, 7, .inr (.inl (vp_updL (vp_updL (vp_updL F 0 (lN v1)) 1 (lN v3)) 2 (lN v5)))))) s H locs := kS_eq (km_u1 _ _ _ _) hM
                refine lv_aload_n hx hb dVE_readFrom_33 rfl (lv_at hl 1 rfl) ?_
                refine k_get (own := RVE) (ref := RVE) (C := RVE) (T := TVE) (N := 2) (ci := 2) (v := .ref ra) hx hb hW inVE hown hM ((km_n (km_apB hv hr0)).trans ((km_n (km_apC hv ht (by decide))).trans hv)) rfl 0 (by decide) (hW _ w_65) (fun _ h => h) rfl dVE_readFrom_34 ?_
                refine lv_iload_n hx hb dVE_readFrom_37 rfl (lv_at hl 0 rfl) ?_
                refine k_lald (i := 2) hx hb hM 2 (km_s _ _ _) rfl (by omega) (by omega) dVE_readFrom_38 ?_
                refine topl_eq (y := lN v5) pk_uLs ?_
                refine lv_lconst (v := lN 0) hx hb dVE_readFrom_39 (by decide) ?_
                refine W.lcmp hx hb dVE_readFrom_40 ?_
                refine lv_if_ge (tgt := 46) hx hb dVE_readFrom_41 (by decide) (fun h41 => ?_) (fun h41 => ?_)
                · have h41 := (lJ_ge_t (a := v5) (b := 0) (by omega) (by omega)).mp h41
                  refine lv_iinc (v := nI 3) (lv' := [(2, .int (nI 3)), (0, .ref va), (1, .ref ta)]) (k := 0) hx hb dVE_readFrom_46 hl rfl (by decide) (by decide) rfl (fun ls hl => ?_)
                  refine lv_goto (tgt := 2) hx hb dVE_readFrom_49 (by decide) ?_
                  refine lv_iload_n hx hb dVE_readFrom_2 rfl (lv_at hl 0 rfl) ?_
                  refine lv_iconst (v := nI 3) hx hb dVE_readFrom_3 (by decide) ?_
                  refine lv_icmp_ge (tgt := 52) hx hb dVE_readFrom_4 (by decide) (fun _ => ?_) (fun h => absurd (by decide) h)
                  have h3 : vThree B ai zi = some (v1, v3, v5, a5) := by simp only [vThree, hv1, hd2, hv3, hd4, hv5, Option.bind_some]
                  refine lv_aload_n hx hb dVE_readFrom_52 rfl (lv_at hl 1 rfl) ?_
                  refine kc_v (va_runV (C := RVE) (As := []) (b := va) (rest := []) (Ts := Wd) ⟨hx, hb, hml, hown, hW⟩ (mVE_dropPre l g (km_up (km_up μ ta (.inr (1, [.ref ba, .ref sa, .ref oa, .int (nI ln), .int (nI a5), .int (nI zi)]))) ra (.inl (g.2.2.1 2, 7, .inr (.inl (vp_updL (vp_updL (vp_updL F 0 (lN v1)) 1 (lN v3)) 2 (lN v5)))))) ((km_n (km_apB hv hr0)).trans ((km_n (km_apC hv ht (by decide))).trans hv)) (km_s _ _ _)) (cwV 0 hW (k_gV w_161 w_163 p_9 w_3 w_164) rfl rfl rfl (by decide +kernel) ⟨Nat.le_of_ble_eq_true rfl, Nat.le_of_ble_eq_true rfl⟩) (k_preV (q := (RVE, TVE, 2)) hM ((km_n (km_apB hv hr0)).trans ((km_n (km_apC hv ht (by decide))).trans hv)) rfl) rfl rfl hl.1 rfl (lv_room (Nat.le_of_ble_eq_true rfl)) dVE_readFrom_53 ⟨Nat.zero_le _, Nat.zero_le _⟩) hM (fun μ1 H locs hp hM => ?_)
                  rw [hp] at hM
                  have hM : kS g (km_up (km_up (km_up (km_up μ ta (.inr (1, [.ref ba, .ref sa, .ref oa, .int (nI ln), .int (nI a5), .int (nI zi)]))) ra (.inl (g.2.2.1 2, 7, .inr (.inl (vp_updL (vp_updL (vp_updL F 0 (lN v1)) 1 (lN v3)) 2 (lN v5)))))) va (.inr (2, [.ref ra, .int (nI 0)]))) ra (.inl (g.2.2.1 2, 7, .inr (.inl (dpF (vp_updL (vp_updL (vp_updL F 0 (lN v1)) 1 (lN v3)) 2 (lN v5))))))) s H locs := hM
                  have hM : kS g (km_up (km_up (km_up μ ta (.inr (1, [.ref ba, .ref sa, .ref oa, .int (nI ln), .int (nI a5), .int (nI zi)]))) ra (.inl (g.2.2.1 2, 7, .inr (.inl (dpF (vp_updL (vp_updL (vp_updL F 0 (lN v1)) 1 (lN v3)) 2 (lN v5))))))) va (.inr (2, [.ref ra, .int (nI 0)]))) s H locs := kS_eq (km_u2 _ _ _ _ (km_apA hr0 hv)) hM
                  refine lv_aload_n hx hb dVE_readFrom_56 rfl (lv_at hl 2 rfl) ?_
                  refine kc_i (va_runVN (C := RTP) (As := []) (b := ta) (rest := []) (Ts := Wd) ⟨hx, hb, hml, hown, hW⟩ (mTP_isAtStop l g (km_up (km_up (km_up μ ta (.inr (1, [.ref ba, .ref sa, .ref oa, .int (nI ln), .int (nI a5), .int (nI zi)]))) ra (.inl (g.2.2.1 2, 7, .inr (.inl (dpF (vp_updL (vp_updL (vp_updL F 0 (lN v1)) 1 (lN v3)) 2 (lN v5))))))) va (.inr (2, [.ref ra, .int (nI 0)]))) ((km_n (km_apC ht hv (by decide))).trans ((km_n (km_apB ht hr0)).trans (km_s _ _ _))) (by omega) (by omega)) ⟨(va_cnB 0 hW (k_gC w_170) rfl rfl rfl (hM.2.1.2.1 _ n_167) (hW _ w_2) (by decide +kernel) ⟨Nat.le_of_ble_eq_true rfl, Nat.le_of_ble_eq_true rfl⟩), hW _ w_169, hW _ p_10⟩ (k_preV (q := (RTP, TTP, 6)) hM ((km_n (km_apC ht hv (by decide))).trans ((km_n (km_apB ht hr0)).trans (km_s _ _ _))) rfl) rfl rfl hl.1 rfl (lv_room (Nat.le_of_ble_eq_true rfl)) dVE_readFrom_57 ⟨Nat.zero_le _, Nat.zero_le _⟩) hM (fun r μ1 H locs hp hM => ?_)
                  obtain ⟨rfl, hmu⟩ := hp
                  rw [hmu] at hM
                  rcases Decidable.em (a5 = zi) with hz6 | hz6
                  · refine topi_eq (y := nI 1) (bI_t hz6).symm ?_
                    refine lv_if_ne (tgt := 80) hx hb dVE_readFrom_60 (by decide) (fun _ => ?_) (fun h => absurd h (by decide))
                    refine lv_iconst (v := nI 1) hx hb dVE_readFrom_80 (by decide) ?_
                    refine lv_goto (tgt := 85) hx hb dVE_readFrom_81 (by decide) ?_
                    exact kr_z hx hb hr (by decide) hlocks hM dVE_readFrom_85 (⟨_, _, _, rfl, Or.inr ⟨_, vVer_s h3 hz6, rfl, rfl, fun k hk => (dpF_row k hk).trans (pF0 _ k).symm⟩⟩)
                  · refine topi_eq (y := nI 0) (bI_f hz6).symm ?_
                    refine lv_if_ne (tgt := 80) hx hb dVE_readFrom_60 (by decide) (fun h => absurd (by decide) h) (fun _ => ?_)
                    refine lv_aload_n hx hb dVE_readFrom_63 rfl (lv_at hl 2 rfl) ?_
                    refine lv_bipush (v := nI 45) hx hb dVE_readFrom_64 (by decide) ?_
                    refine kc_i (va_runVN (C := RTP) (As := [.int (nI 45)]) (b := ta) (rest := []) (Ts := Wd) ⟨hx, hb, hml, hown, hW⟩ (mTP_skip l g (km_up (km_up (km_up μ ta (.inr (1, [.ref ba, .ref sa, .ref oa, .int (nI ln), .int (nI a5), .int (nI zi)]))) ra (.inl (g.2.2.1 2, 7, .inr (.inl (dpF (vp_updL (vp_updL (vp_updL F 0 (lN v1)) 1 (lN v3)) 2 (lN v5))))))) va (.inr (2, [.ref ra, .int (nI 0)]))) ((km_n (km_apC ht hv (by decide))).trans ((km_n (km_apB ht hr0)).trans (km_s _ _ _))) hB ((km_n (km_apA hb0 hv)).trans ((km_n (km_apN hb0 hr0 (by decide))).trans ((km_n (km_apA hb0 ht)).trans hb0))) (ch := 45) (by omega) (by omega) (by omega)) ⟨(va_cnB 1 hW (k_gC w_149) rfl rfl rfl (hM.2.1.2.1 _ n_146) (hW _ w_2) (by decide +kernel) ⟨Nat.le_of_ble_eq_true rfl, Nat.le_of_ble_eq_true rfl⟩), hW _ w_148, hW _ p_6⟩ (k_preV (q := (RTP, TTP, 6)) hM ((km_n (km_apC ht hv (by decide))).trans ((km_n (km_apB ht hr0)).trans (km_s _ _ _))) rfl) rfl rfl hl.1 rfl (lv_room (Nat.le_of_ble_eq_true rfl)) dVE_readFrom_66 ⟨Nat.zero_le _, Nat.zero_le _⟩) hM (fun r μ1 H locs hp hM => ?_)
                    obtain ⟨rfl, hmu⟩ := hp
                    rw [hmu] at hM
                    rcases Decidable.em (a5 < zi ∧ B a5 = 45) with hs7 | hs7
                    · refine topi_eq (y := nI 1) (bI_t hs7).symm ?_
                      rw [if_pos hs7] at hM
                      have hd7 := vDot_t hs7
                      have hM : kS g (km_up (km_up (km_up μ ta (.inr (1, [.ref ba, .ref sa, .ref oa, .int (nI ln), .int (nI (a5 + 1)), .int (nI zi)]))) ra (.inl (g.2.2.1 2, 7, .inr (.inl (dpF (vp_updL (vp_updL (vp_updL F 0 (lN v1)) 1 (lN v3)) 2 (lN v5))))))) va (.inr (2, [.ref ra, .int (nI 0)]))) s H locs := kS_eq (km_u3 _ _ _ _ _ (km_apB ht hr0) (km_apC ht hv (by decide))) hM
                      refine lv_if_eq (tgt := 84) hx hb dVE_readFrom_69 (by decide) (fun h => absurd h (by decide)) (fun _ => ?_)
                      refine lv_aload_n hx hb dVE_readFrom_72 rfl (lv_at hl 1 rfl) ?_
                      refine lv_aload_n hx hb dVE_readFrom_73 rfl (lv_at hl 2 rfl) ?_
                      refine kc_i (va_runV (C := RVE) (As := [.ref ta]) (b := va) (rest := []) (Ts := Wd) ⟨hx, hb, hml, hown, hW⟩ (mVE_readPre l g (km_up (km_up (km_up μ ta (.inr (1, [.ref ba, .ref sa, .ref oa, .int (nI ln), .int (nI (a5 + 1)), .int (nI zi)]))) ra (.inl (g.2.2.1 2, 7, .inr (.inl (dpF (vp_updL (vp_updL (vp_updL F 0 (lN v1)) 1 (lN v3)) 2 (lN v5))))))) va (.inr (2, [.ref ra, .int (nI 0)]))) (km_s _ _ _) ((km_n (km_apA hr0 hv)).trans (km_s _ _ _)) ((km_n (km_apC ht hv (by decide))).trans ((km_n (km_apB ht hr0)).trans (km_s _ _ _))) hB ((km_n (km_apA hb0 hv)).trans ((km_n (km_apN hb0 hr0 (by decide))).trans ((km_n (km_apA hb0 ht)).trans hb0))) (by omega) (by omega)) (cwV 1 hW (k_gV w_171 w_173 p_11 w_3 w_174) rfl rfl rfl (by decide +kernel) ⟨Nat.le_of_ble_eq_true rfl, Nat.le_of_ble_eq_true rfl⟩) (k_preV (q := (RVE, TVE, 2)) hM (km_s _ _ _) rfl) rfl rfl hl.1 rfl (lv_room (Nat.le_of_ble_eq_true rfl)) dVE_readFrom_74 ⟨Nat.zero_le _, Nat.zero_le _⟩) hM (fun r μ1 H locs hp hM => ?_)
                      obtain ⟨F8, a8, hmu, hcase⟩ := hp
                      subst hmu
                      have hM : kS g (km_up (km_up (km_up (km_up (km_up (km_up μ ta (.inr (1, [.ref ba, .ref sa, .ref oa, .int (nI ln), .int (nI (a5 + 1)), .int (nI zi)]))) ra (.inl (g.2.2.1 2, 7, .inr (.inl (dpF (vp_updL (vp_updL (vp_updL F 0 (lN v1)) 1 (lN v3)) 2 (lN v5))))))) va (.inr (2, [.ref ra, .int (nI 0)]))) va (.inr (2, [.ref ra, .int (nI (zi - (a5 + 1)))]))) ta (.inr (1, [.ref ba, .ref sa, .ref oa, .int (nI ln), .int (nI a8), .int (nI zi)]))) ra (.inl (g.2.2.1 2, 7, .inr (.inl F8)))) s H locs := hM
                      have hM : kS g (km_up (km_up (km_up (km_up (km_up μ ta (.inr (1, [.ref ba, .ref sa, .ref oa, .int (nI ln), .int (nI (a5 + 1)), .int (nI zi)]))) ra (.inl (g.2.2.1 2, 7, .inr (.inl (dpF (vp_updL (vp_updL (vp_updL F 0 (lN v1)) 1 (lN v3)) 2 (lN v5))))))) va (.inr (2, [.ref ra, .int (nI (zi - (a5 + 1)))]))) ta (.inr (1, [.ref ba, .ref sa, .ref oa, .int (nI ln), .int (nI a8), .int (nI zi)]))) ra (.inl (g.2.2.1 2, 7, .inr (.inl F8)))) s H locs := kS_eq (congrArg (fun z => km_up z ra (.inl (g.2.2.1 2, 7, .inr (.inl F8)))) (congrArg (fun z => km_up z ta (.inr (1, [.ref ba, .ref sa, .ref oa, .int (nI ln), .int (nI a8), .int (nI zi)]))) (km_u1 _ _ _ _))) hM
                      have hM : kS g (km_up (km_up (km_up (km_up μ ta (.inr (1, [.ref ba, .ref sa, .ref oa, .int (nI ln), .int (nI a8), .int (nI zi)]))) ra (.inl (g.2.2.1 2, 7, .inr (.inl (dpF (vp_updL (vp_updL (vp_updL F 0 (lN v1)) 1 (lN v3)) 2 (lN v5))))))) va (.inr (2, [.ref ra, .int (nI (zi - (a5 + 1)))]))) ra (.inl (g.2.2.1 2, 7, .inr (.inl F8)))) s H locs := kS_eq (congrArg (fun z => km_up z ra (.inl (g.2.2.1 2, 7, .inr (.inl F8)))) (km_u3 _ _ _ _ _ (km_apB ht hr0) (km_apC ht hv (by decide)))) hM
                      have hM : kS g (km_up (km_up (km_up μ ta (.inr (1, [.ref ba, .ref sa, .ref oa, .int (nI ln), .int (nI a8), .int (nI zi)]))) ra (.inl (g.2.2.1 2, 7, .inr (.inl F8)))) va (.inr (2, [.ref ra, .int (nI (zi - (a5 + 1)))]))) s H locs := kS_eq (km_u2 _ _ _ _ (km_apA hr0 hv)) hM
                      rcases hcase with ⟨hp8, rfl⟩ | ⟨ms, hp8, rfl, hz9, hF⟩
                      · skip
                        refine lv_if_eq (tgt := 84) hx hb dVE_readFrom_77 (by decide) (fun _ => ?_) (fun h => absurd (by decide) h)
                        refine lv_iconst (v := nI 0) hx hb dVE_readFrom_84 (by decide) ?_
                        exact kr_z hx hb hr (by decide) hlocks hM dVE_readFrom_85 (⟨_, _, _, rfl, Or.inl ⟨by rw [vVer_p h3 hz6 hd7, hp8]; rfl, rfl⟩⟩)
                      · rw [hz9] at hM
                        refine lv_if_eq (tgt := 84) hx hb dVE_readFrom_77 (by decide) (fun h => absurd h (by decide)) (fun _ => ?_)
                        refine lv_iconst (v := nI 1) hx hb dVE_readFrom_80 (by decide) ?_
                        refine lv_goto (tgt := 85) hx hb dVE_readFrom_81 (by decide) ?_
                        exact kr_z hx hb hr (by decide) hlocks hM dVE_readFrom_85 (⟨_, _, _, rfl, Or.inr ⟨(v1, v3, v5, ms), by rw [vVer_p h3 hz6 hd7, hp8]; rfl, rfl, (vPre_len B zi 4 _ ms (by omega) hp8).2.2.1, fun k hk => (hF k hk).trans (pF_congr ms dpF_row k hk)⟩⟩)
                    · refine topi_eq (y := nI 0) (bI_f hs7).symm ?_
                      rw [if_neg hs7] at hM
                      have hd7 := vDot_f hs7
                      refine lv_if_eq (tgt := 84) hx hb dVE_readFrom_69 (by decide) (fun _ => ?_) (fun h => absurd (by decide) h)
                      refine lv_iconst (v := nI 0) hx hb dVE_readFrom_84 (by decide) ?_
                      exact kr_z hx hb hr (by decide) hlocks hM dVE_readFrom_85 (⟨_, _, _, rfl, Or.inl ⟨vVer_d h3 hz6 hd7, rfl⟩⟩)
                · have h41 := (lJ_ge_f (a := v5) (b := 0) (by omega) (by omega)).mp h41
                  exact absurd h41 (Nat.not_lt_zero _)
            · refine topi_eq (y := nI 0) (bI_f hs4).symm ?_
              rw [if_neg hs4] at hM
              have hd4 := vDot_f hs4
              refine lv_if_ne (tgt := 22) hx hb dVE_readFrom_17 (by decide) (fun h => absurd (by decide) h) (fun _ => ?_)
              refine lv_iconst (v := nI 0) hx hb dVE_readFrom_20 (by decide) ?_
              exact kr_z hx hb hr (by decide) hlocks hM dVE_readFrom_21 (⟨_, _, _, (km_id ((km_n (km_apB hv hr0)).trans ((km_n (km_apC hv ht (by decide))).trans hv))).symm, Or.inl ⟨vVer_n3 (by simp only [vThree, hv1, hd2, hv3, hd4, Option.bind_some, Option.bind_none]), rfl⟩⟩)
          · have h41 := (lJ_ge_f (a := v3) (b := 0) (by omega) (by omega)).mp h41
            exact absurd h41 (Nat.not_lt_zero _)
      · refine topi_eq (y := nI 0) (bI_f hs2).symm ?_
        rw [if_neg hs2] at hM
        have hd2 := vDot_f hs2
        refine lv_if_ne (tgt := 22) hx hb dVE_readFrom_17 (by decide) (fun h => absurd (by decide) h) (fun _ => ?_)
        refine lv_iconst (v := nI 0) hx hb dVE_readFrom_20 (by decide) ?_
        exact kr_z hx hb hr (by decide) hlocks hM dVE_readFrom_21 (⟨_, _, _, (km_id ((km_n (km_apB hv hr0)).trans ((km_n (km_apC hv ht (by decide))).trans hv))).symm, Or.inl ⟨vVer_n3 (by simp only [vThree, hv1, hd2, Option.bind_some, Option.bind_none]), rfl⟩⟩)
    · have h41 := (lJ_ge_f (a := v1) (b := 0) (by omega) (by omega)).mp h41
      exact absurd h41 (Nat.not_lt_zero _)
