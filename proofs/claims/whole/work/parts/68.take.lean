set_option maxHeartbeats 800000 in
set_option maxRecDepth 100000 in
theorem mMD_take (l : Launch) (g : kG) (μ : km_M) {ma tp wd li : Nat} {B : Nat → Nat} {ln : Nat} {vs : List kVer} (hRI : kRI g μ ma tp wd li B ln vs) : Met l yMD_take (Cond.code yMD_take cMD_take 2 (some .int) :: Wd) ({ frames := 7, cells := 419, slots := 1642, locals := 157 } : Room) (kPre g μ [.ref ma]) (kQi g (fun (r : Int32) (μ1 : km_M) => r = (tkR B ln vs).1 ∧ kRI g μ1 ma tp wd li B 0 (tkR B ln vs).2 ∧ kKp (clsC g) μ μ1)) 419 1642 (kF g) := by
  refine k_met (by decide) (Nat.le_of_ble_eq_true rfl) ?_
  intro p e s m below meth c hx hb hr hlocks hml hown hnm hW ls hl H locs hM
  have hl : lv_has ls 2 [(0, .ref ma)] := hl
  have hty := k_ty hM
  obtain ⟨hB, hln, hcnt, ⟨ws, at0, hma⟩, htp, ⟨M0, hwd⟩, V, hli, hLs⟩ := hRI
  have ntw : tp ≠ wd := km_ap htp hwd (fun z => by simp at z)
  have nlw : li ≠ wd := km_apN hli hwd (by decide)
  refine lv_aload_n hx hb dMD_take_0 rfl (lv_at hl 0 rfl) ?_
  refine kc_v (va_runV (C := RMD) (As := []) (b := ma) (rest := []) (Ts := Wd) ⟨hx, hb, hml, hown, hW⟩ (mMD_readWords l g μ hma hB htp hwd hln) (cwV 0 hW (k_gV w_330 w_332 p_27 w_7 w_333) rfl rfl rfl (by decide +kernel) ⟨Nat.le_of_ble_eq_true rfl, Nat.le_of_ble_eq_true rfl⟩) (k_preV (q := (RMD, TMD, 7)) hM hma rfl) rfl rfl hl.1 rfl (lv_room (Nat.le_of_ble_eq_true rfl)) dMD_take_1 ⟨(show 0 + 400 ≤ 419 by omega), (show 0 + 1200 ≤ 1642 by omega)⟩) hM (fun μ2 H locs hp hM => ?_)
  obtain ⟨w, S1, E1, sa, va, M, h, hsp, gm, gw, hI⟩ := hp
  obtain ⟨hw2, hok⟩ := spl_w hsp
  refine W.widen (k := 400) (n := 1200) (by omega) (by omega) ?_
  refine lv_aload_n hx hb dMD_take_4 rfl (lv_at hl 0 rfl) ?_
  refine k_get (own := RMD) (ref := RMD) (C := RMD) (T := TMD) (N := 7) (ci := 4) (v := .int (nI w)) hx hb hW inMD hown hM gm rfl 3 (by decide) (hW _ w_294) (fun _ h => h) rfl dMD_take_5 ?_
  refine lv_iconst (v := nI 1) hx hb dMD_take_8 (by decide) ?_
  refine lv_icmp_ne (tgt := 25) hx hb dMD_take_9 (by decide) (fun h9 => ?_) (fun h9 => ?_)
  · have h9 := (nJ_ne_t (a := w) (b := 1) (by omega) (by omega)).mp h9
    refine lv_null hx hb dMD_take_25 ?_
    refine lv_astore_nN (lv' := [(1, .null), (0, .ref ma)]) hx hb dMD_take_26 rfl hl (by decide) rfl (fun ls hl => ?_)
    refine lv_aload_nN hx hb dMD_take_27 rfl (lv_at hl 0 rfl) ?_
    refine lv_ifnonnullN hx hb dMD_take_28 ?_
    refine lv_bipush (v := (-4)) hx hb dMD_take_31 (by decide) ?_
    refine W.widen (k := 419) (n := 1642) (by omega) (by omega) ?_
    exact kr_i hx hb hr hlocks hM dMD_take_33 (⟨by rw [tkR_n (tk_w0 hsp h9)], by rw [tkR_n (tk_w0 hsp h9)]; exact ⟨hB, Nat.zero_le _, hcnt, ⟨_, _, gm⟩, (hI.2.1 _ _ htp (km_apA htp hma) ntw), ⟨_, gw⟩, V, (hI.2.1 _ _ hli (km_apA hli hma) nlw), (kLs_kp (kWD_kp hI hma (mvC_o (by decide)) hwd (mvC_n (by decide))) hLs)⟩, (kWD_kp hI hma (clsC_o (by decide)) hwd (clsC_a hty (Or.inr (Or.inl rfl))))⟩)
  · have h9 := (nJ_ne_f (a := w) (b := 1) (by omega) (by omega)).mp h9
    have hw0 := hI.2.2 0 (by omega)
    have hok0 := hok 0 (by omega)
    refine lv_aload_n hx hb dMD_take_12 rfl (lv_at hl 0 rfl) ?_
    refine k_get (own := RMD) (ref := RMD) (C := RMD) (T := TMD) (N := 7) (ci := 4) (v := .ref wd) hx hb hW inMD hown hM gm rfl 2 (by decide) (hW _ w_293) (fun _ h => h) rfl dMD_take_13 ?_
    refine lv_iconst (v := nI 0) hx hb dMD_take_16 (by decide) ?_
    refine k_aald (i := 0) (r := some (sa 0)) hx hb hM 5 gw rfl (by omega) (by omega) hw0.1 dMD_take_17 ?_
    refine lv_iconst (v := nI 0) hx hb dMD_take_18 (by decide) ?_
    refine kc_q (va_runS (As := [.ref (sa 0), .int (nI 0)]) (rest := []) (Ts := Wd) ⟨hx, hb, hml, hown, hW⟩ (mMD_version l g μ2 hw0.2.2.2.1 hw0.2.2.2.2.1 hw0.2.2.2.2.2.2 (by omega) (i := 0) (Nat.zero_le _)) (va_cwS 2 hW (k_gS w_409 w_410 w_7 w_411) rfl rfl rfl (by decide +kernel) ⟨Nat.le_of_ble_eq_true rfl, Nat.le_of_ble_eq_true rfl⟩) (k_preS hM) rfl rfl hl.1 rfl (lv_room (Nat.le_of_ble_eq_true rfl)) dMD_take_19 ⟨(show 400 + 19 ≤ 419 by omega), (show 1200 + 442 ≤ 1642 by omega)⟩) hM (fun r μ3 H locs hp hM => ?_)
    obtain ⟨hOv, hcase⟩ := hp
    refine W.widen (k := 419) (n := 1642) (by omega) (by omega) ?_
    rcases hcase with ⟨rfl, hvn⟩ | ⟨vq, vna, vka, vNN, vM, vsa, vsv, vF, vv, rfl, hvs, hmv⟩
    · have htk := (tk_w hsp h9 hok0.1 hw0.2.2.2.2.2.1).trans hvn
      refine lv_goto (tgt := 26) hx hb dMD_take_22 (by decide) ?_
      refine lv_astore_nN (lv' := [(1, .null), (0, .ref ma)]) hx hb dMD_take_26 rfl hl (by decide) rfl (fun ls hl => ?_)
      refine lv_aload_nN hx hb dMD_take_27 rfl (lv_at hl 0 rfl) ?_
      refine lv_ifnonnullN hx hb dMD_take_28 ?_
      refine lv_bipush (v := (-4)) hx hb dMD_take_31 (by decide) ?_
      exact kr_i hx hb hr hlocks hM dMD_take_33 (⟨by rw [tkR_n htk], by rw [tkR_n htk]; exact ⟨hB, Nat.zero_le _, hcnt, ⟨_, _, (hOv _ _ gm)⟩, (hOv _ _ (hI.2.1 _ _ htp (km_apA htp hma) ntw)), ⟨_, (hOv _ _ gw)⟩, V, (hOv _ _ (hI.2.1 _ _ hli (km_apA hli hma) nlw)), (kLs_kp (kKp_old (kWD_kp hI hma (mvC_o (by decide)) hwd (mvC_n (by decide))) hOv) hLs)⟩, (kKp_old (kWD_kp hI hma (clsC_o (by decide)) hwd (clsC_a hty (Or.inr (Or.inl rfl)))) hOv)⟩)
    · have htk := (tk_w hsp h9 hok0.1 hw0.2.2.2.2.2.1).trans hvs
      refine lv_goto (tgt := 26) hx hb dMD_take_22 (by decide) ?_
      refine lv_astore_n (lv' := [(1, .ref vq), (0, .ref ma)]) hx hb dMD_take_26 rfl hl (by decide) rfl (fun ls hl => ?_)
      refine lv_aload_n hx hb dMD_take_27 rfl (lv_at hl 0 rfl) ?_
      refine lv_ifnonnull (tgt := 34) hx hb dMD_take_28 (by decide) ?_
      refine lv_aload_n hx hb dMD_take_34 rfl (lv_at hl 1 rfl) ?_
      refine k_get (own := RMD) (ref := RMD) (C := RMD) (T := TMD) (N := 7) (ci := 4) (v := .int (nI vs.length)) hx hb hW inMD hown hM (hOv _ _ gm) rfl 6 (by decide) (hW _ w_297) (fun _ h => h) rfl dMD_take_35 ?_
      refine lv_bipush (v := nI 12) hx hb dMD_take_38 (by decide) ?_
      refine lv_icmp_ne (tgt := 46) hx hb dMD_take_40 (by decide) (fun h40 => ?_) (fun h40 => ?_)
      · have h40 := (nJ_ne_t (a := vs.length) (b := 12) (by omega) (by omega)).mp h40
        refine lv_aload_n hx hb dMD_take_46 rfl (lv_at hl 1 rfl) ?_
        refine k_get (own := RMD) (ref := RMD) (C := RMD) (T := TMD) (N := 7) (ci := 4) (v := .ref li) hx hb hW inMD hown hM (hOv _ _ gm) rfl 5 (by decide) (hW _ w_296) (fun _ h => h) rfl dMD_take_47 ?_
        refine lv_aload_n hx hb dMD_take_50 rfl (lv_at hl 1 rfl) ?_
        refine k_get (own := RMD) (ref := RMD) (C := RMD) (T := TMD) (N := 7) (ci := 4) (v := .int (nI vs.length)) hx hb hW inMD hown hM (hOv _ _ gm) rfl 6 (by decide) (hW _ w_297) (fun _ h => h) rfl dMD_take_51 ?_
        refine lv_aload_n hx hb dMD_take_54 rfl (lv_at hl 0 rfl) ?_
        refine k_aast (i := vs.length) (f1 := va_up V vs.length (some vq)) hx hb hM 6 5 (hOv _ _ (hI.2.1 _ _ hli (km_apA hli hma) nlw)) rfl hmv.1 rfl (by omega) (by omega) rfl dMD_take_55 (fun H locs hM => ?_)
        have hM : kS g (km_up μ3 li (.inl (g.2.2.1 6, 12, .inr (.inr (.inr (.inr (va_up V vs.length (some vq)))))))) s H locs := hM
        refine lv_aload_n hx hb dMD_take_56 rfl (lv_at hl 1 rfl) ?_
        refine lv_dup hx hb dMD_take_57 rfl ?_
        refine k_get (own := RMD) (ref := RMD) (C := RMD) (T := TMD) (N := 7) (ci := 4) (v := .int (nI vs.length)) hx hb hW inMD hown hM ((km_n (km_apB (hOv _ _ gm) (hOv _ _ (hI.2.1 _ _ hli (km_apA hli hma) nlw)))).trans (hOv _ _ gm)) rfl 6 (by decide) (hW _ w_297) (fun _ h => h) rfl dMD_take_58 ?_
        refine lv_iconst (v := nI 1) hx hb dMD_take_61 (by decide) ?_
        refine lv_iadd hx hb dMD_take_62 ?_
        refine topi_eq (y := nI (vs.length + 1)) (nI_add vs.length 1) ?_
        refine k_put (own := RMD) (ref := RMD) (C := RMD) (T := TMD) (N := 7) (ci := 4) (v := .int (nI (vs.length + 1))) (ty := .int) (fs' := [.ref tp, .int (nI 0), .ref wd, .int (nI w), .int (nI 0), .ref li, .int (nI (vs.length + 1))]) hx hb hW inMD tyMD tyokMD nmokMD hown hM ((km_n (km_apB (hOv _ _ gm) (hOv _ _ (hI.2.1 _ _ hli (km_apA hli hma) nlw)))).trans (hOv _ _ gm)) rfl 6 (by decide) (hW _ w_297) (fun _ h => h) rfl (by decide +kernel) rfl rfl (Nat.le_of_ble_eq_true rfl) dMD_take_63 rfl (fun H locs hM => ?_)
        have hM : kS g (km_up (km_up μ3 li (.inl (g.2.2.1 6, 12, .inr (.inr (.inr (.inr (va_up V vs.length (some vq)))))))) ma (.inr (4, [.ref tp, .int (nI 0), .ref wd, .int (nI w), .int (nI 0), .ref li, .int (nI (vs.length + 1))]))) s H locs := hM
        refine lv_aload_n hx hb dMD_take_66 rfl (lv_at hl 1 rfl) ?_
        refine k_get (own := RMD) (ref := RMD) (C := RMD) (T := TMD) (N := 7) (ci := 4) (v := .int (nI (vs.length + 1))) hx hb hW inMD hown hM (km_s _ _ _) rfl 6 (by decide) (hW _ w_297) (fun _ h => h) rfl dMD_take_67 ?_
        refine lv_iconst (v := nI 1) hx hb dMD_take_70 (by decide) ?_
        refine lv_isub hx hb dMD_take_71 ?_
        refine topi_eq (y := nI vs.length) (pk_sub (a := vs.length + 1) (b := 1) (by omega)) ?_
        exact kr_i hx hb hr hlocks hM dMD_take_72 (⟨by rw [tkR_s htk h40], by rw [tkR_s htk h40]; exact ⟨hB, Nat.zero_le _, by rw [List.length_append]; show vs.length + 1 ≤ 12; omega, ⟨_, _, by rw [List.length_append]; exact (km_s _ _ _)⟩, ((km_n (km_apA (hOv _ _ (hI.2.1 _ _ htp (km_apA htp hma) ntw)) (hOv _ _ gm))).trans ((km_n (km_apN (hOv _ _ (hI.2.1 _ _ htp (km_apA htp hma) ntw)) (hOv _ _ (hI.2.1 _ _ hli (km_apA hli hma) nlw)) (by decide))).trans (hOv _ _ (hI.2.1 _ _ htp (km_apA htp hma) ntw)))), ⟨_, ((km_n (km_apA (hOv _ _ gw) (hOv _ _ gm))).trans ((km_n (Ne.symm nlw)).trans (hOv _ _ gw)))⟩, _, ((km_n (km_apA (hOv _ _ (hI.2.1 _ _ hli (km_apA hli hma) nlw)) (hOv _ _ gm))).trans (km_s _ _ _)), (kLs_add (kLs_kp (kKp_up (kKp_up (kKp_old (kWD_kp hI hma (mvC_o (by decide)) hwd (mvC_n (by decide))) hOv) hli (mvC_n (by decide))) hma (mvC_o (by decide))) hLs) (kMX_kp (kKp_up (kKp_up (kKp_r _) (hOv _ _ (hI.2.1 _ _ hli (km_apA hli hma) nlw)) (mvC_n (by decide))) (hOv _ _ gm) (mvC_o (by decide))) ⟨_, _, _, _, _, _, _, hmv⟩))⟩, (kKp_up (kKp_up (kKp_old (kWD_kp hI hma (clsC_o (by decide)) hwd (clsC_a hty (Or.inr (Or.inl rfl)))) hOv) hli (clsC_a hty (Or.inr (Or.inr rfl)))) hma (clsC_o (by decide)))⟩)
      · have h40 := (nJ_ne_f (a := vs.length) (b := 12) (by omega) (by omega)).mp h40
        refine lv_bipush (v := (-3)) hx hb dMD_take_43 (by decide) ?_
        exact kr_i hx hb hr hlocks hM dMD_take_45 (⟨by rw [tkR_f htk h40], by rw [tkR_f htk h40]; exact ⟨hB, Nat.zero_le _, hcnt, ⟨_, _, (hOv _ _ gm)⟩, (hOv _ _ (hI.2.1 _ _ htp (km_apA htp hma) ntw)), ⟨_, (hOv _ _ gw)⟩, V, (hOv _ _ (hI.2.1 _ _ hli (km_apA hli hma) nlw)), (kLs_kp (kKp_old (kWD_kp hI hma (mvC_o (by decide)) hwd (mvC_n (by decide))) hOv) hLs)⟩, (kKp_old (kWD_kp hI hma (clsC_o (by decide)) hwd (clsC_a hty (Or.inr (Or.inl rfl)))) hOv)⟩)
