set_option maxHeartbeats 800000 in
set_option maxRecDepth 100000 in
theorem mMV_init (l : Launch) (g : kG) (μ : km_M) {a : Nat} (ha : μ a = some (.inr (5, [.null, .null, .int (nI 0)]))) : Met l yMV_init (Cond.code yMV_init cMV_init 1 none :: Wd) ({ frames := 1, cells := 2, slots := 7, locals := 40 } : Room) (kPre g μ [.ref a]) (kQv g (fun (μ1 : km_M) => ∃ na ka, μ na = none ∧ μ ka = none ∧ ka ≠ na ∧ μ1 = km_up (km_up (km_up μ na (.inl (g.2.2.1 1, 3, .inl (fun j => nI ((fun _ => 0) j))))) a (.inr (5, [.ref na, .ref ka, .int (nI 0)]))) ka (.inl (g.2.2.1 5, 4, .inr (.inr (.inr (.inr (fun _ => none)))))))) 2 7 (kF g) := by
  refine k_met (by decide) (Nat.le_of_ble_eq_true rfl) ?_
  intro p e s m below meth c hx hb hr hlocks hml hown hnm hW ls hl H locs hM
  have hl : lv_has ls 1 [(0, .ref a)] := hl
  refine lv_aload_n hx hb dMV_init_0 rfl (lv_at hl 0 rfl) ?_
  refine W.objInit hx hb hown (hW _ w_416) (hW _ w_26) (hW _ w_27) rfl (by rw [hml]; exact hl.1) rfl dMV_init_1 (Nat.le_of_ble_eq_true rfl) (Nat.le_of_ble_eq_true rfl) ?_
  refine W.eq (g2 := F0 m 4 ls []) rfl ?_
  refine lv_aload_n hx hb dMV_init_4 rfl (lv_at hl 0 rfl) ?_
  refine lv_iconst (v := nI 3) hx hb dMV_init_5 (by decide) ?_
  refine k_newa (atype := .int) (a0 := (3, .inl (fun j => nI ((fun _ => 0) j)))) (N' := 3) hx hb (hW _ w_57) rfl hM 1 rfl (fun cA => kz_n rfl cA _) (by omega) (by decide) (show 0 + 1 ≤ 2 by omega) (show 0 + 3 ≤ 7 by omega) dMV_init_6 (fun q6 H hnq6 hM => ?_)
  have ne_a_q6 : a ≠ q6 := km_apF ha hnq6
  have hM : kS g (km_up μ q6 (.inl (g.2.2.1 1, 3, .inl (fun j => nI ((fun _ => 0) j))))) s H locs := hM
  refine W.widen (k := 1) (n := 3) (by omega) (by omega) ?_
  refine k_putF (own := RMV) (ref := RMV) (C := RMV) (T := TMV) (N := 3) (ci := 5) (v := .ref q6) (ty := .array .int) (fs' := [.ref q6, .null, .int (nI 0)]) hx hb hW inMV tyMV tyokMV nmokMV hown hM ((km_n ne_a_q6).trans ha) rfl 0 (by decide) (hW _ w_418) (fun _ h => h) rfl hnm rfl (by decide +kernel) rfl rfl (Nat.le_of_ble_eq_true rfl) dMV_init_8 rfl (fun H locs hM => ?_)
  have hM : kS g (km_up (km_up μ q6 (.inl (g.2.2.1 1, 3, .inl (fun j => nI ((fun _ => 0) j))))) a (.inr (5, [.ref q6, .null, .int (nI 0)]))) s H locs := hM
  refine lv_aload_n hx hb dMV_init_11 rfl (lv_at hl 0 rfl) ?_
  refine lv_iconst (v := nI 4) hx hb dMV_init_12 (by decide) ?_
  refine k_newq (own := RMV) (C := RST) (N' := 4) hx hb hown (hW _ w_417) (hM.2.1.2.2.2.2.2.2.2 _ (by decide)) hM 5 rfl (by omega) (show 1 + 1 ≤ 2 by omega) (show 3 + 4 ≤ 7 by omega) dMV_init_13 (fun q13 H hnq13 hM => ?_)
  have ne_a_q13 : a ≠ q13 := km_apF (km_s _ _ _) hnq13
  have ne_q6_q13 : q6 ≠ q13 := km_apF ((km_n (Ne.symm ne_a_q6)).trans (km_s _ _ _)) hnq13
  have hM : kS g (km_up (km_up (km_up μ q6 (.inl (g.2.2.1 1, 3, .inl (fun j => nI ((fun _ => 0) j))))) a (.inr (5, [.ref q6, .null, .int (nI 0)]))) q13 (.inl (g.2.2.1 5, 4, .inr (.inr (.inr (.inr (fun _ => none))))))) s H locs := hM
  refine W.widen (k := 2) (n := 7) (by omega) (by omega) ?_
  refine k_putF (own := RMV) (ref := RMV) (C := RMV) (T := TMV) (N := 3) (ci := 5) (v := .ref q13) (ty := .array (.object "java/lang/String")) (fs' := [.ref q6, .ref q13, .int (nI 0)]) hx hb hW inMV tyMV tyokMV nmokMV hown hM ((km_n ne_a_q13).trans (km_s _ _ _)) rfl 1 (by decide) (hW _ w_420) (fun _ h => h) rfl hnm rfl (by decide +kernel) rfl rfl (Nat.le_of_ble_eq_true rfl) dMV_init_16 rfl (fun H locs hM => ?_)
  have hM : kS g (km_up (km_up (km_up μ q6 (.inl (g.2.2.1 1, 3, .inl (fun j => nI ((fun _ => 0) j))))) a (.inr (5, [.ref q6, .ref q13, .int (nI 0)]))) q13 (.inl (g.2.2.1 5, 4, .inr (.inr (.inr (.inr (fun _ => none))))))) s H locs := kS_eq (km_u2 _ _ _ _ ne_a_q13) hM
  exact kr_v hx hb hr hlocks hM dMV_init_19 (⟨_, _, hnq6, (km_none (km_none hnq13).2).2, (km_none (km_none hnq13).2).1, rfl⟩)
set_option maxHeartbeats 800000 in
set_option maxRecDepth 100000 in
theorem mMR_init (l : Launch) (g : kG) (μ : km_M) {a : Nat} (ha : μ a = some (.inr (6, [.null, .null, .null, .int (nI 0)]))) : Met l yMR_init (Cond.code yMR_init cMR_init 1 none :: Wd) ({ frames := 1, cells := 3, slots := 36, locals := 40 } : Room) (kPre g μ [.ref a]) (kQv g (fun (μ1 : km_M) => ∃ sg0 ve ts, μ sg0 = none ∧ μ ve = none ∧ μ ts = none ∧ ve ≠ sg0 ∧ ts ≠ sg0 ∧ ts ≠ ve ∧ μ1 = km_up (km_up (km_up (km_up μ sg0 (.inl (g.2.2.1 1, 16, .inl (fun j => nI ((fun _ => 0) j))))) a (.inr (6, [.ref sg0, .ref ve, .ref ts, .int (nI 0)]))) ve (.inl (g.2.2.1 6, 16, .inr (.inr (.inr (.inr (fun _ => none))))))) ts (.inl (g.2.2.1 1, 4, .inl (fun j => nI ((fun _ => 0) j)))))) 3 36 (kF g) := by
  refine k_met (by decide) (Nat.le_of_ble_eq_true rfl) ?_
  intro p e s m below meth c hx hb hr hlocks hml hown hnm hW ls hl H locs hM
  have hl : lv_has ls 1 [(0, .ref a)] := hl
  refine lv_aload_n hx hb dMR_init_0 rfl (lv_at hl 0 rfl) ?_
  refine W.objInit hx hb hown (hW _ w_560) (hW _ w_26) (hW _ w_27) rfl (by rw [hml]; exact hl.1) rfl dMR_init_1 (Nat.le_of_ble_eq_true rfl) (Nat.le_of_ble_eq_true rfl) ?_
  refine W.eq (g2 := F0 m 4 ls []) rfl ?_
  refine lv_aload_n hx hb dMR_init_4 rfl (lv_at hl 0 rfl) ?_
  refine lv_bipush (v := nI 16) hx hb dMR_init_5 (by decide) ?_
  refine k_newa (atype := .int) (a0 := (16, .inl (fun j => nI ((fun _ => 0) j)))) (N' := 16) hx hb (hW _ w_57) rfl hM 1 rfl (fun cA => kz_n rfl cA _) (by omega) (by decide) (show 0 + 1 ≤ 3 by omega) (show 0 + 16 ≤ 36 by omega) dMR_init_7 (fun q7 H hnq7 hM => ?_)
  have ne_a_q7 : a ≠ q7 := km_apF ha hnq7
  have hM : kS g (km_up μ q7 (.inl (g.2.2.1 1, 16, .inl (fun j => nI ((fun _ => 0) j))))) s H locs := hM
  refine W.widen (k := 1) (n := 16) (by omega) (by omega) ?_
  refine k_putF (own := RMR) (ref := RMR) (C := RMR) (T := TMR) (N := 4) (ci := 6) (v := .ref q7) (ty := .array .int) (fs' := [.ref q7, .null, .null, .int (nI 0)]) hx hb hW inMR tyMR tyokMR nmokMR hown hM ((km_n ne_a_q7).trans ha) rfl 0 (by decide) (hW _ w_562) (fun _ h => h) rfl hnm rfl (by decide +kernel) rfl rfl (Nat.le_of_ble_eq_true rfl) dMR_init_9 rfl (fun H locs hM => ?_)
  have hM : kS g (km_up (km_up μ q7 (.inl (g.2.2.1 1, 16, .inl (fun j => nI ((fun _ => 0) j))))) a (.inr (6, [.ref q7, .null, .null, .int (nI 0)]))) s H locs := hM
  refine lv_aload_n hx hb dMR_init_12 rfl (lv_at hl 0 rfl) ?_
  refine lv_bipush (v := nI 16) hx hb dMR_init_13 (by decide) ?_
  refine k_newq (own := RMR) (C := RMV) (N' := 16) hx hb hown (hW _ w_561) (hM.2.1.2.2.2.2.2.2.2 _ (by decide)) hM 6 rfl (by omega) (show 1 + 1 ≤ 3 by omega) (show 16 + 16 ≤ 36 by omega) dMR_init_15 (fun q15 H hnq15 hM => ?_)
  have ne_a_q15 : a ≠ q15 := km_apF (km_s _ _ _) hnq15
  have ne_q7_q15 : q7 ≠ q15 := km_apF ((km_n (Ne.symm ne_a_q7)).trans (km_s _ _ _)) hnq15
  have hM : kS g (km_up (km_up (km_up μ q7 (.inl (g.2.2.1 1, 16, .inl (fun j => nI ((fun _ => 0) j))))) a (.inr (6, [.ref q7, .null, .null, .int (nI 0)]))) q15 (.inl (g.2.2.1 6, 16, .inr (.inr (.inr (.inr (fun _ => none))))))) s H locs := hM
  refine W.widen (k := 2) (n := 32) (by omega) (by omega) ?_
  refine k_putF (own := RMR) (ref := RMR) (C := RMR) (T := TMR) (N := 4) (ci := 6) (v := .ref q15) (ty := .array (.object "VersionRangesModel$Version")) (fs' := [.ref q7, .ref q15, .null, .int (nI 0)]) hx hb hW inMR tyMR tyokMR nmokMR hown hM ((km_n ne_a_q15).trans (km_s _ _ _)) rfl 1 (by decide) (hW _ w_564) (fun _ h => h) rfl hnm rfl (by decide +kernel) rfl rfl (Nat.le_of_ble_eq_true rfl) dMR_init_18 rfl (fun H locs hM => ?_)
  have hM : kS g (km_up (km_up (km_up μ q7 (.inl (g.2.2.1 1, 16, .inl (fun j => nI ((fun _ => 0) j))))) a (.inr (6, [.ref q7, .ref q15, .null, .int (nI 0)]))) q15 (.inl (g.2.2.1 6, 16, .inr (.inr (.inr (.inr (fun _ => none))))))) s H locs := kS_eq (km_u2 _ _ _ _ ne_a_q15) hM
  refine lv_aload_n hx hb dMR_init_21 rfl (lv_at hl 0 rfl) ?_
  refine lv_iconst (v := nI 4) hx hb dMR_init_22 (by decide) ?_
  refine k_newa (atype := .int) (a0 := (4, .inl (fun j => nI ((fun _ => 0) j)))) (N' := 4) hx hb (hW _ w_57) rfl hM 1 rfl (fun cA => kz_n rfl cA _) (by omega) (by decide) (show 2 + 1 ≤ 3 by omega) (show 32 + 4 ≤ 36 by omega) dMR_init_23 (fun q23 H hnq23 hM => ?_)
  have ne_a_q23 : a ≠ q23 := km_apF ((km_n ne_a_q15).trans (km_s _ _ _)) hnq23
  have ne_q7_q23 : q7 ≠ q23 := km_apF ((km_n ne_q7_q15).trans ((km_n (Ne.symm ne_a_q7)).trans (km_s _ _ _))) hnq23
  have ne_q15_q23 : q15 ≠ q23 := km_apF (km_s _ _ _) hnq23
  have hM : kS g (km_up (km_up (km_up (km_up μ q7 (.inl (g.2.2.1 1, 16, .inl (fun j => nI ((fun _ => 0) j))))) a (.inr (6, [.ref q7, .ref q15, .null, .int (nI 0)]))) q15 (.inl (g.2.2.1 6, 16, .inr (.inr (.inr (.inr (fun _ => none))))))) q23 (.inl (g.2.2.1 1, 4, .inl (fun j => nI ((fun _ => 0) j))))) s H locs := hM
  refine W.widen (k := 3) (n := 36) (by omega) (by omega) ?_
  refine k_putF (own := RMR) (ref := RMR) (C := RMR) (T := TMR) (N := 4) (ci := 6) (v := .ref q23) (ty := .array .int) (fs' := [.ref q7, .ref q15, .ref q23, .int (nI 0)]) hx hb hW inMR tyMR tyokMR nmokMR hown hM ((km_n ne_a_q23).trans ((km_n ne_a_q15).trans (km_s _ _ _))) rfl 2 (by decide) (hW _ w_566) (fun _ h => h) rfl hnm rfl (by decide +kernel) rfl rfl (Nat.le_of_ble_eq_true rfl) dMR_init_25 rfl (fun H locs hM => ?_)
  have hM : kS g (km_up (km_up (km_up (km_up μ q7 (.inl (g.2.2.1 1, 16, .inl (fun j => nI ((fun _ => 0) j))))) a (.inr (6, [.ref q7, .ref q15, .ref q23, .int (nI 0)]))) q15 (.inl (g.2.2.1 6, 16, .inr (.inr (.inr (.inr (fun _ => none))))))) q23 (.inl (g.2.2.1 1, 4, .inl (fun j => nI ((fun _ => 0) j))))) s H locs := kS_eq (km_u3 _ _ _ _ _ ne_a_q15 ne_a_q23) hM
  exact kr_v hx hb hr hlocks hM dMR_init_28 (⟨_, _, _, hnq7, (km_none (km_none hnq15).2).2, (km_none (km_none (km_none hnq23).2).2).2, (km_none (km_none hnq15).2).1, (km_none (km_none (km_none hnq23).2).2).1, (km_none hnq23).1, rfl⟩)
set_option maxHeartbeats 800000 in
set_option maxRecDepth 100000 in
theorem mMD_init (l : Launch) (g : kG) (μ : km_M) {ma : Nat} (ha : μ ma = some (.inr (4, [.null, .int (nI 0), .null, .int (nI 0), .int (nI 0), .null, .int (nI 0)]))) : Met l yMD_init (Cond.code yMD_init cMD_init 1 none :: Wd) ({ frames := 1, cells := 3, slots := 812, locals := 40 } : Room) (kPre g μ [.ref ma]) (kQv g (fun (μ1 : km_M) => ∃ tp wd li, μ tp = none ∧ μ wd = none ∧ μ li = none ∧ wd ≠ tp ∧ li ≠ tp ∧ li ≠ wd ∧ μ1 = km_up (km_up (km_up (km_up μ tp (.inl (g.2.2.1 3, 400, .inl (fun j => nI ((fun _ => 0) j))))) ma (.inr (4, [.ref tp, .int (nI 0), .ref wd, .int (nI 0), .int (nI 0), .ref li, .int (nI 0)]))) wd (.inl (g.2.2.1 5, 400, .inr (.inr (.inr (.inr (fun _ => none))))))) li (.inl (g.2.2.1 6, 12, .inr (.inr (.inr (.inr (fun _ => none)))))))) 3 812 (kF g) := by
  refine k_met (by decide) (Nat.le_of_ble_eq_true rfl) ?_
  intro p e s m below meth c hx hb hr hlocks hml hown hnm hW ls hl H locs hM
  have hl : lv_has ls 1 [(0, .ref ma)] := hl
  refine lv_aload_n hx hb dMD_init_0 rfl (lv_at hl 0 rfl) ?_
  refine W.objInit hx hb hown (hW _ w_286) (hW _ w_26) (hW _ w_27) rfl (by rw [hml]; exact hl.1) rfl dMD_init_1 (Nat.le_of_ble_eq_true rfl) (Nat.le_of_ble_eq_true rfl) ?_
  refine W.eq (g2 := F0 m 4 ls []) rfl ?_
  refine lv_aload_n hx hb dMD_init_4 rfl (lv_at hl 0 rfl) ?_
  refine lv_sipush (v := nI 400) hx hb dMD_init_5 (by decide) ?_
  refine k_newa (atype := .char) (a0 := (400, .inl (fun j => nI ((fun _ => 0) j)))) (N' := 400) hx hb (hW _ w_313) rfl hM 3 rfl (fun cA => kz_n rfl cA _) (by omega) (by decide) (show 0 + 1 ≤ 3 by omega) (show 0 + 400 ≤ 812 by omega) dMD_init_8 (fun q8 H hnq8 hM => ?_)
  have ne_ma_q8 : ma ≠ q8 := km_apF ha hnq8
  have hM : kS g (km_up μ q8 (.inl (g.2.2.1 3, 400, .inl (fun j => nI ((fun _ => 0) j))))) s H locs := hM
  refine W.widen (k := 1) (n := 400) (by omega) (by omega) ?_
  refine k_putF (own := RMD) (ref := RMD) (C := RMD) (T := TMD) (N := 7) (ci := 4) (v := .ref q8) (ty := .array .char) (fs' := [.ref q8, .int (nI 0), .null, .int (nI 0), .int (nI 0), .null, .int (nI 0)]) hx hb hW inMD tyMD tyokMD nmokMD hown hM ((km_n ne_ma_q8).trans ha) rfl 0 (by decide) (hW _ w_291) (fun _ h => h) rfl hnm rfl (by decide +kernel) rfl rfl (Nat.le_of_ble_eq_true rfl) dMD_init_10 rfl (fun H locs hM => ?_)
  have hM : kS g (km_up (km_up μ q8 (.inl (g.2.2.1 3, 400, .inl (fun j => nI ((fun _ => 0) j))))) ma (.inr (4, [.ref q8, .int (nI 0), .null, .int (nI 0), .int (nI 0), .null, .int (nI 0)]))) s H locs := hM
  refine lv_aload_n hx hb dMD_init_13 rfl (lv_at hl 0 rfl) ?_
  refine lv_sipush (v := nI 400) hx hb dMD_init_14 (by decide) ?_
  refine k_newq (own := RMD) (C := RST) (N' := 400) hx hb hown (hW _ w_287) (hM.2.1.2.2.2.2.2.2.2 _ (by decide)) hM 5 rfl (by omega) (show 1 + 1 ≤ 3 by omega) (show 400 + 400 ≤ 812 by omega) dMD_init_17 (fun q17 H hnq17 hM => ?_)
  have ne_ma_q17 : ma ≠ q17 := km_apF (km_s _ _ _) hnq17
  have ne_q8_q17 : q8 ≠ q17 := km_apF ((km_n (Ne.symm ne_ma_q8)).trans (km_s _ _ _)) hnq17
  have hM : kS g (km_up (km_up (km_up μ q8 (.inl (g.2.2.1 3, 400, .inl (fun j => nI ((fun _ => 0) j))))) ma (.inr (4, [.ref q8, .int (nI 0), .null, .int (nI 0), .int (nI 0), .null, .int (nI 0)]))) q17 (.inl (g.2.2.1 5, 400, .inr (.inr (.inr (.inr (fun _ => none))))))) s H locs := hM
  refine W.widen (k := 2) (n := 800) (by omega) (by omega) ?_
  refine k_putF (own := RMD) (ref := RMD) (C := RMD) (T := TMD) (N := 7) (ci := 4) (v := .ref q17) (ty := .array (.object "java/lang/String")) (fs' := [.ref q8, .int (nI 0), .ref q17, .int (nI 0), .int (nI 0), .null, .int (nI 0)]) hx hb hW inMD tyMD tyokMD nmokMD hown hM ((km_n ne_ma_q17).trans (km_s _ _ _)) rfl 2 (by decide) (hW _ w_293) (fun _ h => h) rfl hnm rfl (by decide +kernel) rfl rfl (Nat.le_of_ble_eq_true rfl) dMD_init_20 rfl (fun H locs hM => ?_)
  have hM : kS g (km_up (km_up (km_up μ q8 (.inl (g.2.2.1 3, 400, .inl (fun j => nI ((fun _ => 0) j))))) ma (.inr (4, [.ref q8, .int (nI 0), .ref q17, .int (nI 0), .int (nI 0), .null, .int (nI 0)]))) q17 (.inl (g.2.2.1 5, 400, .inr (.inr (.inr (.inr (fun _ => none))))))) s H locs := kS_eq (km_u2 _ _ _ _ ne_ma_q17) hM
  refine lv_aload_n hx hb dMD_init_23 rfl (lv_at hl 0 rfl) ?_
  refine lv_bipush (v := nI 12) hx hb dMD_init_24 (by decide) ?_
  refine k_newq (own := RMD) (C := RMV) (N' := 12) hx hb hown (hW _ w_289) (hM.2.1.2.2.2.2.2.2.2 _ (by decide)) hM 6 rfl (by omega) (show 2 + 1 ≤ 3 by omega) (show 800 + 12 ≤ 812 by omega) dMD_init_26 (fun q26 H hnq26 hM => ?_)
  have ne_ma_q26 : ma ≠ q26 := km_apF ((km_n ne_ma_q17).trans (km_s _ _ _)) hnq26
  have ne_q8_q26 : q8 ≠ q26 := km_apF ((km_n ne_q8_q17).trans ((km_n (Ne.symm ne_ma_q8)).trans (km_s _ _ _))) hnq26
  have ne_q17_q26 : q17 ≠ q26 := km_apF (km_s _ _ _) hnq26
  have hM : kS g (km_up (km_up (km_up (km_up μ q8 (.inl (g.2.2.1 3, 400, .inl (fun j => nI ((fun _ => 0) j))))) ma (.inr (4, [.ref q8, .int (nI 0), .ref q17, .int (nI 0), .int (nI 0), .null, .int (nI 0)]))) q17 (.inl (g.2.2.1 5, 400, .inr (.inr (.inr (.inr (fun _ => none))))))) q26 (.inl (g.2.2.1 6, 12, .inr (.inr (.inr (.inr (fun _ => none))))))) s H locs := hM
  refine W.widen (k := 3) (n := 812) (by omega) (by omega) ?_
  refine k_putF (own := RMD) (ref := RMD) (C := RMD) (T := TMD) (N := 7) (ci := 4) (v := .ref q26) (ty := .array (.object "VersionRangesModel$Version")) (fs' := [.ref q8, .int (nI 0), .ref q17, .int (nI 0), .int (nI 0), .ref q26, .int (nI 0)]) hx hb hW inMD tyMD tyokMD nmokMD hown hM ((km_n ne_ma_q26).trans ((km_n ne_ma_q17).trans (km_s _ _ _))) rfl 5 (by decide) (hW _ w_296) (fun _ h => h) rfl hnm rfl (by decide +kernel) rfl rfl (Nat.le_of_ble_eq_true rfl) dMD_init_29 rfl (fun H locs hM => ?_)
  have hM : kS g (km_up (km_up (km_up (km_up μ q8 (.inl (g.2.2.1 3, 400, .inl (fun j => nI ((fun _ => 0) j))))) ma (.inr (4, [.ref q8, .int (nI 0), .ref q17, .int (nI 0), .int (nI 0), .ref q26, .int (nI 0)]))) q17 (.inl (g.2.2.1 5, 400, .inr (.inr (.inr (.inr (fun _ => none))))))) q26 (.inl (g.2.2.1 6, 12, .inr (.inr (.inr (.inr (fun _ => none))))))) s H locs := kS_eq (km_u3 _ _ _ _ _ ne_ma_q17 ne_ma_q26) hM
  exact kr_v hx hb hr hlocks hM dMD_init_32 (⟨_, _, _, hnq8, (km_none (km_none hnq17).2).2, (km_none (km_none (km_none hnq26).2).2).2, (km_none (km_none hnq17).2).1, (km_none (km_none (km_none hnq26).2).2).1, (km_none hnq26).1, rfl⟩)
