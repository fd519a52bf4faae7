set_option maxHeartbeats 800000 in
set_option maxRecDepth 100000 in
theorem mRT_init (l : Launch) (g : kG) (μ : km_M) {te : Nat} (hte : μ te = some (.inr (0, [.null, .null, .null]))) : Met l yRT_init (Cond.code yRT_init cRT_init 1 none :: Wd) ({ frames := 2, cells := 4, slots := 18, locals := 60 } : Room) (kPre g μ [.ref te]) (kQv g (fun (μ1 : km_M) => ∃ bo br co er, μ bo = none ∧ μ br = none ∧ μ co = none ∧ μ er = none ∧ br ≠ bo ∧ co ≠ bo ∧ co ≠ br ∧ er ≠ bo ∧ er ≠ br ∧ er ≠ co ∧ μ1 = km_up (km_up (km_up (km_up (km_up μ bo (.inr (2, [.ref br, .int (nI 0)]))) br (.inl (g.2.2.1 2, 7, .inr (.inl (fun _ => 0))))) te (.inr (0, [.ref bo, .ref co, .ref (g.2.2.2.1 0)]))) co (.inr (2, [.ref er, .int (nI 0)]))) er (.inl (g.2.2.1 2, 7, .inr (.inl (fun _ => 0)))))) 4 18 (kF g) := by
  refine k_met (by decide) (Nat.le_of_ble_eq_true rfl) ?_
  intro p e s m below meth c hx hb hr hlocks hml hown hnm hW ls hl H locs hM
  have hl : lv_has ls 1 [(0, .ref te)] := hl
  refine lv_aload_n hx hb dRT_init_0 rfl (lv_at hl 0 rfl) ?_
  refine W.objInit hx hb hown (hW _ w_79) (hW _ w_26) (hW _ w_27) rfl (by rw [hml]; exact hl.1) rfl dRT_init_1 (Nat.le_of_ble_eq_true rfl) (Nat.le_of_ble_eq_true rfl) ?_
  refine W.eq (g2 := F0 m 4 ls []) rfl ?_
  refine lv_aload_n hx hb dRT_init_4 rfl (lv_at hl 0 rfl) ?_
  refine k_new (own := RRT) (C := RVE) (T := TVE) (N := 2) (ci := 2) (fs := [.null, .int (nI 0)]) hx hb hW inVE tyVE tyokVE hown (hW _ w_80) (hW _ w_60) (hW _ w_3) hM rfl (fun j hj => by rcases (show j = 0 ∨ j = 1 by omega) with rfl | rfl <;> rfl) (show 0 + 1 ≤ 4 by omega) (show 0 + 2 ≤ 18 by omega) dRT_init_5 (fun q5 H hnq5 hM => ?_)
  have ne_te_q5 : te ≠ q5 := km_apF hte hnq5
  have hM : kS g (km_up μ q5 (.inr (2, [.null, .int (nI 0)]))) s H locs := hM
  refine W.widen (k := 1) (n := 2) (by omega) (by omega) ?_
  refine lv_dup hx hb dRT_init_8 rfl ?_
  refine kc_v (va_runIN (As := []) (b := q5) (rest := [.ref q5, .ref te]) (Ts := Wd) ⟨hx, hb, hml, hown, hW⟩ (mVE_init l g (km_up μ q5 (.inr (2, [.null, .int (nI 0)]))) (km_s _ _ _)) ⟨(va_cnB 0 hW (k_gC w_63) rfl rfl rfl (hM.2.1.2.1 _ n_81) (hW _ w_3) (by decide +kernel) ⟨Nat.le_of_ble_eq_true rfl, Nat.le_of_ble_eq_true rfl⟩), rfl, hW _ w_62⟩ (k_preS hM) rfl rfl hl.1 rfl (lv_room (Nat.le_of_ble_eq_true rfl)) dRT_init_9 ⟨(show 1 + 1 ≤ 4 by omega), (show 2 + 7 ≤ 18 by omega)⟩) hM (fun μ1 H locs hp hM => ?_)
  obtain ⟨w1, hw1, hmu⟩ := hp
  subst hmu
  refine W.widen (k := 2) (n := 9) (by omega) (by omega) ?_
  have ne_te_w1 : te ≠ w1 := km_apF ((km_n ne_te_q5).trans hte) hw1
  have ne_q5_w1 : q5 ≠ w1 := km_apF (km_s _ _ _) hw1
  have hM : kS g (km_up (km_up (km_up μ q5 (.inr (2, [.null, .int (nI 0)]))) w1 (.inl (g.2.2.1 2, 7, .inr (.inl (fun _ => 0))))) q5 (.inr (2, [.ref w1, .int (nI 0)]))) s H locs := hM
  have hM : kS g (km_up (km_up μ q5 (.inr (2, [.ref w1, .int (nI 0)]))) w1 (.inl (g.2.2.1 2, 7, .inr (.inl (fun _ => 0))))) s H locs := kS_eq (km_u2 _ _ _ _ ne_q5_w1) hM
  refine k_putF (own := RRT) (ref := RRT) (C := RRT) (T := TRT) (N := 3) (ci := 0) (v := .ref q5) (ty := .object "VersionRanges$Version") (fs' := [.ref q5, .null, .null]) hx hb hW inRT tyRT tyokRT nmokRT hown hM ((km_n ne_te_w1).trans ((km_n ne_te_q5).trans hte)) rfl 0 (by decide) (hW _ w_84) (fun _ h => h) rfl hnm rfl (by decide +kernel) rfl rfl (Nat.le_of_ble_eq_true rfl) dRT_init_12 rfl (fun H locs hM => ?_)
  have hM : kS g (km_up (km_up (km_up μ q5 (.inr (2, [.ref w1, .int (nI 0)]))) w1 (.inl (g.2.2.1 2, 7, .inr (.inl (fun _ => 0))))) te (.inr (0, [.ref q5, .null, .null]))) s H locs := hM
  refine lv_aload_n hx hb dRT_init_15 rfl (lv_at hl 0 rfl) ?_
  refine k_new (own := RRT) (C := RVE) (T := TVE) (N := 2) (ci := 2) (fs := [.null, .int (nI 0)]) hx hb hW inVE tyVE tyokVE hown (hW _ w_80) (hW _ w_60) (hW _ w_3) hM rfl (fun j hj => by rcases (show j = 0 ∨ j = 1 by omega) with rfl | rfl <;> rfl) (show 2 + 1 ≤ 4 by omega) (show 9 + 2 ≤ 18 by omega) dRT_init_16 (fun q16 H hnq16 hM => ?_)
  have ne_te_q16 : te ≠ q16 := km_apF (km_s _ _ _) hnq16
  have ne_q5_q16 : q5 ≠ q16 := km_apF ((km_n (Ne.symm ne_te_q5)).trans ((km_n ne_q5_w1).trans (km_s _ _ _))) hnq16
  have ne_w1_q16 : w1 ≠ q16 := km_apF ((km_n (Ne.symm ne_te_w1)).trans (km_s _ _ _)) hnq16
  have hM : kS g (km_up (km_up (km_up (km_up μ q5 (.inr (2, [.ref w1, .int (nI 0)]))) w1 (.inl (g.2.2.1 2, 7, .inr (.inl (fun _ => 0))))) te (.inr (0, [.ref q5, .null, .null]))) q16 (.inr (2, [.null, .int (nI 0)]))) s H locs := hM
  refine W.widen (k := 3) (n := 11) (by omega) (by omega) ?_
  refine lv_dup hx hb dRT_init_19 rfl ?_
  refine kc_v (va_runIN (As := []) (b := q16) (rest := [.ref q16, .ref te]) (Ts := Wd) ⟨hx, hb, hml, hown, hW⟩ (mVE_init l g (km_up (km_up (km_up (km_up μ q5 (.inr (2, [.ref w1, .int (nI 0)]))) w1 (.inl (g.2.2.1 2, 7, .inr (.inl (fun _ => 0))))) te (.inr (0, [.ref q5, .null, .null]))) q16 (.inr (2, [.null, .int (nI 0)]))) (km_s _ _ _)) ⟨(va_cnB 0 hW (k_gC w_63) rfl rfl rfl (hM.2.1.2.1 _ n_81) (hW _ w_3) (by decide +kernel) ⟨Nat.le_of_ble_eq_true rfl, Nat.le_of_ble_eq_true rfl⟩), rfl, hW _ w_62⟩ (k_preS hM) rfl rfl hl.1 rfl (lv_room (Nat.le_of_ble_eq_true rfl)) dRT_init_20 ⟨(show 3 + 1 ≤ 4 by omega), (show 11 + 7 ≤ 18 by omega)⟩) hM (fun μ1 H locs hp hM => ?_)
  obtain ⟨w2, hw2, hmu⟩ := hp
  subst hmu
  refine W.widen (k := 4) (n := 18) (by omega) (by omega) ?_
  have ne_te_w2 : te ≠ w2 := km_apF ((km_n ne_te_q16).trans (km_s _ _ _)) hw2
  have ne_q5_w2 : q5 ≠ w2 := km_apF ((km_n ne_q5_q16).trans ((km_n (Ne.symm ne_te_q5)).trans ((km_n ne_q5_w1).trans (km_s _ _ _)))) hw2
  have ne_w1_w2 : w1 ≠ w2 := km_apF ((km_n ne_w1_q16).trans ((km_n (Ne.symm ne_te_w1)).trans (km_s _ _ _))) hw2
  have ne_q16_w2 : q16 ≠ w2 := km_apF (km_s _ _ _) hw2
  have hM : kS g (km_up (km_up (km_up (km_up (km_up (km_up μ q5 (.inr (2, [.ref w1, .int (nI 0)]))) w1 (.inl (g.2.2.1 2, 7, .inr (.inl (fun _ => 0))))) te (.inr (0, [.ref q5, .null, .null]))) q16 (.inr (2, [.null, .int (nI 0)]))) w2 (.inl (g.2.2.1 2, 7, .inr (.inl (fun _ => 0))))) q16 (.inr (2, [.ref w2, .int (nI 0)]))) s H locs := hM
  have hM : kS g (km_up (km_up (km_up (km_up (km_up μ q5 (.inr (2, [.ref w1, .int (nI 0)]))) w1 (.inl (g.2.2.1 2, 7, .inr (.inl (fun _ => 0))))) te (.inr (0, [.ref q5, .null, .null]))) q16 (.inr (2, [.ref w2, .int (nI 0)]))) w2 (.inl (g.2.2.1 2, 7, .inr (.inl (fun _ => 0))))) s H locs := kS_eq (km_u2 _ _ _ _ ne_q16_w2) hM
  refine k_putF (own := RRT) (ref := RRT) (C := RRT) (T := TRT) (N := 3) (ci := 0) (v := .ref q16) (ty := .object "VersionRanges$Version") (fs' := [.ref q5, .ref q16, .null]) hx hb hW inRT tyRT tyokRT nmokRT hown hM ((km_n ne_te_w2).trans ((km_n ne_te_q16).trans (km_s _ _ _))) rfl 1 (by decide) (hW _ w_85) (fun _ h => h) rfl hnm rfl (by decide +kernel) rfl rfl (Nat.le_of_ble_eq_true rfl) dRT_init_23 rfl (fun H locs hM => ?_)
  have hM : kS g (km_up (km_up (km_up (km_up (km_up μ q5 (.inr (2, [.ref w1, .int (nI 0)]))) w1 (.inl (g.2.2.1 2, 7, .inr (.inl (fun _ => 0))))) te (.inr (0, [.ref q5, .ref q16, .null]))) q16 (.inr (2, [.ref w2, .int (nI 0)]))) w2 (.inl (g.2.2.1 2, 7, .inr (.inl (fun _ => 0))))) s H locs := kS_eq (km_u3 _ _ _ _ _ ne_te_q16 ne_te_w2) hM
  refine lv_aload_n hx hb dRT_init_26 rfl (lv_at hl 0 rfl) ?_
  refine va_gets (C := "VersionRanges$Sign") (n := "ALL") (d := "LVersionRanges$Sign;") (v := .ref (g.2.2.2.1 0)) hx hb (hM.2.1.2.2.1.1 0 (by decide)).1 hM.2.2.2 hown (hW _ w_82) (fun _ h => h) dRT_init_27 ?_
  refine k_put (own := RRT) (ref := RRT) (C := RRT) (T := TRT) (N := 3) (ci := 0) (v := .ref (g.2.2.2.1 0)) (ty := .object "VersionRanges$Sign") (fs' := [.ref q5, .ref q16, .ref (g.2.2.2.1 0)]) hx hb hW inRT tyRT tyokRT nmokRT hown hM ((km_n ne_te_w2).trans ((km_n ne_te_q16).trans (km_s _ _ _))) rfl 2 (by decide) (hW _ w_86) (fun _ h => h) rfl (by decide +kernel) rfl rfl (Nat.le_of_ble_eq_true rfl) dRT_init_30 rfl (fun H locs hM => ?_)
  have hM : kS g (km_up (km_up (km_up (km_up (km_up μ q5 (.inr (2, [.ref w1, .int (nI 0)]))) w1 (.inl (g.2.2.1 2, 7, .inr (.inl (fun _ => 0))))) te (.inr (0, [.ref q5, .ref q16, .ref (g.2.2.2.1 0)]))) q16 (.inr (2, [.ref w2, .int (nI 0)]))) w2 (.inl (g.2.2.1 2, 7, .inr (.inl (fun _ => 0))))) s H locs := kS_eq (km_u3 _ _ _ _ _ ne_te_q16 ne_te_w2) hM
  exact kr_v hx hb hr hlocks hM dRT_init_33 (⟨_, _, _, _, hnq5, (km_none hw1).2, (km_none (km_none (km_none hnq16).2).2).2, (km_none (km_none (km_none (km_none hw2).2).2).2).2, (km_none hw1).1, (km_none (km_none (km_none hnq16).2).2).1, (km_none (km_none hnq16).2).1, (km_none (km_none (km_none (km_none hw2).2).2).2).1, (km_none (km_none (km_none hw2).2).2).1, (km_none hw2).1, rfl⟩)
