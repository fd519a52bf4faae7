set_option maxHeartbeats 800000 in
set_option maxRecDepth 100000 in
theorem mVE_init (l : Launch) (g : kG) (μ : km_M) {va : Nat} (hv : μ va = some (.inr (2, [.null, .int (nI 0)]))) : Met l yVE_init (Cond.code yVE_init cVE_init 1 none :: Wd) ({ frames := 1, cells := 1, slots := 7, locals := 40 } : Room) (kPre g μ [.ref va]) (kQv g (fun (μ1 : km_M) => ∃ ra, μ ra = none ∧ μ1 = km_up (km_up μ ra (.inl (g.2.2.1 2, 7, .inr (.inl (fun _ => 0))))) va (.inr (2, [.ref ra, .int (nI 0)])))) 1 7 (kF g) := by
  refine k_met (by decide) (Nat.le_of_ble_eq_true rfl) ?_
  intro p e s m below meth c hx hb hr hlocks hml hown hnm hW ls hl H locs hM
  have hl : lv_has ls 1 [(0, .ref va)] := hl
  refine lv_aload_n hx hb dVE_init_0 rfl (lv_at hl 0 rfl) ?_
  refine W.objInit hx hb hown (hW _ w_64) (hW _ w_26) (hW _ w_27) rfl (by rw [hml]; exact hl.1) rfl dVE_init_1 (Nat.le_of_ble_eq_true rfl) (Nat.le_of_ble_eq_true rfl) ?_
  refine W.eq (g2 := F0 m 4 ls []) rfl ?_
  refine lv_aload_n hx hb dVE_init_4 rfl (lv_at hl 0 rfl) ?_
  refine lv_bipush (v := nI 7) hx hb dVE_init_5 (by decide) ?_
  refine k_newa (atype := .long) (a0 := (7, .inr (.inl (fun _ => 0)))) (N' := 7) hx hb (hW _ w_73) rfl hM 2 rfl (fun cA => rfl) (by omega) (by decide) (show 0 + 1 ≤ 1 by omega) (show 0 + 7 ≤ 7 by omega) dVE_init_7 (fun q7 H hnq7 hM => ?_)
  have ne_va_q7 : va ≠ q7 := km_apF hv hnq7
  have hM : kS g (km_up μ q7 (.inl (g.2.2.1 2, 7, .inr (.inl (fun _ => 0))))) s H locs := hM
  refine W.widen (k := 1) (n := 7) (by omega) (by omega) ?_
  refine k_putF (own := RVE) (ref := RVE) (C := RVE) (T := TVE) (N := 2) (ci := 2) (v := .ref q7) (ty := .array .long) (fs' := [.ref q7, .int (nI 0)]) hx hb hW inVE tyVE tyokVE nmokVE hown hM ((km_n ne_va_q7).trans hv) rfl 0 (by decide) (hW _ w_65) (fun _ h => h) rfl hnm rfl (by decide +kernel) rfl rfl (Nat.le_of_ble_eq_true rfl) dVE_init_9 rfl (fun H locs hM => ?_)
  have hM : kS g (km_up (km_up μ q7 (.inl (g.2.2.1 2, 7, .inr (.inl (fun _ => 0))))) va (.inr (2, [.ref q7, .int (nI 0)]))) s H locs := hM
  refine lv_aload_n hx hb dVE_init_12 rfl (lv_at hl 0 rfl) ?_
  refine lv_iconst (v := nI 0) hx hb dVE_init_13 (by decide) ?_
  refine k_put (own := RVE) (ref := RVE) (C := RVE) (T := TVE) (N := 2) (ci := 2) (v := .int (nI 0)) (ty := .int) (fs' := [.ref q7, .int (nI 0)]) hx hb hW inVE tyVE tyokVE nmokVE hown hM (km_s _ _ _) rfl 1 (by decide) (hW _ w_66) (fun _ h => h) rfl (by decide +kernel) rfl rfl (Nat.le_of_ble_eq_true rfl) dVE_init_14 rfl (fun H locs hM => ?_)
  have hM : kS g (km_up (km_up μ q7 (.inl (g.2.2.1 2, 7, .inr (.inl (fun _ => 0))))) va (.inr (2, [.ref q7, .int (nI 0)]))) s H locs := kS_eq (km_u1 _ _ _ _) hM
  exact kr_v hx hb hr hlocks hM dVE_init_17 (⟨_, hnq7, rfl⟩)
set_option maxHeartbeats 800000 in
set_option maxRecDepth 100000 in
theorem mVE_number (l : Launch) (g : kG) (μ : km_M) {va ra pb : Nat} {F : Nat → Int64} (hv : μ va = some (.inr (2, [.ref ra, .int (nI pb)]))) (hr0 : μ ra = some (.inl (g.2.2.1 2, 7, .inr (.inl F)))) {k : Nat} (hk : k < 7) : Met l yVE_number (Cond.code yVE_number cVE_number 2 (some .int) :: Wd) ({ frames := 0, cells := 0, slots := 0, locals := 0 } : Room) (kPre g μ [.ref va, .int (nI k)]) (kQi g (fun (r : Int32) (μ1 : km_M) => r = (F k).toInt32 ∧ μ1 = μ)) 0 0 (kF g) := by
  refine k_met (by decide) (Nat.le_of_ble_eq_true rfl) ?_
  intro p e s m below meth c hx hb hr hlocks hml hown hnm hW ls hl H locs hM
  have hl : lv_has ls 2 [(0, .ref va), (1, .int (nI k))] := hl
  refine lv_aload_n hx hb dVE_number_0 rfl (lv_at hl 0 rfl) ?_
  refine k_get (own := RVE) (ref := RVE) (C := RVE) (T := TVE) (N := 2) (ci := 2) (v := .ref ra) hx hb hW inVE hown hM hv rfl 0 (by decide) (hW _ w_65) (fun _ h => h) rfl dVE_number_1 ?_
  refine lv_iload_n hx hb dVE_number_4 rfl (lv_at hl 1 rfl) ?_
  refine k_lald (i := k) hx hb hM 2 hr0 rfl (by omega) (by omega) dVE_number_5 ?_
  refine lv_l2i (v := (F k).toInt32) hx hb dVE_number_6 rfl ?_
  exact kr_i hx hb hr hlocks hM dVE_number_7 (⟨by first | rfl | exact bI_t (by omega) | exact bI_f (by omega), rfl⟩)
set_option maxHeartbeats 800000 in
set_option maxRecDepth 100000 in
theorem mVE_dropPre (l : Launch) (g : kG) (μ : km_M) {va ra pb : Nat} {F : Nat → Int64} (hv : μ va = some (.inr (2, [.ref ra, .int (nI pb)]))) (hr0 : μ ra = some (.inl (g.2.2.1 2, 7, .inr (.inl F)))) : Met l yVE_dropPre (Cond.code yVE_dropPre cVE_dropPre 2 none :: Wd) ({ frames := 0, cells := 0, slots := 0, locals := 0 } : Room) (kPre g μ [.ref va]) (kQv g (fun (μ1 : km_M) => μ1 = km_up (km_up μ va (.inr (2, [.ref ra, .int (nI 0)]))) ra (.inl (g.2.2.1 2, 7, .inr (.inl (dpF F)))))) 0 0 (kF g) := by
  refine k_met (by decide) (Nat.le_of_ble_eq_true rfl) ?_
  intro p e s m below meth c hx hb hr hlocks hml hown hnm hW ls hl H locs hM
  have hl : lv_has ls 2 [(0, .ref va)] := hl
  refine lv_aload_n hx hb dVE_dropPre_0 rfl (lv_at hl 0 rfl) ?_
  refine lv_iconst (v := nI 0) hx hb dVE_dropPre_1 (by decide) ?_
  refine k_put (own := RVE) (ref := RVE) (C := RVE) (T := TVE) (N := 2) (ci := 2) (v := .int (nI 0)) (ty := .int) (fs' := [.ref ra, .int (nI 0)]) hx hb hW inVE tyVE tyokVE nmokVE hown hM hv rfl 1 (by decide) (hW _ w_66) (fun _ h => h) rfl (by decide +kernel) rfl rfl (Nat.le_of_ble_eq_true rfl) dVE_dropPre_2 rfl (fun H locs hM => ?_)
  have hM : kS g (km_up μ va (.inr (2, [.ref ra, .int (nI 0)]))) s H locs := hM
  refine lv_aload_n hx hb dVE_dropPre_5 rfl (lv_at hl 0 rfl) ?_
  refine k_get (own := RVE) (ref := RVE) (C := RVE) (T := TVE) (N := 2) (ci := 2) (v := .ref ra) hx hb hW inVE hown hM (km_s _ _ _) rfl 0 (by decide) (hW _ w_65) (fun _ h => h) rfl dVE_dropPre_6 ?_
  refine lv_iconst (v := nI 3) hx hb dVE_dropPre_9 (by decide) ?_
  refine lv_ldc2 (v := 9223372036854775807) hx hb hown (hW _ w_165) dVE_dropPre_10 ?_
  refine k_last (i := 3) (f1 := (vp_updL F 3 9223372036854775807)) hx hb hM 2 ((km_n (km_apA hr0 hv)).trans hr0) rfl (by omega) (by omega) rfl dVE_dropPre_13 (fun H locs hM => ?_)
  have hM : kS g (km_up (km_up μ va (.inr (2, [.ref ra, .int (nI 0)]))) ra (.inl (g.2.2.1 2, 7, .inr (.inl (vp_updL F 3 9223372036854775807))))) s H locs := hM
  refine lv_iconst (v := nI 1) hx hb dVE_dropPre_14 (by decide) ?_
  refine lv_istore_n (lv' := [(1, .int (nI 1)), (0, .ref va)]) hx hb dVE_dropPre_15 rfl hl (by decide) rfl (fun ls hl => ?_)
  refine lv_iload_n hx hb dVE_dropPre_16 rfl (lv_at hl 0 rfl) ?_
  refine lv_iconst (v := nI 4) hx hb dVE_dropPre_17 (by decide) ?_
  refine lv_icmp_ge (tgt := 38) hx hb dVE_dropPre_18 (by decide) (fun h => absurd h (by decide)) (fun _ => ?_)
  refine lv_aload_n hx hb dVE_dropPre_21 rfl (lv_at hl 1 rfl) ?_
  refine k_get (own := RVE) (ref := RVE) (C := RVE) (T := TVE) (N := 2) (ci := 2) (v := .ref ra) hx hb hW inVE hown hM ((km_n (km_apB hv hr0)).trans (km_s _ _ _)) rfl 0 (by decide) (hW _ w_65) (fun _ h => h) rfl dVE_dropPre_22 ?_
  refine lv_iconst (v := nI 3) hx hb dVE_dropPre_25 (by decide) ?_
  refine lv_iload_n hx hb dVE_dropPre_26 rfl (lv_at hl 0 rfl) ?_
  refine lv_iadd hx hb dVE_dropPre_27 ?_
  refine topi_eq (y := nI 4) (nI_add 3 1) ?_
  refine lv_ldc2 (v := (-1)) hx hb hown (hW _ w_166) dVE_dropPre_28 ?_
  refine k_last (i := 4) (f1 := (vp_updL (vp_updL F 3 9223372036854775807) 4 (-1))) hx hb hM 2 (km_s _ _ _) rfl (by omega) (by omega) rfl dVE_dropPre_31 (fun H locs hM => ?_)
  have hM : kS g (km_up (km_up μ va (.inr (2, [.ref ra, .int (nI 0)]))) ra (.inl (g.2.2.1 2, 7, .inr (.inl (vp_updL (vp_updL F 3 9223372036854775807) 4 (-1)))))) s H locs := kS_eq (km_u1 _ _ _ _) hM
  refine lv_iinc (v := nI 2) (lv' := [(1, .int (nI 2)), (0, .ref va)]) (k := 0) hx hb dVE_dropPre_32 hl rfl (by decide) (by decide) rfl (fun ls hl => ?_)
  refine lv_goto (tgt := 16) hx hb dVE_dropPre_35 (by decide) ?_
  refine lv_iload_n hx hb dVE_dropPre_16 rfl (lv_at hl 0 rfl) ?_
  refine lv_iconst (v := nI 4) hx hb dVE_dropPre_17 (by decide) ?_
  refine lv_icmp_ge (tgt := 38) hx hb dVE_dropPre_18 (by decide) (fun h => absurd h (by decide)) (fun _ => ?_)
  refine lv_aload_n hx hb dVE_dropPre_21 rfl (lv_at hl 1 rfl) ?_
  refine k_get (own := RVE) (ref := RVE) (C := RVE) (T := TVE) (N := 2) (ci := 2) (v := .ref ra) hx hb hW inVE hown hM ((km_n (km_apB hv hr0)).trans (km_s _ _ _)) rfl 0 (by decide) (hW _ w_65) (fun _ h => h) rfl dVE_dropPre_22 ?_
  refine lv_iconst (v := nI 3) hx hb dVE_dropPre_25 (by decide) ?_
  refine lv_iload_n hx hb dVE_dropPre_26 rfl (lv_at hl 0 rfl) ?_
  refine lv_iadd hx hb dVE_dropPre_27 ?_
  refine topi_eq (y := nI 5) (nI_add 3 2) ?_
  refine lv_ldc2 (v := (-1)) hx hb hown (hW _ w_166) dVE_dropPre_28 ?_
  refine k_last (i := 5) (f1 := (vp_updL (vp_updL (vp_updL F 3 9223372036854775807) 4 (-1)) 5 (-1))) hx hb hM 2 (km_s _ _ _) rfl (by omega) (by omega) rfl dVE_dropPre_31 (fun H locs hM => ?_)
  have hM : kS g (km_up (km_up μ va (.inr (2, [.ref ra, .int (nI 0)]))) ra (.inl (g.2.2.1 2, 7, .inr (.inl (vp_updL (vp_updL (vp_updL F 3 9223372036854775807) 4 (-1)) 5 (-1)))))) s H locs := kS_eq (km_u1 _ _ _ _) hM
  refine lv_iinc (v := nI 3) (lv' := [(1, .int (nI 3)), (0, .ref va)]) (k := 0) hx hb dVE_dropPre_32 hl rfl (by decide) (by decide) rfl (fun ls hl => ?_)
  refine lv_goto (tgt := 16) hx hb dVE_dropPre_35 (by decide) ?_
  refine lv_iload_n hx hb dVE_dropPre_16 rfl (lv_at hl 0 rfl) ?_
  refine lv_iconst (v := nI 4) hx hb dVE_dropPre_17 (by decide) ?_
  refine lv_icmp_ge (tgt := 38) hx hb dVE_dropPre_18 (by decide) (fun h => absurd h (by decide)) (fun _ => ?_)
  refine lv_aload_n hx hb dVE_dropPre_21 rfl (lv_at hl 1 rfl) ?_
  refine k_get (own := RVE) (ref := RVE) (C := RVE) (T := TVE) (N := 2) (ci := 2) (v := .ref ra) hx hb hW inVE hown hM ((km_n (km_apB hv hr0)).trans (km_s _ _ _)) rfl 0 (by decide) (hW _ w_65) (fun _ h => h) rfl dVE_dropPre_22 ?_
  refine lv_iconst (v := nI 3) hx hb dVE_dropPre_25 (by decide) ?_
  refine lv_iload_n hx hb dVE_dropPre_26 rfl (lv_at hl 0 rfl) ?_
  refine lv_iadd hx hb dVE_dropPre_27 ?_
  refine topi_eq (y := nI 6) (nI_add 3 3) ?_
  refine lv_ldc2 (v := (-1)) hx hb hown (hW _ w_166) dVE_dropPre_28 ?_
  refine k_last (i := 6) (f1 := (vp_updL (vp_updL (vp_updL (vp_updL F 3 9223372036854775807) 4 (-1)) 5 (-1)) 6 (-1))) hx hb hM 2 (km_s _ _ _) rfl (by omega) (by omega) rfl dVE_dropPre_31 (fun H locs hM => ?_)
  have hM : kS g (km_up (km_up μ va (.inr (2, [.ref ra, .int (nI 0)]))) ra (.inl (g.2.2.1 2, 7, .inr (.inl (vp_updL (vp_updL (vp_updL (vp_updL F 3 9223372036854775807) 4 (-1)) 5 (-1)) 6 (-1)))))) s H locs := kS_eq (km_u1 _ _ _ _) hM
  refine lv_iinc (v := nI 4) (lv' := [(1, .int (nI 4)), (0, .ref va)]) (k := 0) hx hb dVE_dropPre_32 hl rfl (by decide) (by decide) rfl (fun ls hl => ?_)
  refine lv_goto (tgt := 16) hx hb dVE_dropPre_35 (by decide) ?_
  refine lv_iload_n hx hb dVE_dropPre_16 rfl (lv_at hl 0 rfl) ?_
  refine lv_iconst (v := nI 4) hx hb dVE_dropPre_17 (by decide) ?_
  refine lv_icmp_ge (tgt := 38) hx hb dVE_dropPre_18 (by decide) (fun _ => ?_) (fun h => absurd (by decide) h)
  exact kr_v hx hb hr hlocks hM dVE_dropPre_38 rfl
set_option maxHeartbeats 800000 in
set_option maxRecDepth 100000 in
theorem mVE_setNumbers (l : Launch) (g : kG) (μ : km_M) {va ra pb : Nat} {F : Nat → Int64} (hv : μ va = some (.inr (2, [.ref ra, .int (nI pb)]))) (hr0 : μ ra = some (.inl (g.2.2.1 2, 7, .inr (.inl F)))) {x y z : Int64} : Met l yVE_setNumbers (Cond.code yVE_setNumbers cVE_setNumbers 7 none :: Wd) ({ frames := 1, cells := 0, slots := 0, locals := 21 } : Room) (kPre g μ [.ref va, .long x, .long y, .long z]) (kQv g (fun (μ1 : km_M) => μ1 = km_up (km_up μ ra (.inl (g.2.2.1 2, 7, .inr (.inl (dpF (vp_updL (vp_updL (vp_updL F 0 x) 1 y) 2 z)))))) va (.inr (2, [.ref ra, .int (nI 0)])))) 0 0 (kF g) := by
  refine k_met (by decide) (Nat.le_of_ble_eq_true rfl) ?_
  intro p e s m below meth c hx hb hr hlocks hml hown hnm hW ls hl H locs hM
  have hl : lv_has ls 7 [(0, .ref va), (1, .long x), (3, .long y), (5, .long z)] := hl
  refine lv_aload_n hx hb dVE_setNumbers_0 rfl (lv_at hl 0 rfl) ?_
  refine k_get (own := RVE) (ref := RVE) (C := RVE) (T := TVE) (N := 2) (ci := 2) (v := .ref ra) hx hb hW inVE hown hM hv rfl 0 (by decide) (hW _ w_65) (fun _ h => h) rfl dVE_setNumbers_1 ?_
  refine lv_iconst (v := nI 0) hx hb dVE_setNumbers_4 (by decide) ?_
  refine lv_lload_n hx hb dVE_setNumbers_5 rfl (lv_at hl 1 rfl) ?_
  refine k_last (i := 0) (f1 := (vp_updL F 0 x)) hx hb hM 2 hr0 rfl (by omega) (by omega) rfl dVE_setNumbers_6 (fun H locs hM => ?_)
  have hM : kS g (km_up μ ra (.inl (g.2.2.1 2, 7, .inr (.inl (vp_updL F 0 x))))) s H locs := hM
  refine lv_aload_n hx hb dVE_setNumbers_7 rfl (lv_at hl 0 rfl) ?_
  refine k_get (own := RVE) (ref := RVE) (C := RVE) (T := TVE) (N := 2) (ci := 2) (v := .ref ra) hx hb hW inVE hown hM ((km_n (km_apB hv hr0)).trans hv) rfl 0 (by decide) (hW _ w_65) (fun _ h => h) rfl dVE_setNumbers_8 ?_
  refine lv_iconst (v := nI 1) hx hb dVE_setNumbers_11 (by decide) ?_
  refine lv_lload_n hx hb dVE_setNumbers_12 rfl (lv_at hl 2 rfl) ?_
  refine k_last (i := 1) (f1 := (vp_updL (vp_updL F 0 x) 1 y)) hx hb hM 2 (km_s _ _ _) rfl (by omega) (by omega) rfl dVE_setNumbers_13 (fun H locs hM => ?_)
  have hM : kS g (km_up μ ra (.inl (g.2.2.1 2, 7, .inr (.inl (vp_updL (vp_updL F 0 x) 1 y))))) s H locs := kS_eq (km_u1 _ _ _ _) hM
  refine lv_aload_n hx hb dVE_setNumbers_14 rfl (lv_at hl 0 rfl) ?_
  refine k_get (own := RVE) (ref := RVE) (C := RVE) (T := TVE) (N := 2) (ci := 2) (v := .ref ra) hx hb hW inVE hown hM ((km_n (km_apB hv hr0)).trans hv) rfl 0 (by decide) (hW _ w_65) (fun _ h => h) rfl dVE_setNumbers_15 ?_
  refine lv_iconst (v := nI 2) hx hb dVE_setNumbers_18 (by decide) ?_
  refine lv_lload hx hb dVE_setNumbers_19 (lv_at hl 3 rfl) ?_
  refine k_last (i := 2) (f1 := (vp_updL (vp_updL (vp_updL F 0 x) 1 y) 2 z)) hx hb hM 2 (km_s _ _ _) rfl (by omega) (by omega) rfl dVE_setNumbers_21 (fun H locs hM => ?_)
  have hM : kS g (km_up μ ra (.inl (g.2.2.1 2, 7, .inr (.inl (vp_updL (vp_updL (vp_updL F 0 x) 1 y) 2 z))))) s H locs := kS_eq (km_u1 _ _ _ _) hM
  refine lv_aload_n hx hb dVE_setNumbers_22 rfl (lv_at hl 0 rfl) ?_
  refine kc_v (va_runV (C := RVE) (As := []) (b := va) (rest := []) (Ts := Wd) ⟨hx, hb, hml, hown, hW⟩ (mVE_dropPre l g (km_up μ ra (.inl (g.2.2.1 2, 7, .inr (.inl (vp_updL (vp_updL (vp_updL F 0 x) 1 y) 2 z))))) ((km_n (km_apB hv hr0)).trans hv) (km_s _ _ _)) (cwV 0 hW (k_gV w_161 w_163 p_9 w_3 w_164) rfl rfl rfl (by decide +kernel) ⟨Nat.le_of_ble_eq_true rfl, Nat.le_of_ble_eq_true rfl⟩) (k_preV (q := (RVE, TVE, 2)) hM ((km_n (km_apB hv hr0)).trans hv) rfl) rfl rfl hl.1 rfl (lv_room (Nat.le_of_ble_eq_true rfl)) dVE_setNumbers_23 ⟨Nat.zero_le _, Nat.zero_le _⟩) hM (fun μ1 H locs hp hM => ?_)
  rw [hp] at hM
  have hM : kS g (km_up (km_up (km_up μ ra (.inl (g.2.2.1 2, 7, .inr (.inl (vp_updL (vp_updL (vp_updL F 0 x) 1 y) 2 z))))) va (.inr (2, [.ref ra, .int (nI 0)]))) ra (.inl (g.2.2.1 2, 7, .inr (.inl (dpF (vp_updL (vp_updL (vp_updL F 0 x) 1 y) 2 z)))))) s H locs := hM
  have hM : kS g (km_up (km_up μ ra (.inl (g.2.2.1 2, 7, .inr (.inl (dpF (vp_updL (vp_updL (vp_updL F 0 x) 1 y) 2 z)))))) va (.inr (2, [.ref ra, .int (nI 0)]))) s H locs := kS_eq (km_u2 _ _ _ _ (km_apA hr0 hv)) hM
  exact kr_v hx hb hr hlocks hM dVE_setNumbers_26 rfl
set_option maxHeartbeats 800000 in
set_option maxRecDepth 100000 in
theorem mVE_orderTo (l : Launch) (g : kG) (μ : km_M) {va ra pb : Nat} {F : Nat → Int64} (hv : μ va = some (.inr (2, [.ref ra, .int (nI pb)]))) (hr0 : μ ra = some (.inl (g.2.2.1 2, 7, .inr (.inl F)))) {wa qa pc : Nat} {G : Nat → Int64} (hw : μ wa = some (.inr (2, [.ref qa, .int (nI pc)]))) (hq0 : μ qa = some (.inl (g.2.2.1 2, 7, .inr (.inl G)))) : Met l yVE_orderTo (Cond.code yVE_orderTo cVE_orderTo 3 (some .int) :: Wd) ({ frames := 0, cells := 0, slots := 0, locals := 0 } : Room) (kPre g μ [.ref va, .ref wa]) (kQi g (fun (r : Int32) (μ1 : km_M) => r = oF F G 0 7 ∧ μ1 = μ)) 0 0 (kF g) := by
  refine k_met (by decide) (Nat.le_of_ble_eq_true rfl) ?_
  intro p e s m below meth c hx hb hr hlocks hml hown hnm hW ls hl H locs hM
  have hl : lv_has ls 3 [(0, .ref va), (1, .ref wa)] := hl
  have cut2 : ∀ (n : Nat), ∀ (i : Nat) (k : Nat), k < n → i + k = 7 → oF F G 0 7 = oF F G i k → ∀ (ls : Array Slot) (H : Heap) (locs : List Loc), lv_has ls 3 [(0, .ref va), (1, .ref wa), (2, .int (nI i))] → kS g (μ) s H locs → W p l e ({ frames := 0, cells := 0, slots := 0, locals := 0 } : Room) s m [.ref va, .ref wa].toArray below meth c H locs 0 0 (MQ below (kQi g (fun (r : Int32) (μ1 : km_M) => r = oF F G 0 7 ∧ μ1 = μ)) [.ref va, .ref wa].toArray s 0 0 (kF g)) (F0 m 2 ls []) := by
    intro n
    induction n with
    | zero => intro i k hlt; exact absurd hlt (Nat.not_lt_zero _)
    | succ n ih =>
      intro i k hlt hi he ls H locs hl hM
      refine lv_iload_n hx hb dVE_orderTo_2 rfl (lv_at hl 2 rfl) ?_
      refine lv_aload_n hx hb dVE_orderTo_3 rfl (lv_at hl 0 rfl) ?_
      refine k_get (own := RVE) (ref := RVE) (C := RVE) (T := TVE) (N := 2) (ci := 2) (v := .ref ra) hx hb hW inVE hown hM hv rfl 0 (by decide) (hW _ w_65) (fun _ h => h) rfl dVE_orderTo_4 ?_
      refine k_alen hx hb hM 2 hr0 rfl dVE_orderTo_7 ?_
      refine lv_icmp_ge (tgt := 55) hx hb dVE_orderTo_8 (by decide) (fun h8 => ?_) (fun h8 => ?_)
      · have h8 := (nJ_ge_t (a := i) (b := 7) (by omega) (by omega)).mp h8
        obtain rfl : k = 0 := by omega
        refine lv_iconst (v := nI 0) hx hb dVE_orderTo_55 (by decide) ?_
        exact kr_i hx hb hr hlocks hM dVE_orderTo_56 (⟨he.symm, rfl⟩)
      · have h8 := (nJ_ge_f (a := i) (b := 7) (by omega) (by omega)).mp h8
        obtain ⟨k, rfl⟩ : ∃ q, k = q + 1 := ⟨k - 1, by omega⟩
        refine lv_aload_n hx hb dVE_orderTo_11 rfl (lv_at hl 0 rfl) ?_
        refine k_get (own := RVE) (ref := RVE) (C := RVE) (T := TVE) (N := 2) (ci := 2) (v := .ref ra) hx hb hW inVE hown hM hv rfl 0 (by decide) (hW _ w_65) (fun _ h => h) rfl dVE_orderTo_12 ?_
        refine lv_iload_n hx hb dVE_orderTo_15 rfl (lv_at hl 2 rfl) ?_
        refine k_lald (i := i) hx hb hM 2 hr0 rfl (by omega) (by omega) dVE_orderTo_16 ?_
        refine lv_aload_n hx hb dVE_orderTo_17 rfl (lv_at hl 1 rfl) ?_
        refine k_get (own := RVE) (ref := RVE) (C := RVE) (T := TVE) (N := 2) (ci := 2) (v := .ref qa) hx hb hW inVE hown hM hw rfl 0 (by decide) (hW _ w_65) (fun _ h => h) rfl dVE_orderTo_18 ?_
        refine lv_iload_n hx hb dVE_orderTo_21 rfl (lv_at hl 2 rfl) ?_
        refine k_lald (i := i) hx hb hM 2 hq0 rfl (by omega) (by omega) dVE_orderTo_22 ?_
        refine W.lcmp hx hb dVE_orderTo_23 ?_
        refine lv_if_eq (tgt := 49) hx hb dVE_orderTo_24 (by decide) (fun h24 => ?_) (fun h24 => ?_)
        · have h24 := lc_eq_t.mp h24
          refine lv_iinc (v := nI (i + 1)) (lv' := [(2, .int (nI (i + 1))), (0, .ref va), (1, .ref wa)]) (k := 2) hx hb dVE_orderTo_49 hl rfl (ii1 i) (by decide) rfl (fun ls hl => ?_)
          refine lv_goto (tgt := 2) hx hb dVE_orderTo_52 (by decide) ?_
          exact ih (i + 1) k (by omega) (by first | assumption | omega | exact rfl) (by exact he.trans (oF_eq h24)) ls H locs (lv_sub hl [1, 2, 0] rfl) hM
        · have h24 := lc_eq_f.mp h24
          refine lv_aload_n hx hb dVE_orderTo_27 rfl (lv_at hl 0 rfl) ?_
          refine k_get (own := RVE) (ref := RVE) (C := RVE) (T := TVE) (N := 2) (ci := 2) (v := .ref ra) hx hb hW inVE hown hM hv rfl 0 (by decide) (hW _ w_65) (fun _ h => h) rfl dVE_orderTo_28 ?_
          refine lv_iload_n hx hb dVE_orderTo_31 rfl (lv_at hl 2 rfl) ?_
          refine k_lald (i := i) hx hb hM 2 hr0 rfl (by omega) (by omega) dVE_orderTo_32 ?_
          refine lv_aload_n hx hb dVE_orderTo_33 rfl (lv_at hl 1 rfl) ?_
          refine k_get (own := RVE) (ref := RVE) (C := RVE) (T := TVE) (N := 2) (ci := 2) (v := .ref qa) hx hb hW inVE hown hM hw rfl 0 (by decide) (hW _ w_65) (fun _ h => h) rfl dVE_orderTo_34 ?_
          refine lv_iload_n hx hb dVE_orderTo_37 rfl (lv_at hl 2 rfl) ?_
          refine k_lald (i := i) hx hb hM 2 hq0 rfl (by omega) (by omega) dVE_orderTo_38 ?_
          refine W.lcmp hx hb dVE_orderTo_39 ?_
          refine lv_if_ge (tgt := 47) hx hb dVE_orderTo_40 (by decide) (fun h40 => ?_) (fun h40 => ?_)
          · have h40 := lc_ge_t.mp h40
            refine lv_iconst (v := nI 1) hx hb dVE_orderTo_47 (by decide) ?_
            exact kr_i hx hb hr hlocks hM dVE_orderTo_48 (⟨he.trans (oF_gt h24 h40) |>.symm, rfl⟩)
          · have h40 := lc_ge_f.mp h40
            refine lv_iconst (v := (-1)) hx hb dVE_orderTo_43 (by decide) ?_
            refine lv_goto (tgt := 48) hx hb dVE_orderTo_44 (by decide) ?_
            exact kr_i hx hb hr hlocks hM dVE_orderTo_48 (⟨he.trans (oF_lt h24 h40) |>.symm, rfl⟩)
  refine lv_iconst (v := nI 0) hx hb dVE_orderTo_0 (by decide) ?_
  refine lv_istore_n (lv' := [(2, .int (nI 0)), (0, .ref va), (1, .ref wa)]) hx hb dVE_orderTo_1 rfl hl (by decide) rfl (fun ls hl => ?_)
  exact cut2 _ 0 7 (Nat.lt_succ_self _) (by first | assumption | omega | exact rfl) (by rfl) ls H locs (lv_sub hl [1, 2, 0] rfl) hM
