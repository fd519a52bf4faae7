theorem n3F_row {G : Nat → Int64} {q : Nat × Nat × Nat} : ∀ k, k < 7 → n3F G q k = n3F (fun _ => 0) q k := seven rfl rfl rfl rfl rfl rfl rfl
theorem vDot_le {B : Nat → Nat} {a z ch a1 : Nat} (h : vDot B a z ch = some a1) : a1 ≤ z := by
  unfold vDot at h
  split at h
  · rename_i h1
    cases h
    omega
  · cases h
theorem vVer_lt {B : Nat → Nat} {a z : Nat} {v : kVer} (haz : a ≤ z) (h : vVer B a z = some v) : v.1 < 1000000000 ∧ v.2.1 < 1000000000 ∧ v.2.2.1 < 1000000000 := by
  have h3 : ∃ q, vThree B a z = some q ∧ q.1 = v.1 ∧ q.2.1 = v.2.1 ∧ q.2.2.1 = v.2.2.1 := by
    cases ht : vThree B a z with
    | none => rw [vVer_n3 ht] at h; cases h
    | some q =>
      obtain ⟨x, y, w, a3⟩ := q
      by_cases hz : a3 = z
      · rw [vVer_s ht hz] at h
        cases h
        exact ⟨_, rfl, rfl, rfl, rfl⟩
      · cases hd : vDot B a3 z 45 with
        | none => rw [vVer_d ht hz hd] at h; cases h
        | some a4 =>
          rw [vVer_p ht hz hd] at h
          cases hp : vPre B z 4 a4 with
          | none => rw [hp] at h; cases h
          | some ms =>
            rw [hp] at h
            cases h
            exact ⟨_, rfl, rfl, rfl, rfl⟩
  obtain ⟨q, hq, e1, e2, e3⟩ := h3
  rw [← e1, ← e2, ← e3]
  unfold vThree at hq
  rcases vNum_cases B haz with ⟨n0, -⟩ | ⟨x, b1, n0, -, l0, -, p0⟩
  · rw [n0] at hq; cases hq
  rw [n0, Option.bind_some] at hq
  cases d0 : vDot B b1 z 46 with
  | none => simp only [d0, Option.bind_none] at hq; cases hq
  | some b2 =>
    simp only [d0, Option.bind_some] at hq
    rcases vNum_cases B (vDot_le d0) with ⟨n1, -⟩ | ⟨y, b3, n1, -, l1, -, p1⟩
    · rw [n1] at hq; cases hq
    rw [n1, Option.bind_some] at hq
    cases d1 : vDot B b3 z 46 with
    | none => simp only [d1, Option.bind_none] at hq; cases hq
    | some b4 =>
      simp only [d1, Option.bind_some] at hq
      rcases vNum_cases B (vDot_le d1) with ⟨n2, -⟩ | ⟨w, b5, n2, -, l2, -, p2⟩
      · rw [n2] at hq; cases hq
      rw [n2, Option.bind_some] at hq
      cases hq
      exact ⟨l0, l1, l2⟩
theorem km_none {μ : km_M} {a x : Nat} {e : va_E} (h : km_up μ a e x = none) : x ≠ a ∧ μ x = none := by
  by_cases hx : x = a
  · rw [hx, km_s] at h
    cases h
  · rw [km_n hx] at h
    exact ⟨hx, h⟩
set_option maxHeartbeats 800000 in
set_option maxRecDepth 100000 in
theorem mTP_init (l : Launch) (g : kG) (μ : km_M) {ta : Nat} (ht : μ ta = some (.inr (1, [.null, .null, .null, .int (nI 0), .int (nI 0), .int (nI 0)]))) : Met l yTP_init (Cond.code yTP_init cTP_init 1 none :: Wd) ({ frames := 1, cells := 3, slots := 800, locals := 40 } : Room) (kPre g μ [.ref ta]) (kQv g (fun (μ1 : km_M) => ∃ ba sa oa, μ ba = none ∧ μ sa = none ∧ μ oa = none ∧ sa ≠ ba ∧ oa ≠ ba ∧ oa ≠ sa ∧ μ1 = km_up (km_up (km_up (km_up μ ba (.inl (g.2.2.1 0, 400, .inl (fun j => sb ((fun _ => 0) j))))) ta (.inr (1, [.ref ba, .ref sa, .ref oa, .int (nI 0), .int (nI 0), .int (nI 0)]))) sa (.inl (g.2.2.1 1, 200, .inl (fun j => nI ((fun _ => 0) j))))) oa (.inl (g.2.2.1 1, 200, .inl (fun j => nI ((fun _ => 0) j)))))) 3 800 (kF g) := by
  refine k_met (by decide) (Nat.le_of_ble_eq_true rfl) ?_
  intro p e s m below meth c hx hb hr hlocks hml hown hnm hW ls hl H locs hM
  have hl : lv_has ls 1 [(0, .ref ta)] := hl
  refine lv_aload_n hx hb dTP_init_0 rfl (lv_at hl 0 rfl) ?_
  refine W.objInit hx hb hown (hW _ w_33) (hW _ w_26) (hW _ w_27) rfl (by rw [hml]; exact hl.1) rfl dTP_init_1 (Nat.le_of_ble_eq_true rfl) (Nat.le_of_ble_eq_true rfl) ?_
  refine W.eq (g2 := F0 m 4 ls []) rfl ?_
  refine lv_aload_n hx hb dTP_init_4 rfl (lv_at hl 0 rfl) ?_
  refine lv_sipush (v := nI 400) hx hb dTP_init_5 (by decide) ?_
  refine k_newa (atype := .byte) (a0 := (400, .inl (fun j => sb ((fun _ => 0) j)))) (N' := 400) hx hb (hW _ w_56) rfl hM 0 rfl (fun cA => kz_s cA _) (by omega) (by decide) (show 0 + 1 ≤ 3 by omega) (show 0 + 400 ≤ 800 by omega) dTP_init_8 (fun q8 H hnq8 hM => ?_)
  have ne_ta_q8 : ta ≠ q8 := km_apF ht hnq8
  have hM : kS g (km_up μ q8 (.inl (g.2.2.1 0, 400, .inl (fun j => sb ((fun _ => 0) j))))) s H locs := hM
  refine W.widen (k := 1) (n := 400) (by omega) (by omega) ?_
  refine k_putF (own := RTP) (ref := RTP) (C := RTP) (T := TTP) (N := 6) (ci := 1) (v := .ref q8) (ty := .array .byte) (fs' := [.ref q8, .null, .null, .int (nI 0), .int (nI 0), .int (nI 0)]) hx hb hW inTP tyTP tyokTP nmokTP hown hM ((km_n ne_ta_q8).trans ht) rfl 0 (by decide) (hW _ w_34) (fun _ h => h) rfl hnm rfl (by decide +kernel) rfl rfl (Nat.le_of_ble_eq_true rfl) dTP_init_10 rfl (fun H locs hM => ?_)
  have hM : kS g (km_up (km_up μ q8 (.inl (g.2.2.1 0, 400, .inl (fun j => sb ((fun _ => 0) j))))) ta (.inr (1, [.ref q8, .null, .null, .int (nI 0), .int (nI 0), .int (nI 0)]))) s H locs := hM
  refine lv_aload_n hx hb dTP_init_13 rfl (lv_at hl 0 rfl) ?_
  refine lv_sipush (v := nI 200) hx hb dTP_init_14 (by decide) ?_
  refine k_newa (atype := .int) (a0 := (200, .inl (fun j => nI ((fun _ => 0) j)))) (N' := 200) hx hb (hW _ w_57) rfl hM 1 rfl (fun cA => kz_n rfl cA _) (by omega) (by decide) (show 1 + 1 ≤ 3 by omega) (show 400 + 200 ≤ 800 by omega) dTP_init_17 (fun q17 H hnq17 hM => ?_)
  have ne_ta_q17 : ta ≠ q17 := km_apF (km_s _ _ _) hnq17
  have ne_q8_q17 : q8 ≠ q17 := km_apF ((km_n (Ne.symm ne_ta_q8)).trans (km_s _ _ _)) hnq17
  have hM : kS g (km_up (km_up (km_up μ q8 (.inl (g.2.2.1 0, 400, .inl (fun j => sb ((fun _ => 0) j))))) ta (.inr (1, [.ref q8, .null, .null, .int (nI 0), .int (nI 0), .int (nI 0)]))) q17 (.inl (g.2.2.1 1, 200, .inl (fun j => nI ((fun _ => 0) j))))) s H locs := hM
  refine W.widen (k := 2) (n := 600) (by omega) (by omega) ?_
  refine k_putF (own := RTP) (ref := RTP) (C := RTP) (T := TTP) (N := 6) (ci := 1) (v := .ref q17) (ty := .array .int) (fs' := [.ref q8, .ref q17, .null, .int (nI 0), .int (nI 0), .int (nI 0)]) hx hb hW inTP tyTP tyokTP nmokTP hown hM ((km_n ne_ta_q17).trans (km_s _ _ _)) rfl 1 (by decide) (hW _ w_35) (fun _ h => h) rfl hnm rfl (by decide +kernel) rfl rfl (Nat.le_of_ble_eq_true rfl) dTP_init_19 rfl (fun H locs hM => ?_)
  have hM : kS g (km_up (km_up (km_up μ q8 (.inl (g.2.2.1 0, 400, .inl (fun j => sb ((fun _ => 0) j))))) ta (.inr (1, [.ref q8, .ref q17, .null, .int (nI 0), .int (nI 0), .int (nI 0)]))) q17 (.inl (g.2.2.1 1, 200, .inl (fun j => nI ((fun _ => 0) j))))) s H locs := kS_eq (km_u2 _ _ _ _ ne_ta_q17) hM
  refine lv_aload_n hx hb dTP_init_22 rfl (lv_at hl 0 rfl) ?_
  refine lv_sipush (v := nI 200) hx hb dTP_init_23 (by decide) ?_
  refine k_newa (atype := .int) (a0 := (200, .inl (fun j => nI ((fun _ => 0) j)))) (N' := 200) hx hb (hW _ w_57) rfl hM 1 rfl (fun cA => kz_n rfl cA _) (by omega) (by decide) (show 2 + 1 ≤ 3 by omega) (show 600 + 200 ≤ 800 by omega) dTP_init_26 (fun q26 H hnq26 hM => ?_)
  have ne_ta_q26 : ta ≠ q26 := km_apF ((km_n ne_ta_q17).trans (km_s _ _ _)) hnq26
  have ne_q8_q26 : q8 ≠ q26 := km_apF ((km_n ne_q8_q17).trans ((km_n (Ne.symm ne_ta_q8)).trans (km_s _ _ _))) hnq26
  have ne_q17_q26 : q17 ≠ q26 := km_apF (km_s _ _ _) hnq26
  have hM : kS g (km_up (km_up (km_up (km_up μ q8 (.inl (g.2.2.1 0, 400, .inl (fun j => sb ((fun _ => 0) j))))) ta (.inr (1, [.ref q8, .ref q17, .null, .int (nI 0), .int (nI 0), .int (nI 0)]))) q17 (.inl (g.2.2.1 1, 200, .inl (fun j => nI ((fun _ => 0) j))))) q26 (.inl (g.2.2.1 1, 200, .inl (fun j => nI ((fun _ => 0) j))))) s H locs := hM
  refine W.widen (k := 3) (n := 800) (by omega) (by omega) ?_
  refine k_putF (own := RTP) (ref := RTP) (C := RTP) (T := TTP) (N := 6) (ci := 1) (v := .ref q26) (ty := .array .int) (fs' := [.ref q8, .ref q17, .ref q26, .int (nI 0), .int (nI 0), .int (nI 0)]) hx hb hW inTP tyTP tyokTP nmokTP hown hM ((km_n ne_ta_q26).trans ((km_n ne_ta_q17).trans (km_s _ _ _))) rfl 2 (by decide) (hW _ w_36) (fun _ h => h) rfl hnm rfl (by decide +kernel) rfl rfl (Nat.le_of_ble_eq_true rfl) dTP_init_28 rfl (fun H locs hM => ?_)
  have hM : kS g (km_up (km_up (km_up (km_up μ q8 (.inl (g.2.2.1 0, 400, .inl (fun j => sb ((fun _ => 0) j))))) ta (.inr (1, [.ref q8, .ref q17, .ref q26, .int (nI 0), .int (nI 0), .int (nI 0)]))) q17 (.inl (g.2.2.1 1, 200, .inl (fun j => nI ((fun _ => 0) j))))) q26 (.inl (g.2.2.1 1, 200, .inl (fun j => nI ((fun _ => 0) j))))) s H locs := kS_eq (km_u3 _ _ _ _ _ ne_ta_q17 ne_ta_q26) hM
  refine lv_aload_n hx hb dTP_init_31 rfl (lv_at hl 0 rfl) ?_
  refine lv_iconst (v := nI 0) hx hb dTP_init_32 (by decide) ?_
  refine k_put (own := RTP) (ref := RTP) (C := RTP) (T := TTP) (N := 6) (ci := 1) (v := .int (nI 0)) (ty := .int) (fs' := [.ref q8, .ref q17, .ref q26, .int (nI 0), .int (nI 0), .int (nI 0)]) hx hb hW inTP tyTP tyokTP nmokTP hown hM ((km_n ne_ta_q26).trans ((km_n ne_ta_q17).trans (km_s _ _ _))) rfl 3 (by decide) (hW _ w_37) (fun _ h => h) rfl (by decide +kernel) rfl rfl (Nat.le_of_ble_eq_true rfl) dTP_init_33 rfl (fun H locs hM => ?_)
  have hM : kS g (km_up (km_up (km_up (km_up μ q8 (.inl (g.2.2.1 0, 400, .inl (fun j => sb ((fun _ => 0) j))))) ta (.inr (1, [.ref q8, .ref q17, .ref q26, .int (nI 0), .int (nI 0), .int (nI 0)]))) q17 (.inl (g.2.2.1 1, 200, .inl (fun j => nI ((fun _ => 0) j))))) q26 (.inl (g.2.2.1 1, 200, .inl (fun j => nI ((fun _ => 0) j))))) s H locs := kS_eq (km_u3 _ _ _ _ _ ne_ta_q17 ne_ta_q26) hM
  refine lv_aload_n hx hb dTP_init_36 rfl (lv_at hl 0 rfl) ?_
  refine lv_iconst (v := nI 0) hx hb dTP_init_37 (by decide) ?_
  refine k_put (own := RTP) (ref := RTP) (C := RTP) (T := TTP) (N := 6) (ci := 1) (v := .int (nI 0)) (ty := .int) (fs' := [.ref q8, .ref q17, .ref q26, .int (nI 0), .int (nI 0), .int (nI 0)]) hx hb hW inTP tyTP tyokTP nmokTP hown hM ((km_n ne_ta_q26).trans ((km_n ne_ta_q17).trans (km_s _ _ _))) rfl 4 (by decide) (hW _ w_39) (fun _ h => h) rfl (by decide +kernel) rfl rfl (Nat.le_of_ble_eq_true rfl) dTP_init_38 rfl (fun H locs hM => ?_)
  have hM : kS g (km_up (km_up (km_up (km_up μ q8 (.inl (g.2.2.1 0, 400, .inl (fun j => sb ((fun _ => 0) j))))) ta (.inr (1, [.ref q8, .ref q17, .ref q26, .int (nI 0), .int (nI 0), .int (nI 0)]))) q17 (.inl (g.2.2.1 1, 200, .inl (fun j => nI ((fun _ => 0) j))))) q26 (.inl (g.2.2.1 1, 200, .inl (fun j => nI ((fun _ => 0) j))))) s H locs := kS_eq (km_u3 _ _ _ _ _ ne_ta_q17 ne_ta_q26) hM
  refine lv_aload_n hx hb dTP_init_41 rfl (lv_at hl 0 rfl) ?_
  refine lv_iconst (v := nI 0) hx hb dTP_init_42 (by decide) ?_
  refine k_put (own := RTP) (ref := RTP) (C := RTP) (T := TTP) (N := 6) (ci := 1) (v := .int (nI 0)) (ty := .int) (fs' := [.ref q8, .ref q17, .ref q26, .int (nI 0), .int (nI 0), .int (nI 0)]) hx hb hW inTP tyTP tyokTP nmokTP hown hM ((km_n ne_ta_q26).trans ((km_n ne_ta_q17).trans (km_s _ _ _))) rfl 5 (by decide) (hW _ w_41) (fun _ h => h) rfl (by decide +kernel) rfl rfl (Nat.le_of_ble_eq_true rfl) dTP_init_43 rfl (fun H locs hM => ?_)
  have hM : kS g (km_up (km_up (km_up (km_up μ q8 (.inl (g.2.2.1 0, 400, .inl (fun j => sb ((fun _ => 0) j))))) ta (.inr (1, [.ref q8, .ref q17, .ref q26, .int (nI 0), .int (nI 0), .int (nI 0)]))) q17 (.inl (g.2.2.1 1, 200, .inl (fun j => nI ((fun _ => 0) j))))) q26 (.inl (g.2.2.1 1, 200, .inl (fun j => nI ((fun _ => 0) j))))) s H locs := kS_eq (km_u3 _ _ _ _ _ ne_ta_q17 ne_ta_q26) hM
  exact kr_v hx hb hr hlocks hM dTP_init_46 (⟨_, _, _, hnq8, (km_none (km_none hnq17).2).2, (km_none (km_none (km_none hnq26).2).2).2, (km_none (km_none hnq17).2).1, (km_none (km_none (km_none hnq26).2).2).1, (km_none hnq26).1, rfl⟩)
set_option maxHeartbeats 800000 in
set_option maxRecDepth 100000 in
theorem mRT_holdsFor (l : Launch) (g : kG) (μ : km_M) {te bo co k : Nat} (hte : μ te = some (.inr (0, [.ref bo, .ref co, .ref (g.2.2.2.1 k)]))) (hk8 : k < 8) {br bp : Nat} {Fb : Nat → Int64} (hbo : μ bo = some (.inr (2, [.ref br, .int (nI bp)]))) (hbr : μ br = some (.inl (g.2.2.1 2, 7, .inr (.inl Fb)))) {cr cp : Nat} {Fc : Nat → Int64} (hco : μ co = some (.inr (2, [.ref cr, .int (nI cp)]))) (hcr : μ cr = some (.inl (g.2.2.1 2, 7, .inr (.inl Fc)))) {va ra pb : Nat} {F : Nat → Int64} (hv : μ va = some (.inr (2, [.ref ra, .int (nI pb)]))) (hr0 : μ ra = some (.inl (g.2.2.1 2, 7, .inr (.inl F)))) : Met l yRT_holdsFor (Cond.code yRT_holdsFor cRT_holdsFor 3 (some .boolean) :: Wd) ({ frames := 1, cells := 0, slots := 0, locals := 22 } : Room) (kPre g μ [.ref te, .ref va]) (kQi g (fun (r : Int32) (μ1 : km_M) => r = bI (decide (¬ enO k (oF F Fb 0 7) = 0 ∧ ((k = 6 ∨ k = 7) → ¬ 0 ≤ oF F Fc 0 7))) ∧ μ1 = μ)) 0 0 (kF g) := by
  refine k_met (by decide) (Nat.le_of_ble_eq_true rfl) ?_
  intro p e s m below meth c hx hb hr hlocks hml hown hnm hW ls hl H locs hM
  have hl : lv_has ls 3 [(0, .ref te), (1, .ref va)] := hl
  refine lv_aload_n hx hb dRT_holdsFor_0 rfl (lv_at hl 0 rfl) ?_
  refine k_get (own := RRT) (ref := RRT) (C := RRT) (T := TRT) (N := 3) (ci := 0) (v := .ref (g.2.2.2.1 k)) hx hb hW inRT hown hM hte rfl 2 (by decide) (hW _ w_86) (fun _ h => h) rfl dRT_holdsFor_1 ?_
  refine lv_aload_n hx hb dRT_holdsFor_4 rfl (lv_at hl 1 rfl) ?_
  refine lv_aload_n hx hb dRT_holdsFor_5 rfl (lv_at hl 0 rfl) ?_
  refine k_get (own := RRT) (ref := RRT) (C := RRT) (T := TRT) (N := 3) (ci := 0) (v := .ref bo) hx hb hW inRT hown hM hte rfl 0 (by decide) (hW _ w_84) (fun _ h => h) rfl dRT_holdsFor_6 ?_
  refine kc_i (va_runVN (C := RVE) (As := [.ref bo]) (b := va) (rest := [.ref (g.2.2.2.1 k)]) (Ts := Wd) ⟨hx, hb, hml, hown, hW⟩ (mVE_orderTo l g μ hv hr0 hbo hbr) ⟨(va_cnB 1 hW (k_gC w_201) rfl rfl rfl (hM.2.1.2.1 _ n_271) (hW _ w_3) (by decide +kernel) ⟨Nat.le_of_ble_eq_true rfl, Nat.le_of_ble_eq_true rfl⟩), hW _ w_200, hW _ p_15⟩ (k_preV (q := (RVE, TVE, 2)) hM hv rfl) rfl rfl hl.1 rfl (lv_room (Nat.le_of_ble_eq_true rfl)) dRT_holdsFor_9 ⟨Nat.zero_le _, Nat.zero_le _⟩) hM (fun r μ1 H locs hp hM => ?_)
  obtain ⟨rfl, hmu⟩ := hp
  rw [hmu] at hM
  refine kc_i (va_runVN (C := RSG) (As := [.int (oF F Fb 0 7)]) (b := g.2.2.2.1 k) (rest := []) (Ts := Wd) ⟨hx, hb, hml, hown, hW⟩ (mSG_hasOrder l g μ (i := k) (by first | assumption | omega) (x := oF F Fb 0 7)) ⟨(va_cnB 1 hW (k_gC w_276) rfl rfl rfl (hM.2.1.2.1 _ n_272) (hW _ w_6) (by decide +kernel) ⟨Nat.le_of_ble_eq_true rfl, Nat.le_of_ble_eq_true rfl⟩), hW _ w_274, hW _ p_25⟩ (k_preE hM (by first | assumption | omega)) rfl rfl hl.1 rfl (lv_room (Nat.le_of_ble_eq_true rfl)) dRT_holdsFor_12 ⟨Nat.zero_le _, Nat.zero_le _⟩) hM (fun r μ1 H locs hp hM => ?_)
  obtain ⟨rfl, hmu⟩ := hp
  rw [hmu] at hM
  refine lv_if_ne (tgt := 20) hx hb dRT_holdsFor_15 (by decide) (fun h15 => ?_) (fun h15 => ?_)
  · skip
    refine lv_aload_n hx hb dRT_holdsFor_20 rfl (lv_at hl 0 rfl) ?_
    refine k_get (own := RRT) (ref := RRT) (C := RRT) (T := TRT) (N := 3) (ci := 0) (v := .ref (g.2.2.2.1 k)) hx hb hW inRT hown hM hte rfl 2 (by decide) (hW _ w_86) (fun _ h => h) rfl dRT_holdsFor_21 ?_
    refine va_gets (C := "VersionRanges$Sign") (n := "CARET") (d := "LVersionRanges$Sign;") (v := .ref (g.2.2.2.1 6)) hx hb (hM.2.1.2.2.1.1 6 (by decide)).1 hM.2.2.2 hown (hW _ w_246) (fun _ h => h) dRT_holdsFor_24 ?_
    refine lv_acmp_eq (rx := some (g.2.2.2.1 k)) (ry := some (g.2.2.2.1 6)) (tgt := 40) hx hb dRT_holdsFor_27 (by decide) (fun h27 => ?_) (fun h27 => ?_)
    · have h27 := k_enum hM hk8 (by decide) h27
      refine lv_iconst (v := nI 1) hx hb dRT_holdsFor_40 (by decide) ?_
      refine lv_goto (tgt := 45) hx hb dRT_holdsFor_41 (by decide) ?_
      refine lv_istore_n (lv' := [(2, .int (nI 1)), (0, .ref te), (1, .ref va)]) hx hb dRT_holdsFor_45 rfl hl (by decide) rfl (fun ls hl => ?_)
      refine lv_iload_n hx hb dRT_holdsFor_46 rfl (lv_at hl 0 rfl) ?_
      refine lv_if_eq (tgt := 61) hx hb dRT_holdsFor_47 (by decide) (fun h => absurd h (by decide)) (fun _ => ?_)
      refine lv_aload_n hx hb dRT_holdsFor_50 rfl (lv_at hl 2 rfl) ?_
      refine lv_aload_n hx hb dRT_holdsFor_51 rfl (lv_at hl 1 rfl) ?_
      refine k_get (own := RRT) (ref := RRT) (C := RRT) (T := TRT) (N := 3) (ci := 0) (v := .ref co) hx hb hW inRT hown hM hte rfl 1 (by decide) (hW _ w_85) (fun _ h => h) rfl dRT_holdsFor_52 ?_
      refine kc_i (va_runVN (C := RVE) (As := [.ref co]) (b := va) (rest := []) (Ts := Wd) ⟨hx, hb, hml, hown, hW⟩ (mVE_orderTo l g μ hv hr0 hco hcr) ⟨(va_cnB 1 hW (k_gC w_201) rfl rfl rfl (hM.2.1.2.1 _ n_271) (hW _ w_3) (by decide +kernel) ⟨Nat.le_of_ble_eq_true rfl, Nat.le_of_ble_eq_true rfl⟩), hW _ w_200, hW _ p_15⟩ (k_preV (q := (RVE, TVE, 2)) hM hv rfl) rfl rfl hl.1 rfl (lv_room (Nat.le_of_ble_eq_true rfl)) dRT_holdsFor_55 ⟨Nat.zero_le _, Nat.zero_le _⟩) hM (fun r μ1 H locs hp hM => ?_)
      obtain ⟨rfl, hmu⟩ := hp
      rw [hmu] at hM
      refine lv_if_ge (tgt := 65) hx hb dRT_holdsFor_58 (by decide) (fun h58 => ?_) (fun h58 => ?_)
      · skip
        refine lv_iconst (v := nI 0) hx hb dRT_holdsFor_65 (by decide) ?_
        exact kr_z hx hb hr (by decide) hlocks hM dRT_holdsFor_66 (⟨by first | exact bI_t ⟨h15, fun _ => h58⟩ | exact bI_t ⟨h15, fun z => absurd z (by omega)⟩ | exact bI_f (fun z => z.1 h15) | exact bI_f (fun z => z.2 (Or.inl h27) h58) | exact bI_f (fun z => z.2 (Or.inr h37) h58), rfl⟩)
      · skip
        refine lv_iconst (v := nI 1) hx hb dRT_holdsFor_61 (by decide) ?_
        refine lv_goto (tgt := 66) hx hb dRT_holdsFor_62 (by decide) ?_
        exact kr_z hx hb hr (by decide) hlocks hM dRT_holdsFor_66 (⟨by first | exact bI_t ⟨h15, fun _ => h58⟩ | exact bI_t ⟨h15, fun z => absurd z (by omega)⟩ | exact bI_f (fun z => z.1 h15) | exact bI_f (fun z => z.2 (Or.inl h27) h58) | exact bI_f (fun z => z.2 (Or.inr h37) h58), rfl⟩)
    · have h27 : ¬ k = 6 := fun z => h27 (by rw [z])
      refine lv_aload_n hx hb dRT_holdsFor_30 rfl (lv_at hl 0 rfl) ?_
      refine k_get (own := RRT) (ref := RRT) (C := RRT) (T := TRT) (N := 3) (ci := 0) (v := .ref (g.2.2.2.1 k)) hx hb hW inRT hown hM hte rfl 2 (by decide) (hW _ w_86) (fun _ h => h) rfl dRT_holdsFor_31 ?_
      refine va_gets (C := "VersionRanges$Sign") (n := "TILDE") (d := "LVersionRanges$Sign;") (v := .ref (g.2.2.2.1 7)) hx hb (hM.2.1.2.2.1.1 7 (by decide)).1 hM.2.2.2 hown (hW _ w_248) (fun _ h => h) dRT_holdsFor_34 ?_
      refine lv_acmp_ne (rx := some (g.2.2.2.1 k)) (ry := some (g.2.2.2.1 7)) (tgt := 44) hx hb dRT_holdsFor_37 (by decide) (fun h37 => ?_) (fun h37 => ?_)
      · have h37 : ¬ k = 7 := fun z => h37 (by rw [z])
        refine lv_iconst (v := nI 0) hx hb dRT_holdsFor_44 (by decide) ?_
        refine lv_istore_n (lv' := [(2, .int (nI 0)), (0, .ref te), (1, .ref va)]) hx hb dRT_holdsFor_45 rfl hl (by decide) rfl (fun ls hl => ?_)
        refine lv_iload_n hx hb dRT_holdsFor_46 rfl (lv_at hl 0 rfl) ?_
        refine lv_if_eq (tgt := 61) hx hb dRT_holdsFor_47 (by decide) (fun _ => ?_) (fun h => absurd (by decide) h)
        refine lv_iconst (v := nI 1) hx hb dRT_holdsFor_61 (by decide) ?_
        refine lv_goto (tgt := 66) hx hb dRT_holdsFor_62 (by decide) ?_
        exact kr_z hx hb hr (by decide) hlocks hM dRT_holdsFor_66 (⟨by first | exact bI_t ⟨h15, fun _ => h58⟩ | exact bI_t ⟨h15, fun z => absurd z (by omega)⟩ | exact bI_f (fun z => z.1 h15) | exact bI_f (fun z => z.2 (Or.inl h27) h58) | exact bI_f (fun z => z.2 (Or.inr h37) h58), rfl⟩)
      · have h37 := k_enum hM hk8 (by decide) h37
        refine lv_iconst (v := nI 1) hx hb dRT_holdsFor_40 (by decide) ?_
        refine lv_goto (tgt := 45) hx hb dRT_holdsFor_41 (by decide) ?_
        refine lv_istore_n (lv' := [(2, .int (nI 1)), (0, .ref te), (1, .ref va)]) hx hb dRT_holdsFor_45 rfl hl (by decide) rfl (fun ls hl => ?_)
        refine lv_iload_n hx hb dRT_holdsFor_46 rfl (lv_at hl 0 rfl) ?_
        refine lv_if_eq (tgt := 61) hx hb dRT_holdsFor_47 (by decide) (fun h => absurd h (by decide)) (fun _ => ?_)
        refine lv_aload_n hx hb dRT_holdsFor_50 rfl (lv_at hl 2 rfl) ?_
        refine lv_aload_n hx hb dRT_holdsFor_51 rfl (lv_at hl 1 rfl) ?_
        refine k_get (own := RRT) (ref := RRT) (C := RRT) (T := TRT) (N := 3) (ci := 0) (v := .ref co) hx hb hW inRT hown hM hte rfl 1 (by decide) (hW _ w_85) (fun _ h => h) rfl dRT_holdsFor_52 ?_
        refine kc_i (va_runVN (C := RVE) (As := [.ref co]) (b := va) (rest := []) (Ts := Wd) ⟨hx, hb, hml, hown, hW⟩ (mVE_orderTo l g μ hv hr0 hco hcr) ⟨(va_cnB 1 hW (k_gC w_201) rfl rfl rfl (hM.2.1.2.1 _ n_271) (hW _ w_3) (by decide +kernel) ⟨Nat.le_of_ble_eq_true rfl, Nat.le_of_ble_eq_true rfl⟩), hW _ w_200, hW _ p_15⟩ (k_preV (q := (RVE, TVE, 2)) hM hv rfl) rfl rfl hl.1 rfl (lv_room (Nat.le_of_ble_eq_true rfl)) dRT_holdsFor_55 ⟨Nat.zero_le _, Nat.zero_le _⟩) hM (fun r μ1 H locs hp hM => ?_)
        obtain ⟨rfl, hmu⟩ := hp
        rw [hmu] at hM
        refine lv_if_ge (tgt := 65) hx hb dRT_holdsFor_58 (by decide) (fun h58 => ?_) (fun h58 => ?_)
        · skip
          refine lv_iconst (v := nI 0) hx hb dRT_holdsFor_65 (by decide) ?_
          exact kr_z hx hb hr (by decide) hlocks hM dRT_holdsFor_66 (⟨by first | exact bI_t ⟨h15, fun _ => h58⟩ | exact bI_t ⟨h15, fun z => absurd z (by omega)⟩ | exact bI_f (fun z => z.1 h15) | exact bI_f (fun z => z.2 (Or.inl h27) h58) | exact bI_f (fun z => z.2 (Or.inr h37) h58), rfl⟩)
        · skip
          refine lv_iconst (v := nI 1) hx hb dRT_holdsFor_61 (by decide) ?_
          refine lv_goto (tgt := 66) hx hb dRT_holdsFor_62 (by decide) ?_
          exact kr_z hx hb hr (by decide) hlocks hM dRT_holdsFor_66 (⟨by first | exact bI_t ⟨h15, fun _ => h58⟩ | exact bI_t ⟨h15, fun z => absurd z (by omega)⟩ | exact bI_f (fun z => z.1 h15) | exact bI_f (fun z => z.2 (Or.inl h27) h58) | exact bI_f (fun z => z.2 (Or.inr h37) h58), rfl⟩)
  · skip
    refine lv_iconst (v := nI 0) hx hb dRT_holdsFor_18 (by decide) ?_
    exact kr_z hx hb hr (by decide) hlocks hM dRT_holdsFor_19 (⟨by first | exact bI_t ⟨h15, fun _ => h58⟩ | exact bI_t ⟨h15, fun z => absurd z (by omega)⟩ | exact bI_f (fun z => z.1 h15) | exact bI_f (fun z => z.2 (Or.inl h27) h58) | exact bI_f (fun z => z.2 (Or.inr h37) h58), rfl⟩)
set_option maxHeartbeats 800000 in
set_option maxRecDepth 100000 in
theorem mRT_readFrom (l : Launch) (g : kG) (μ : km_M) {te bo co k : Nat} (hte : μ te = some (.inr (0, [.ref bo, .ref co, .ref (g.2.2.2.1 k)]))) (hk8 : k < 8) {br bp : Nat} {Fb : Nat → Int64} (hbo : μ bo = some (.inr (2, [.ref br, .int (nI bp)]))) (hbr : μ br = some (.inl (g.2.2.1 2, 7, .inr (.inl Fb)))) {cr cp : Nat} {Fc : Nat → Int64} (hco : μ co = some (.inr (2, [.ref cr, .int (nI cp)]))) (hcr : μ cr = some (.inl (g.2.2.1 2, 7, .inr (.inl Fc)))) (nbc : bo ≠ co) (nrc : br ≠ cr) {ta ba sa oa ln ai zi : Nat} (ht : μ ta = some (.inr (1, [.ref ba, .ref sa, .ref oa, .int (nI ln), .int (nI ai), .int (nI zi)]))) {B : Nat → Nat} (hB : ∀ k, B k < 256) (hb0 : μ ba = some (.inl (g.2.2.1 0, 400, .inl (fun j => sb (B j))))) (hai : ai ≤ zi) (hzi : zi ≤ 400) : Met l yRT_readFrom (Cond.code yRT_readFrom cRT_readFrom 2 (some .boolean) :: Wd) ({ frames := 4, cells := 0, slots := 0, locals := 93 } : Room) (kPre g μ [.ref te, .ref ta]) (kQi g (fun (r : Int32) (μ1 : km_M) => ∃ (k1 a9 bp1 cp1 : Nat) (F1 F2 : Nat → Int64), μ1 = km_up (km_up (km_up (km_up (km_up (km_up μ ta (.inr (1, [.ref ba, .ref sa, .ref oa, .int (nI ln), .int (nI a9), .int (nI zi)]))) te (.inr (0, [.ref bo, .ref co, .ref (g.2.2.2.1 k1)]))) br (.inl (g.2.2.1 2, 7, .inr (.inl F1)))) bo (.inr (2, [.ref br, .int (nI bp1)]))) cr (.inl (g.2.2.1 2, 7, .inr (.inl F2)))) co (.inr (2, [.ref cr, .int (nI cp1)])) ∧ k1 < 8 ∧ k1 = (sgP B ai zi).1 ∧ ((k1 = 0 ∧ r = bI (decide ((sgP B ai zi).2 = zi))) ∨ (¬ k1 = 0 ∧ vVer B (sgP B ai zi).2 zi = none ∧ r = nI 0) ∨ (∃ v, ¬ k1 = 0 ∧ vVer B (sgP B ai zi).2 zi = some v ∧ r = nI 1 ∧ (∀ k, k < 7 → F1 k = rowOf v k) ∧ ∀ k, k < 7 → F2 k = n3F (fun _ => 0) (ceT k1 v.1 v.2.1 v.2.2.1) k)))) 0 0 (kF g) := by
  refine k_met (by decide) (Nat.le_of_ble_eq_true rfl) ?_
  intro p e s m below meth c hx hb hr hlocks hml hown hnm hW ls hl H locs hM
  have hl : lv_has ls 2 [(0, .ref te), (1, .ref ta)] := hl
  refine lv_aload_n hx hb dRT_readFrom_0 rfl (lv_at hl 0 rfl) ?_
  refine lv_aload_n hx hb dRT_readFrom_1 rfl (lv_at hl 1 rfl) ?_
  refine kc_r (va_runS (As := [.ref ta]) (rest := [.ref te]) (Ts := Wd) ⟨hx, hb, hml, hown, hW⟩ (mRT_readSign l g μ ht hB hb0 hai hzi) (va_cwS 1 hW (k_gS w_234 w_235 w_4 w_236) rfl rfl rfl (by decide +kernel) ⟨Nat.le_of_ble_eq_true rfl, Nat.le_of_ble_eq_true rfl⟩) (k_preS hM) rfl rfl hl.1 rfl (lv_room (Nat.le_of_ble_eq_true rfl)) dRT_readFrom_2 ⟨Nat.zero_le _, Nat.zero_le _⟩) hM (fun r μ1 H locs hp hM => ?_)
  obtain ⟨rfl, hmu⟩ := hp
  rw [hmu] at hM
  have hM : kS g (km_up μ ta (.inr (1, [.ref ba, .ref sa, .ref oa, .int (nI ln), .int (nI ((sgP B ai zi).2)), .int (nI zi)]))) s H locs := hM
  have hsb := sgP_b B hai
  generalize hsg : sgP B ai zi = sq at hM hsb ⊢
  obtain ⟨k1, a8⟩ := sq
  have hk1 : k1 < 8 := hsb.1
  have hle8 : a8 ≤ zi := hsb.2
  have hM : kS g (km_up μ ta (.inr (1, [.ref ba, .ref sa, .ref oa, .int (nI ln), .int (nI a8), .int (nI zi)]))) s H locs := hM
  refine k_put (own := RRT) (ref := RRT) (C := RRT) (T := TRT) (N := 3) (ci := 0) (v := .ref (g.2.2.2.1 k1)) (ty := .object "VersionRanges$Sign") (fs' := [.ref bo, .ref co, .ref (g.2.2.2.1 k1)]) hx hb hW inRT tyRT tyokRT nmokRT hown hM ((km_n (km_apC hte ht (by decide))).trans hte) rfl 2 (by decide) (hW _ w_86) (fun _ h => h) rfl (by decide +kernel) rfl rfl (Nat.le_of_ble_eq_true rfl) dRT_readFrom_5 rfl (fun H locs hM => ?_)
  have hM : kS g (km_up (km_up μ ta (.inr (1, [.ref ba, .ref sa, .ref oa, .int (nI ln), .int (nI a8), .int (nI zi)]))) te (.inr (0, [.ref bo, .ref co, .ref (g.2.2.2.1 k1)]))) s H locs := hM
  refine lv_aload_n hx hb dRT_readFrom_8 rfl (lv_at hl 0 rfl) ?_
  refine k_get (own := RRT) (ref := RRT) (C := RRT) (T := TRT) (N := 3) (ci := 0) (v := .ref (g.2.2.2.1 k1)) hx hb hW inRT hown hM (km_s _ _ _) rfl 2 (by decide) (hW _ w_86) (fun _ h => h) rfl dRT_readFrom_9 ?_
  refine va_gets (C := "VersionRanges$Sign") (n := "ALL") (d := "LVersionRanges$Sign;") (v := .ref (g.2.2.2.1 0)) hx hb (hM.2.1.2.2.1.1 0 (by decide)).1 hM.2.2.2 hown (hW _ w_82) (fun _ h => h) dRT_readFrom_12 ?_
  refine lv_acmp_ne (rx := some (g.2.2.2.1 k1)) (ry := some (g.2.2.2.1 0)) (tgt := 23) hx hb dRT_readFrom_15 (by decide) (fun h15 => ?_) (fun h15 => ?_)
  · have h15 : ¬ k1 = 0 := fun z => h15 (by rw [z])
    refine lv_aload_n hx hb dRT_readFrom_23 rfl (lv_at hl 0 rfl) ?_
    refine k_get (own := RRT) (ref := RRT) (C := RRT) (T := TRT) (N := 3) (ci := 0) (v := .ref bo) hx hb hW inRT hown hM (km_s _ _ _) rfl 0 (by decide) (hW _ w_84) (fun _ h => h) rfl dRT_readFrom_24 ?_
    refine lv_aload_n hx hb dRT_readFrom_27 rfl (lv_at hl 1 rfl) ?_
    refine kc_i (va_runVN (C := RVE) (As := [.ref ta]) (b := bo) (rest := []) (Ts := Wd) ⟨hx, hb, hml, hown, hW⟩ (mVE_readFrom l g (km_up (km_up μ ta (.inr (1, [.ref ba, .ref sa, .ref oa, .int (nI ln), .int (nI a8), .int (nI zi)]))) te (.inr (0, [.ref bo, .ref co, .ref (g.2.2.2.1 k1)]))) ((km_n (km_apC hbo hte (by decide))).trans ((km_n (km_apC hbo ht (by decide))).trans hbo)) ((km_n (km_apA hbr hte)).trans ((km_n (km_apA hbr ht)).trans hbr)) ((km_n (km_apC ht hte (by decide))).trans (km_s _ _ _)) hB ((km_n (km_apA hb0 hte)).trans ((km_n (km_apA hb0 ht)).trans hb0)) (by omega) (by omega)) ⟨(va_cnB 1 hW (k_gC w_145) rfl rfl rfl (hM.2.1.2.1 _ n_253) (hW _ w_3) (by decide +kernel) ⟨Nat.le_of_ble_eq_true rfl, Nat.le_of_ble_eq_true rfl⟩), hW _ w_144, hW _ p_5⟩ (k_preV (q := (RVE, TVE, 2)) hM ((km_n (km_apC hbo hte (by decide))).trans ((km_n (km_apC hbo ht (by decide))).trans hbo)) rfl) rfl rfl hl.1 rfl (lv_room (Nat.le_of_ble_eq_true rfl)) dRT_readFrom_28 ⟨Nat.zero_le _, Nat.zero_le _⟩) hM (fun r μ1 H locs hp hM => ?_)
    obtain ⟨F1, pb1, a1, hmu, hcase⟩ := hp
    subst hmu
    have hM : kS g (km_up (km_up (km_up (km_up (km_up μ ta (.inr (1, [.ref ba, .ref sa, .ref oa, .int (nI ln), .int (nI a8), .int (nI zi)]))) te (.inr (0, [.ref bo, .ref co, .ref (g.2.2.2.1 k1)]))) ta (.inr (1, [.ref ba, .ref sa, .ref oa, .int (nI ln), .int (nI a1), .int (nI zi)]))) br (.inl (g.2.2.1 2, 7, .inr (.inl F1)))) bo (.inr (2, [.ref br, .int (nI pb1)]))) s H locs := hM
    have hM : kS g (km_up (km_up (km_up (km_up μ ta (.inr (1, [.ref ba, .ref sa, .ref oa, .int (nI ln), .int (nI a1), .int (nI zi)]))) te (.inr (0, [.ref bo, .ref co, .ref (g.2.2.2.1 k1)]))) br (.inl (g.2.2.1 2, 7, .inr (.inl F1)))) bo (.inr (2, [.ref br, .int (nI pb1)]))) s H locs := kS_eq (congrArg (fun z => km_up z bo (.inr (2, [.ref br, .int (nI pb1)]))) (congrArg (fun z => km_up z br (.inl (g.2.2.1 2, 7, .inr (.inl F1)))) (km_u2 _ _ _ _ (km_apC ht hte (by decide))))) hM
    rcases hcase with ⟨hp1, rfl⟩ | ⟨v1, hp1, rfl, hpb1, hF1⟩
    · skip
      refine lv_if_ne (tgt := 36) hx hb dRT_readFrom_31 (by decide) (fun h => absurd (by decide) h) (fun _ => ?_)
      refine lv_iconst (v := nI 0) hx hb dRT_readFrom_34 (by decide) ?_
      exact kr_z hx hb hr (by decide) hlocks hM dRT_readFrom_35 (⟨k1, _, _, _, _, _, (by rw [km_id ((km_n (km_apA hcr hbo)).trans ((km_n (Ne.symm nrc)).trans ((km_n (km_apA hcr hte)).trans ((km_n (km_apA hcr ht)).trans hcr)))), km_id ((km_n (Ne.symm nbc)).trans ((km_n (km_apB hco hbr)).trans ((km_n (km_apC hco hte (by decide))).trans ((km_n (km_apC hco ht (by decide))).trans hco))))]), hk1, rfl, Or.inr (Or.inl ⟨h15, hp1, rfl⟩)⟩)
    · skip
      refine lv_if_ne (tgt := 36) hx hb dRT_readFrom_31 (by decide) (fun _ => ?_) (fun h => absurd h (by decide))
      refine lv_aload_n hx hb dRT_readFrom_36 rfl (lv_at hl 0 rfl) ?_
      have hlt1 := vVer_lt (by omega) hp1
      refine kc_v (va_runV (C := RRT) (As := []) (b := te) (rest := []) (Ts := Wd) ⟨hx, hb, hml, hown, hW⟩ (mRT_setCeiling l g (km_up (km_up (km_up (km_up μ ta (.inr (1, [.ref ba, .ref sa, .ref oa, .int (nI ln), .int (nI a1), .int (nI zi)]))) te (.inr (0, [.ref bo, .ref co, .ref (g.2.2.2.1 k1)]))) br (.inl (g.2.2.1 2, 7, .inr (.inl F1)))) bo (.inr (2, [.ref br, .int (nI pb1)]))) ((km_n (km_apC hte hbo (by decide))).trans ((km_n (km_apB hte hbr)).trans (km_s _ _ _))) hk1 (km_s _ _ _) ((km_n (km_apA hbr hbo)).trans (km_s _ _ _)) ((km_n (Ne.symm nbc)).trans ((km_n (km_apB hco hbr)).trans ((km_n (km_apC hco hte (by decide))).trans ((km_n (km_apC hco ht (by decide))).trans hco)))) ((km_n (km_apA hcr hbo)).trans ((km_n (Ne.symm nrc)).trans ((km_n (km_apA hcr hte)).trans ((km_n (km_apA hcr ht)).trans hcr)))) nbc nrc (x := v1.1) (y := v1.2.1) (w := v1.2.2.1) (hF1 0 (by decide)) (hF1 1 (by decide)) (hF1 2 (by decide)) hlt1.1 hlt1.2.1 hlt1.2.2) (cwV 0 hW (k_gV w_254 w_256 p_21 w_4 w_257) rfl rfl rfl (by decide +kernel) ⟨Nat.le_of_ble_eq_true rfl, Nat.le_of_ble_eq_true rfl⟩) (k_preV (q := (RRT, TRT, 3)) hM ((km_n (km_apC hte hbo (by decide))).trans ((km_n (km_apB hte hbr)).trans (km_s _ _ _))) rfl) rfl rfl hl.1 rfl (lv_room (Nat.le_of_ble_eq_true rfl)) dRT_readFrom_37 ⟨Nat.zero_le _, Nat.zero_le _⟩) hM (fun μ1 H locs hp hM => ?_)
      rw [hp] at hM
      have hM : kS g (km_up (km_up (km_up (km_up (km_up (km_up μ ta (.inr (1, [.ref ba, .ref sa, .ref oa, .int (nI ln), .int (nI a1), .int (nI zi)]))) te (.inr (0, [.ref bo, .ref co, .ref (g.2.2.2.1 k1)]))) br (.inl (g.2.2.1 2, 7, .inr (.inl F1)))) bo (.inr (2, [.ref br, .int (nI pb1)]))) cr (.inl (g.2.2.1 2, 7, .inr (.inl (n3F Fc (ceT k1 v1.1 v1.2.1 v1.2.2.1)))))) co (.inr (2, [.ref cr, .int (nI 0)]))) s H locs := hM
      refine lv_iconst (v := nI 1) hx hb dRT_readFrom_40 (by decide) ?_
      exact kr_z hx hb hr (by decide) hlocks hM dRT_readFrom_41 (⟨k1, _, _, _, _, _, rfl, hk1, rfl, Or.inr (Or.inr ⟨v1, h15, hp1, rfl, hF1, n3F_row⟩)⟩)
  · have h15 := k_enum hM hk1 (by decide) h15
    refine lv_aload_n hx hb dRT_readFrom_18 rfl (lv_at hl 1 rfl) ?_
    refine kc_i (va_runVN (C := RTP) (As := []) (b := ta) (rest := []) (Ts := Wd) ⟨hx, hb, hml, hown, hW⟩ (mTP_isAtStop l g (km_up (km_up μ ta (.inr (1, [.ref ba, .ref sa, .ref oa, .int (nI ln), .int (nI a8), .int (nI zi)]))) te (.inr (0, [.ref bo, .ref co, .ref (g.2.2.2.1 k1)]))) ((km_n (km_apC ht hte (by decide))).trans (km_s _ _ _)) (by omega) (by omega)) ⟨(va_cnB 0 hW (k_gC w_170) rfl rfl rfl (hM.2.1.2.1 _ n_252) (hW _ w_2) (by decide +kernel) ⟨Nat.le_of_ble_eq_true rfl, Nat.le_of_ble_eq_true rfl⟩), hW _ w_169, hW _ p_10⟩ (k_preV (q := (RTP, TTP, 6)) hM ((km_n (km_apC ht hte (by decide))).trans (km_s _ _ _)) rfl) rfl rfl hl.1 rfl (lv_room (Nat.le_of_ble_eq_true rfl)) dRT_readFrom_19 ⟨Nat.zero_le _, Nat.zero_le _⟩) hM (fun r μ1 H locs hp hM => ?_)
    obtain ⟨rfl, hmu⟩ := hp
    rw [hmu] at hM
    rcases Decidable.em (a8 = zi) with hz2 | hz2
    · refine topi_eq (y := nI 1) (bI_t hz2).symm ?_
      exact kr_z hx hb hr (by decide) hlocks hM dRT_readFrom_22 (⟨k1, _, _, _, _, _, (by rw [km_id ((km_n (km_apA hbr hte)).trans ((km_n (km_apA hbr ht)).trans hbr)), km_id ((km_n (km_apC hbo hte (by decide))).trans ((km_n (km_apC hbo ht (by decide))).trans hbo)), km_id ((km_n (km_apA hcr hte)).trans ((km_n (km_apA hcr ht)).trans hcr)), km_id ((km_n (km_apC hco hte (by decide))).trans ((km_n (km_apC hco ht (by decide))).trans hco))]), hk1, rfl, Or.inl ⟨h15, bI_t hz2⟩⟩)
    · refine topi_eq (y := nI 0) (bI_f hz2).symm ?_
      exact kr_z hx hb hr (by decide) hlocks hM dRT_readFrom_22 (⟨k1, _, _, _, _, _, (by rw [km_id ((km_n (km_apA hbr hte)).trans ((km_n (km_apA hbr ht)).trans hbr)), km_id ((km_n (km_apC hbo hte (by decide))).trans ((km_n (km_apC hbo ht (by decide))).trans hbo)), km_id ((km_n (km_apA hcr hte)).trans ((km_n (km_apA hcr ht)).trans hcr)), km_id ((km_n (km_apC hco hte (by decide))).trans ((km_n (km_apC hco ht (by decide))).trans hco))]), hk1, rfl, Or.inl ⟨h15, bI_f hz2⟩⟩)
