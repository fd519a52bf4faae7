set_option maxHeartbeats 800000 in
set_option maxRecDepth 100000 in
theorem mMD_ends0 (l : Launch) (g : kG) (μ : km_M) {ma tp wd li tl ws at0 cnt : Nat} (hma : μ ma = some (.inr (4, [.ref tp, .int (nI tl), .ref wd, .int (nI ws), .int (nI at0), .ref li, .int (nI cnt)]))) (hat : at0 = ws) (hws : ws ≤ 400) : Met l yMD_ends (Cond.code yMD_ends cMD_ends 1 (some .boolean) :: Wd) ({ frames := 2, cells := 0, slots := 0, locals := 44 } : Room) (kPre g μ [.ref ma]) (kQi g (fun (r : Int32) (μ1 : km_M) => r = nI 1 ∧ μ1 = μ)) 0 0 (kF g) := by
  refine k_met (by decide) (Nat.le_of_ble_eq_true rfl) ?_
  intro p e s m below meth c hx hb hr hlocks hml hown hnm hW ls hl H locs hM
  have hl : lv_has ls 1 [(0, .ref ma)] := hl
  refine lv_aload_n hx hb dMD_ends_0 rfl (lv_at hl 0 rfl) ?_
  refine k_get (own := RMD) (ref := RMD) (C := RMD) (T := TMD) (N := 7) (ci := 4) (v := .int (nI at0)) hx hb hW inMD hown hM hma rfl 4 (by decide) (hW _ w_295) (fun _ h => h) rfl dMD_ends_1 ?_
  refine lv_aload_n hx hb dMD_ends_4 rfl (lv_at hl 0 rfl) ?_
  refine k_get (own := RMD) (ref := RMD) (C := RMD) (T := TMD) (N := 7) (ci := 4) (v := .int (nI ws)) hx hb hW inMD hown hM hma rfl 3 (by decide) (hW _ w_294) (fun _ h => h) rfl dMD_ends_5 ?_
  refine lv_icmp_eq (tgt := 47) hx hb dMD_ends_8 (by decide) (fun h8 => ?_) (fun h8 => ?_)
  · skip
    refine lv_iconst (v := nI 1) hx hb dMD_ends_47 (by decide) ?_
    refine lv_goto (tgt := 52) hx hb dMD_ends_48 (by decide) ?_
    exact kr_z hx hb hr (by decide) hlocks hM dMD_ends_52 (⟨rfl, rfl⟩)
  · exact absurd (congrArg nI hat) h8
set_option maxHeartbeats 800000 in
set_option maxRecDepth 100000 in
theorem mMD_ends (l : Launch) (g : kG) (μ : km_M) {ma tp wd li tl ws at0 cnt : Nat} (hma : μ ma = some (.inr (4, [.ref tp, .int (nI tl), .ref wd, .int (nI ws), .int (nI at0), .ref li, .int (nI cnt)]))) {M : Nat → Option Nat} (hwd : μ wd = some (.inl (g.2.2.1 5, 400, .inr (.inr (.inr (.inr M)))))) (hat : at0 < ws) (hws : ws ≤ 400) {a va n : Nat} {f : Nat → Nat} (hs : μ a = some (.inr (7, [.ref va, .int (nI 0), .int (nI 0), .int (nI 0)]))) (hv : μ va = some (.inl (g.2.2.1 0, n, .inl (fun j => sb (f j))))) (hf : ∀ k, f k < 256) (hn : n ≤ 400) (hM0 : M at0 = some a) : Met l yMD_ends (Cond.code yMD_ends cMD_ends 1 (some .boolean) :: Wd) ({ frames := 2, cells := 0, slots := 0, locals := 44 } : Room) (kPre g μ [.ref ma]) (kQi g (fun (r : Int32) (μ1 : km_M) => μ1 = μ ∧ (((eqP f n 1 ∨ eqP f n 2 ∨ eqP f n 3) ∧ r = nI 1) ∨ (¬ (eqP f n 1 ∨ eqP f n 2 ∨ eqP f n 3) ∧ r = nI 0)))) 0 0 (kF g) := by
  refine k_met (by decide) (Nat.le_of_ble_eq_true rfl) ?_
  intro p e s m below meth c hx hb hr hlocks hml hown hnm hW ls hl H locs hM
  have hl : lv_has ls 1 [(0, .ref ma)] := hl
  refine lv_aload_n hx hb dMD_ends_0 rfl (lv_at hl 0 rfl) ?_
  refine k_get (own := RMD) (ref := RMD) (C := RMD) (T := TMD) (N := 7) (ci := 4) (v := .int (nI at0)) hx hb hW inMD hown hM hma rfl 4 (by decide) (hW _ w_295) (fun _ h => h) rfl dMD_ends_1 ?_
  refine lv_aload_n hx hb dMD_ends_4 rfl (lv_at hl 0 rfl) ?_
  refine k_get (own := RMD) (ref := RMD) (C := RMD) (T := TMD) (N := 7) (ci := 4) (v := .int (nI ws)) hx hb hW inMD hown hM hma rfl 3 (by decide) (hW _ w_294) (fun _ h => h) rfl dMD_ends_5 ?_
  refine lv_icmp_eq (tgt := 47) hx hb dMD_ends_8 (by decide) (fun h8 => ?_) (fun h8 => ?_)
  · exact absurd ((nJ_eq_t (a := at0) (b := ws) (by omega) (by omega)).mp h8) (by omega)
  · skip
    refine lv_aload_n hx hb dMD_ends_11 rfl (lv_at hl 0 rfl) ?_
    refine kc_r (va_runV (C := RMD) (As := []) (b := ma) (rest := []) (Ts := Wd) ⟨hx, hb, hml, hown, hW⟩ (mMD_here l g μ hma hwd hat hws hM0) (cwV 0 hW (k_gV w_582 w_584 p_31 w_7 w_585) rfl rfl rfl (by decide +kernel) ⟨Nat.le_of_ble_eq_true rfl, Nat.le_of_ble_eq_true rfl⟩) (k_preV (q := (RMD, TMD, 7)) hM hma rfl) rfl rfl hl.1 rfl (lv_room (Nat.le_of_ble_eq_true rfl)) dMD_ends_12 ⟨Nat.zero_le _, Nat.zero_le _⟩) hM (fun r μ1 H locs hp hM => ?_)
    obtain ⟨hra, hmu⟩ := hp
    rw [hmu] at hM
    have hra := hra.symm
    subst hra
    refine va_ldcS hx hb hown (hM.2.1.2.2.2.2.1 ("VersionRangesModel", 105, "needs", 1) (by decide +kernel)) dMD_ends_15 ?_
    refine kc_i (va_runV (C := RST) (As := [.ref (g.2.2.2.2.1 1)]) (b := a) (rest := []) (Ts := Wd) ⟨hx, hb, hml, hown, hW⟩ (mST_equals l g μ hs hv hf hn (i := 1) (by decide)) (cwV 1 hW (k_gV w_588 w_589 w_590 w_9 w_591) rfl rfl rfl (by decide +kernel) ⟨Nat.le_of_ble_eq_true rfl, Nat.le_of_ble_eq_true rfl⟩) (k_preV (q := (RST, TST, 4)) hM hs rfl) rfl rfl hl.1 rfl (lv_room (Nat.le_of_ble_eq_true rfl)) dMD_ends_17 ⟨Nat.zero_le _, Nat.zero_le _⟩) hM (fun r μ1 H locs hp hM => ?_)
    obtain ⟨hmu, hcase⟩ := hp
    rw [hmu] at hM
    rcases hcase with ⟨w1, rfl⟩ | ⟨w1, rfl⟩
    · skip
      refine lv_if_ne (tgt := 47) hx hb dMD_ends_20 (by decide) (fun _ => ?_) (fun h => absurd h (by decide))
      refine lv_iconst (v := nI 1) hx hb dMD_ends_47 (by decide) ?_
      refine lv_goto (tgt := 52) hx hb dMD_ends_48 (by decide) ?_
      exact kr_z hx hb hr (by decide) hlocks hM dMD_ends_52 (⟨rfl, Or.inl ⟨Or.inl w1, rfl⟩⟩)
    · skip
      refine lv_if_ne (tgt := 47) hx hb dMD_ends_20 (by decide) (fun h => absurd (by decide) h) (fun _ => ?_)
      refine lv_aload_n hx hb dMD_ends_23 rfl (lv_at hl 0 rfl) ?_
      refine kc_r (va_runV (C := RMD) (As := []) (b := ma) (rest := []) (Ts := Wd) ⟨hx, hb, hml, hown, hW⟩ (mMD_here l g μ hma hwd hat hws hM0) (cwV 0 hW (k_gV w_582 w_584 p_31 w_7 w_585) rfl rfl rfl (by decide +kernel) ⟨Nat.le_of_ble_eq_true rfl, Nat.le_of_ble_eq_true rfl⟩) (k_preV (q := (RMD, TMD, 7)) hM hma rfl) rfl rfl hl.1 rfl (lv_room (Nat.le_of_ble_eq_true rfl)) dMD_ends_24 ⟨Nat.zero_le _, Nat.zero_le _⟩) hM (fun r μ1 H locs hp hM => ?_)
      obtain ⟨hra, hmu⟩ := hp
      rw [hmu] at hM
      have hra := hra.symm
      subst hra
      refine va_ldcS hx hb hown (hM.2.1.2.2.2.2.1 ("VersionRangesModel", 111, "breaks", 2) (by decide +kernel)) dMD_ends_27 ?_
      refine kc_i (va_runV (C := RST) (As := [.ref (g.2.2.2.2.1 2)]) (b := a) (rest := []) (Ts := Wd) ⟨hx, hb, hml, hown, hW⟩ (mST_equals l g μ hs hv hf hn (i := 2) (by decide)) (cwV 1 hW (k_gV w_588 w_589 w_590 w_9 w_591) rfl rfl rfl (by decide +kernel) ⟨Nat.le_of_ble_eq_true rfl, Nat.le_of_ble_eq_true rfl⟩) (k_preV (q := (RST, TST, 4)) hM hs rfl) rfl rfl hl.1 rfl (lv_room (Nat.le_of_ble_eq_true rfl)) dMD_ends_29 ⟨Nat.zero_le _, Nat.zero_le _⟩) hM (fun r μ1 H locs hp hM => ?_)
      obtain ⟨hmu, hcase⟩ := hp
      rw [hmu] at hM
      rcases hcase with ⟨w2, rfl⟩ | ⟨w2, rfl⟩
      · skip
        refine lv_if_ne (tgt := 47) hx hb dMD_ends_32 (by decide) (fun _ => ?_) (fun h => absurd h (by decide))
        refine lv_iconst (v := nI 1) hx hb dMD_ends_47 (by decide) ?_
        refine lv_goto (tgt := 52) hx hb dMD_ends_48 (by decide) ?_
        exact kr_z hx hb hr (by decide) hlocks hM dMD_ends_52 (⟨rfl, Or.inl ⟨Or.inr (Or.inl w2), rfl⟩⟩)
      · skip
        refine lv_if_ne (tgt := 47) hx hb dMD_ends_32 (by decide) (fun h => absurd (by decide) h) (fun _ => ?_)
        refine lv_aload_n hx hb dMD_ends_35 rfl (lv_at hl 0 rfl) ?_
        refine kc_r (va_runV (C := RMD) (As := []) (b := ma) (rest := []) (Ts := Wd) ⟨hx, hb, hml, hown, hW⟩ (mMD_here l g μ hma hwd hat hws hM0) (cwV 0 hW (k_gV w_582 w_584 p_31 w_7 w_585) rfl rfl rfl (by decide +kernel) ⟨Nat.le_of_ble_eq_true rfl, Nat.le_of_ble_eq_true rfl⟩) (k_preV (q := (RMD, TMD, 7)) hM hma rfl) rfl rfl hl.1 rfl (lv_room (Nat.le_of_ble_eq_true rfl)) dMD_ends_36 ⟨Nat.zero_le _, Nat.zero_le _⟩) hM (fun r μ1 H locs hp hM => ?_)
        obtain ⟨hra, hmu⟩ := hp
        rw [hmu] at hM
        have hra := hra.symm
        subst hra
        refine va_ldcS hx hb hown (hM.2.1.2.2.2.2.1 ("VersionRangesModel", 113, "owns", 3) (by decide +kernel)) dMD_ends_39 ?_
        refine kc_i (va_runV (C := RST) (As := [.ref (g.2.2.2.2.1 3)]) (b := a) (rest := []) (Ts := Wd) ⟨hx, hb, hml, hown, hW⟩ (mST_equals l g μ hs hv hf hn (i := 3) (by decide)) (cwV 1 hW (k_gV w_588 w_589 w_590 w_9 w_591) rfl rfl rfl (by decide +kernel) ⟨Nat.le_of_ble_eq_true rfl, Nat.le_of_ble_eq_true rfl⟩) (k_preV (q := (RST, TST, 4)) hM hs rfl) rfl rfl hl.1 rfl (lv_room (Nat.le_of_ble_eq_true rfl)) dMD_ends_41 ⟨Nat.zero_le _, Nat.zero_le _⟩) hM (fun r μ1 H locs hp hM => ?_)
        obtain ⟨hmu, hcase⟩ := hp
        rw [hmu] at hM
        rcases hcase with ⟨w3, rfl⟩ | ⟨w3, rfl⟩
        · skip
          refine lv_if_eq (tgt := 51) hx hb dMD_ends_44 (by decide) (fun h => absurd h (by decide)) (fun _ => ?_)
          refine lv_iconst (v := nI 1) hx hb dMD_ends_47 (by decide) ?_
          refine lv_goto (tgt := 52) hx hb dMD_ends_48 (by decide) ?_
          exact kr_z hx hb hr (by decide) hlocks hM dMD_ends_52 (⟨rfl, Or.inl ⟨Or.inr (Or.inr w3), rfl⟩⟩)
        · skip
          refine lv_if_eq (tgt := 51) hx hb dMD_ends_44 (by decide) (fun _ => ?_) (fun h => absurd (by decide) h)
          refine lv_iconst (v := nI 0) hx hb dMD_ends_51 (by decide) ?_
          exact kr_z hx hb hr (by decide) hlocks hM dMD_ends_52 (⟨rfl, Or.inr ⟨fun z => z.elim w1 (fun z => z.elim w2 w3), rfl⟩⟩)
