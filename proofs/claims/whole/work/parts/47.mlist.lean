set_option maxHeartbeats 800000 in
set_option maxRecDepth 100000 in
theorem mMD_compare (l : Launch) (g : kG) (μ : km_M) {ma tp wd li tl ws at0 cnt : Nat} (hma : μ ma = some (.inr (4, [.ref tp, .int (nI tl), .ref wd, .int (nI ws), .int (nI at0), .ref li, .int (nI cnt)]))) {vs : List kVer} (hcl : cnt = vs.length) (hcnt : cnt ≤ 12) {V : Nat → Option Nat} (hli : μ li = some (.inl (g.2.2.1 6, 12, .inr (.inr (.inr (.inr V)))))) {lw naf kaf : Nat → Nat} {NNf : Nat → Nat → Nat} {Mf : Nat → Nat → Option Nat} {saf svf : Nat → Nat → Nat} {Ff : Nat → Nat → Nat → Nat} (hLst : ∀ (k : Nat) (v : kVer), vs[k]? = some v → V k = some (lw k) ∧ kMV g μ (lw k) (naf k) (kaf k) (NNf k) (Mf k) (saf k) (svf k) (Ff k) v) {k q : Int32} : Met l yMD_compare (Cond.code yMD_compare cMD_compare 3 (some .int) :: Wd) ({ frames := 8, cells := 0, slots := 0, locals := 176 } : Room) (kPre g μ [.ref ma, .int k, .int q]) (kQi g (fun (r : Int32) (μ1 : km_M) => μ1 = μ ∧ ((¬ ((0 ≤ k.toInt ∧ k.toInt < (cnt : Int)) ∧ (0 ≤ q.toInt ∧ q.toInt < (cnt : Int))) ∧ r = (-2)) ∨ (∃ i j vi vj, vs[i]? = some vi ∧ vs[j]? = some vj ∧ k = nI i ∧ q = nI j ∧ r = oF (rowOf vi) (rowOf vj) 0 7)))) 0 0 (kF g) := by
  refine k_met (by decide) (Nat.le_of_ble_eq_true rfl) ?_
  intro p e s m below meth c hx hb hr hlocks hml hown hnm hW ls hl H locs hM
  have hl : lv_has ls 3 [(0, .ref ma), (1, .int k), (2, .int q)] := hl
  refine lv_aload_n hx hb dMD_compare_0 rfl (lv_at hl 0 rfl) ?_
  refine lv_iload_n hx hb dMD_compare_1 rfl (lv_at hl 1 rfl) ?_
  refine kc_i (va_runV (C := RMD) (As := [.int k]) (b := ma) (rest := []) (Ts := Wd) ⟨hx, hb, hml, hown, hW⟩ (mMD_is l g μ hma hcnt (k := k)) (cwV 1 hW (k_gV w_529 w_531 p_28 w_7 w_532) rfl rfl rfl (by decide +kernel) ⟨Nat.le_of_ble_eq_true rfl, Nat.le_of_ble_eq_true rfl⟩) (k_preV (q := (RMD, TMD, 7)) hM hma rfl) rfl rfl hl.1 rfl (lv_room (Nat.le_of_ble_eq_true rfl)) dMD_compare_2 ⟨Nat.zero_le _, Nat.zero_le _⟩) hM (fun r μ1 H locs hp hM => ?_)
  obtain ⟨rfl, hmu⟩ := hp
  rw [hmu] at hM
  rcases Decidable.em (0 ≤ k.toInt ∧ k.toInt < (cnt : Int)) with hl_i | hl_i
  · refine topi_eq (y := nI 1) (bI_t hl_i).symm ?_
    obtain ⟨i, hl_i, rfl⟩ := iN_of (by omega) hl_i
    obtain ⟨vi, hv_i⟩ : ∃ x, vs[i]? = some x := ⟨_, List.getElem?_eq_getElem (by omega)⟩
    refine lv_if_eq (tgt := 34) hx hb dMD_compare_5 (by decide) (fun h => absurd h (by decide)) (fun _ => ?_)
    refine lv_aload_n hx hb dMD_compare_8 rfl (lv_at hl 0 rfl) ?_
    refine lv_iload_n hx hb dMD_compare_9 rfl (lv_at hl 2 rfl) ?_
    refine kc_i (va_runV (C := RMD) (As := [.int q]) (b := ma) (rest := []) (Ts := Wd) ⟨hx, hb, hml, hown, hW⟩ (mMD_is l g μ hma hcnt (k := q)) (cwV 1 hW (k_gV w_529 w_531 p_28 w_7 w_532) rfl rfl rfl (by decide +kernel) ⟨Nat.le_of_ble_eq_true rfl, Nat.le_of_ble_eq_true rfl⟩) (k_preV (q := (RMD, TMD, 7)) hM hma rfl) rfl rfl hl.1 rfl (lv_room (Nat.le_of_ble_eq_true rfl)) dMD_compare_10 ⟨Nat.zero_le _, Nat.zero_le _⟩) hM (fun r μ1 H locs hp hM => ?_)
    obtain ⟨rfl, hmu⟩ := hp
    rw [hmu] at hM
    rcases Decidable.em (0 ≤ q.toInt ∧ q.toInt < (cnt : Int)) with hl_j | hl_j
    · refine topi_eq (y := nI 1) (bI_t hl_j).symm ?_
      obtain ⟨j, hl_j, rfl⟩ := iN_of (by omega) hl_j
      obtain ⟨vj, hv_j⟩ : ∃ x, vs[j]? = some x := ⟨_, List.getElem?_eq_getElem (by omega)⟩
      refine lv_if_eq (tgt := 34) hx hb dMD_compare_13 (by decide) (fun h => absurd h (by decide)) (fun _ => ?_)
      refine lv_aload_n hx hb dMD_compare_16 rfl (lv_at hl 0 rfl) ?_
      refine k_get (own := RMD) (ref := RMD) (C := RMD) (T := TMD) (N := 7) (ci := 4) (v := .ref li) hx hb hW inMD hown hM hma rfl 5 (by decide) (hW _ w_296) (fun _ h => h) rfl dMD_compare_17 ?_
      refine lv_iload_n hx hb dMD_compare_20 rfl (lv_at hl 1 rfl) ?_
      refine k_aald (i := i) (r := some (lw i)) hx hb hM 6 hli rfl (by omega) (by omega) ((hLst _ _ hv_i).1) dMD_compare_21 ?_
      refine lv_aload_n hx hb dMD_compare_22 rfl (lv_at hl 0 rfl) ?_
      refine k_get (own := RMD) (ref := RMD) (C := RMD) (T := TMD) (N := 7) (ci := 4) (v := .ref li) hx hb hW inMD hown hM hma rfl 5 (by decide) (hW _ w_296) (fun _ h => h) rfl dMD_compare_23 ?_
      refine lv_iload_n hx hb dMD_compare_26 rfl (lv_at hl 2 rfl) ?_
      refine k_aald (i := j) (r := some (lw j)) hx hb hM 6 hli rfl (by omega) (by omega) ((hLst _ _ hv_j).1) dMD_compare_27 ?_
      refine kc_i (va_runS (As := [.ref (lw i), .ref (lw j)]) (rest := []) (Ts := Wd) ⟨hx, hb, hml, hown, hW⟩ (mMD_order l g μ (hLst _ _ hv_i).2 (hLst _ _ hv_j).2) (va_cwS 2 hW (k_gS w_533 w_534 w_7 w_535) rfl rfl rfl (by decide +kernel) ⟨Nat.le_of_ble_eq_true rfl, Nat.le_of_ble_eq_true rfl⟩) (k_preS hM) rfl rfl hl.1 rfl (lv_room (Nat.le_of_ble_eq_true rfl)) dMD_compare_28 ⟨Nat.zero_le _, Nat.zero_le _⟩) hM (fun r μ1 H locs hp hM => ?_)
      obtain ⟨rfl, hmu⟩ := hp
      rw [hmu] at hM
      refine lv_goto (tgt := 36) hx hb dMD_compare_31 (by decide) ?_
      exact kr_i hx hb hr hlocks hM dMD_compare_36 (⟨rfl, Or.inr ⟨i, j, vi, vj, hv_i, hv_j, rfl, rfl, rfl⟩⟩)
    · refine topi_eq (y := nI 0) (bI_f hl_j).symm ?_
      refine lv_if_eq (tgt := 34) hx hb dMD_compare_13 (by decide) (fun _ => ?_) (fun h => absurd (by decide) h)
      refine lv_bipush (v := (-2)) hx hb dMD_compare_34 (by decide) ?_
      exact kr_i hx hb hr hlocks hM dMD_compare_36 (⟨rfl, Or.inl ⟨fun z => by first | exact hl_i z.1 | exact hl_j z.2, rfl⟩⟩)
  · refine topi_eq (y := nI 0) (bI_f hl_i).symm ?_
    refine lv_if_eq (tgt := 34) hx hb dMD_compare_5 (by decide) (fun _ => ?_) (fun h => absurd (by decide) h)
    refine lv_bipush (v := (-2)) hx hb dMD_compare_34 (by decide) ?_
    exact kr_i hx hb hr hlocks hM dMD_compare_36 (⟨rfl, Or.inl ⟨fun z => by first | exact hl_i z.1 | exact hl_j z.2, rfl⟩⟩)
