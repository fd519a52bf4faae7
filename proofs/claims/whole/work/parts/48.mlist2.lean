set_option maxHeartbeats 800000 in
set_option maxRecDepth 100000 in
theorem mMD_rank (l : Launch) (g : kG) (μ : km_M) {ma tp wd li tl ws at0 cnt : Nat} (hma : μ ma = some (.inr (4, [.ref tp, .int (nI tl), .ref wd, .int (nI ws), .int (nI at0), .ref li, .int (nI cnt)]))) {vs : List kVer} (hcl : cnt = vs.length) (hcnt : cnt ≤ 12) {V : Nat → Option Nat} (hli : μ li = some (.inl (g.2.2.1 6, 12, .inr (.inr (.inr (.inr V)))))) {lw naf kaf : Nat → Nat} {NNf : Nat → Nat → Nat} {Mf : Nat → Nat → Option Nat} {saf svf : Nat → Nat → Nat} {Ff : Nat → Nat → Nat → Nat} (hLst : ∀ (k : Nat) (v : kVer), vs[k]? = some v → V k = some (lw k) ∧ kMV g μ (lw k) (naf k) (kaf k) (NNf k) (Mf k) (saf k) (svf k) (Ff k) v) {k : Int32} : Met l yMD_rank (Cond.code yMD_rank cMD_rank 4 (some .int) :: Wd) ({ frames := 8, cells := 0, slots := 0, locals := 176 } : Room) (kPre g μ [.ref ma, .int k]) (kQi g (fun (r : Int32) (μ1 : km_M) => μ1 = μ ∧ ((¬ (0 ≤ k.toInt ∧ k.toInt < (cnt : Int)) ∧ r = (-2)) ∨ (∃ i vi, vs[i]? = some vi ∧ k = nI i ∧ r = nI (rkN (fun j => oF (rowOf (vs.getD j (0, 0, 0, []))) (rowOf vi) 0 7) cnt))))) 0 0 (kF g) := by
  refine k_met (by decide) (Nat.le_of_ble_eq_true rfl) ?_
  intro p e s m below meth c hx hb hr hlocks hml hown hnm hW ls hl H locs hM
  have hl : lv_has ls 4 [(0, .ref ma), (1, .int k)] := hl
  have cut15 : ∀ (fu : Nat), ∀ (i : Nat) (vi : kVer) (j : Nat), cnt - j < fu → k = nI i → i < cnt → vs[i]? = some vi → j ≤ cnt → ∀ (ls : Array Slot) (H : Heap) (locs : List Loc), lv_has ls 4 [(0, .ref ma), (1, .int k), (2, .int (nI (rkN (fun j => oF (rowOf (vs.getD j (0, 0, 0, []))) (rowOf vi) 0 7) j))), (3, .int (nI j))] → kS g (μ) s H locs → W p l e ({ frames := 8, cells := 0, slots := 0, locals := 176 } : Room) s m [.ref ma, .int k].toArray below meth c H locs 0 0 (MQ below (kQi g (fun (r : Int32) (μ1 : km_M) => μ1 = μ ∧ ((¬ (0 ≤ k.toInt ∧ k.toInt < (cnt : Int)) ∧ r = (-2)) ∨ (∃ i vi, vs[i]? = some vi ∧ k = nI i ∧ r = nI (rkN (fun j => oF (rowOf (vs.getD j (0, 0, 0, []))) (rowOf vi) 0 7) cnt))))) [.ref ma, .int k].toArray s 0 0 (kF g)) (F0 m 15 ls []) := by
    intro fu
    induction fu with
    | zero => intro i vi j hlt; exact absurd hlt (Nat.not_lt_zero _)
    | succ fu ih =>
      intro i vi j hlt hk hi hv_i hj ls H locs hl hM
      refine lv_iload_n hx hb dMD_rank_15 rfl (lv_at hl 3 rfl) ?_
      refine lv_aload_n hx hb dMD_rank_16 rfl (lv_at hl 0 rfl) ?_
      refine k_get (own := RMD) (ref := RMD) (C := RMD) (T := TMD) (N := 7) (ci := 4) (v := .int (nI cnt)) hx hb hW inMD hown hM hma rfl 6 (by decide) (hW _ w_297) (fun _ h => h) rfl dMD_rank_17 ?_
      refine lv_icmp_ge (tgt := 55) hx hb dMD_rank_20 (by decide) (fun h20 => ?_) (fun h20 => ?_)
      · have h20 := (nJ_ge_t (a := j) (b := cnt) (by omega) (by omega)).mp h20
        refine lv_iload_n hx hb dMD_rank_55 rfl (lv_at hl 2 rfl) ?_
        exact kr_i hx hb hr hlocks hM dMD_rank_56 (⟨rfl, Or.inr ⟨i, vi, hv_i, hk, by rw [show cnt = j by omega]⟩⟩)
      · have h20 := (nJ_ge_f (a := j) (b := cnt) (by omega) (by omega)).mp h20
        obtain ⟨vj, hv_j⟩ : ∃ x, vs[j]? = some x := ⟨_, List.getElem?_eq_getElem (by omega)⟩
        have ej : vs.getD j (0, 0, 0, []) = vj := by rw [List.getD_eq_getElem?_getD, hv_j]; rfl
        refine lv_iload_n hx hb dMD_rank_23 rfl (lv_at hl 2 rfl) ?_
        refine lv_aload_n hx hb dMD_rank_24 rfl (lv_at hl 0 rfl) ?_
        refine k_get (own := RMD) (ref := RMD) (C := RMD) (T := TMD) (N := 7) (ci := 4) (v := .ref li) hx hb hW inMD hown hM hma rfl 5 (by decide) (hW _ w_296) (fun _ h => h) rfl dMD_rank_25 ?_
        refine lv_iload_n hx hb dMD_rank_28 rfl (lv_at hl 3 rfl) ?_
        refine k_aald (i := j) (r := some (lw j)) hx hb hM 6 hli rfl (by omega) (by omega) ((hLst _ _ hv_j).1) dMD_rank_29 ?_
        refine lv_aload_n hx hb dMD_rank_30 rfl (lv_at hl 0 rfl) ?_
        refine k_get (own := RMD) (ref := RMD) (C := RMD) (T := TMD) (N := 7) (ci := 4) (v := .ref li) hx hb hW inMD hown hM hma rfl 5 (by decide) (hW _ w_296) (fun _ h => h) rfl dMD_rank_31 ?_
        refine lv_iload_n hx hb dMD_rank_34 rfl (lv_at hl 1 rfl) ?_
        refine topi_eq (y := nI i) hk ?_
        refine k_aald (i := i) (r := some (lw i)) hx hb hM 6 hli rfl (by omega) (by omega) ((hLst _ _ hv_i).1) dMD_rank_35 ?_
        refine kc_i (va_runS (As := [.ref (lw j), .ref (lw i)]) (rest := [.int (nI (rkN (fun j => oF (rowOf (vs.getD j (0, 0, 0, []))) (rowOf vi) 0 7) j))]) (Ts := Wd) ⟨hx, hb, hml, hown, hW⟩ (mMD_order l g μ (hLst _ _ hv_j).2 (hLst _ _ hv_i).2) (va_cwS 2 hW (k_gS w_533 w_534 w_7 w_535) rfl rfl rfl (by decide +kernel) ⟨Nat.le_of_ble_eq_true rfl, Nat.le_of_ble_eq_true rfl⟩) (k_preS hM) rfl rfl hl.1 rfl (lv_room (Nat.le_of_ble_eq_true rfl)) dMD_rank_36 ⟨Nat.zero_le _, Nat.zero_le _⟩) hM (fun r μ1 H locs hp hM => ?_)
        obtain ⟨rfl, hmu⟩ := hp
        rw [hmu] at hM
        refine lv_if_ge (tgt := 46) hx hb dMD_rank_39 (by decide) (fun h39 => ?_) (fun h39 => ?_)
        · skip
          refine lv_iconst (v := nI 0) hx hb dMD_rank_46 (by decide) ?_
          refine lv_iadd hx hb dMD_rank_47 ?_
          refine topi_eq (y := nI (rkN (fun j => oF (rowOf (vs.getD j (0, 0, 0, []))) (rowOf vi) 0 7) (j + 1))) ((nI_add _ _).trans (congrArg nI (rkN_f (f := fun j => oF (rowOf (vs.getD j (0, 0, 0, []))) (rowOf vi) 0 7) (by show 0 ≤ oF (rowOf (vs.getD j (0, 0, 0, []))) (rowOf vi) 0 7; rw [ej]; exact h39)).symm)) ?_
          refine lv_istore_n (lv' := [(2, .int (nI (rkN (fun j => oF (rowOf (vs.getD j (0, 0, 0, []))) (rowOf vi) 0 7) (j + 1)))), (0, .ref ma), (1, .int k), (3, .int (nI j))]) hx hb dMD_rank_48 rfl hl (by decide) rfl (fun ls hl => ?_)
          refine lv_iinc (v := nI (j + 1)) (lv' := [(3, .int (nI (j + 1))), (2, .int (nI (rkN (fun j => oF (rowOf (vs.getD j (0, 0, 0, []))) (rowOf vi) 0 7) (j + 1)))), (0, .ref ma), (1, .int k)]) (k := 3) hx hb dMD_rank_49 hl rfl (ii1 j) (by decide) rfl (fun ls hl => ?_)
          refine lv_goto (tgt := 15) hx hb dMD_rank_52 (by decide) ?_
          exact ih i vi (j + 1) (by omega) (by first | assumption | omega | exact rfl) (by first | assumption | omega | exact rfl) (by first | assumption | omega | exact rfl) (by first | assumption | omega | exact rfl) ls H locs (lv_sub hl [2, 3, 1, 0] rfl) hM
        · skip
          refine lv_iconst (v := nI 1) hx hb dMD_rank_42 (by decide) ?_
          refine lv_goto (tgt := 47) hx hb dMD_rank_43 (by decide) ?_
          refine lv_iadd hx hb dMD_rank_47 ?_
          refine topi_eq (y := nI (rkN (fun j => oF (rowOf (vs.getD j (0, 0, 0, []))) (rowOf vi) 0 7) (j + 1))) ((nI_add _ _).trans (congrArg nI (rkN_t (f := fun j => oF (rowOf (vs.getD j (0, 0, 0, []))) (rowOf vi) 0 7) (by show ¬ 0 ≤ oF (rowOf (vs.getD j (0, 0, 0, []))) (rowOf vi) 0 7; rw [ej]; exact h39)).symm)) ?_
          refine lv_istore_n (lv' := [(2, .int (nI (rkN (fun j => oF (rowOf (vs.getD j (0, 0, 0, []))) (rowOf vi) 0 7) (j + 1)))), (0, .ref ma), (1, .int k), (3, .int (nI j))]) hx hb dMD_rank_48 rfl hl (by decide) rfl (fun ls hl => ?_)
          refine lv_iinc (v := nI (j + 1)) (lv' := [(3, .int (nI (j + 1))), (2, .int (nI (rkN (fun j => oF (rowOf (vs.getD j (0, 0, 0, []))) (rowOf vi) 0 7) (j + 1)))), (0, .ref ma), (1, .int k)]) (k := 3) hx hb dMD_rank_49 hl rfl (ii1 j) (by decide) rfl (fun ls hl => ?_)
          refine lv_goto (tgt := 15) hx hb dMD_rank_52 (by decide) ?_
          exact ih i vi (j + 1) (by omega) (by first | assumption | omega | exact rfl) (by first | assumption | omega | exact rfl) (by first | assumption | omega | exact rfl) (by first | assumption | omega | exact rfl) ls H locs (lv_sub hl [2, 3, 1, 0] rfl) hM
  refine lv_aload_n hx hb dMD_rank_0 rfl (lv_at hl 0 rfl) ?_
  refine lv_iload_n hx hb dMD_rank_1 rfl (lv_at hl 1 rfl) ?_
  refine kc_i (va_runV (C := RMD) (As := [.int k]) (b := ma) (rest := []) (Ts := Wd) ⟨hx, hb, hml, hown, hW⟩ (mMD_is l g μ hma hcnt (k := k)) (cwV 1 hW (k_gV w_529 w_531 p_28 w_7 w_532) rfl rfl rfl (by decide +kernel) ⟨Nat.le_of_ble_eq_true rfl, Nat.le_of_ble_eq_true rfl⟩) (k_preV (q := (RMD, TMD, 7)) hM hma rfl) rfl rfl hl.1 rfl (lv_room (Nat.le_of_ble_eq_true rfl)) dMD_rank_2 ⟨Nat.zero_le _, Nat.zero_le _⟩) hM (fun r μ1 H locs hp hM => ?_)
  obtain ⟨rfl, hmu⟩ := hp
  rw [hmu] at hM
  rcases Decidable.em (0 ≤ k.toInt ∧ k.toInt < (cnt : Int)) with hl_i | hl_i
  · refine topi_eq (y := nI 1) (bI_t hl_i).symm ?_
    obtain ⟨i, hl_i, rfl⟩ := iN_of (by omega) hl_i
    obtain ⟨vi, hv_i⟩ : ∃ x, vs[i]? = some x := ⟨_, List.getElem?_eq_getElem (by omega)⟩
    refine lv_if_ne (tgt := 11) hx hb dMD_rank_5 (by decide) (fun _ => ?_) (fun h => absurd h (by decide))
    refine lv_iconst (v := nI 0) hx hb dMD_rank_11 (by decide) ?_
    refine lv_istore_n (lv' := [(2, .int (nI 0)), (0, .ref ma), (1, .int (nI i))]) hx hb dMD_rank_12 rfl hl (by decide) rfl (fun ls hl => ?_)
    refine lv_iconst (v := nI 0) hx hb dMD_rank_13 (by decide) ?_
    refine lv_istore_n (lv' := [(3, .int (nI 0)), (2, .int (nI 0)), (0, .ref ma), (1, .int (nI i))]) hx hb dMD_rank_14 rfl hl (by decide) rfl (fun ls hl => ?_)
    exact cut15 _ i vi 0 (Nat.lt_succ_self _) (by first | assumption | omega | exact rfl) (by first | assumption | omega | exact rfl) (by first | assumption | omega | exact rfl) (by first | assumption | omega | exact rfl) ls H locs (lv_sub hl [2, 3, 1, 0] rfl) hM
  · refine topi_eq (y := nI 0) (bI_f hl_i).symm ?_
    refine lv_if_ne (tgt := 11) hx hb dMD_rank_5 (by decide) (fun h => absurd (by decide) h) (fun _ => ?_)
    refine lv_bipush (v := (-2)) hx hb dMD_rank_8 (by decide) ?_
    exact kr_i hx hb hr hlocks hM dMD_rank_10 (⟨rfl, Or.inl ⟨hl_i, rfl⟩⟩)
set_option maxHeartbeats 800000 in
set_option maxRecDepth 100000 in
theorem mMD_below (l : Launch) (g : kG) (μ : km_M) {a na ka mk : Nat} {NN : Nat → Nat} (ha : μ a = some (.inr (5, [.ref na, .ref ka, .int (nI mk)]))) (hna : μ na = some (.inl (g.2.2.1 1, 3, .inl (fun j => nI (NN j))))) (hN : ∀ k, k < 3 → NN k < 1000000000) (hmk : mk ≤ 4) {x y z : Nat} (hx0 : x ≤ 1000000000) (hy0 : y ≤ 1000000000) (hz0 : z ≤ 1000000000) : Met l yMD_below (Cond.code yMD_below cMD_below 4 (some .boolean) :: Wd) ({ frames := 0, cells := 0, slots := 0, locals := 0 } : Room) (kPre g μ [.ref a, .int (nI x), .int (nI y), .int (nI z)]) (kQi g (fun (r : Int32) (μ1 : km_M) => r = bI (decide (NN 0 < x ∨ (NN 0 = x ∧ (NN 1 < y ∨ (NN 1 = y ∧ (NN 2 < z ∨ (NN 2 = z ∧ 0 < mk))))))) ∧ μ1 = μ)) 0 0 (kF g) := by
  refine k_met (by decide) (Nat.le_of_ble_eq_true rfl) ?_
  intro p e s m below meth c hx hb hr hlocks hml hown hnm hW ls hl H locs hM
  have hl : lv_has ls 4 [(0, .ref a), (1, .int (nI x)), (2, .int (nI y)), (3, .int (nI z))] := hl
  have q0 := hN 0 (by decide)
  have q1 := hN 1 (by decide)
  have q2 := hN 2 (by decide)
  refine lv_aload_n hx hb dMD_below_0 rfl (lv_at hl 0 rfl) ?_
  refine k_get (own := RMD) (ref := RMV) (C := RMV) (T := TMV) (N := 3) (ci := 5) (v := .ref na) hx hb hW inMV hown hM ha rfl 0 (by decide) (hW _ w_419) (fun _ h => h) rfl dMD_below_1 ?_
  refine lv_iconst (v := nI 0) hx hb dMD_below_4 (by decide) ?_
  refine k_iald (i := 0) hx hb hM 1 hna rfl (by omega) (by omega) dMD_below_5 ?_
  refine lv_iload_n hx hb dMD_below_6 rfl (lv_at hl 1 rfl) ?_
  refine lv_icmp_eq (tgt := 26) hx hb dMD_below_7 (by decide) (fun h7 => ?_) (fun h7 => ?_)
  · have h7 := (nJ_eq_t (a := NN 0) (b := x) (by omega) (by omega)).mp h7
    refine lv_aload_n hx hb dMD_below_26 rfl (lv_at hl 0 rfl) ?_
    refine k_get (own := RMD) (ref := RMV) (C := RMV) (T := TMV) (N := 3) (ci := 5) (v := .ref na) hx hb hW inMV hown hM ha rfl 0 (by decide) (hW _ w_419) (fun _ h => h) rfl dMD_below_27 ?_
    refine lv_iconst (v := nI 1) hx hb dMD_below_30 (by decide) ?_
    refine k_iald (i := 1) hx hb hM 1 hna rfl (by omega) (by omega) dMD_below_31 ?_
    refine lv_iload_n hx hb dMD_below_32 rfl (lv_at hl 2 rfl) ?_
    refine lv_icmp_eq (tgt := 52) hx hb dMD_below_33 (by decide) (fun h33 => ?_) (fun h33 => ?_)
    · have h33 := (nJ_eq_t (a := NN 1) (b := y) (by omega) (by omega)).mp h33
      refine lv_aload_n hx hb dMD_below_52 rfl (lv_at hl 0 rfl) ?_
      refine k_get (own := RMD) (ref := RMV) (C := RMV) (T := TMV) (N := 3) (ci := 5) (v := .ref na) hx hb hW inMV hown hM ha rfl 0 (by decide) (hW _ w_419) (fun _ h => h) rfl dMD_below_53 ?_
      refine lv_iconst (v := nI 2) hx hb dMD_below_56 (by decide) ?_
      refine k_iald (i := 2) hx hb hM 1 hna rfl (by omega) (by omega) dMD_below_57 ?_
      refine lv_iload_n hx hb dMD_below_58 rfl (lv_at hl 3 rfl) ?_
      refine lv_icmp_eq (tgt := 78) hx hb dMD_below_59 (by decide) (fun h59 => ?_) (fun h59 => ?_)
      · have h59 := (nJ_eq_t (a := NN 2) (b := z) (by omega) (by omega)).mp h59
        refine lv_aload_n hx hb dMD_below_78 rfl (lv_at hl 0 rfl) ?_
        refine k_get (own := RMD) (ref := RMV) (C := RMV) (T := TMV) (N := 3) (ci := 5) (v := .int (nI mk)) hx hb hW inMV hown hM ha rfl 2 (by decide) (hW _ w_422) (fun _ h => h) rfl dMD_below_79 ?_
        refine lv_if_le (tgt := 89) hx hb dMD_below_82 (by decide) (fun h82 => ?_) (fun h82 => ?_)
        · have h82 := (nJ_le_t (a := mk) (b := 0) (by omega) (by omega)).mp h82
          refine lv_iconst (v := nI 0) hx hb dMD_below_89 (by decide) ?_
          exact kr_z hx hb hr (by decide) hlocks hM dMD_below_90 (⟨by first | rfl | exact bI_t (by omega) | exact bI_f (by omega), rfl⟩)
        · have h82 := (nJ_le_f (a := mk) (b := 0) (by omega) (by omega)).mp h82
          refine lv_iconst (v := nI 1) hx hb dMD_below_85 (by decide) ?_
          refine lv_goto (tgt := 90) hx hb dMD_below_86 (by decide) ?_
          exact kr_z hx hb hr (by decide) hlocks hM dMD_below_90 (⟨by first | rfl | exact bI_t (by omega) | exact bI_f (by omega), rfl⟩)
      · have h59 := (nJ_eq_f (a := NN 2) (b := z) (by omega) (by omega)).mp h59
        refine lv_aload_n hx hb dMD_below_62 rfl (lv_at hl 0 rfl) ?_
        refine k_get (own := RMD) (ref := RMV) (C := RMV) (T := TMV) (N := 3) (ci := 5) (v := .ref na) hx hb hW inMV hown hM ha rfl 0 (by decide) (hW _ w_419) (fun _ h => h) rfl dMD_below_63 ?_
        refine lv_iconst (v := nI 2) hx hb dMD_below_66 (by decide) ?_
        refine k_iald (i := 2) hx hb hM 1 hna rfl (by omega) (by omega) dMD_below_67 ?_
        refine lv_iload_n hx hb dMD_below_68 rfl (lv_at hl 3 rfl) ?_
        refine lv_icmp_ge (tgt := 76) hx hb dMD_below_69 (by decide) (fun h69 => ?_) (fun h69 => ?_)
        · have h69 := (nJ_ge_t (a := NN 2) (b := z) (by omega) (by omega)).mp h69
          refine lv_iconst (v := nI 0) hx hb dMD_below_76 (by decide) ?_
          exact kr_z hx hb hr (by decide) hlocks hM dMD_below_77 (⟨by first | rfl | exact bI_t (by omega) | exact bI_f (by omega), rfl⟩)
        · have h69 := (nJ_ge_f (a := NN 2) (b := z) (by omega) (by omega)).mp h69
          refine lv_iconst (v := nI 1) hx hb dMD_below_72 (by decide) ?_
          refine lv_goto (tgt := 77) hx hb dMD_below_73 (by decide) ?_
          exact kr_z hx hb hr (by decide) hlocks hM dMD_below_77 (⟨by first | rfl | exact bI_t (by omega) | exact bI_f (by omega), rfl⟩)
    · have h33 := (nJ_eq_f (a := NN 1) (b := y) (by omega) (by omega)).mp h33
      refine lv_aload_n hx hb dMD_below_36 rfl (lv_at hl 0 rfl) ?_
      refine k_get (own := RMD) (ref := RMV) (C := RMV) (T := TMV) (N := 3) (ci := 5) (v := .ref na) hx hb hW inMV hown hM ha rfl 0 (by decide) (hW _ w_419) (fun _ h => h) rfl dMD_below_37 ?_
      refine lv_iconst (v := nI 1) hx hb dMD_below_40 (by decide) ?_
      refine k_iald (i := 1) hx hb hM 1 hna rfl (by omega) (by omega) dMD_below_41 ?_
      refine lv_iload_n hx hb dMD_below_42 rfl (lv_at hl 2 rfl) ?_
      refine lv_icmp_ge (tgt := 50) hx hb dMD_below_43 (by decide) (fun h43 => ?_) (fun h43 => ?_)
      · have h43 := (nJ_ge_t (a := NN 1) (b := y) (by omega) (by omega)).mp h43
        refine lv_iconst (v := nI 0) hx hb dMD_below_50 (by decide) ?_
        exact kr_z hx hb hr (by decide) hlocks hM dMD_below_51 (⟨by first | rfl | exact bI_t (by omega) | exact bI_f (by omega), rfl⟩)
      · have h43 := (nJ_ge_f (a := NN 1) (b := y) (by omega) (by omega)).mp h43
        refine lv_iconst (v := nI 1) hx hb dMD_below_46 (by decide) ?_
        refine lv_goto (tgt := 51) hx hb dMD_below_47 (by decide) ?_
        exact kr_z hx hb hr (by decide) hlocks hM dMD_below_51 (⟨by first | rfl | exact bI_t (by omega) | exact bI_f (by omega), rfl⟩)
  · have h7 := (nJ_eq_f (a := NN 0) (b := x) (by omega) (by omega)).mp h7
    refine lv_aload_n hx hb dMD_below_10 rfl (lv_at hl 0 rfl) ?_
    refine k_get (own := RMD) (ref := RMV) (C := RMV) (T := TMV) (N := 3) (ci := 5) (v := .ref na) hx hb hW inMV hown hM ha rfl 0 (by decide) (hW _ w_419) (fun _ h => h) rfl dMD_below_11 ?_
    refine lv_iconst (v := nI 0) hx hb dMD_below_14 (by decide) ?_
    refine k_iald (i := 0) hx hb hM 1 hna rfl (by omega) (by omega) dMD_below_15 ?_
    refine lv_iload_n hx hb dMD_below_16 rfl (lv_at hl 1 rfl) ?_
    refine lv_icmp_ge (tgt := 24) hx hb dMD_below_17 (by decide) (fun h17 => ?_) (fun h17 => ?_)
    · have h17 := (nJ_ge_t (a := NN 0) (b := x) (by omega) (by omega)).mp h17
      refine lv_iconst (v := nI 0) hx hb dMD_below_24 (by decide) ?_
      exact kr_z hx hb hr (by decide) hlocks hM dMD_below_25 (⟨by first | rfl | exact bI_t (by omega) | exact bI_f (by omega), rfl⟩)
    · have h17 := (nJ_ge_f (a := NN 0) (b := x) (by omega) (by omega)).mp h17
      refine lv_iconst (v := nI 1) hx hb dMD_below_20 (by decide) ?_
      refine lv_goto (tgt := 25) hx hb dMD_below_21 (by decide) ?_
      exact kr_z hx hb hr (by decide) hlocks hM dMD_below_25 (⟨by first | rfl | exact bI_t (by omega) | exact bI_f (by omega), rfl⟩)
set_option maxHeartbeats 800000 in
set_option maxRecDepth 100000 in
theorem mMD_here (l : Launch) (g : kG) (μ : km_M) {ma tp wd li tl ws at0 cnt : Nat} (hma : μ ma = some (.inr (4, [.ref tp, .int (nI tl), .ref wd, .int (nI ws), .int (nI at0), .ref li, .int (nI cnt)]))) {M : Nat → Option Nat} (hwd : μ wd = some (.inl (g.2.2.1 5, 400, .inr (.inr (.inr (.inr M)))))) (hat : at0 < ws) (hws : ws ≤ 400) {a : Nat} (hM0 : M at0 = some a) : Met l yMD_here (Cond.code yMD_here cMD_here 1 (some (.object "java/lang/String")) :: Wd) ({ frames := 0, cells := 0, slots := 0, locals := 0 } : Room) (kPre g μ [.ref ma]) (kQr g (fun (r : Nat) (μ1 : km_M) => r = a ∧ μ1 = μ)) 0 0 (kF g) := by
  refine k_met (by decide) (Nat.le_of_ble_eq_true rfl) ?_
  intro p e s m below meth c hx hb hr hlocks hml hown hnm hW ls hl H locs hM
  have hl : lv_has ls 1 [(0, .ref ma)] := hl
  refine lv_aload_n hx hb dMD_here_0 rfl (lv_at hl 0 rfl) ?_
  refine k_get (own := RMD) (ref := RMD) (C := RMD) (T := TMD) (N := 7) (ci := 4) (v := .int (nI at0)) hx hb hW inMD hown hM hma rfl 4 (by decide) (hW _ w_295) (fun _ h => h) rfl dMD_here_1 ?_
  refine lv_aload_n hx hb dMD_here_4 rfl (lv_at hl 0 rfl) ?_
  refine k_get (own := RMD) (ref := RMD) (C := RMD) (T := TMD) (N := 7) (ci := 4) (v := .int (nI ws)) hx hb hW inMD hown hM hma rfl 3 (by decide) (hW _ w_294) (fun _ h => h) rfl dMD_here_5 ?_
  refine lv_icmp_ge (tgt := 23) hx hb dMD_here_8 (by decide) (fun h8 => ?_) (fun h8 => ?_)
  · have h8 := (nJ_ge_t (a := at0) (b := ws) (by omega) (by omega)).mp h8
    exact absurd h8 (by omega)
  · have h8 := (nJ_ge_f (a := at0) (b := ws) (by omega) (by omega)).mp h8
    refine lv_aload_n hx hb dMD_here_11 rfl (lv_at hl 0 rfl) ?_
    refine k_get (own := RMD) (ref := RMD) (C := RMD) (T := TMD) (N := 7) (ci := 4) (v := .ref wd) hx hb hW inMD hown hM hma rfl 2 (by decide) (hW _ w_293) (fun _ h => h) rfl dMD_here_12 ?_
    refine lv_aload_n hx hb dMD_here_15 rfl (lv_at hl 0 rfl) ?_
    refine k_get (own := RMD) (ref := RMD) (C := RMD) (T := TMD) (N := 7) (ci := 4) (v := .int (nI at0)) hx hb hW inMD hown hM hma rfl 4 (by decide) (hW _ w_295) (fun _ h => h) rfl dMD_here_16 ?_
    refine k_aald (i := at0) (r := some a) hx hb hM 5 hwd rfl (by omega) (by omega) hM0 dMD_here_19 ?_
    refine lv_goto (tgt := 25) hx hb dMD_here_20 (by decide) ?_
    exact kr_r hx hb hr (Or.inl ⟨_, rfl⟩) hlocks hM dMD_here_25 (⟨rfl, rfl⟩)
