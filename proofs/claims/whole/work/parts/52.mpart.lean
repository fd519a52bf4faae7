/-- the bytes of the first k marks -/
def mS : List (List Nat) → Nat → Nat
  | [], _ => 0
  | _ :: _, 0 => 0
  | m :: r, k + 1 => m.length + mS r k
theorem mS_0 (ms : List (List Nat)) : mS ms 0 = 0 := by cases ms <;> rfl
theorem mS_s : ∀ (ms : List (List Nat)) (k : Nat) (xs : List Nat), ms[k]? = some xs → mS ms (k + 1) = mS ms k + xs.length
  | [], k, xs, h => by simp at h
  | m :: r, 0, xs, h => by
    rw [List.getElem?_cons_zero] at h
    cases h
    show m.length + mS r 0 = 0 + m.length
    rw [mS_0]
    omega
  | m :: r, k + 1, xs, h => by
    rw [List.getElem?_cons_succ] at h
    have h1 := mS_s r k xs h
    show m.length + mS r (k + 1) = m.length + mS r k + xs.length
    omega
theorem mLen_S : ∀ ms : List (List Nat), mLen ms = (ms.length - 1) + mS ms ms.length
  | [] => rfl
  | [m] => by
    show m.length = (1 - 1) + (m.length + mS [] 0)
    show m.length = 0 + (m.length + 0)
    omega
  | m :: m1 :: r => by
    have h := mLen_S (m1 :: r)
    show m.length + 1 + mLen (m1 :: r) = (r.length + 1 + 1 - 1) + (m.length + mS (m1 :: r) (r.length + 1))
    rw [h]
    show m.length + 1 + ((r.length + 1 - 1) + mS (m1 :: r) (r.length + 1)) = _
    omega
def ptV (v : kVer) (j : Nat) : Nat := if j = 0 then v.1 else if j = 1 then v.2.1 else if j = 2 then v.2.2.1 else mLen v.2.2.2
set_option maxHeartbeats 800000 in
set_option maxRecDepth 100000 in
theorem mMD_part (l : Launch) (g : kG) (μ : km_M) {ma tp wd li tl ws at0 cnt : Nat} (hma : μ ma = some (.inr (4, [.ref tp, .int (nI tl), .ref wd, .int (nI ws), .int (nI at0), .ref li, .int (nI cnt)]))) {vs : List kVer} (hcl : cnt = vs.length) (hcnt : cnt ≤ 12) {V : Nat → Option Nat} (hli : μ li = some (.inl (g.2.2.1 6, 12, .inr (.inr (.inr (.inr V)))))) {lw naf kaf : Nat → Nat} {NNf : Nat → Nat → Nat} {Mf : Nat → Nat → Option Nat} {saf svf : Nat → Nat → Nat} {Ff : Nat → Nat → Nat → Nat} (hLst : ∀ (k : Nat) (v : kVer), vs[k]? = some v → V k = some (lw k) ∧ kMV g μ (lw k) (naf k) (kaf k) (NNf k) (Mf k) (saf k) (svf k) (Ff k) v) {k qq : Int32} : Met l yMD_part (Cond.code yMD_part cMD_part 5 (some .int) :: Wd) ({ frames := 2, cells := 0, slots := 0, locals := 40 } : Room) (kPre g μ [.ref ma, .int k, .int qq]) (kQi g (fun (r : Int32) (μ1 : km_M) => μ1 = μ ∧ ((¬ (0 ≤ qq.toInt ∧ qq.toInt ≤ 3) ∧ r = (-1)) ∨ ((0 ≤ qq.toInt ∧ qq.toInt ≤ 3) ∧ ¬ (0 ≤ k.toInt ∧ k.toInt < (cnt : Int)) ∧ r = (-2)) ∨ (∃ i j vi, vs[i]? = some vi ∧ j ≤ 3 ∧ k = nI i ∧ qq = nI j ∧ r = nI (ptV vi j))))) 0 0 (kF g) := by
  refine k_met (by decide) (Nat.le_of_ble_eq_true rfl) ?_
  intro p e s m below meth c hx hb hr hlocks hml hown hnm hW ls hl H locs hM
  have hl : lv_has ls 5 [(0, .ref ma), (1, .int k), (2, .int qq)] := hl
  have cut70 : ∀ (fu : Nat), ∀ (i : Nat) (j : Nat) (vi : kVer) (q : Nat), vi.2.2.2.length - q < fu → k = nI i → qq = nI j → j = 3 → vs[i]? = some vi → i < cnt → vi.2.2.2.length ≤ 4 → q ≤ vi.2.2.2.length → ∀ (ls : Array Slot) (H : Heap) (locs : List Loc), lv_has ls 5 [(0, .ref ma), (1, .int k), (3, .int (nI ((vi.2.2.2.length - 1) + mS vi.2.2.2 q))), (4, .int (nI q))] → kS g (μ) s H locs → W p l e ({ frames := 2, cells := 0, slots := 0, locals := 40 } : Room) s m [.ref ma, .int k, .int qq].toArray below meth c H locs 0 0 (MQ below (kQi g (fun (r : Int32) (μ1 : km_M) => μ1 = μ ∧ ((¬ (0 ≤ qq.toInt ∧ qq.toInt ≤ 3) ∧ r = (-1)) ∨ ((0 ≤ qq.toInt ∧ qq.toInt ≤ 3) ∧ ¬ (0 ≤ k.toInt ∧ k.toInt < (cnt : Int)) ∧ r = (-2)) ∨ (∃ i j vi, vs[i]? = some vi ∧ j ≤ 3 ∧ k = nI i ∧ qq = nI j ∧ r = nI (ptV vi j))))) [.ref ma, .int k, .int qq].toArray s 0 0 (kF g)) (F0 m 70 ls []) := by
    intro fu
    induction fu with
    | zero => intro i j vi q hlt; exact absurd hlt (Nat.not_lt_zero _)
    | succ fu ih =>
      intro i j vi q hlt hk hqq hj3 hv_i hic hl4 hq ls H locs hl hM
      refine lv_iload hx hb dMD_part_70 (lv_at hl 3 rfl) ?_
      refine lv_aload_n hx hb dMD_part_72 rfl (lv_at hl 0 rfl) ?_
      refine k_get (own := RMD) (ref := RMD) (C := RMD) (T := TMD) (N := 7) (ci := 4) (v := .ref li) hx hb hW inMD hown hM hma rfl 5 (by decide) (hW _ w_296) (fun _ h => h) rfl dMD_part_73 ?_
      refine lv_iload_n hx hb dMD_part_76 rfl (lv_at hl 1 rfl) ?_
      refine topi_eq (y := nI i) hk ?_
      refine k_aald (i := i) (r := some (lw i)) hx hb hM 6 hli rfl (by omega) (by omega) ((hLst _ _ hv_i).1) dMD_part_77 ?_
      refine k_get (own := RMD) (ref := RMV) (C := RMV) (T := TMV) (N := 3) (ci := 5) (v := .int (nI vi.2.2.2.length)) hx hb hW inMV hown hM (hLst _ _ hv_i).2.1 rfl 2 (by decide) (hW _ w_422) (fun _ h => h) rfl dMD_part_78 ?_
      refine lv_icmp_ge (tgt := 108) hx hb dMD_part_81 (by decide) (fun h81 => ?_) (fun h81 => ?_)
      · have h81 := (nJ_ge_t (a := q) (b := vi.2.2.2.length) (by omega) (by omega)).mp h81
        refine lv_iload_n hx hb dMD_part_108 rfl (lv_at hl 2 rfl) ?_
        exact kr_i hx hb hr hlocks hM dMD_part_109 (⟨rfl, Or.inr (Or.inr ⟨i, j, vi, hv_i, by omega, hk, hqq, by unfold ptV; rw [if_neg (by omega), if_neg (by omega), if_neg (by omega), mLen_S, show vi.2.2.2.length = q by omega]⟩)⟩)
      · have h81 := (nJ_ge_f (a := q) (b := vi.2.2.2.length) (by omega) (by omega)).mp h81
        obtain ⟨xs, hxs⟩ : ∃ z, vi.2.2.2[q]? = some z := ⟨_, List.getElem?_eq_getElem (by omega)⟩
        have hmk := (hLst _ _ hv_i).2.2.2.2.2.2.2.2.2.2.2 q xs hxs
        refine lv_iload_n hx hb dMD_part_84 rfl (lv_at hl 2 rfl) ?_
        refine lv_aload_n hx hb dMD_part_85 rfl (lv_at hl 0 rfl) ?_
        refine k_get (own := RMD) (ref := RMD) (C := RMD) (T := TMD) (N := 7) (ci := 4) (v := .ref li) hx hb hW inMD hown hM hma rfl 5 (by decide) (hW _ w_296) (fun _ h => h) rfl dMD_part_86 ?_
        refine lv_iload_n hx hb dMD_part_89 rfl (lv_at hl 1 rfl) ?_
        refine topi_eq (y := nI i) hk ?_
        refine k_aald (i := i) (r := some (lw i)) hx hb hM 6 hli rfl (by omega) (by omega) ((hLst _ _ hv_i).1) dMD_part_90 ?_
        refine k_get (own := RMD) (ref := RMV) (C := RMV) (T := TMV) (N := 3) (ci := 5) (v := .ref (kaf i)) hx hb hW inMV hown hM (hLst _ _ hv_i).2.1 rfl 1 (by decide) (hW _ w_421) (fun _ h => h) rfl dMD_part_91 ?_
        refine lv_iload hx hb dMD_part_94 (lv_at hl 3 rfl) ?_
        refine k_aald (i := q) (r := some (saf i q)) hx hb hM 5 (hLst _ _ hv_i).2.2.2.2.2.2.2.2.2.1 rfl (by omega) (by omega) hmk.1 dMD_part_96 ?_
        refine kc_i (va_runV (C := RST) (As := []) (b := saf i q) (rest := [.int (nI ((vi.2.2.2.length - 1) + mS vi.2.2.2 q))]) (Ts := Wd) ⟨hx, hb, hml, hown, hW⟩ (mST_length l g μ hmk.2.1 hmk.2.2.1 hmk.2.2.2.1 (Nat.le_trans hmk.2.2.2.2.2.2.1 (by decide))) (cwV 0 hW (k_gV w_430 w_431 w_432 w_9 w_433) rfl rfl rfl (by decide +kernel) ⟨Nat.le_of_ble_eq_true rfl, Nat.le_of_ble_eq_true rfl⟩) (k_preV (q := (RST, TST, 4)) hM hmk.2.1 rfl) rfl rfl hl.1 rfl (lv_room (Nat.le_of_ble_eq_true rfl)) dMD_part_97 ⟨Nat.zero_le _, Nat.zero_le _⟩) hM (fun r μ1 H locs hp hM => ?_)
        obtain ⟨rfl, hmu⟩ := hp
        rw [hmu] at hM
        refine lv_iadd hx hb dMD_part_100 ?_
        refine topi_eq (y := nI ((vi.2.2.2.length - 1) + mS vi.2.2.2 (q + 1))) ((nI_add _ _).trans (congrArg nI (by rw [mS_s _ _ _ hxs]; omega))) ?_
        refine lv_istore_n (lv' := [(3, .int (nI ((vi.2.2.2.length - 1) + mS vi.2.2.2 (q + 1)))), (0, .ref ma), (1, .int k), (4, .int (nI q))]) hx hb dMD_part_101 rfl hl (by decide) rfl (fun ls hl => ?_)
        refine lv_iinc (v := nI (q + 1)) (lv' := [(4, .int (nI (q + 1))), (3, .int (nI ((vi.2.2.2.length - 1) + mS vi.2.2.2 (q + 1)))), (0, .ref ma), (1, .int k)]) (k := 3) hx hb dMD_part_102 hl rfl (ii1 q) (by decide) rfl (fun ls hl => ?_)
        refine lv_goto (tgt := 70) hx hb dMD_part_105 (by decide) ?_
        exact ih i j vi (q + 1) (by omega) (by first | assumption | omega | exact rfl) (by first | assumption | omega | exact rfl) (by first | assumption | omega | exact rfl) (by first | assumption | omega | exact rfl) (by first | assumption | omega | exact rfl) (by first | assumption | omega | exact rfl) (by first | assumption | omega | exact rfl) ls H locs (lv_sub hl [2, 3, 1, 0] rfl) hM
  refine lv_iload_n hx hb dMD_part_0 rfl (lv_at hl 2 rfl) ?_
  refine lv_if_lt (tgt := 9) hx hb dMD_part_1 (by decide) (fun h1 => ?_) (fun h1 => ?_)
  · have h1 := i0_lt.mp h1
    refine lv_iconst (v := (-1)) hx hb dMD_part_9 (by decide) ?_
    exact kr_i hx hb hr hlocks hM dMD_part_10 (⟨rfl, Or.inl ⟨by first | omega | (rw [nI_toInt hj]; omega), rfl⟩⟩)
  · obtain ⟨j, hj, rfl⟩ := nI_of h1
    refine lv_iload_n hx hb dMD_part_4 rfl (lv_at hl 2 rfl) ?_
    refine lv_iconst (v := nI 3) hx hb dMD_part_5 (by decide) ?_
    refine lv_icmp_le (tgt := 11) hx hb dMD_part_6 (by decide) (fun h6 => ?_) (fun h6 => ?_)
    · have h6 := (nJ_le_t (a := j) (b := 3) (by omega) (by omega)).mp h6
      refine lv_aload_n hx hb dMD_part_11 rfl (lv_at hl 0 rfl) ?_
      refine lv_iload_n hx hb dMD_part_12 rfl (lv_at hl 1 rfl) ?_
      refine kc_i (va_runV (C := RMD) (As := [.int k]) (b := ma) (rest := []) (Ts := Wd) ⟨hx, hb, hml, hown, hW⟩ (mMD_is l g μ hma hcnt (k := k)) (cwV 1 hW (k_gV w_529 w_531 p_28 w_7 w_532) rfl rfl rfl (by decide +kernel) ⟨Nat.le_of_ble_eq_true rfl, Nat.le_of_ble_eq_true rfl⟩) (k_preV (q := (RMD, TMD, 7)) hM hma rfl) rfl rfl hl.1 rfl (lv_room (Nat.le_of_ble_eq_true rfl)) dMD_part_13 ⟨Nat.zero_le _, Nat.zero_le _⟩) hM (fun r μ1 H locs hp hM => ?_)
      obtain ⟨rfl, hmu⟩ := hp
      rw [hmu] at hM
      rcases Decidable.em (0 ≤ k.toInt ∧ k.toInt < (cnt : Int)) with hl_i | hl_i
      · refine topi_eq (y := nI 1) (bI_t hl_i).symm ?_
        obtain ⟨i, hl_i, rfl⟩ := iN_of (by omega) hl_i
        obtain ⟨vi, hv_i⟩ : ∃ x, vs[i]? = some x := ⟨_, List.getElem?_eq_getElem (by omega)⟩
        refine lv_if_ne (tgt := 22) hx hb dMD_part_16 (by decide) (fun _ => ?_) (fun h => absurd h (by decide))
        have hl4 : vi.2.2.2.length ≤ 4 := (hLst _ _ hv_i).2.2.2.2.2.2.2.2.2.2.1
        refine lv_iload_n hx hb dMD_part_22 rfl (lv_at hl 2 rfl) ?_
        refine lv_iconst (v := nI 3) hx hb dMD_part_23 (by decide) ?_
        refine lv_icmp_ge (tgt := 39) hx hb dMD_part_24 (by decide) (fun h24 => ?_) (fun h24 => ?_)
        · have h24 := (nJ_ge_t (a := j) (b := 3) (by omega) (by omega)).mp h24
          refine lv_aload_n hx hb dMD_part_39 rfl (lv_at hl 0 rfl) ?_
          refine k_get (own := RMD) (ref := RMD) (C := RMD) (T := TMD) (N := 7) (ci := 4) (v := .ref li) hx hb hW inMD hown hM hma rfl 5 (by decide) (hW _ w_296) (fun _ h => h) rfl dMD_part_40 ?_
          refine lv_iload_n hx hb dMD_part_43 rfl (lv_at hl 1 rfl) ?_
          refine k_aald (i := i) (r := some (lw i)) hx hb hM 6 hli rfl (by omega) (by omega) ((hLst _ _ hv_i).1) dMD_part_44 ?_
          refine k_get (own := RMD) (ref := RMV) (C := RMV) (T := TMV) (N := 3) (ci := 5) (v := .int (nI vi.2.2.2.length)) hx hb hW inMV hown hM (hLst _ _ hv_i).2.1 rfl 2 (by decide) (hW _ w_422) (fun _ h => h) rfl dMD_part_45 ?_
          refine lv_if_ne (tgt := 55) hx hb dMD_part_48 (by decide) (fun h48 => ?_) (fun h48 => ?_)
          · have h48 := (nJ_ne_t (a := vi.2.2.2.length) (b := 0) (by omega) (by omega)).mp h48
            refine lv_aload_n hx hb dMD_part_55 rfl (lv_at hl 0 rfl) ?_
            refine k_get (own := RMD) (ref := RMD) (C := RMD) (T := TMD) (N := 7) (ci := 4) (v := .ref li) hx hb hW inMD hown hM hma rfl 5 (by decide) (hW _ w_296) (fun _ h => h) rfl dMD_part_56 ?_
            refine lv_iload_n hx hb dMD_part_59 rfl (lv_at hl 1 rfl) ?_
            refine k_aald (i := i) (r := some (lw i)) hx hb hM 6 hli rfl (by omega) (by omega) ((hLst _ _ hv_i).1) dMD_part_60 ?_
            refine k_get (own := RMD) (ref := RMV) (C := RMV) (T := TMV) (N := 3) (ci := 5) (v := .int (nI vi.2.2.2.length)) hx hb hW inMV hown hM (hLst _ _ hv_i).2.1 rfl 2 (by decide) (hW _ w_422) (fun _ h => h) rfl dMD_part_61 ?_
            refine lv_iconst (v := nI 1) hx hb dMD_part_64 (by decide) ?_
            refine lv_isub hx hb dMD_part_65 ?_
            refine topi_eq (y := nI (vi.2.2.2.length - 1)) (pk_sub (a := vi.2.2.2.length) (b := 1) (by omega)) ?_
            refine topi_eq (y := nI ((vi.2.2.2.length - 1) + mS vi.2.2.2 0)) (congrArg nI (by rw [mS_0]; omega)) ?_
            refine lv_istore_n (lv' := [(3, .int (nI ((vi.2.2.2.length - 1) + mS vi.2.2.2 0))), (0, .ref ma), (1, .int (nI i)), (2, .int (nI j))]) hx hb dMD_part_66 rfl hl (by decide) rfl (fun ls hl => ?_)
            refine lv_iconst (v := nI 0) hx hb dMD_part_67 (by decide) ?_
            refine lv_istore (lv' := [(4, .int (nI 0)), (3, .int (nI ((vi.2.2.2.length - 1) + mS vi.2.2.2 0))), (0, .ref ma), (1, .int (nI i)), (2, .int (nI j))]) hx hb dMD_part_68 hl (by decide) rfl (fun ls hl => ?_)
            exact cut70 _ i j vi 0 (Nat.lt_succ_self _) (by rfl) (by rfl) (by first | assumption | omega | exact rfl) (by first | assumption | omega | exact rfl) (by first | assumption | omega | exact rfl) (by first | assumption | omega | exact rfl) (by first | assumption | omega | exact rfl) ls H locs (lv_sub hl [2, 3, 1, 0] rfl) hM
          · have h48 := (nJ_ne_f (a := vi.2.2.2.length) (b := 0) (by omega) (by omega)).mp h48
            refine lv_iconst (v := nI 0) hx hb dMD_part_51 (by decide) ?_
            refine lv_goto (tgt := 66) hx hb dMD_part_52 (by decide) ?_
            refine topi_eq (y := nI ((vi.2.2.2.length - 1) + mS vi.2.2.2 0)) (congrArg nI (by rw [mS_0]; omega)) ?_
            refine lv_istore_n (lv' := [(3, .int (nI ((vi.2.2.2.length - 1) + mS vi.2.2.2 0))), (0, .ref ma), (1, .int (nI i)), (2, .int (nI j))]) hx hb dMD_part_66 rfl hl (by decide) rfl (fun ls hl => ?_)
            refine lv_iconst (v := nI 0) hx hb dMD_part_67 (by decide) ?_
            refine lv_istore (lv' := [(4, .int (nI 0)), (3, .int (nI ((vi.2.2.2.length - 1) + mS vi.2.2.2 0))), (0, .ref ma), (1, .int (nI i)), (2, .int (nI j))]) hx hb dMD_part_68 hl (by decide) rfl (fun ls hl => ?_)
            exact cut70 _ i j vi 0 (Nat.lt_succ_self _) (by rfl) (by rfl) (by first | assumption | omega | exact rfl) (by first | assumption | omega | exact rfl) (by first | assumption | omega | exact rfl) (by first | assumption | omega | exact rfl) (by first | assumption | omega | exact rfl) ls H locs (lv_sub hl [2, 3, 1, 0] rfl) hM
        · have h24 := (nJ_ge_f (a := j) (b := 3) (by omega) (by omega)).mp h24
          refine lv_aload_n hx hb dMD_part_27 rfl (lv_at hl 0 rfl) ?_
          refine k_get (own := RMD) (ref := RMD) (C := RMD) (T := TMD) (N := 7) (ci := 4) (v := .ref li) hx hb hW inMD hown hM hma rfl 5 (by decide) (hW _ w_296) (fun _ h => h) rfl dMD_part_28 ?_
          refine lv_iload_n hx hb dMD_part_31 rfl (lv_at hl 1 rfl) ?_
          refine k_aald (i := i) (r := some (lw i)) hx hb hM 6 hli rfl (by omega) (by omega) ((hLst _ _ hv_i).1) dMD_part_32 ?_
          refine k_get (own := RMD) (ref := RMV) (C := RMV) (T := TMV) (N := 3) (ci := 5) (v := .ref (naf i)) hx hb hW inMV hown hM (hLst _ _ hv_i).2.1 rfl 0 (by decide) (hW _ w_419) (fun _ h => h) rfl dMD_part_33 ?_
          refine lv_iload_n hx hb dMD_part_36 rfl (lv_at hl 2 rfl) ?_
          refine k_iald (i := j) hx hb hM 1 (hLst _ _ hv_i).2.2.1 rfl (by omega) (by omega) dMD_part_37 ?_
          exact kr_i hx hb hr hlocks hM dMD_part_38 (⟨rfl, Or.inr (Or.inr ⟨i, j, vi, hv_i, by omega, rfl, rfl, by unfold ptV; rcases (show j = 0 ∨ j = 1 ∨ j = 2 by omega) with rfl | rfl | rfl; rw [if_pos rfl, (hLst _ _ hv_i).2.2.2.1]; rw [if_neg (by decide), if_pos rfl, (hLst _ _ hv_i).2.2.2.2.1]; rw [if_neg (by decide), if_neg (by decide), if_pos rfl, (hLst _ _ hv_i).2.2.2.2.2.1]⟩)⟩)
      · refine topi_eq (y := nI 0) (bI_f hl_i).symm ?_
        refine lv_if_ne (tgt := 22) hx hb dMD_part_16 (by decide) (fun h => absurd (by decide) h) (fun _ => ?_)
        refine lv_bipush (v := (-2)) hx hb dMD_part_19 (by decide) ?_
        exact kr_i hx hb hr hlocks hM dMD_part_21 (⟨rfl, Or.inr (Or.inl ⟨by rw [nI_toInt hj]; omega, hl_i, rfl⟩)⟩)
    · have h6 := (nJ_le_f (a := j) (b := 3) (by omega) (by omega)).mp h6
      refine lv_iconst (v := (-1)) hx hb dMD_part_9 (by decide) ?_
      exact kr_i hx hb hr hlocks hM dMD_part_10 (⟨rfl, Or.inl ⟨by first | omega | (rw [nI_toInt hj]; omega), rfl⟩⟩)
