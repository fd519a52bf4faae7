set_option maxHeartbeats 800000 in
set_option maxRecDepth 100000 in
theorem mMD_digit (l : Launch) (g : kG) (μ : km_M) {x : Nat} (hx0 : x < 256) : Met l yMD_digit (Cond.code yMD_digit cMD_digit 1 (some .boolean) :: Wd) ({ frames := 0, cells := 0, slots := 0, locals := 0 } : Room) (kPre g μ [.int (nI x)]) (kQi g (fun (r : Int32) (μ1 : km_M) => r = bI (decide (48 ≤ x ∧ x ≤ 57)) ∧ μ1 = μ)) 0 0 (kF g) := by
  refine k_met (by decide) (Nat.le_of_ble_eq_true rfl) ?_
  intro p e s m below meth c hx hb hr hlocks hml hown hnm hW ls hl H locs hM
  have hl : lv_has ls 1 [(0, .int (nI x))] := hl
  refine lv_iload_n hx hb dMD_digit_0 rfl (lv_at hl 0 rfl) ?_
  refine lv_bipush (v := nI 48) hx hb dMD_digit_1 (by decide) ?_
  refine lv_icmp_lt (tgt := 16) hx hb dMD_digit_3 (by decide) (fun h3 => ?_) (fun h3 => ?_)
  · have h3 := (nJ_lt_t (a := x) (b := 48) (by omega) (by omega)).mp h3
    refine lv_iconst (v := nI 0) hx hb dMD_digit_16 (by decide) ?_
    exact kr_z hx hb hr (by decide) hlocks hM dMD_digit_17 (⟨by first | rfl | exact bI_t (by omega) | exact bI_f (by omega), rfl⟩)
  · have h3 := (nJ_lt_f (a := x) (b := 48) (by omega) (by omega)).mp h3
    refine lv_iload_n hx hb dMD_digit_6 rfl (lv_at hl 0 rfl) ?_
    refine lv_bipush (v := nI 57) hx hb dMD_digit_7 (by decide) ?_
    refine lv_icmp_gt (tgt := 16) hx hb dMD_digit_9 (by decide) (fun h9 => ?_) (fun h9 => ?_)
    · have h9 := (nJ_gt_t (a := x) (b := 57) (by omega) (by omega)).mp h9
      refine lv_iconst (v := nI 0) hx hb dMD_digit_16 (by decide) ?_
      exact kr_z hx hb hr (by decide) hlocks hM dMD_digit_17 (⟨by first | rfl | exact bI_t (by omega) | exact bI_f (by omega), rfl⟩)
    · have h9 := (nJ_gt_f (a := x) (b := 57) (by omega) (by omega)).mp h9
      refine lv_iconst (v := nI 1) hx hb dMD_digit_12 (by decide) ?_
      refine lv_goto (tgt := 17) hx hb dMD_digit_13 (by decide) ?_
      exact kr_z hx hb hr (by decide) hlocks hM dMD_digit_17 (⟨by first | rfl | exact bI_t (by omega) | exact bI_f (by omega), rfl⟩)
set_option maxHeartbeats 800000 in
set_option maxRecDepth 100000 in
theorem mMD_letter (l : Launch) (g : kG) (μ : km_M) {x : Nat} (hx0 : x < 256) : Met l yMD_letter (Cond.code yMD_letter cMD_letter 1 (some .boolean) :: Wd) ({ frames := 0, cells := 0, slots := 0, locals := 0 } : Room) (kPre g μ [.int (nI x)]) (kQi g (fun (r : Int32) (μ1 : km_M) => r = bI (decide ((97 ≤ x ∧ x ≤ 122) ∨ (65 ≤ x ∧ x ≤ 90))) ∧ μ1 = μ)) 0 0 (kF g) := by
  refine k_met (by decide) (Nat.le_of_ble_eq_true rfl) ?_
  intro p e s m below meth c hx hb hr hlocks hml hown hnm hW ls hl H locs hM
  have hl : lv_has ls 1 [(0, .int (nI x))] := hl
  refine lv_iload_n hx hb dMD_letter_0 rfl (lv_at hl 0 rfl) ?_
  refine lv_bipush (v := nI 97) hx hb dMD_letter_1 (by decide) ?_
  refine lv_icmp_lt (tgt := 12) hx hb dMD_letter_3 (by decide) (fun h3 => ?_) (fun h3 => ?_)
  · have h3 := (nJ_lt_t (a := x) (b := 97) (by omega) (by omega)).mp h3
    refine lv_iload_n hx hb dMD_letter_12 rfl (lv_at hl 0 rfl) ?_
    refine lv_bipush (v := nI 65) hx hb dMD_letter_13 (by decide) ?_
    refine lv_icmp_lt (tgt := 28) hx hb dMD_letter_15 (by decide) (fun h15 => ?_) (fun h15 => ?_)
    · have h15 := (nJ_lt_t (a := x) (b := 65) (by omega) (by omega)).mp h15
      refine lv_iconst (v := nI 0) hx hb dMD_letter_28 (by decide) ?_
      exact kr_z hx hb hr (by decide) hlocks hM dMD_letter_29 (⟨by first | rfl | exact bI_t (by omega) | exact bI_f (by omega), rfl⟩)
    · have h15 := (nJ_lt_f (a := x) (b := 65) (by omega) (by omega)).mp h15
      refine lv_iload_n hx hb dMD_letter_18 rfl (lv_at hl 0 rfl) ?_
      refine lv_bipush (v := nI 90) hx hb dMD_letter_19 (by decide) ?_
      refine lv_icmp_gt (tgt := 28) hx hb dMD_letter_21 (by decide) (fun h21 => ?_) (fun h21 => ?_)
      · have h21 := (nJ_gt_t (a := x) (b := 90) (by omega) (by omega)).mp h21
        refine lv_iconst (v := nI 0) hx hb dMD_letter_28 (by decide) ?_
        exact kr_z hx hb hr (by decide) hlocks hM dMD_letter_29 (⟨by first | rfl | exact bI_t (by omega) | exact bI_f (by omega), rfl⟩)
      · have h21 := (nJ_gt_f (a := x) (b := 90) (by omega) (by omega)).mp h21
        refine lv_iconst (v := nI 1) hx hb dMD_letter_24 (by decide) ?_
        refine lv_goto (tgt := 29) hx hb dMD_letter_25 (by decide) ?_
        exact kr_z hx hb hr (by decide) hlocks hM dMD_letter_29 (⟨by first | rfl | exact bI_t (by omega) | exact bI_f (by omega), rfl⟩)
  · have h3 := (nJ_lt_f (a := x) (b := 97) (by omega) (by omega)).mp h3
    refine lv_iload_n hx hb dMD_letter_6 rfl (lv_at hl 0 rfl) ?_
    refine lv_bipush (v := nI 122) hx hb dMD_letter_7 (by decide) ?_
    refine lv_icmp_le (tgt := 24) hx hb dMD_letter_9 (by decide) (fun h9 => ?_) (fun h9 => ?_)
    · have h9 := (nJ_le_t (a := x) (b := 122) (by omega) (by omega)).mp h9
      refine lv_iconst (v := nI 1) hx hb dMD_letter_24 (by decide) ?_
      refine lv_goto (tgt := 29) hx hb dMD_letter_25 (by decide) ?_
      exact kr_z hx hb hr (by decide) hlocks hM dMD_letter_29 (⟨by first | rfl | exact bI_t (by omega) | exact bI_f (by omega), rfl⟩)
    · have h9 := (nJ_le_f (a := x) (b := 122) (by omega) (by omega)).mp h9
      refine lv_iload_n hx hb dMD_letter_12 rfl (lv_at hl 0 rfl) ?_
      refine lv_bipush (v := nI 65) hx hb dMD_letter_13 (by decide) ?_
      refine lv_icmp_lt (tgt := 28) hx hb dMD_letter_15 (by decide) (fun h15 => ?_) (fun h15 => ?_)
      · have h15 := (nJ_lt_t (a := x) (b := 65) (by omega) (by omega)).mp h15
        refine lv_iconst (v := nI 0) hx hb dMD_letter_28 (by decide) ?_
        exact kr_z hx hb hr (by decide) hlocks hM dMD_letter_29 (⟨by first | rfl | exact bI_t (by omega) | exact bI_f (by omega), rfl⟩)
      · have h15 := (nJ_lt_f (a := x) (b := 65) (by omega) (by omega)).mp h15
        refine lv_iload_n hx hb dMD_letter_18 rfl (lv_at hl 0 rfl) ?_
        refine lv_bipush (v := nI 90) hx hb dMD_letter_19 (by decide) ?_
        refine lv_icmp_gt (tgt := 28) hx hb dMD_letter_21 (by decide) (fun h21 => ?_) (fun h21 => ?_)
        · have h21 := (nJ_gt_t (a := x) (b := 90) (by omega) (by omega)).mp h21
          refine lv_iconst (v := nI 0) hx hb dMD_letter_28 (by decide) ?_
          exact kr_z hx hb hr (by decide) hlocks hM dMD_letter_29 (⟨by first | rfl | exact bI_t (by omega) | exact bI_f (by omega), rfl⟩)
        · have h21 := (nJ_gt_f (a := x) (b := 90) (by omega) (by omega)).mp h21
          refine lv_iconst (v := nI 1) hx hb dMD_letter_24 (by decide) ?_
          refine lv_goto (tgt := 29) hx hb dMD_letter_25 (by decide) ?_
          exact kr_z hx hb hr (by decide) hlocks hM dMD_letter_29 (⟨by first | rfl | exact bI_t (by omega) | exact bI_f (by omega), rfl⟩)
set_option maxHeartbeats 800000 in
set_option maxRecDepth 100000 in
theorem mMD_clear (l : Launch) (g : kG) (μ : km_M) {ma tp wd li tl ws at0 cnt : Nat} (hma : μ ma = some (.inr (4, [.ref tp, .int (nI tl), .ref wd, .int (nI ws), .int (nI at0), .ref li, .int (nI cnt)]))) : Met l yMD_clear (Cond.code yMD_clear cMD_clear 2 (some .int) :: Wd) ({ frames := 0, cells := 0, slots := 0, locals := 0 } : Room) (kPre g μ [.ref ma]) (kQi g (fun (r : Int32) (μ1 : km_M) => r = nI cnt ∧ μ1 = km_up μ ma (.inr (4, [.ref tp, .int (nI tl), .ref wd, .int (nI ws), .int (nI at0), .ref li, .int (nI 0)])))) 0 0 (kF g) := by
  refine k_met (by decide) (Nat.le_of_ble_eq_true rfl) ?_
  intro p e s m below meth c hx hb hr hlocks hml hown hnm hW ls hl H locs hM
  have hl : lv_has ls 2 [(0, .ref ma)] := hl
  refine lv_aload_n hx hb dMD_clear_0 rfl (lv_at hl 0 rfl) ?_
  refine k_get (own := RMD) (ref := RMD) (C := RMD) (T := TMD) (N := 7) (ci := 4) (v := .int (nI cnt)) hx hb hW inMD hown hM hma rfl 6 (by decide) (hW _ w_297) (fun _ h => h) rfl dMD_clear_1 ?_
  refine lv_istore_n (lv' := [(1, .int (nI cnt)), (0, .ref ma)]) hx hb dMD_clear_4 rfl hl (by decide) rfl (fun ls hl => ?_)
  refine lv_aload_n hx hb dMD_clear_5 rfl (lv_at hl 1 rfl) ?_
  refine lv_iconst (v := nI 0) hx hb dMD_clear_6 (by decide) ?_
  refine k_put (own := RMD) (ref := RMD) (C := RMD) (T := TMD) (N := 7) (ci := 4) (v := .int (nI 0)) (ty := .int) (fs' := [.ref tp, .int (nI tl), .ref wd, .int (nI ws), .int (nI at0), .ref li, .int (nI 0)]) hx hb hW inMD tyMD tyokMD nmokMD hown hM hma rfl 6 (by decide) (hW _ w_297) (fun _ h => h) rfl (by decide +kernel) rfl rfl (Nat.le_of_ble_eq_true rfl) dMD_clear_7 rfl (fun H locs hM => ?_)
  have hM : kS g (km_up μ ma (.inr (4, [.ref tp, .int (nI tl), .ref wd, .int (nI ws), .int (nI at0), .ref li, .int (nI 0)]))) s H locs := hM
  refine lv_iload_n hx hb dMD_clear_10 rfl (lv_at hl 0 rfl) ?_
  exact kr_i hx hb hr hlocks hM dMD_clear_11 (⟨rfl, rfl⟩)
set_option maxHeartbeats 800000 in
set_option maxRecDepth 100000 in
theorem mMD_is (l : Launch) (g : kG) (μ : km_M) {ma tp wd li tl ws at0 cnt : Nat} (hma : μ ma = some (.inr (4, [.ref tp, .int (nI tl), .ref wd, .int (nI ws), .int (nI at0), .ref li, .int (nI cnt)]))) (hcnt : cnt ≤ 12) {k : Int32} : Met l yMD_is (Cond.code yMD_is cMD_is 2 (some .boolean) :: Wd) ({ frames := 0, cells := 0, slots := 0, locals := 0 } : Room) (kPre g μ [.ref ma, .int k]) (kQi g (fun (r : Int32) (μ1 : km_M) => r = bI (decide (0 ≤ k.toInt ∧ k.toInt < (cnt : Int))) ∧ μ1 = μ)) 0 0 (kF g) := by
  refine k_met (by decide) (Nat.le_of_ble_eq_true rfl) ?_
  intro p e s m below meth c hx hb hr hlocks hml hown hnm hW ls hl H locs hM
  have hl : lv_has ls 2 [(0, .ref ma), (1, .int k)] := hl
  refine lv_iload_n hx hb dMD_is_0 rfl (lv_at hl 1 rfl) ?_
  refine lv_if_lt (tgt := 16) hx hb dMD_is_1 (by decide) (fun h1 => ?_) (fun h1 => ?_)
  · have h1 := i0_lt.mp h1
    refine lv_iconst (v := nI 0) hx hb dMD_is_16 (by decide) ?_
    exact kr_z hx hb hr (by decide) hlocks hM dMD_is_17 (⟨by first | rfl | exact bI_t (by omega) | exact bI_f (by omega), rfl⟩)
  · have h1 := (not_congr i0_lt).mp h1
    refine lv_iload_n hx hb dMD_is_4 rfl (lv_at hl 1 rfl) ?_
    refine lv_aload_n hx hb dMD_is_5 rfl (lv_at hl 0 rfl) ?_
    refine k_get (own := RMD) (ref := RMD) (C := RMD) (T := TMD) (N := 7) (ci := 4) (v := .int (nI cnt)) hx hb hW inMD hown hM hma rfl 6 (by decide) (hW _ w_297) (fun _ h => h) rfl dMD_is_6 ?_
    refine lv_icmp_ge (tgt := 16) hx hb dMD_is_9 (by decide) (fun h9 => ?_) (fun h9 => ?_)
    · have h9 := (iN_le (by omega)).mp h9
      refine lv_iconst (v := nI 0) hx hb dMD_is_16 (by decide) ?_
      exact kr_z hx hb hr (by decide) hlocks hM dMD_is_17 (⟨by first | rfl | exact bI_t (by omega) | exact bI_f (by omega), rfl⟩)
    · have h9 := (not_congr (iN_le (n := cnt) (by omega))).mp h9
      refine lv_iconst (v := nI 1) hx hb dMD_is_12 (by decide) ?_
      refine lv_goto (tgt := 17) hx hb dMD_is_13 (by decide) ?_
      exact kr_z hx hb hr (by decide) hlocks hM dMD_is_17 (⟨by first | rfl | exact bI_t (by omega) | exact bI_f (by omega), rfl⟩)
set_option maxHeartbeats 800000 in
set_option maxRecDepth 100000 in
theorem mMD_end (l : Launch) (g : kG) (μ : km_M) {ma tp wd li tl ws at0 cnt : Nat} (hma : μ ma = some (.inr (4, [.ref tp, .int (nI tl), .ref wd, .int (nI ws), .int (nI at0), .ref li, .int (nI cnt)]))) (htl : tl ≤ 400) {n : Int32} : Met l yMD_end (Cond.code yMD_end cMD_end 2 (some .int) :: Wd) ({ frames := 0, cells := 0, slots := 0, locals := 0 } : Room) (kPre g μ [.ref ma, .int n]) (kQi g (fun (r : Int32) (μ1 : km_M) => ((0 ≤ n.toInt ∧ n.toInt ≤ (tl : Int)) ∧ r = n ∧ ∃ j, n = nI j ∧ j ≤ tl ∧ μ1 = km_up μ ma (.inr (4, [.ref tp, .int (nI j), .ref wd, .int (nI ws), .int (nI at0), .ref li, .int (nI cnt)]))) ∨ (¬ (0 ≤ n.toInt ∧ n.toInt ≤ (tl : Int)) ∧ r = (-1) ∧ μ1 = μ))) 0 0 (kF g) := by
  refine k_met (by decide) (Nat.le_of_ble_eq_true rfl) ?_
  intro p e s m below meth c hx hb hr hlocks hml hown hnm hW ls hl H locs hM
  have hl : lv_has ls 2 [(0, .ref ma), (1, .int n)] := hl
  refine lv_iload_n hx hb dMD_end_0 rfl (lv_at hl 1 rfl) ?_
  refine lv_if_lt (tgt := 12) hx hb dMD_end_1 (by decide) (fun h1 => ?_) (fun h1 => ?_)
  · have h1 := i0_lt.mp h1
    refine lv_iconst (v := (-1)) hx hb dMD_end_12 (by decide) ?_
    exact kr_i hx hb hr hlocks hM dMD_end_13 (Or.inr ⟨by first | omega | (rw [nI_toInt hj]; omega), rfl, rfl⟩)
  · obtain ⟨j, hj, rfl⟩ := nI_of h1
    refine lv_iload_n hx hb dMD_end_4 rfl (lv_at hl 1 rfl) ?_
    refine lv_aload_n hx hb dMD_end_5 rfl (lv_at hl 0 rfl) ?_
    refine k_get (own := RMD) (ref := RMD) (C := RMD) (T := TMD) (N := 7) (ci := 4) (v := .int (nI tl)) hx hb hW inMD hown hM hma rfl 1 (by decide) (hW _ w_292) (fun _ h => h) rfl dMD_end_6 ?_
    refine lv_icmp_le (tgt := 14) hx hb dMD_end_9 (by decide) (fun h9 => ?_) (fun h9 => ?_)
    · have h9 := (nJ_le_t (a := j) (b := tl) (by omega) (by omega)).mp h9
      refine lv_aload_n hx hb dMD_end_14 rfl (lv_at hl 0 rfl) ?_
      refine lv_iload_n hx hb dMD_end_15 rfl (lv_at hl 1 rfl) ?_
      refine k_put (own := RMD) (ref := RMD) (C := RMD) (T := TMD) (N := 7) (ci := 4) (v := .int (nI j)) (ty := .int) (fs' := [.ref tp, .int (nI j), .ref wd, .int (nI ws), .int (nI at0), .ref li, .int (nI cnt)]) hx hb hW inMD tyMD tyokMD nmokMD hown hM hma rfl 1 (by decide) (hW _ w_292) (fun _ h => h) rfl (by decide +kernel) rfl rfl (Nat.le_of_ble_eq_true rfl) dMD_end_16 rfl (fun H locs hM => ?_)
      have hM : kS g (km_up μ ma (.inr (4, [.ref tp, .int (nI j), .ref wd, .int (nI ws), .int (nI at0), .ref li, .int (nI cnt)]))) s H locs := hM
      refine lv_iload_n hx hb dMD_end_19 rfl (lv_at hl 1 rfl) ?_
      exact kr_i hx hb hr hlocks hM dMD_end_20 (Or.inl ⟨by rw [nI_toInt hj]; omega, rfl, j, rfl, by omega, rfl⟩)
    · have h9 := (nJ_le_f (a := j) (b := tl) (by omega) (by omega)).mp h9
      refine lv_iconst (v := (-1)) hx hb dMD_end_12 (by decide) ?_
      exact kr_i hx hb hr hlocks hM dMD_end_13 (Or.inr ⟨by first | omega | (rw [nI_toInt hj]; omega), rfl, rfl⟩)
set_option maxHeartbeats 800000 in
set_option maxRecDepth 100000 in
theorem mMD_put (l : Launch) (g : kG) (μ : km_M) {ma tp wd li tl ws at0 cnt : Nat} (hma : μ ma = some (.inr (4, [.ref tp, .int (nI tl), .ref wd, .int (nI ws), .int (nI at0), .ref li, .int (nI cnt)]))) {B : Nat → Nat} (hB : ∀ k, B k < 256) (htp : μ tp = some (.inl (g.2.2.1 3, 400, .inl (fun j => nI (B j))))) {v : Int32} (htl : tl + 4 ≤ 400) : Met l yMD_put (Cond.code yMD_put cMD_put 3 none :: Wd) ({ frames := 0, cells := 0, slots := 0, locals := 0 } : Room) (kPre g μ [.ref ma, .int v]) (kQv g (fun (μ1 : km_M) => μ1 = km_up (km_up μ tp (.inl (g.2.2.1 3, 400, .inl (fun j => nI ((pb4 B tl v) j))))) ma (.inr (4, [.ref tp, .int (nI (tl + 4)), .ref wd, .int (nI ws), .int (nI at0), .ref li, .int (nI cnt)])))) 0 0 (kF g) := by
  refine k_met (by decide) (Nat.le_of_ble_eq_true rfl) ?_
  intro p e s m below meth c hx hb hr hlocks hml hown hnm hW ls hl H locs hM
  have hl : lv_has ls 3 [(0, .ref ma), (1, .int v)] := hl
  refine lv_bipush (v := nI 24) hx hb dMD_put_0 (by decide) ?_
  refine lv_istore_n (lv' := [(2, .int (nI 24)), (0, .ref ma), (1, .int v)]) hx hb dMD_put_2 rfl hl (by decide) rfl (fun ls hl => ?_)
  refine lv_iload_n hx hb dMD_put_3 rfl (lv_at hl 0 rfl) ?_
  refine lv_if_lt (tgt := 40) hx hb dMD_put_4 (by decide) (fun h => absurd h (by decide)) (fun _ => ?_)
  refine lv_aload_n hx hb dMD_put_7 rfl (lv_at hl 1 rfl) ?_
  refine k_get (own := RMD) (ref := RMD) (C := RMD) (T := TMD) (N := 7) (ci := 4) (v := .ref tp) hx hb hW inMD hown hM hma rfl 0 (by decide) (hW _ w_291) (fun _ h => h) rfl dMD_put_8 ?_
  refine lv_aload_n hx hb dMD_put_11 rfl (lv_at hl 1 rfl) ?_
  refine k_get (own := RMD) (ref := RMD) (C := RMD) (T := TMD) (N := 7) (ci := 4) (v := .int (nI tl)) hx hb hW inMD hown hM hma rfl 1 (by decide) (hW _ w_292) (fun _ h => h) rfl dMD_put_12 ?_
  refine lv_iload_n hx hb dMD_put_15 rfl (lv_at hl 2 rfl) ?_
  refine lv_iload_n hx hb dMD_put_16 rfl (lv_at hl 0 rfl) ?_
  refine lv_ishr hx hb dMD_put_17 ?_
  refine lv_sipush (v := nI 255) hx hb dMD_put_18 (by decide) ?_
  refine lv_iand hx hb dMD_put_21 ?_
  refine topi_eq (y := nI (bt v 24)) (bt_nI _ _) ?_
  refine lv_i2c (v := nI (bt v 24)) hx hb dMD_put_22 (nI_c (Nat.lt_trans (bt_lt _ _) (by decide))) ?_
  refine k_cast (i := tl) (f1 := (fun j => nI ((va_up B tl (bt v 24)) j))) hx hb hM 3 htp rfl (by omega) (by omega) (updc_at (Nat.lt_trans (bt_lt _ _) (by decide))) dMD_put_23 (fun H locs hM => ?_)
  have hM : kS g (km_up μ tp (.inl (g.2.2.1 3, 400, .inl (fun j => nI ((va_up B tl (bt v 24)) j))))) s H locs := hM
  refine lv_aload_n hx hb dMD_put_24 rfl (lv_at hl 1 rfl) ?_
  refine lv_dup hx hb dMD_put_25 rfl ?_
  refine k_get (own := RMD) (ref := RMD) (C := RMD) (T := TMD) (N := 7) (ci := 4) (v := .int (nI tl)) hx hb hW inMD hown hM ((km_n (km_apB hma htp)).trans hma) rfl 1 (by decide) (hW _ w_292) (fun _ h => h) rfl dMD_put_26 ?_
  refine lv_iconst (v := nI 1) hx hb dMD_put_29 (by decide) ?_
  refine lv_iadd hx hb dMD_put_30 ?_
  refine topi_eq (y := nI (tl + 1)) (nI_add tl 1) ?_
  refine k_put (own := RMD) (ref := RMD) (C := RMD) (T := TMD) (N := 7) (ci := 4) (v := .int (nI (tl + 1))) (ty := .int) (fs' := [.ref tp, .int (nI (tl + 1)), .ref wd, .int (nI ws), .int (nI at0), .ref li, .int (nI cnt)]) hx hb hW inMD tyMD tyokMD nmokMD hown hM ((km_n (km_apB hma htp)).trans hma) rfl 1 (by decide) (hW _ w_292) (fun _ h => h) rfl (by decide +kernel) rfl rfl (Nat.le_of_ble_eq_true rfl) dMD_put_31 rfl (fun H locs hM => ?_)
  have hM : kS g (km_up (km_up μ tp (.inl (g.2.2.1 3, 400, .inl (fun j => nI ((va_up B tl (bt v 24)) j))))) ma (.inr (4, [.ref tp, .int (nI (tl + 1)), .ref wd, .int (nI ws), .int (nI at0), .ref li, .int (nI cnt)]))) s H locs := hM
  refine lv_iinc (v := nI 16) (lv' := [(2, .int (nI 16)), (0, .ref ma), (1, .int v)]) (k := 0) hx hb dMD_put_34 hl rfl (by decide) (by decide) rfl (fun ls hl => ?_)
  refine lv_goto (tgt := 3) hx hb dMD_put_37 (by decide) ?_
  refine lv_iload_n hx hb dMD_put_3 rfl (lv_at hl 0 rfl) ?_
  refine lv_if_lt (tgt := 40) hx hb dMD_put_4 (by decide) (fun h => absurd h (by decide)) (fun _ => ?_)
  refine lv_aload_n hx hb dMD_put_7 rfl (lv_at hl 1 rfl) ?_
  refine k_get (own := RMD) (ref := RMD) (C := RMD) (T := TMD) (N := 7) (ci := 4) (v := .ref tp) hx hb hW inMD hown hM (km_s _ _ _) rfl 0 (by decide) (hW _ w_291) (fun _ h => h) rfl dMD_put_8 ?_
  refine lv_aload_n hx hb dMD_put_11 rfl (lv_at hl 1 rfl) ?_
  refine k_get (own := RMD) (ref := RMD) (C := RMD) (T := TMD) (N := 7) (ci := 4) (v := .int (nI (tl + 1))) hx hb hW inMD hown hM (km_s _ _ _) rfl 1 (by decide) (hW _ w_292) (fun _ h => h) rfl dMD_put_12 ?_
  refine lv_iload_n hx hb dMD_put_15 rfl (lv_at hl 2 rfl) ?_
  refine lv_iload_n hx hb dMD_put_16 rfl (lv_at hl 0 rfl) ?_
  refine lv_ishr hx hb dMD_put_17 ?_
  refine lv_sipush (v := nI 255) hx hb dMD_put_18 (by decide) ?_
  refine lv_iand hx hb dMD_put_21 ?_
  refine topi_eq (y := nI (bt v 16)) (bt_nI _ _) ?_
  refine lv_i2c (v := nI (bt v 16)) hx hb dMD_put_22 (nI_c (Nat.lt_trans (bt_lt _ _) (by decide))) ?_
  refine k_cast (i := tl + 1) (f1 := (fun j => nI ((va_up (va_up B tl (bt v 24)) (tl + 1) (bt v 16)) j))) hx hb hM 3 ((km_n (km_apA htp hma)).trans (km_s _ _ _)) rfl (by omega) (by omega) (updc_at (Nat.lt_trans (bt_lt _ _) (by decide))) dMD_put_23 (fun H locs hM => ?_)
  have hM : kS g (km_up (km_up μ tp (.inl (g.2.2.1 3, 400, .inl (fun j => nI ((va_up (va_up B tl (bt v 24)) (tl + 1) (bt v 16)) j))))) ma (.inr (4, [.ref tp, .int (nI (tl + 1)), .ref wd, .int (nI ws), .int (nI at0), .ref li, .int (nI cnt)]))) s H locs := kS_eq (km_u2 _ _ _ _ (km_apA htp hma)) hM
  refine lv_aload_n hx hb dMD_put_24 rfl (lv_at hl 1 rfl) ?_
  refine lv_dup hx hb dMD_put_25 rfl ?_
  refine k_get (own := RMD) (ref := RMD) (C := RMD) (T := TMD) (N := 7) (ci := 4) (v := .int (nI (tl + 1))) hx hb hW inMD hown hM (km_s _ _ _) rfl 1 (by decide) (hW _ w_292) (fun _ h => h) rfl dMD_put_26 ?_
  refine lv_iconst (v := nI 1) hx hb dMD_put_29 (by decide) ?_
  refine lv_iadd hx hb dMD_put_30 ?_
  refine topi_eq (y := nI (tl + 2)) (nI_add (tl + 1) 1) ?_
  refine k_put (own := RMD) (ref := RMD) (C := RMD) (T := TMD) (N := 7) (ci := 4) (v := .int (nI (tl + 2))) (ty := .int) (fs' := [.ref tp, .int (nI (tl + 2)), .ref wd, .int (nI ws), .int (nI at0), .ref li, .int (nI cnt)]) hx hb hW inMD tyMD tyokMD nmokMD hown hM (km_s _ _ _) rfl 1 (by decide) (hW _ w_292) (fun _ h => h) rfl (by decide +kernel) rfl rfl (Nat.le_of_ble_eq_true rfl) dMD_put_31 rfl (fun H locs hM => ?_)
  have hM : kS g (km_up (km_up μ tp (.inl (g.2.2.1 3, 400, .inl (fun j => nI ((va_up (va_up B tl (bt v 24)) (tl + 1) (bt v 16)) j))))) ma (.inr (4, [.ref tp, .int (nI (tl + 2)), .ref wd, .int (nI ws), .int (nI at0), .ref li, .int (nI cnt)]))) s H locs := kS_eq (km_u1 _ _ _ _) hM
  refine lv_iinc (v := nI 8) (lv' := [(2, .int (nI 8)), (0, .ref ma), (1, .int v)]) (k := 0) hx hb dMD_put_34 hl rfl (by decide) (by decide) rfl (fun ls hl => ?_)
  refine lv_goto (tgt := 3) hx hb dMD_put_37 (by decide) ?_
  refine lv_iload_n hx hb dMD_put_3 rfl (lv_at hl 0 rfl) ?_
  refine lv_if_lt (tgt := 40) hx hb dMD_put_4 (by decide) (fun h => absurd h (by decide)) (fun _ => ?_)
  refine lv_aload_n hx hb dMD_put_7 rfl (lv_at hl 1 rfl) ?_
  refine k_get (own := RMD) (ref := RMD) (C := RMD) (T := TMD) (N := 7) (ci := 4) (v := .ref tp) hx hb hW inMD hown hM (km_s _ _ _) rfl 0 (by decide) (hW _ w_291) (fun _ h => h) rfl dMD_put_8 ?_
  refine lv_aload_n hx hb dMD_put_11 rfl (lv_at hl 1 rfl) ?_
  refine k_get (own := RMD) (ref := RMD) (C := RMD) (T := TMD) (N := 7) (ci := 4) (v := .int (nI (tl + 2))) hx hb hW inMD hown hM (km_s _ _ _) rfl 1 (by decide) (hW _ w_292) (fun _ h => h) rfl dMD_put_12 ?_
  refine lv_iload_n hx hb dMD_put_15 rfl (lv_at hl 2 rfl) ?_
  refine lv_iload_n hx hb dMD_put_16 rfl (lv_at hl 0 rfl) ?_
  refine lv_ishr hx hb dMD_put_17 ?_
  refine lv_sipush (v := nI 255) hx hb dMD_put_18 (by decide) ?_
  refine lv_iand hx hb dMD_put_21 ?_
  refine topi_eq (y := nI (bt v 8)) (bt_nI _ _) ?_
  refine lv_i2c (v := nI (bt v 8)) hx hb dMD_put_22 (nI_c (Nat.lt_trans (bt_lt _ _) (by decide))) ?_
  refine k_cast (i := tl + 2) (f1 := (fun j => nI ((va_up (va_up (va_up B tl (bt v 24)) (tl + 1) (bt v 16)) (tl + 2) (bt v 8)) j))) hx hb hM 3 ((km_n (km_apA htp hma)).trans (km_s _ _ _)) rfl (by omega) (by omega) (updc_at (Nat.lt_trans (bt_lt _ _) (by decide))) dMD_put_23 (fun H locs hM => ?_)
  have hM : kS g (km_up (km_up μ tp (.inl (g.2.2.1 3, 400, .inl (fun j => nI ((va_up (va_up (va_up B tl (bt v 24)) (tl + 1) (bt v 16)) (tl + 2) (bt v 8)) j))))) ma (.inr (4, [.ref tp, .int (nI (tl + 2)), .ref wd, .int (nI ws), .int (nI at0), .ref li, .int (nI cnt)]))) s H locs := kS_eq (km_u2 _ _ _ _ (km_apA htp hma)) hM
  refine lv_aload_n hx hb dMD_put_24 rfl (lv_at hl 1 rfl) ?_
  refine lv_dup hx hb dMD_put_25 rfl ?_
  refine k_get (own := RMD) (ref := RMD) (C := RMD) (T := TMD) (N := 7) (ci := 4) (v := .int (nI (tl + 2))) hx hb hW inMD hown hM (km_s _ _ _) rfl 1 (by decide) (hW _ w_292) (fun _ h => h) rfl dMD_put_26 ?_
  refine lv_iconst (v := nI 1) hx hb dMD_put_29 (by decide) ?_
  refine lv_iadd hx hb dMD_put_30 ?_
  refine topi_eq (y := nI (tl + 3)) (nI_add (tl + 2) 1) ?_
  refine k_put (own := RMD) (ref := RMD) (C := RMD) (T := TMD) (N := 7) (ci := 4) (v := .int (nI (tl + 3))) (ty := .int) (fs' := [.ref tp, .int (nI (tl + 3)), .ref wd, .int (nI ws), .int (nI at0), .ref li, .int (nI cnt)]) hx hb hW inMD tyMD tyokMD nmokMD hown hM (km_s _ _ _) rfl 1 (by decide) (hW _ w_292) (fun _ h => h) rfl (by decide +kernel) rfl rfl (Nat.le_of_ble_eq_true rfl) dMD_put_31 rfl (fun H locs hM => ?_)
  have hM : kS g (km_up (km_up μ tp (.inl (g.2.2.1 3, 400, .inl (fun j => nI ((va_up (va_up (va_up B tl (bt v 24)) (tl + 1) (bt v 16)) (tl + 2) (bt v 8)) j))))) ma (.inr (4, [.ref tp, .int (nI (tl + 3)), .ref wd, .int (nI ws), .int (nI at0), .ref li, .int (nI cnt)]))) s H locs := kS_eq (km_u1 _ _ _ _) hM
  refine lv_iinc (v := nI 0) (lv' := [(2, .int (nI 0)), (0, .ref ma), (1, .int v)]) (k := 0) hx hb dMD_put_34 hl rfl (by decide) (by decide) rfl (fun ls hl => ?_)
  refine lv_goto (tgt := 3) hx hb dMD_put_37 (by decide) ?_
  refine lv_iload_n hx hb dMD_put_3 rfl (lv_at hl 0 rfl) ?_
  refine lv_if_lt (tgt := 40) hx hb dMD_put_4 (by decide) (fun h => absurd h (by decide)) (fun _ => ?_)
  refine lv_aload_n hx hb dMD_put_7 rfl (lv_at hl 1 rfl) ?_
  refine k_get (own := RMD) (ref := RMD) (C := RMD) (T := TMD) (N := 7) (ci := 4) (v := .ref tp) hx hb hW inMD hown hM (km_s _ _ _) rfl 0 (by decide) (hW _ w_291) (fun _ h => h) rfl dMD_put_8 ?_
  refine lv_aload_n hx hb dMD_put_11 rfl (lv_at hl 1 rfl) ?_
  refine k_get (own := RMD) (ref := RMD) (C := RMD) (T := TMD) (N := 7) (ci := 4) (v := .int (nI (tl + 3))) hx hb hW inMD hown hM (km_s _ _ _) rfl 1 (by decide) (hW _ w_292) (fun _ h => h) rfl dMD_put_12 ?_
  refine lv_iload_n hx hb dMD_put_15 rfl (lv_at hl 2 rfl) ?_
  refine lv_iload_n hx hb dMD_put_16 rfl (lv_at hl 0 rfl) ?_
  refine lv_ishr hx hb dMD_put_17 ?_
  refine lv_sipush (v := nI 255) hx hb dMD_put_18 (by decide) ?_
  refine lv_iand hx hb dMD_put_21 ?_
  refine topi_eq (y := nI (bt v 0)) (bt_nI _ _) ?_
  refine lv_i2c (v := nI (bt v 0)) hx hb dMD_put_22 (nI_c (Nat.lt_trans (bt_lt _ _) (by decide))) ?_
  refine k_cast (i := tl + 3) (f1 := (fun j => nI ((va_up (va_up (va_up (va_up B tl (bt v 24)) (tl + 1) (bt v 16)) (tl + 2) (bt v 8)) (tl + 3) (bt v 0)) j))) hx hb hM 3 ((km_n (km_apA htp hma)).trans (km_s _ _ _)) rfl (by omega) (by omega) (updc_at (Nat.lt_trans (bt_lt _ _) (by decide))) dMD_put_23 (fun H locs hM => ?_)
  have hM : kS g (km_up (km_up μ tp (.inl (g.2.2.1 3, 400, .inl (fun j => nI ((va_up (va_up (va_up (va_up B tl (bt v 24)) (tl + 1) (bt v 16)) (tl + 2) (bt v 8)) (tl + 3) (bt v 0)) j))))) ma (.inr (4, [.ref tp, .int (nI (tl + 3)), .ref wd, .int (nI ws), .int (nI at0), .ref li, .int (nI cnt)]))) s H locs := kS_eq (km_u2 _ _ _ _ (km_apA htp hma)) hM
  refine lv_aload_n hx hb dMD_put_24 rfl (lv_at hl 1 rfl) ?_
  refine lv_dup hx hb dMD_put_25 rfl ?_
  refine k_get (own := RMD) (ref := RMD) (C := RMD) (T := TMD) (N := 7) (ci := 4) (v := .int (nI (tl + 3))) hx hb hW inMD hown hM (km_s _ _ _) rfl 1 (by decide) (hW _ w_292) (fun _ h => h) rfl dMD_put_26 ?_
  refine lv_iconst (v := nI 1) hx hb dMD_put_29 (by decide) ?_
  refine lv_iadd hx hb dMD_put_30 ?_
  refine topi_eq (y := nI (tl + 4)) (nI_add (tl + 3) 1) ?_
  refine k_put (own := RMD) (ref := RMD) (C := RMD) (T := TMD) (N := 7) (ci := 4) (v := .int (nI (tl + 4))) (ty := .int) (fs' := [.ref tp, .int (nI (tl + 4)), .ref wd, .int (nI ws), .int (nI at0), .ref li, .int (nI cnt)]) hx hb hW inMD tyMD tyokMD nmokMD hown hM (km_s _ _ _) rfl 1 (by decide) (hW _ w_292) (fun _ h => h) rfl (by decide +kernel) rfl rfl (Nat.le_of_ble_eq_true rfl) dMD_put_31 rfl (fun H locs hM => ?_)
  have hM : kS g (km_up (km_up μ tp (.inl (g.2.2.1 3, 400, .inl (fun j => nI ((va_up (va_up (va_up (va_up B tl (bt v 24)) (tl + 1) (bt v 16)) (tl + 2) (bt v 8)) (tl + 3) (bt v 0)) j))))) ma (.inr (4, [.ref tp, .int (nI (tl + 4)), .ref wd, .int (nI ws), .int (nI at0), .ref li, .int (nI cnt)]))) s H locs := kS_eq (km_u1 _ _ _ _) hM
  refine lv_iinc (v := (-8)) (lv' := [(2, .int (-8)), (0, .ref ma), (1, .int v)]) (k := 0) hx hb dMD_put_34 hl rfl (by decide) (by decide) rfl (fun ls hl => ?_)
  refine lv_goto (tgt := 3) hx hb dMD_put_37 (by decide) ?_
  refine lv_iload_n hx hb dMD_put_3 rfl (lv_at hl 0 rfl) ?_
  refine lv_if_lt (tgt := 40) hx hb dMD_put_4 (by decide) (fun _ => ?_) (fun h => absurd (by decide) h)
  exact kr_v hx hb hr hlocks hM dMD_put_40 rfl
set_option maxHeartbeats 800000 in
set_option maxRecDepth 100000 in
theorem mMD_feed (l : Launch) (g : kG) (μ : km_M) {ma tp wd li tl ws at0 cnt : Nat} (hma : μ ma = some (.inr (4, [.ref tp, .int (nI tl), .ref wd, .int (nI ws), .int (nI at0), .ref li, .int (nI cnt)]))) {B : Nat → Nat} (hB : ∀ k, B k < 256) (htp : μ tp = some (.inl (g.2.2.1 3, 400, .inl (fun j => nI (B j))))) (htl : tl ≤ 400) {v1 v2 v3 v4 v5 : Int32} : Met l yMD_feed (Cond.code yMD_feed cMD_feed 6 (some .int) :: Wd) ({ frames := 1, cells := 0, slots := 0, locals := 22 } : Room) (kPre g μ [.ref ma, .int v1, .int v2, .int v3, .int v4, .int v5]) (kQi g (fun (r : Int32) (μ1 : km_M) => (tl + 20 ≤ 400 ∧ r = nI (tl + 20) ∧ μ1 = km_up (km_up μ tp (.inl (g.2.2.1 3, 400, .inl (fun j => nI ((pb20 B tl v1 v2 v3 v4 v5) j))))) ma (.inr (4, [.ref tp, .int (nI (tl + 20)), .ref wd, .int (nI ws), .int (nI at0), .ref li, .int (nI cnt)]))) ∨ (¬ tl + 20 ≤ 400 ∧ r = (-3) ∧ μ1 = μ))) 0 0 (kF g) := by
  refine k_met (by decide) (Nat.le_of_ble_eq_true rfl) ?_
  intro p e s m below meth c hx hb hr hlocks hml hown hnm hW ls hl H locs hM
  have hl : lv_has ls 6 [(0, .ref ma), (1, .int v1), (2, .int v2), (3, .int v3), (4, .int v4), (5, .int v5)] := hl
  refine lv_aload_n hx hb dMD_feed_0 rfl (lv_at hl 0 rfl) ?_
  refine k_get (own := RMD) (ref := RMD) (C := RMD) (T := TMD) (N := 7) (ci := 4) (v := .int (nI tl)) hx hb hW inMD hown hM hma rfl 1 (by decide) (hW _ w_292) (fun _ h => h) rfl dMD_feed_1 ?_
  refine lv_bipush (v := nI 20) hx hb dMD_feed_4 (by decide) ?_
  refine lv_iadd hx hb dMD_feed_6 ?_
  refine topi_eq (y := nI (tl + 20)) (nI_add tl 20) ?_
  refine lv_sipush (v := nI 400) hx hb dMD_feed_7 (by decide) ?_
  refine lv_icmp_le (tgt := 16) hx hb dMD_feed_10 (by decide) (fun h10 => ?_) (fun h10 => ?_)
  · have h10 := (nJ_le_t (a := tl + 20) (b := 400) (by omega) (by omega)).mp h10
    refine lv_aload_n hx hb dMD_feed_16 rfl (lv_at hl 0 rfl) ?_
    refine lv_iload_n hx hb dMD_feed_17 rfl (lv_at hl 1 rfl) ?_
    refine kc_v (va_runV (C := RMD) (As := [.int v1]) (b := ma) (rest := []) (Ts := Wd) ⟨hx, hb, hml, hown, hW⟩ (mMD_put l g μ hma hB htp (v := v1) (by omega)) (cwV 1 hW (k_gV w_318 w_320 p_26 w_7 w_321) rfl rfl rfl (by decide +kernel) ⟨Nat.le_of_ble_eq_true rfl, Nat.le_of_ble_eq_true rfl⟩) (k_preV (q := (RMD, TMD, 7)) hM hma rfl) rfl rfl hl.1 rfl (lv_room (Nat.le_of_ble_eq_true rfl)) dMD_feed_18 ⟨Nat.zero_le _, Nat.zero_le _⟩) hM (fun μ1 H locs hp hM => ?_)
    rw [hp] at hM
    have hM : kS g (km_up (km_up μ tp (.inl (g.2.2.1 3, 400, .inl (fun j => nI ((pb4 B tl v1) j))))) ma (.inr (4, [.ref tp, .int (nI (tl + 4)), .ref wd, .int (nI ws), .int (nI at0), .ref li, .int (nI cnt)]))) s H locs := hM
    refine lv_aload_n hx hb dMD_feed_21 rfl (lv_at hl 0 rfl) ?_
    refine lv_iload_n hx hb dMD_feed_22 rfl (lv_at hl 2 rfl) ?_
    refine kc_v (va_runV (C := RMD) (As := [.int v2]) (b := ma) (rest := []) (Ts := Wd) ⟨hx, hb, hml, hown, hW⟩ (mMD_put l g (km_up (km_up μ tp (.inl (g.2.2.1 3, 400, .inl (fun j => nI ((pb4 B tl v1) j))))) ma (.inr (4, [.ref tp, .int (nI (tl + 4)), .ref wd, .int (nI ws), .int (nI at0), .ref li, .int (nI cnt)]))) (km_s _ _ _) (pb4_lt hB _ _) ((km_n (km_apA htp hma)).trans (km_s _ _ _)) (v := v2) (by omega)) (cwV 1 hW (k_gV w_318 w_320 p_26 w_7 w_321) rfl rfl rfl (by decide +kernel) ⟨Nat.le_of_ble_eq_true rfl, Nat.le_of_ble_eq_true rfl⟩) (k_preV (q := (RMD, TMD, 7)) hM (km_s _ _ _) rfl) rfl rfl hl.1 rfl (lv_room (Nat.le_of_ble_eq_true rfl)) dMD_feed_23 ⟨Nat.zero_le _, Nat.zero_le _⟩) hM (fun μ1 H locs hp hM => ?_)
    rw [hp] at hM
    have hM : kS g (km_up (km_up (km_up (km_up μ tp (.inl (g.2.2.1 3, 400, .inl (fun j => nI ((pb4 B tl v1) j))))) ma (.inr (4, [.ref tp, .int (nI (tl + 4)), .ref wd, .int (nI ws), .int (nI at0), .ref li, .int (nI cnt)]))) tp (.inl (g.2.2.1 3, 400, .inl (fun j => nI ((pb4 (pb4 B tl v1) (tl + 4) v2) j))))) ma (.inr (4, [.ref tp, .int (nI (tl + 8)), .ref wd, .int (nI ws), .int (nI at0), .ref li, .int (nI cnt)]))) s H locs := hM
    have hM : kS g (km_up (km_up (km_up μ tp (.inl (g.2.2.1 3, 400, .inl (fun j => nI ((pb4 (pb4 B tl v1) (tl + 4) v2) j))))) ma (.inr (4, [.ref tp, .int (nI (tl + 4)), .ref wd, .int (nI ws), .int (nI at0), .ref li, .int (nI cnt)]))) ma (.inr (4, [.ref tp, .int (nI (tl + 8)), .ref wd, .int (nI ws), .int (nI at0), .ref li, .int (nI cnt)]))) s H locs := kS_eq (congrArg (fun z => km_up z ma (.inr (4, [.ref tp, .int (nI (tl + 8)), .ref wd, .int (nI ws), .int (nI at0), .ref li, .int (nI cnt)]))) (km_u2 _ _ _ _ (km_apA htp hma))) hM
    have hM : kS g (km_up (km_up μ tp (.inl (g.2.2.1 3, 400, .inl (fun j => nI ((pb4 (pb4 B tl v1) (tl + 4) v2) j))))) ma (.inr (4, [.ref tp, .int (nI (tl + 8)), .ref wd, .int (nI ws), .int (nI at0), .ref li, .int (nI cnt)]))) s H locs := kS_eq (km_u1 _ _ _ _) hM
    refine lv_aload_n hx hb dMD_feed_26 rfl (lv_at hl 0 rfl) ?_
    refine lv_iload_n hx hb dMD_feed_27 rfl (lv_at hl 3 rfl) ?_
    refine kc_v (va_runV (C := RMD) (As := [.int v3]) (b := ma) (rest := []) (Ts := Wd) ⟨hx, hb, hml, hown, hW⟩ (mMD_put l g (km_up (km_up μ tp (.inl (g.2.2.1 3, 400, .inl (fun j => nI ((pb4 (pb4 B tl v1) (tl + 4) v2) j))))) ma (.inr (4, [.ref tp, .int (nI (tl + 8)), .ref wd, .int (nI ws), .int (nI at0), .ref li, .int (nI cnt)]))) (km_s _ _ _) (pb4_lt (pb4_lt hB _ _) _ _) ((km_n (km_apA htp hma)).trans (km_s _ _ _)) (v := v3) (by omega)) (cwV 1 hW (k_gV w_318 w_320 p_26 w_7 w_321) rfl rfl rfl (by decide +kernel) ⟨Nat.le_of_ble_eq_true rfl, Nat.le_of_ble_eq_true rfl⟩) (k_preV (q := (RMD, TMD, 7)) hM (km_s _ _ _) rfl) rfl rfl hl.1 rfl (lv_room (Nat.le_of_ble_eq_true rfl)) dMD_feed_28 ⟨Nat.zero_le _, Nat.zero_le _⟩) hM (fun μ1 H locs hp hM => ?_)
    rw [hp] at hM
    have hM : kS g (km_up (km_up (km_up (km_up μ tp (.inl (g.2.2.1 3, 400, .inl (fun j => nI ((pb4 (pb4 B tl v1) (tl + 4) v2) j))))) ma (.inr (4, [.ref tp, .int (nI (tl + 8)), .ref wd, .int (nI ws), .int (nI at0), .ref li, .int (nI cnt)]))) tp (.inl (g.2.2.1 3, 400, .inl (fun j => nI ((pb4 (pb4 (pb4 B tl v1) (tl + 4) v2) (tl + 8) v3) j))))) ma (.inr (4, [.ref tp, .int (nI (tl + 12)), .ref wd, .int (nI ws), .int (nI at0), .ref li, .int (nI cnt)]))) s H locs := hM
    have hM : kS g (km_up (km_up (km_up μ tp (.inl (g.2.2.1 3, 400, .inl (fun j => nI ((pb4 (pb4 (pb4 B tl v1) (tl + 4) v2) (tl + 8) v3) j))))) ma (.inr (4, [.ref tp, .int (nI (tl + 8)), .ref wd, .int (nI ws), .int (nI at0), .ref li, .int (nI cnt)]))) ma (.inr (4, [.ref tp, .int (nI (tl + 12)), .ref wd, .int (nI ws), .int (nI at0), .ref li, .int (nI cnt)]))) s H locs := kS_eq (congrArg (fun z => km_up z ma (.inr (4, [.ref tp, .int (nI (tl + 12)), .ref wd, .int (nI ws), .int (nI at0), .ref li, .int (nI cnt)]))) (km_u2 _ _ _ _ (km_apA htp hma))) hM
    have hM : kS g (km_up (km_up μ tp (.inl (g.2.2.1 3, 400, .inl (fun j => nI ((pb4 (pb4 (pb4 B tl v1) (tl + 4) v2) (tl + 8) v3) j))))) ma (.inr (4, [.ref tp, .int (nI (tl + 12)), .ref wd, .int (nI ws), .int (nI at0), .ref li, .int (nI cnt)]))) s H locs := kS_eq (km_u1 _ _ _ _) hM
    refine lv_aload_n hx hb dMD_feed_31 rfl (lv_at hl 0 rfl) ?_
    refine lv_iload hx hb dMD_feed_32 (lv_at hl 4 rfl) ?_
    refine kc_v (va_runV (C := RMD) (As := [.int v4]) (b := ma) (rest := []) (Ts := Wd) ⟨hx, hb, hml, hown, hW⟩ (mMD_put l g (km_up (km_up μ tp (.inl (g.2.2.1 3, 400, .inl (fun j => nI ((pb4 (pb4 (pb4 B tl v1) (tl + 4) v2) (tl + 8) v3) j))))) ma (.inr (4, [.ref tp, .int (nI (tl + 12)), .ref wd, .int (nI ws), .int (nI at0), .ref li, .int (nI cnt)]))) (km_s _ _ _) (pb4_lt (pb4_lt (pb4_lt hB _ _) _ _) _ _) ((km_n (km_apA htp hma)).trans (km_s _ _ _)) (v := v4) (by omega)) (cwV 1 hW (k_gV w_318 w_320 p_26 w_7 w_321) rfl rfl rfl (by decide +kernel) ⟨Nat.le_of_ble_eq_true rfl, Nat.le_of_ble_eq_true rfl⟩) (k_preV (q := (RMD, TMD, 7)) hM (km_s _ _ _) rfl) rfl rfl hl.1 rfl (lv_room (Nat.le_of_ble_eq_true rfl)) dMD_feed_34 ⟨Nat.zero_le _, Nat.zero_le _⟩) hM (fun μ1 H locs hp hM => ?_)
    rw [hp] at hM
    have hM : kS g (km_up (km_up (km_up (km_up μ tp (.inl (g.2.2.1 3, 400, .inl (fun j => nI ((pb4 (pb4 (pb4 B tl v1) (tl + 4) v2) (tl + 8) v3) j))))) ma (.inr (4, [.ref tp, .int (nI (tl + 12)), .ref wd, .int (nI ws), .int (nI at0), .ref li, .int (nI cnt)]))) tp (.inl (g.2.2.1 3, 400, .inl (fun j => nI ((pb4 (pb4 (pb4 (pb4 B tl v1) (tl + 4) v2) (tl + 8) v3) (tl + 12) v4) j))))) ma (.inr (4, [.ref tp, .int (nI (tl + 16)), .ref wd, .int (nI ws), .int (nI at0), .ref li, .int (nI cnt)]))) s H locs := hM
    have hM : kS g (km_up (km_up (km_up μ tp (.inl (g.2.2.1 3, 400, .inl (fun j => nI ((pb4 (pb4 (pb4 (pb4 B tl v1) (tl + 4) v2) (tl + 8) v3) (tl + 12) v4) j))))) ma (.inr (4, [.ref tp, .int (nI (tl + 12)), .ref wd, .int (nI ws), .int (nI at0), .ref li, .int (nI cnt)]))) ma (.inr (4, [.ref tp, .int (nI (tl + 16)), .ref wd, .int (nI ws), .int (nI at0), .ref li, .int (nI cnt)]))) s H locs := kS_eq (congrArg (fun z => km_up z ma (.inr (4, [.ref tp, .int (nI (tl + 16)), .ref wd, .int (nI ws), .int (nI at0), .ref li, .int (nI cnt)]))) (km_u2 _ _ _ _ (km_apA htp hma))) hM
    have hM : kS g (km_up (km_up μ tp (.inl (g.2.2.1 3, 400, .inl (fun j => nI ((pb4 (pb4 (pb4 (pb4 B tl v1) (tl + 4) v2) (tl + 8) v3) (tl + 12) v4) j))))) ma (.inr (4, [.ref tp, .int (nI (tl + 16)), .ref wd, .int (nI ws), .int (nI at0), .ref li, .int (nI cnt)]))) s H locs := kS_eq (km_u1 _ _ _ _) hM
    refine lv_aload_n hx hb dMD_feed_37 rfl (lv_at hl 0 rfl) ?_
    refine lv_iload hx hb dMD_feed_38 (lv_at hl 5 rfl) ?_
    refine kc_v (va_runV (C := RMD) (As := [.int v5]) (b := ma) (rest := []) (Ts := Wd) ⟨hx, hb, hml, hown, hW⟩ (mMD_put l g (km_up (km_up μ tp (.inl (g.2.2.1 3, 400, .inl (fun j => nI ((pb4 (pb4 (pb4 (pb4 B tl v1) (tl + 4) v2) (tl + 8) v3) (tl + 12) v4) j))))) ma (.inr (4, [.ref tp, .int (nI (tl + 16)), .ref wd, .int (nI ws), .int (nI at0), .ref li, .int (nI cnt)]))) (km_s _ _ _) (pb4_lt (pb4_lt (pb4_lt (pb4_lt hB _ _) _ _) _ _) _ _) ((km_n (km_apA htp hma)).trans (km_s _ _ _)) (v := v5) (by omega)) (cwV 1 hW (k_gV w_318 w_320 p_26 w_7 w_321) rfl rfl rfl (by decide +kernel) ⟨Nat.le_of_ble_eq_true rfl, Nat.le_of_ble_eq_true rfl⟩) (k_preV (q := (RMD, TMD, 7)) hM (km_s _ _ _) rfl) rfl rfl hl.1 rfl (lv_room (Nat.le_of_ble_eq_true rfl)) dMD_feed_40 ⟨Nat.zero_le _, Nat.zero_le _⟩) hM (fun μ1 H locs hp hM => ?_)
    rw [hp] at hM
    have hM : kS g (km_up (km_up (km_up (km_up μ tp (.inl (g.2.2.1 3, 400, .inl (fun j => nI ((pb4 (pb4 (pb4 (pb4 B tl v1) (tl + 4) v2) (tl + 8) v3) (tl + 12) v4) j))))) ma (.inr (4, [.ref tp, .int (nI (tl + 16)), .ref wd, .int (nI ws), .int (nI at0), .ref li, .int (nI cnt)]))) tp (.inl (g.2.2.1 3, 400, .inl (fun j => nI ((pb4 (pb4 (pb4 (pb4 (pb4 B tl v1) (tl + 4) v2) (tl + 8) v3) (tl + 12) v4) (tl + 16) v5) j))))) ma (.inr (4, [.ref tp, .int (nI (tl + 20)), .ref wd, .int (nI ws), .int (nI at0), .ref li, .int (nI cnt)]))) s H locs := hM
    have hM : kS g (km_up (km_up (km_up μ tp (.inl (g.2.2.1 3, 400, .inl (fun j => nI ((pb4 (pb4 (pb4 (pb4 (pb4 B tl v1) (tl + 4) v2) (tl + 8) v3) (tl + 12) v4) (tl + 16) v5) j))))) ma (.inr (4, [.ref tp, .int (nI (tl + 16)), .ref wd, .int (nI ws), .int (nI at0), .ref li, .int (nI cnt)]))) ma (.inr (4, [.ref tp, .int (nI (tl + 20)), .ref wd, .int (nI ws), .int (nI at0), .ref li, .int (nI cnt)]))) s H locs := kS_eq (congrArg (fun z => km_up z ma (.inr (4, [.ref tp, .int (nI (tl + 20)), .ref wd, .int (nI ws), .int (nI at0), .ref li, .int (nI cnt)]))) (km_u2 _ _ _ _ (km_apA htp hma))) hM
    have hM : kS g (km_up (km_up μ tp (.inl (g.2.2.1 3, 400, .inl (fun j => nI ((pb4 (pb4 (pb4 (pb4 (pb4 B tl v1) (tl + 4) v2) (tl + 8) v3) (tl + 12) v4) (tl + 16) v5) j))))) ma (.inr (4, [.ref tp, .int (nI (tl + 20)), .ref wd, .int (nI ws), .int (nI at0), .ref li, .int (nI cnt)]))) s H locs := kS_eq (km_u1 _ _ _ _) hM
    refine lv_aload_n hx hb dMD_feed_43 rfl (lv_at hl 0 rfl) ?_
    refine k_get (own := RMD) (ref := RMD) (C := RMD) (T := TMD) (N := 7) (ci := 4) (v := .int (nI (tl + 20))) hx hb hW inMD hown hM (km_s _ _ _) rfl 1 (by decide) (hW _ w_292) (fun _ h => h) rfl dMD_feed_44 ?_
    exact kr_i hx hb hr hlocks hM dMD_feed_47 (Or.inl ⟨by omega, rfl, rfl⟩)
  · have h10 := (nJ_le_f (a := tl + 20) (b := 400) (by omega) (by omega)).mp h10
    refine lv_bipush (v := (-3)) hx hb dMD_feed_13 (by decide) ?_
    exact kr_i hx hb hr hlocks hM dMD_feed_15 (Or.inr ⟨by omega, rfl, rfl⟩)
set_option maxHeartbeats 800000 in
set_option maxRecDepth 100000 in
theorem mMD_digits (l : Launch) (g : kG) (μ : km_M) {a va n : Nat} {f : Nat → Nat} (hs : μ a = some (.inr (7, [.ref va, .int (nI 0), .int (nI 0), .int (nI 0)]))) (hv : μ va = some (.inl (g.2.2.1 0, n, .inl (fun j => sb (f j))))) (hf : ∀ k, f k < 256) (hn : n ≤ 400) : Met l yMD_digits (Cond.code yMD_digits cMD_digits 2 (some .boolean) :: Wd) ({ frames := 4, cells := 0, slots := 0, locals := 85 } : Room) (kPre g μ [.ref a]) (kQi g (fun (r : Int32) (μ1 : km_M) => r = bI (decide ((sg f 0 n).all dD = true ∧ 0 < n)) ∧ μ1 = μ)) 0 0 (kF g) := by
  refine k_met (by decide) (Nat.le_of_ble_eq_true rfl) ?_
  intro p e s m below meth c hx hb hr hlocks hml hown hnm hW ls hl H locs hM
  have hl : lv_has ls 2 [(0, .ref a)] := hl
  have cut2 : ∀ (fu : Nat), ∀ (k : Nat), n - k < fu → k ≤ n → (sg f 0 k).all dD = true → ∀ (ls : Array Slot) (H : Heap) (locs : List Loc), lv_has ls 2 [(0, .ref a), (1, .int (nI k))] → kS g (μ) s H locs → W p l e ({ frames := 4, cells := 0, slots := 0, locals := 85 } : Room) s m [.ref a].toArray below meth c H locs 0 0 (MQ below (kQi g (fun (r : Int32) (μ1 : km_M) => r = bI (decide ((sg f 0 n).all dD = true ∧ 0 < n)) ∧ μ1 = μ)) [.ref a].toArray s 0 0 (kF g)) (F0 m 2 ls []) := by
    intro fu
    induction fu with
    | zero => intro k hlt; exact absurd hlt (Nat.not_lt_zero _)
    | succ fu ih =>
      intro k hlt hk hall ls H locs hl hM
      refine lv_iload_n hx hb dMD_digits_2 rfl (lv_at hl 1 rfl) ?_
      refine lv_aload_n hx hb dMD_digits_3 rfl (lv_at hl 0 rfl) ?_
      refine kc_i (va_runV (C := RST) (As := []) (b := a) (rest := [.int (nI k)]) (Ts := Wd) ⟨hx, hb, hml, hown, hW⟩ (mST_length l g μ hs hv hf (by omega)) (cwV 0 hW (k_gV w_430 w_431 w_432 w_9 w_433) rfl rfl rfl (by decide +kernel) ⟨Nat.le_of_ble_eq_true rfl, Nat.le_of_ble_eq_true rfl⟩) (k_preV (q := (RST, TST, 4)) hM hs rfl) rfl rfl hl.1 rfl (lv_room (Nat.le_of_ble_eq_true rfl)) dMD_digits_4 ⟨Nat.zero_le _, Nat.zero_le _⟩) hM (fun r μ1 H locs hp hM => ?_)
      obtain ⟨rfl, hmu⟩ := hp
      rw [hmu] at hM
      refine lv_icmp_ge (tgt := 29) hx hb dMD_digits_7 (by decide) (fun h7 => ?_) (fun h7 => ?_)
      · have h7 := (nJ_ge_t (a := k) (b := n) (by omega) (by omega)).mp h7
        refine lv_aload_n hx hb dMD_digits_29 rfl (lv_at hl 0 rfl) ?_
        refine kc_i (va_runV (C := RST) (As := []) (b := a) (rest := []) (Ts := Wd) ⟨hx, hb, hml, hown, hW⟩ (mST_length l g μ hs hv hf (by omega)) (cwV 0 hW (k_gV w_430 w_431 w_432 w_9 w_433) rfl rfl rfl (by decide +kernel) ⟨Nat.le_of_ble_eq_true rfl, Nat.le_of_ble_eq_true rfl⟩) (k_preV (q := (RST, TST, 4)) hM hs rfl) rfl rfl hl.1 rfl (lv_room (Nat.le_of_ble_eq_true rfl)) dMD_digits_30 ⟨Nat.zero_le _, Nat.zero_le _⟩) hM (fun r μ1 H locs hp hM => ?_)
        obtain ⟨rfl, hmu⟩ := hp
        rw [hmu] at hM
        refine lv_if_le (tgt := 40) hx hb dMD_digits_33 (by decide) (fun h33 => ?_) (fun h33 => ?_)
        · have h33 := (nJ_le_t (a := n) (b := 0) (by omega) (by omega)).mp h33
          refine lv_iconst (v := nI 0) hx hb dMD_digits_40 (by decide) ?_
          exact kr_z hx hb hr (by decide) hlocks hM dMD_digits_41 (⟨bI_f (fun z => by omega), rfl⟩)
        · have h33 := (nJ_le_f (a := n) (b := 0) (by omega) (by omega)).mp h33
          refine lv_iconst (v := nI 1) hx hb dMD_digits_36 (by decide) ?_
          refine lv_goto (tgt := 41) hx hb dMD_digits_37 (by decide) ?_
          exact kr_z hx hb hr (by decide) hlocks hM dMD_digits_41 (⟨bI_t ⟨by rw [show n = k by omega]; exact hall, h33⟩, rfl⟩)
      · have h7 := (nJ_ge_f (a := k) (b := n) (by omega) (by omega)).mp h7
        refine lv_aload_n hx hb dMD_digits_10 rfl (lv_at hl 0 rfl) ?_
        refine lv_iload_n hx hb dMD_digits_11 rfl (lv_at hl 1 rfl) ?_
        refine kc_i (va_runV (C := RST) (As := [.int (nI k)]) (b := a) (rest := []) (Ts := Wd) ⟨hx, hb, hml, hown, hW⟩ (mST_charAt l g μ hs hv hf (by omega) (i := k) (by omega)) (cwV 1 hW (k_gV w_438 w_439 w_440 w_9 w_441) rfl rfl rfl (by decide +kernel) ⟨Nat.le_of_ble_eq_true rfl, Nat.le_of_ble_eq_true rfl⟩) (k_preV (q := (RST, TST, 4)) hM hs rfl) rfl rfl hl.1 rfl (lv_room (Nat.le_of_ble_eq_true rfl)) dMD_digits_12 ⟨Nat.zero_le _, Nat.zero_le _⟩) hM (fun r μ1 H locs hp hM => ?_)
        obtain ⟨rfl, hmu⟩ := hp
        rw [hmu] at hM
        refine kc_i (va_runS (As := [.int (nI (f k))]) (rest := []) (Ts := Wd) ⟨hx, hb, hml, hown, hW⟩ (mMD_digit l g μ (x := f k) (hf _)) (va_cwS 1 hW (k_gS w_462 w_463 w_7 w_464) rfl rfl rfl (by decide +kernel) ⟨Nat.le_of_ble_eq_true rfl, Nat.le_of_ble_eq_true rfl⟩) (k_preS hM) rfl rfl hl.1 rfl (lv_room (Nat.le_of_ble_eq_true rfl)) dMD_digits_15 ⟨Nat.zero_le _, Nat.zero_le _⟩) hM (fun r μ1 H locs hp hM => ?_)
        obtain ⟨rfl, hmu⟩ := hp
        rw [hmu] at hM
        refine lv_if_ne (tgt := 23) hx hb dMD_digits_18 (by decide) (fun h18 => ?_) (fun h18 => ?_)
        · have h18 := bD_n.mp h18
          refine lv_iinc (v := nI (k + 1)) (lv' := [(1, .int (nI (k + 1))), (0, .ref a)]) (k := 1) hx hb dMD_digits_23 hl rfl (ii1 k) (by decide) rfl (fun ls hl => ?_)
          refine lv_goto (tgt := 2) hx hb dMD_digits_26 (by decide) ?_
          exact ih (k + 1) (by omega) (by first | assumption | omega | exact rfl) (by exact (all_snoc f 0 k).mpr ⟨hall, by rw [Nat.zero_add]; exact h18⟩) ls H locs (lv_sub hl [1, 0] rfl) hM
        · have h18 := bD_0.mp h18
          refine lv_iconst (v := nI 0) hx hb dMD_digits_21 (by decide) ?_
          exact kr_z hx hb hr (by decide) hlocks hM dMD_digits_22 (⟨bI_f (fun z => h18 (all_dig z.1 k (Nat.zero_le _) (by omega))), rfl⟩)
  refine lv_iconst (v := nI 0) hx hb dMD_digits_0 (by decide) ?_
  refine lv_istore_n (lv' := [(1, .int (nI 0)), (0, .ref a)]) hx hb dMD_digits_1 rfl hl (by decide) rfl (fun ls hl => ?_)
  exact cut2 _ 0 (Nat.lt_succ_self _) (by first | assumption | omega | exact rfl) (by rfl) ls H locs (lv_sub hl [1, 0] rfl) hM
set_option maxHeartbeats 800000 in
set_option maxRecDepth 100000 in
theorem mMD_number (l : Launch) (g : kG) (μ : km_M) {a va n : Nat} {f : Nat → Nat} (hs : μ a = some (.inr (7, [.ref va, .int (nI 0), .int (nI 0), .int (nI 0)]))) (hv : μ va = some (.inl (g.2.2.1 0, n, .inl (fun j => sb (f j))))) (hf : ∀ k, f k < 256) (hn : n ≤ 400) {mo : Nat} (hmo : mo ≤ 9) : Met l yMD_number (Cond.code yMD_number cMD_number 4 (some .int) :: Wd) ({ frames := 5, cells := 0, slots := 0, locals := 106 } : Room) (kPre g μ [.ref a, .int (nI mo)]) (kQi g (fun (r : Int32) (μ1 : km_M) => r = nRm mo (sg f 0 n) ∧ μ1 = μ)) 0 0 (kF g) := by
  refine k_met (by decide) (Nat.le_of_ble_eq_true rfl) ?_
  intro p e s m below meth c hx hb hr hlocks hml hown hnm hW ls hl H locs hM
  have hl : lv_has ls 4 [(0, .ref a), (1, .int (nI mo))] := hl
  have cut39 : ∀ (fu : Nat), ∀ (k : Nat), n - k < fu → k ≤ n → ((sg f 0 n).all dD = true ∧ 0 < n) → n ≤ mo → ¬ (1 < n ∧ f 0 = 48) → ∀ (ls : Array Slot) (H : Heap) (locs : List Loc), lv_has ls 4 [(0, .ref a), (2, .int (nI (vN 0 (sg f 0 k)))), (3, .int (nI k))] → kS g (μ) s H locs → W p l e ({ frames := 5, cells := 0, slots := 0, locals := 106 } : Room) s m [.ref a, .int (nI mo)].toArray below meth c H locs 0 0 (MQ below (kQi g (fun (r : Int32) (μ1 : km_M) => r = nRm mo (sg f 0 n) ∧ μ1 = μ)) [.ref a, .int (nI mo)].toArray s 0 0 (kF g)) (F0 m 39 ls []) := by
    intro fu
    induction fu with
    | zero => intro k hlt; exact absurd hlt (Nat.not_lt_zero _)
    | succ fu ih =>
      intro k hlt hk hd h1 h2 ls H locs hl hM
      refine lv_iload_n hx hb dMD_number_39 rfl (lv_at hl 2 rfl) ?_
      refine lv_aload_n hx hb dMD_number_40 rfl (lv_at hl 0 rfl) ?_
      refine kc_i (va_runV (C := RST) (As := []) (b := a) (rest := [.int (nI k)]) (Ts := Wd) ⟨hx, hb, hml, hown, hW⟩ (mST_length l g μ hs hv hf (by omega)) (cwV 0 hW (k_gV w_430 w_431 w_432 w_9 w_433) rfl rfl rfl (by decide +kernel) ⟨Nat.le_of_ble_eq_true rfl, Nat.le_of_ble_eq_true rfl⟩) (k_preV (q := (RST, TST, 4)) hM hs rfl) rfl rfl hl.1 rfl (lv_room (Nat.le_of_ble_eq_true rfl)) dMD_number_41 ⟨Nat.zero_le _, Nat.zero_le _⟩) hM (fun r μ1 H locs hp hM => ?_)
      obtain ⟨rfl, hmu⟩ := hp
      rw [hmu] at hM
      refine lv_icmp_ge (tgt := 67) hx hb dMD_number_44 (by decide) (fun h44 => ?_) (fun h44 => ?_)
      · have h44 := (nJ_ge_t (a := k) (b := n) (by omega) (by omega)).mp h44
        refine lv_iload_n hx hb dMD_number_67 rfl (lv_at hl 1 rfl) ?_
        exact kr_i hx hb hr hlocks hM dMD_number_68 (⟨by rw [show n = k by omega] at hd h1 h2 ⊢; exact (nRm_ok hd.1 hd.2 h1 h2).symm, rfl⟩)
      · have h44 := (nJ_ge_f (a := k) (b := n) (by omega) (by omega)).mp h44
        refine lv_bipush (v := nI 10) hx hb dMD_number_47 (by decide) ?_
        refine lv_iload_n hx hb dMD_number_49 rfl (lv_at hl 1 rfl) ?_
        refine lv_imul hx hb dMD_number_50 ?_
        refine topi_eq (y := nI (10 * (vN 0 (sg f 0 k)))) (pk_mul 10 (vN 0 (sg f 0 k))) ?_
        have hd9 := all_dig hd.1 k (Nat.zero_le _) (by omega)
        refine lv_aload_n hx hb dMD_number_51 rfl (lv_at hl 0 rfl) ?_
        refine lv_iload_n hx hb dMD_number_52 rfl (lv_at hl 2 rfl) ?_
        refine kc_i (va_runV (C := RST) (As := [.int (nI k)]) (b := a) (rest := [.int (nI (10 * (vN 0 (sg f 0 k))))]) (Ts := Wd) ⟨hx, hb, hml, hown, hW⟩ (mST_charAt l g μ hs hv hf (by omega) (i := k) (by omega)) (cwV 1 hW (k_gV w_438 w_439 w_440 w_9 w_441) rfl rfl rfl (by decide +kernel) ⟨Nat.le_of_ble_eq_true rfl, Nat.le_of_ble_eq_true rfl⟩) (k_preV (q := (RST, TST, 4)) hM hs rfl) rfl rfl hl.1 rfl (lv_room (Nat.le_of_ble_eq_true rfl)) dMD_number_53 ⟨Nat.zero_le _, Nat.zero_le _⟩) hM (fun r μ1 H locs hp hM => ?_)
        obtain ⟨rfl, hmu⟩ := hp
        rw [hmu] at hM
        refine lv_iadd hx hb dMD_number_56 ?_
        refine topi_eq (y := nI ((10 * (vN 0 (sg f 0 k))) + (f k))) (nI_add (10 * (vN 0 (sg f 0 k))) (f k)) ?_
        refine lv_bipush (v := nI 48) hx hb dMD_number_57 (by decide) ?_
        refine lv_isub hx hb dMD_number_59 ?_
        refine topi_eq (y := nI (vN 0 (sg f 0 (k + 1)))) ((pk_sub (by omega)).trans (congrArg nI (by rw [sg_snoc, vN_snoc, Nat.zero_add]; omega))) ?_
        refine lv_istore_n (lv' := [(2, .int (nI (vN 0 (sg f 0 (k + 1))))), (0, .ref a), (3, .int (nI k))]) hx hb dMD_number_60 rfl hl (by decide) rfl (fun ls hl => ?_)
        refine lv_iinc (v := nI (k + 1)) (lv' := [(3, .int (nI (k + 1))), (2, .int (nI (vN 0 (sg f 0 (k + 1))))), (0, .ref a)]) (k := 2) hx hb dMD_number_61 hl rfl (ii1 k) (by decide) rfl (fun ls hl => ?_)
        refine lv_goto (tgt := 39) hx hb dMD_number_64 (by decide) ?_
        exact ih (k + 1) (by omega) (by first | assumption | omega | exact rfl) (by exact hd) (by first | assumption | omega | exact rfl) (by first | assumption | omega | exact rfl) ls H locs (lv_sub hl [2, 1, 0] rfl) hM
  have cut35 : ((sg f 0 n).all dD = true ∧ 0 < n) → n ≤ mo → ¬ (1 < n ∧ f 0 = 48) → ∀ (ls : Array Slot) (H : Heap) (locs : List Loc), lv_has ls 4 [(0, .ref a)] → kS g (μ) s H locs → W p l e ({ frames := 5, cells := 0, slots := 0, locals := 106 } : Room) s m [.ref a, .int (nI mo)].toArray below meth c H locs 0 0 (MQ below (kQi g (fun (r : Int32) (μ1 : km_M) => r = nRm mo (sg f 0 n) ∧ μ1 = μ)) [.ref a, .int (nI mo)].toArray s 0 0 (kF g)) (F0 m 35 ls []) := by
    intro  hd h1 h2 ls H locs hl hM
    refine lv_iconst (v := nI 0) hx hb dMD_number_35 (by decide) ?_
    refine lv_istore_n (lv' := [(2, .int (nI 0)), (0, .ref a)]) hx hb dMD_number_36 rfl hl (by decide) rfl (fun ls hl => ?_)
    refine lv_iconst (v := nI 0) hx hb dMD_number_37 (by decide) ?_
    refine lv_istore_n (lv' := [(3, .int (nI 0)), (2, .int (nI 0)), (0, .ref a)]) hx hb dMD_number_38 rfl hl (by decide) rfl (fun ls hl => ?_)
    exact cut39 _ 0 (Nat.lt_succ_self _) (by first | assumption | omega | exact rfl) (by exact hd) (by first | assumption | omega | exact rfl) (by first | assumption | omega | exact rfl) ls H locs (lv_sub hl [2, 1, 0] rfl) hM
  refine lv_aload_n hx hb dMD_number_0 rfl (lv_at hl 0 rfl) ?_
  refine kc_i (va_runS (As := [.ref a]) (rest := []) (Ts := Wd) ⟨hx, hb, hml, hown, hW⟩ (mMD_digits l g μ hs hv hf (by omega)) (va_cwS 1 hW (k_gS w_519 w_520 w_7 w_521) rfl rfl rfl (by decide +kernel) ⟨Nat.le_of_ble_eq_true rfl, Nat.le_of_ble_eq_true rfl⟩) (k_preS hM) rfl rfl hl.1 rfl (lv_room (Nat.le_of_ble_eq_true rfl)) dMD_number_1 ⟨Nat.zero_le _, Nat.zero_le _⟩) hM (fun r μ1 H locs hp hM => ?_)
  obtain ⟨rfl, hmu⟩ := hp
  rw [hmu] at hM
  refine lv_if_eq (tgt := 33) hx hb dMD_number_4 (by decide) (fun h4 => ?_) (fun h4 => ?_)
  · have h4 := bD_0.mp h4
    refine lv_iconst (v := (-1)) hx hb dMD_number_33 (by decide) ?_
    exact kr_i hx hb hr hlocks hM dMD_number_34 (⟨(nRm_no (by first | omega | (rcases Nat.eq_zero_or_pos n with hz | hz; exact Or.inr (Or.inl (by omega)); exact Or.inl (fun z => h4 ⟨z, hz⟩)))).symm, rfl⟩)
  · have h4 := bD_n.mp h4
    refine lv_aload_n hx hb dMD_number_7 rfl (lv_at hl 0 rfl) ?_
    refine kc_i (va_runV (C := RST) (As := []) (b := a) (rest := []) (Ts := Wd) ⟨hx, hb, hml, hown, hW⟩ (mST_length l g μ hs hv hf (by omega)) (cwV 0 hW (k_gV w_430 w_431 w_432 w_9 w_433) rfl rfl rfl (by decide +kernel) ⟨Nat.le_of_ble_eq_true rfl, Nat.le_of_ble_eq_true rfl⟩) (k_preV (q := (RST, TST, 4)) hM hs rfl) rfl rfl hl.1 rfl (lv_room (Nat.le_of_ble_eq_true rfl)) dMD_number_8 ⟨Nat.zero_le _, Nat.zero_le _⟩) hM (fun r μ1 H locs hp hM => ?_)
    obtain ⟨rfl, hmu⟩ := hp
    rw [hmu] at hM
    refine lv_iload_n hx hb dMD_number_11 rfl (lv_at hl 1 rfl) ?_
    refine lv_icmp_gt (tgt := 33) hx hb dMD_number_12 (by decide) (fun h12 => ?_) (fun h12 => ?_)
    · have h12 := (nJ_gt_t (a := n) (b := mo) (by omega) (by omega)).mp h12
      refine lv_iconst (v := (-1)) hx hb dMD_number_33 (by decide) ?_
      exact kr_i hx hb hr hlocks hM dMD_number_34 (⟨(nRm_no (by first | omega | (rcases Nat.eq_zero_or_pos n with hz | hz; exact Or.inr (Or.inl (by omega)); exact Or.inl (fun z => h4 ⟨z, hz⟩)))).symm, rfl⟩)
    · have h12 := (nJ_gt_f (a := n) (b := mo) (by omega) (by omega)).mp h12
      refine lv_aload_n hx hb dMD_number_15 rfl (lv_at hl 0 rfl) ?_
      refine kc_i (va_runV (C := RST) (As := []) (b := a) (rest := []) (Ts := Wd) ⟨hx, hb, hml, hown, hW⟩ (mST_length l g μ hs hv hf (by omega)) (cwV 0 hW (k_gV w_430 w_431 w_432 w_9 w_433) rfl rfl rfl (by decide +kernel) ⟨Nat.le_of_ble_eq_true rfl, Nat.le_of_ble_eq_true rfl⟩) (k_preV (q := (RST, TST, 4)) hM hs rfl) rfl rfl hl.1 rfl (lv_room (Nat.le_of_ble_eq_true rfl)) dMD_number_16 ⟨Nat.zero_le _, Nat.zero_le _⟩) hM (fun r μ1 H locs hp hM => ?_)
      obtain ⟨rfl, hmu⟩ := hp
      rw [hmu] at hM
      refine lv_iconst (v := nI 1) hx hb dMD_number_19 (by decide) ?_
      refine lv_icmp_le (tgt := 35) hx hb dMD_number_20 (by decide) (fun h20 => ?_) (fun h20 => ?_)
      · have h20 := (nJ_le_t (a := n) (b := 1) (by omega) (by omega)).mp h20
        exact cut35   (by exact h4) (by first | assumption | omega | exact rfl) (by first | assumption | omega | exact rfl) ls H locs (lv_sub hl [0] rfl) hM
      · have h20 := (nJ_le_f (a := n) (b := 1) (by omega) (by omega)).mp h20
        refine lv_aload_n hx hb dMD_number_23 rfl (lv_at hl 0 rfl) ?_
        refine lv_iconst (v := nI 0) hx hb dMD_number_24 (by decide) ?_
        refine kc_i (va_runV (C := RST) (As := [.int (nI 0)]) (b := a) (rest := []) (Ts := Wd) ⟨hx, hb, hml, hown, hW⟩ (mST_charAt l g μ hs hv hf (by omega) (i := 0) (by omega)) (cwV 1 hW (k_gV w_438 w_439 w_440 w_9 w_441) rfl rfl rfl (by decide +kernel) ⟨Nat.le_of_ble_eq_true rfl, Nat.le_of_ble_eq_true rfl⟩) (k_preV (q := (RST, TST, 4)) hM hs rfl) rfl rfl hl.1 rfl (lv_room (Nat.le_of_ble_eq_true rfl)) dMD_number_25 ⟨Nat.zero_le _, Nat.zero_le _⟩) hM (fun r μ1 H locs hp hM => ?_)
        obtain ⟨rfl, hmu⟩ := hp
        rw [hmu] at hM
        refine lv_bipush (v := nI 48) hx hb dMD_number_28 (by decide) ?_
        have hf9 := hf 0
        refine lv_icmp_ne (tgt := 35) hx hb dMD_number_30 (by decide) (fun h30 => ?_) (fun h30 => ?_)
        · have h30 := (nJ_ne_t (a := f 0) (b := 48) (by omega) (by omega)).mp h30
          exact cut35   (by exact h4) (by first | assumption | omega | exact rfl) (by first | assumption | omega | exact rfl) ls H locs (lv_sub hl [0] rfl) hM
        · have h30 := (nJ_ne_f (a := f 0) (b := 48) (by omega) (by omega)).mp h30
          refine lv_iconst (v := (-1)) hx hb dMD_number_33 (by decide) ?_
          exact kr_i hx hb hr hlocks hM dMD_number_34 (⟨(nRm_no (by first | omega | (rcases Nat.eq_zero_or_pos n with hz | hz; exact Or.inr (Or.inl (by omega)); exact Or.inl (fun z => h4 ⟨z, hz⟩)))).symm, rfl⟩)
