set_option maxHeartbeats 800000 in
set_option maxRecDepth 100000 in
theorem mTP_isDigit (l : Launch) (g : kG) (μ : km_M) {x : Nat} (hx0 : x < 256) : Met l yTP_isDigit (Cond.code yTP_isDigit cTP_isDigit 1 (some .boolean) :: Wd) ({ frames := 0, cells := 0, slots := 0, locals := 0 } : Room) (kPre g μ [.int (sb x)]) (kQi g (fun (r : Int32) (μ1 : km_M) => r = bI (decide (48 ≤ x ∧ x ≤ 57)) ∧ μ1 = μ)) 0 0 (kF g) := by
  refine k_met (by decide) (Nat.le_of_ble_eq_true rfl) ?_
  intro p e s m below meth c hx hb hr hlocks hml hown hnm hW ls hl H locs hM
  have hl : lv_has ls 1 [(0, .int (sb x))] := hl
  refine lv_iload_n hx hb dTP_isDigit_0 rfl (lv_at hl 0 rfl) ?_
  refine lv_bipush (v := nI 48) hx hb dTP_isDigit_1 (by decide) ?_
  refine lv_icmp_lt (tgt := 16) hx hb dTP_isDigit_3 (by decide) (fun h3 => ?_) (fun h3 => ?_)
  · have h3 := (sJ_lt_t (n := x) (c := 48) (hx0) (by omega)).mp h3
    refine lv_iconst (v := nI 0) hx hb dTP_isDigit_16 (by decide) ?_
    exact kr_z hx hb hr (by decide) hlocks hM dTP_isDigit_17 (⟨by first | rfl | exact bI_t (by omega) | exact bI_f (by omega), rfl⟩)
  · have h3 := (sJ_lt_f (n := x) (c := 48) (hx0) (by omega)).mp h3
    refine lv_iload_n hx hb dTP_isDigit_6 rfl (lv_at hl 0 rfl) ?_
    refine lv_bipush (v := nI 57) hx hb dTP_isDigit_7 (by decide) ?_
    refine lv_icmp_gt (tgt := 16) hx hb dTP_isDigit_9 (by decide) (fun h9 => ?_) (fun h9 => ?_)
    · have h9 := (sJ_gt_t (n := x) (c := 57) (hx0) (by omega)).mp h9
      refine lv_iconst (v := nI 0) hx hb dTP_isDigit_16 (by decide) ?_
      exact kr_z hx hb hr (by decide) hlocks hM dTP_isDigit_17 (⟨by first | rfl | exact bI_t (by omega) | exact bI_f (by omega), rfl⟩)
    · have h9 := (sJ_gt_f (n := x) (c := 57) (hx0) (by omega)).mp h9
      refine lv_iconst (v := nI 1) hx hb dTP_isDigit_12 (by decide) ?_
      refine lv_goto (tgt := 17) hx hb dTP_isDigit_13 (by decide) ?_
      exact kr_z hx hb hr (by decide) hlocks hM dTP_isDigit_17 (⟨by first | rfl | exact bI_t (by omega) | exact bI_f (by omega), rfl⟩)
set_option maxHeartbeats 800000 in
set_option maxRecDepth 100000 in
theorem mTP_isLetterOrHyphen (l : Launch) (g : kG) (μ : km_M) {x : Nat} (hx0 : x < 256) : Met l yTP_isLetterOrHyphen (Cond.code yTP_isLetterOrHyphen cTP_isLetterOrHyphen 1 (some .boolean) :: Wd) ({ frames := 0, cells := 0, slots := 0, locals := 0 } : Room) (kPre g μ [.int (sb x)]) (kQi g (fun (r : Int32) (μ1 : km_M) => r = bI (decide ((97 ≤ x ∧ x ≤ 122) ∨ (65 ≤ x ∧ x ≤ 90) ∨ x = 45)) ∧ μ1 = μ)) 0 0 (kF g) := by
  refine k_met (by decide) (Nat.le_of_ble_eq_true rfl) ?_
  intro p e s m below meth c hx hb hr hlocks hml hown hnm hW ls hl H locs hM
  have hl : lv_has ls 1 [(0, .int (sb x))] := hl
  refine lv_iload_n hx hb dTP_isLetterOrHyphen_0 rfl (lv_at hl 0 rfl) ?_
  refine lv_bipush (v := nI 97) hx hb dTP_isLetterOrHyphen_1 (by decide) ?_
  refine lv_icmp_lt (tgt := 12) hx hb dTP_isLetterOrHyphen_3 (by decide) (fun h3 => ?_) (fun h3 => ?_)
  · have h3 := (sJ_lt_t (n := x) (c := 97) (hx0) (by omega)).mp h3
    refine lv_iload_n hx hb dTP_isLetterOrHyphen_12 rfl (lv_at hl 0 rfl) ?_
    refine lv_bipush (v := nI 65) hx hb dTP_isLetterOrHyphen_13 (by decide) ?_
    refine lv_icmp_lt (tgt := 24) hx hb dTP_isLetterOrHyphen_15 (by decide) (fun h15 => ?_) (fun h15 => ?_)
    · have h15 := (sJ_lt_t (n := x) (c := 65) (hx0) (by omega)).mp h15
      refine lv_iload_n hx hb dTP_isLetterOrHyphen_24 rfl (lv_at hl 0 rfl) ?_
      refine lv_bipush (v := nI 45) hx hb dTP_isLetterOrHyphen_25 (by decide) ?_
      refine lv_icmp_ne (tgt := 34) hx hb dTP_isLetterOrHyphen_27 (by decide) (fun h27 => ?_) (fun h27 => ?_)
      · have h27 := (sJ_ne_t (n := x) (c := 45) (hx0) (by omega)).mp h27
        refine lv_iconst (v := nI 0) hx hb dTP_isLetterOrHyphen_34 (by decide) ?_
        exact kr_z hx hb hr (by decide) hlocks hM dTP_isLetterOrHyphen_35 (⟨by first | rfl | exact bI_t (by omega) | exact bI_f (by omega), rfl⟩)
      · have h27 := (sJ_ne_f (n := x) (c := 45) (hx0) (by omega)).mp h27
        refine lv_iconst (v := nI 1) hx hb dTP_isLetterOrHyphen_30 (by decide) ?_
        refine lv_goto (tgt := 35) hx hb dTP_isLetterOrHyphen_31 (by decide) ?_
        exact kr_z hx hb hr (by decide) hlocks hM dTP_isLetterOrHyphen_35 (⟨by first | rfl | exact bI_t (by omega) | exact bI_f (by omega), rfl⟩)
    · have h15 := (sJ_lt_f (n := x) (c := 65) (hx0) (by omega)).mp h15
      refine lv_iload_n hx hb dTP_isLetterOrHyphen_18 rfl (lv_at hl 0 rfl) ?_
      refine lv_bipush (v := nI 90) hx hb dTP_isLetterOrHyphen_19 (by decide) ?_
      refine lv_icmp_le (tgt := 30) hx hb dTP_isLetterOrHyphen_21 (by decide) (fun h21 => ?_) (fun h21 => ?_)
      · have h21 := (sJ_le_t (n := x) (c := 90) (hx0) (by omega)).mp h21
        refine lv_iconst (v := nI 1) hx hb dTP_isLetterOrHyphen_30 (by decide) ?_
        refine lv_goto (tgt := 35) hx hb dTP_isLetterOrHyphen_31 (by decide) ?_
        exact kr_z hx hb hr (by decide) hlocks hM dTP_isLetterOrHyphen_35 (⟨by first | rfl | exact bI_t (by omega) | exact bI_f (by omega), rfl⟩)
      · have h21 := (sJ_le_f (n := x) (c := 90) (hx0) (by omega)).mp h21
        refine lv_iload_n hx hb dTP_isLetterOrHyphen_24 rfl (lv_at hl 0 rfl) ?_
        refine lv_bipush (v := nI 45) hx hb dTP_isLetterOrHyphen_25 (by decide) ?_
        refine lv_icmp_ne (tgt := 34) hx hb dTP_isLetterOrHyphen_27 (by decide) (fun h27 => ?_) (fun h27 => ?_)
        · have h27 := (sJ_ne_t (n := x) (c := 45) (hx0) (by omega)).mp h27
          refine lv_iconst (v := nI 0) hx hb dTP_isLetterOrHyphen_34 (by decide) ?_
          exact kr_z hx hb hr (by decide) hlocks hM dTP_isLetterOrHyphen_35 (⟨by first | rfl | exact bI_t (by omega) | exact bI_f (by omega), rfl⟩)
        · have h27 := (sJ_ne_f (n := x) (c := 45) (hx0) (by omega)).mp h27
          refine lv_iconst (v := nI 1) hx hb dTP_isLetterOrHyphen_30 (by decide) ?_
          refine lv_goto (tgt := 35) hx hb dTP_isLetterOrHyphen_31 (by decide) ?_
          exact kr_z hx hb hr (by decide) hlocks hM dTP_isLetterOrHyphen_35 (⟨by first | rfl | exact bI_t (by omega) | exact bI_f (by omega), rfl⟩)
  · have h3 := (sJ_lt_f (n := x) (c := 97) (hx0) (by omega)).mp h3
    refine lv_iload_n hx hb dTP_isLetterOrHyphen_6 rfl (lv_at hl 0 rfl) ?_
    refine lv_bipush (v := nI 122) hx hb dTP_isLetterOrHyphen_7 (by decide) ?_
    refine lv_icmp_le (tgt := 30) hx hb dTP_isLetterOrHyphen_9 (by decide) (fun h9 => ?_) (fun h9 => ?_)
    · have h9 := (sJ_le_t (n := x) (c := 122) (hx0) (by omega)).mp h9
      refine lv_iconst (v := nI 1) hx hb dTP_isLetterOrHyphen_30 (by decide) ?_
      refine lv_goto (tgt := 35) hx hb dTP_isLetterOrHyphen_31 (by decide) ?_
      exact kr_z hx hb hr (by decide) hlocks hM dTP_isLetterOrHyphen_35 (⟨by first | rfl | exact bI_t (by omega) | exact bI_f (by omega), rfl⟩)
    · have h9 := (sJ_le_f (n := x) (c := 122) (hx0) (by omega)).mp h9
      refine lv_iload_n hx hb dTP_isLetterOrHyphen_12 rfl (lv_at hl 0 rfl) ?_
      refine lv_bipush (v := nI 65) hx hb dTP_isLetterOrHyphen_13 (by decide) ?_
      refine lv_icmp_lt (tgt := 24) hx hb dTP_isLetterOrHyphen_15 (by decide) (fun h15 => ?_) (fun h15 => ?_)
      · have h15 := (sJ_lt_t (n := x) (c := 65) (hx0) (by omega)).mp h15
        refine lv_iload_n hx hb dTP_isLetterOrHyphen_24 rfl (lv_at hl 0 rfl) ?_
        refine lv_bipush (v := nI 45) hx hb dTP_isLetterOrHyphen_25 (by decide) ?_
        refine lv_icmp_ne (tgt := 34) hx hb dTP_isLetterOrHyphen_27 (by decide) (fun h27 => ?_) (fun h27 => ?_)
        · have h27 := (sJ_ne_t (n := x) (c := 45) (hx0) (by omega)).mp h27
          refine lv_iconst (v := nI 0) hx hb dTP_isLetterOrHyphen_34 (by decide) ?_
          exact kr_z hx hb hr (by decide) hlocks hM dTP_isLetterOrHyphen_35 (⟨by first | rfl | exact bI_t (by omega) | exact bI_f (by omega), rfl⟩)
        · have h27 := (sJ_ne_f (n := x) (c := 45) (hx0) (by omega)).mp h27
          refine lv_iconst (v := nI 1) hx hb dTP_isLetterOrHyphen_30 (by decide) ?_
          refine lv_goto (tgt := 35) hx hb dTP_isLetterOrHyphen_31 (by decide) ?_
          exact kr_z hx hb hr (by decide) hlocks hM dTP_isLetterOrHyphen_35 (⟨by first | rfl | exact bI_t (by omega) | exact bI_f (by omega), rfl⟩)
      · have h15 := (sJ_lt_f (n := x) (c := 65) (hx0) (by omega)).mp h15
        refine lv_iload_n hx hb dTP_isLetterOrHyphen_18 rfl (lv_at hl 0 rfl) ?_
        refine lv_bipush (v := nI 90) hx hb dTP_isLetterOrHyphen_19 (by decide) ?_
        refine lv_icmp_le (tgt := 30) hx hb dTP_isLetterOrHyphen_21 (by decide) (fun h21 => ?_) (fun h21 => ?_)
        · have h21 := (sJ_le_t (n := x) (c := 90) (hx0) (by omega)).mp h21
          refine lv_iconst (v := nI 1) hx hb dTP_isLetterOrHyphen_30 (by decide) ?_
          refine lv_goto (tgt := 35) hx hb dTP_isLetterOrHyphen_31 (by decide) ?_
          exact kr_z hx hb hr (by decide) hlocks hM dTP_isLetterOrHyphen_35 (⟨by first | rfl | exact bI_t (by omega) | exact bI_f (by omega), rfl⟩)
        · have h21 := (sJ_le_f (n := x) (c := 90) (hx0) (by omega)).mp h21
          refine lv_iload_n hx hb dTP_isLetterOrHyphen_24 rfl (lv_at hl 0 rfl) ?_
          refine lv_bipush (v := nI 45) hx hb dTP_isLetterOrHyphen_25 (by decide) ?_
          refine lv_icmp_ne (tgt := 34) hx hb dTP_isLetterOrHyphen_27 (by decide) (fun h27 => ?_) (fun h27 => ?_)
          · have h27 := (sJ_ne_t (n := x) (c := 45) (hx0) (by omega)).mp h27
            refine lv_iconst (v := nI 0) hx hb dTP_isLetterOrHyphen_34 (by decide) ?_
            exact kr_z hx hb hr (by decide) hlocks hM dTP_isLetterOrHyphen_35 (⟨by first | rfl | exact bI_t (by omega) | exact bI_f (by omega), rfl⟩)
          · have h27 := (sJ_ne_f (n := x) (c := 45) (hx0) (by omega)).mp h27
            refine lv_iconst (v := nI 1) hx hb dTP_isLetterOrHyphen_30 (by decide) ?_
            refine lv_goto (tgt := 35) hx hb dTP_isLetterOrHyphen_31 (by decide) ?_
            exact kr_z hx hb hr (by decide) hlocks hM dTP_isLetterOrHyphen_35 (⟨by first | rfl | exact bI_t (by omega) | exact bI_f (by omega), rfl⟩)
set_option maxHeartbeats 800000 in
set_option maxRecDepth 100000 in
theorem mTP_hasRoomFor (l : Launch) (g : kG) (μ : km_M) {ta ba sa oa ln ai zi : Nat} (ht : μ ta = some (.inr (1, [.ref ba, .ref sa, .ref oa, .int (nI ln), .int (nI ai), .int (nI zi)]))) {k : Nat} (hk : k ≤ 400) (hln : ln ≤ 400) : Met l yTP_hasRoomFor (Cond.code yTP_hasRoomFor cTP_hasRoomFor 2 (some .boolean) :: Wd) ({ frames := 0, cells := 0, slots := 0, locals := 0 } : Room) (kPre g μ [.ref ta, .int (nI k)]) (kQi g (fun (r : Int32) (μ1 : km_M) => r = bI (decide (ln + k ≤ 400)) ∧ μ1 = μ)) 0 0 (kF g) := by
  refine k_met (by decide) (Nat.le_of_ble_eq_true rfl) ?_
  intro p e s m below meth c hx hb hr hlocks hml hown hnm hW ls hl H locs hM
  have hl : lv_has ls 2 [(0, .ref ta), (1, .int (nI k))] := hl
  refine lv_aload_n hx hb dTP_hasRoomFor_0 rfl (lv_at hl 0 rfl) ?_
  refine k_get (own := RTP) (ref := RTP) (C := RTP) (T := TTP) (N := 6) (ci := 1) (v := .int (nI ln)) hx hb hW inTP hown hM ht rfl 3 (by decide) (hW _ w_37) (fun _ h => h) rfl dTP_hasRoomFor_1 ?_
  refine lv_iload_n hx hb dTP_hasRoomFor_4 rfl (lv_at hl 1 rfl) ?_
  refine lv_iadd hx hb dTP_hasRoomFor_5 ?_
  refine topi_eq (y := nI (ln + k)) (nI_add ln k) ?_
  refine lv_sipush (v := nI 400) hx hb dTP_hasRoomFor_6 (by decide) ?_
  refine lv_icmp_gt (tgt := 16) hx hb dTP_hasRoomFor_9 (by decide) (fun h9 => ?_) (fun h9 => ?_)
  · have h9 := (nJ_gt_t (a := ln + k) (b := 400) (by omega) (by omega)).mp h9
    refine lv_iconst (v := nI 0) hx hb dTP_hasRoomFor_16 (by decide) ?_
    exact kr_z hx hb hr (by decide) hlocks hM dTP_hasRoomFor_17 (⟨by first | rfl | exact bI_t (by omega) | exact bI_f (by omega), rfl⟩)
  · have h9 := (nJ_gt_f (a := ln + k) (b := 400) (by omega) (by omega)).mp h9
    refine lv_iconst (v := nI 1) hx hb dTP_hasRoomFor_12 (by decide) ?_
    refine lv_goto (tgt := 17) hx hb dTP_hasRoomFor_13 (by decide) ?_
    exact kr_z hx hb hr (by decide) hlocks hM dTP_hasRoomFor_17 (⟨by first | rfl | exact bI_t (by omega) | exact bI_f (by omega), rfl⟩)
set_option maxHeartbeats 800000 in
set_option maxRecDepth 100000 in
theorem mTP_isAtStop (l : Launch) (g : kG) (μ : km_M) {ta ba sa oa ln ai zi : Nat} (ht : μ ta = some (.inr (1, [.ref ba, .ref sa, .ref oa, .int (nI ln), .int (nI ai), .int (nI zi)]))) (hai : ai ≤ 400) (hzi : zi ≤ 400) : Met l yTP_isAtStop (Cond.code yTP_isAtStop cTP_isAtStop 1 (some .boolean) :: Wd) ({ frames := 0, cells := 0, slots := 0, locals := 0 } : Room) (kPre g μ [.ref ta]) (kQi g (fun (r : Int32) (μ1 : km_M) => r = bI (decide (ai = zi)) ∧ μ1 = μ)) 0 0 (kF g) := by
  refine k_met (by decide) (Nat.le_of_ble_eq_true rfl) ?_
  intro p e s m below meth c hx hb hr hlocks hml hown hnm hW ls hl H locs hM
  have hl : lv_has ls 1 [(0, .ref ta)] := hl
  refine lv_aload_n hx hb dTP_isAtStop_0 rfl (lv_at hl 0 rfl) ?_
  refine k_get (own := RTP) (ref := RTP) (C := RTP) (T := TTP) (N := 6) (ci := 1) (v := .int (nI ai)) hx hb hW inTP hown hM ht rfl 4 (by decide) (hW _ w_39) (fun _ h => h) rfl dTP_isAtStop_1 ?_
  refine lv_aload_n hx hb dTP_isAtStop_4 rfl (lv_at hl 0 rfl) ?_
  refine k_get (own := RTP) (ref := RTP) (C := RTP) (T := TTP) (N := 6) (ci := 1) (v := .int (nI zi)) hx hb hW inTP hown hM ht rfl 5 (by decide) (hW _ w_41) (fun _ h => h) rfl dTP_isAtStop_5 ?_
  refine lv_icmp_ne (tgt := 15) hx hb dTP_isAtStop_8 (by decide) (fun h8 => ?_) (fun h8 => ?_)
  · have h8 := (nJ_ne_t (a := ai) (b := zi) (by omega) (by omega)).mp h8
    refine lv_iconst (v := nI 0) hx hb dTP_isAtStop_15 (by decide) ?_
    exact kr_z hx hb hr (by decide) hlocks hM dTP_isAtStop_16 (⟨by first | rfl | exact bI_t (by omega) | exact bI_f (by omega), rfl⟩)
  · have h8 := (nJ_ne_f (a := ai) (b := zi) (by omega) (by omega)).mp h8
    refine lv_iconst (v := nI 1) hx hb dTP_isAtStop_11 (by decide) ?_
    refine lv_goto (tgt := 16) hx hb dTP_isAtStop_12 (by decide) ?_
    exact kr_z hx hb hr (by decide) hlocks hM dTP_isAtStop_16 (⟨by first | rfl | exact bI_t (by omega) | exact bI_f (by omega), rfl⟩)
set_option maxHeartbeats 800000 in
set_option maxRecDepth 100000 in
theorem mTP_isAtOrWord (l : Launch) (g : kG) (μ : km_M) {ta ba sa oa ln ai zi : Nat} (ht : μ ta = some (.inr (1, [.ref ba, .ref sa, .ref oa, .int (nI ln), .int (nI ai), .int (nI zi)]))) {B : Nat → Nat} (hB : ∀ k, B k < 256) (hb0 : μ ba = some (.inl (g.2.2.1 0, 400, .inl (fun j => sb (B j))))) (hai : ai ≤ zi) (hzi : zi ≤ 400) : Met l yTP_isAtOrWord (Cond.code yTP_isAtOrWord cTP_isAtOrWord 1 (some .boolean) :: Wd) ({ frames := 0, cells := 0, slots := 0, locals := 0 } : Room) (kPre g μ [.ref ta]) (kQi g (fun (r : Int32) (μ1 : km_M) => r = bI (decide (zi - ai = 2 ∧ B ai = 124 ∧ B (ai + 1) = 124)) ∧ μ1 = μ)) 0 0 (kF g) := by
  refine k_met (by decide) (Nat.le_of_ble_eq_true rfl) ?_
  intro p e s m below meth c hx hb hr hlocks hml hown hnm hW ls hl H locs hM
  have hl : lv_has ls 1 [(0, .ref ta)] := hl
  refine lv_aload_n hx hb dTP_isAtOrWord_0 rfl (lv_at hl 0 rfl) ?_
  refine k_get (own := RTP) (ref := RTP) (C := RTP) (T := TTP) (N := 6) (ci := 1) (v := .int (nI zi)) hx hb hW inTP hown hM ht rfl 5 (by decide) (hW _ w_41) (fun _ h => h) rfl dTP_isAtOrWord_1 ?_
  refine lv_aload_n hx hb dTP_isAtOrWord_4 rfl (lv_at hl 0 rfl) ?_
  refine k_get (own := RTP) (ref := RTP) (C := RTP) (T := TTP) (N := 6) (ci := 1) (v := .int (nI ai)) hx hb hW inTP hown hM ht rfl 4 (by decide) (hW _ w_39) (fun _ h => h) rfl dTP_isAtOrWord_5 ?_
  refine lv_isub hx hb dTP_isAtOrWord_8 ?_
  refine topi_eq (y := nI (zi - ai)) (pk_sub (a := zi) (b := ai) (by omega)) ?_
  refine lv_iconst (v := nI 2) hx hb dTP_isAtOrWord_9 (by decide) ?_
  refine lv_icmp_ne (tgt := 47) hx hb dTP_isAtOrWord_10 (by decide) (fun h10 => ?_) (fun h10 => ?_)
  · have h10 := (nJ_ne_t (a := zi - ai) (b := 2) (by omega) (by omega)).mp h10
    refine lv_iconst (v := nI 0) hx hb dTP_isAtOrWord_47 (by decide) ?_
    exact kr_z hx hb hr (by decide) hlocks hM dTP_isAtOrWord_48 (⟨by first | rfl | exact bI_t (by omega) | exact bI_f (by omega), rfl⟩)
  · have h10 := (nJ_ne_f (a := zi - ai) (b := 2) (by omega) (by omega)).mp h10
    refine lv_aload_n hx hb dTP_isAtOrWord_13 rfl (lv_at hl 0 rfl) ?_
    refine k_get (own := RTP) (ref := RTP) (C := RTP) (T := TTP) (N := 6) (ci := 1) (v := .ref ba) hx hb hW inTP hown hM ht rfl 0 (by decide) (hW _ w_34) (fun _ h => h) rfl dTP_isAtOrWord_14 ?_
    refine lv_aload_n hx hb dTP_isAtOrWord_17 rfl (lv_at hl 0 rfl) ?_
    refine k_get (own := RTP) (ref := RTP) (C := RTP) (T := TTP) (N := 6) (ci := 1) (v := .int (nI ai)) hx hb hW inTP hown hM ht rfl 4 (by decide) (hW _ w_39) (fun _ h => h) rfl dTP_isAtOrWord_18 ?_
    refine k_bald (i := ai) hx hb hM 0 hb0 rfl (by omega) (by omega) dTP_isAtOrWord_21 ?_
    refine lv_bipush (v := nI 124) hx hb dTP_isAtOrWord_22 (by decide) ?_
    refine lv_icmp_ne (tgt := 47) hx hb dTP_isAtOrWord_24 (by decide) (fun h24 => ?_) (fun h24 => ?_)
    · have h24 := (sJ_ne_t (n := B ai) (c := 124) (hB _) (by omega)).mp h24
      refine lv_iconst (v := nI 0) hx hb dTP_isAtOrWord_47 (by decide) ?_
      exact kr_z hx hb hr (by decide) hlocks hM dTP_isAtOrWord_48 (⟨by first | rfl | exact bI_t (by omega) | exact bI_f (by omega), rfl⟩)
    · have h24 := (sJ_ne_f (n := B ai) (c := 124) (hB _) (by omega)).mp h24
      refine lv_aload_n hx hb dTP_isAtOrWord_27 rfl (lv_at hl 0 rfl) ?_
      refine k_get (own := RTP) (ref := RTP) (C := RTP) (T := TTP) (N := 6) (ci := 1) (v := .ref ba) hx hb hW inTP hown hM ht rfl 0 (by decide) (hW _ w_34) (fun _ h => h) rfl dTP_isAtOrWord_28 ?_
      refine lv_aload_n hx hb dTP_isAtOrWord_31 rfl (lv_at hl 0 rfl) ?_
      refine k_get (own := RTP) (ref := RTP) (C := RTP) (T := TTP) (N := 6) (ci := 1) (v := .int (nI ai)) hx hb hW inTP hown hM ht rfl 4 (by decide) (hW _ w_39) (fun _ h => h) rfl dTP_isAtOrWord_32 ?_
      refine lv_iconst (v := nI 1) hx hb dTP_isAtOrWord_35 (by decide) ?_
      refine lv_iadd hx hb dTP_isAtOrWord_36 ?_
      refine topi_eq (y := nI (ai + 1)) (nI_add ai 1) ?_
      refine k_bald (i := ai + 1) hx hb hM 0 hb0 rfl (by omega) (by omega) dTP_isAtOrWord_37 ?_
      refine lv_bipush (v := nI 124) hx hb dTP_isAtOrWord_38 (by decide) ?_
      refine lv_icmp_ne (tgt := 47) hx hb dTP_isAtOrWord_40 (by decide) (fun h40 => ?_) (fun h40 => ?_)
      · have h40 := (sJ_ne_t (n := B (ai + 1)) (c := 124) (hB _) (by omega)).mp h40
        refine lv_iconst (v := nI 0) hx hb dTP_isAtOrWord_47 (by decide) ?_
        exact kr_z hx hb hr (by decide) hlocks hM dTP_isAtOrWord_48 (⟨by first | rfl | exact bI_t (by omega) | exact bI_f (by omega), rfl⟩)
      · have h40 := (sJ_ne_f (n := B (ai + 1)) (c := 124) (hB _) (by omega)).mp h40
        refine lv_iconst (v := nI 1) hx hb dTP_isAtOrWord_43 (by decide) ?_
        refine lv_goto (tgt := 48) hx hb dTP_isAtOrWord_44 (by decide) ?_
        exact kr_z hx hb hr (by decide) hlocks hM dTP_isAtOrWord_48 (⟨by first | rfl | exact bI_t (by omega) | exact bI_f (by omega), rfl⟩)
set_option maxHeartbeats 800000 in
set_option maxRecDepth 100000 in
theorem mTP_skip (l : Launch) (g : kG) (μ : km_M) {ta ba sa oa ln ai zi : Nat} (ht : μ ta = some (.inr (1, [.ref ba, .ref sa, .ref oa, .int (nI ln), .int (nI ai), .int (nI zi)]))) {B : Nat → Nat} (hB : ∀ k, B k < 256) (hb0 : μ ba = some (.inl (g.2.2.1 0, 400, .inl (fun j => sb (B j))))) {ch : Nat} (hch : ch < 128) (hai : ai ≤ zi) (hzi : zi ≤ 400) : Met l yTP_skip (Cond.code yTP_skip cTP_skip 2 (some .boolean) :: Wd) ({ frames := 0, cells := 0, slots := 0, locals := 0 } : Room) (kPre g μ [.ref ta, .int (nI ch)]) (kQi g (fun (r : Int32) (μ1 : km_M) => r = bI (decide (ai < zi ∧ B ai = ch)) ∧ μ1 = if ai < zi ∧ B ai = ch then km_up μ ta (.inr (1, [.ref ba, .ref sa, .ref oa, .int (nI ln), .int (nI (ai + 1)), .int (nI zi)])) else μ)) 0 0 (kF g) := by
  refine k_met (by decide) (Nat.le_of_ble_eq_true rfl) ?_
  intro p e s m below meth c hx hb hr hlocks hml hown hnm hW ls hl H locs hM
  have hl : lv_has ls 2 [(0, .ref ta), (1, .int (nI ch))] := hl
  refine lv_aload_n hx hb dTP_skip_0 rfl (lv_at hl 0 rfl) ?_
  refine k_get (own := RTP) (ref := RTP) (C := RTP) (T := TTP) (N := 6) (ci := 1) (v := .int (nI ai)) hx hb hW inTP hown hM ht rfl 4 (by decide) (hW _ w_39) (fun _ h => h) rfl dTP_skip_1 ?_
  refine lv_aload_n hx hb dTP_skip_4 rfl (lv_at hl 0 rfl) ?_
  refine k_get (own := RTP) (ref := RTP) (C := RTP) (T := TTP) (N := 6) (ci := 1) (v := .int (nI zi)) hx hb hW inTP hown hM ht rfl 5 (by decide) (hW _ w_41) (fun _ h => h) rfl dTP_skip_5 ?_
  refine lv_icmp_ge (tgt := 36) hx hb dTP_skip_8 (by decide) (fun h8 => ?_) (fun h8 => ?_)
  · have h8 := (nJ_ge_t (a := ai) (b := zi) (by omega) (by omega)).mp h8
    refine lv_iconst (v := nI 0) hx hb dTP_skip_36 (by decide) ?_
    exact kr_z hx hb hr (by decide) hlocks hM dTP_skip_37 (⟨by first | exact bI_t (by omega) | exact bI_f (by omega), by rw [if_neg (by omega)]⟩)
  · have h8 := (nJ_ge_f (a := ai) (b := zi) (by omega) (by omega)).mp h8
    refine lv_aload_n hx hb dTP_skip_11 rfl (lv_at hl 0 rfl) ?_
    refine k_get (own := RTP) (ref := RTP) (C := RTP) (T := TTP) (N := 6) (ci := 1) (v := .ref ba) hx hb hW inTP hown hM ht rfl 0 (by decide) (hW _ w_34) (fun _ h => h) rfl dTP_skip_12 ?_
    refine lv_aload_n hx hb dTP_skip_15 rfl (lv_at hl 0 rfl) ?_
    refine k_get (own := RTP) (ref := RTP) (C := RTP) (T := TTP) (N := 6) (ci := 1) (v := .int (nI ai)) hx hb hW inTP hown hM ht rfl 4 (by decide) (hW _ w_39) (fun _ h => h) rfl dTP_skip_16 ?_
    refine k_bald (i := ai) hx hb hM 0 hb0 rfl (by omega) (by omega) dTP_skip_19 ?_
    refine lv_iload_n hx hb dTP_skip_20 rfl (lv_at hl 1 rfl) ?_
    refine lv_icmp_ne (tgt := 36) hx hb dTP_skip_21 (by decide) (fun h21 => ?_) (fun h21 => ?_)
    · have h21 := (sJ_ne_t (n := B ai) (c := ch) (hB _) (by omega)).mp h21
      refine lv_iconst (v := nI 0) hx hb dTP_skip_36 (by decide) ?_
      exact kr_z hx hb hr (by decide) hlocks hM dTP_skip_37 (⟨by first | exact bI_t (by omega) | exact bI_f (by omega), by rw [if_neg (by omega)]⟩)
    · have h21 := (sJ_ne_f (n := B ai) (c := ch) (hB _) (by omega)).mp h21
      refine lv_aload_n hx hb dTP_skip_24 rfl (lv_at hl 0 rfl) ?_
      refine lv_dup hx hb dTP_skip_25 rfl ?_
      refine k_get (own := RTP) (ref := RTP) (C := RTP) (T := TTP) (N := 6) (ci := 1) (v := .int (nI ai)) hx hb hW inTP hown hM ht rfl 4 (by decide) (hW _ w_39) (fun _ h => h) rfl dTP_skip_26 ?_
      refine lv_iconst (v := nI 1) hx hb dTP_skip_29 (by decide) ?_
      refine lv_iadd hx hb dTP_skip_30 ?_
      refine topi_eq (y := nI (ai + 1)) (nI_add ai 1) ?_
      refine k_put (own := RTP) (ref := RTP) (C := RTP) (T := TTP) (N := 6) (ci := 1) (v := .int (nI (ai + 1))) (ty := .int) (fs' := [.ref ba, .ref sa, .ref oa, .int (nI ln), .int (nI (ai + 1)), .int (nI zi)]) hx hb hW inTP tyTP tyokTP nmokTP hown hM ht rfl 4 (by decide) (hW _ w_39) (fun _ h => h) rfl (by decide +kernel) rfl rfl (Nat.le_of_ble_eq_true rfl) dTP_skip_31 rfl (fun H locs hM => ?_)
      have hM : kS g (km_up μ ta (.inr (1, [.ref ba, .ref sa, .ref oa, .int (nI ln), .int (nI (ai + 1)), .int (nI zi)]))) s H locs := hM
      refine lv_iconst (v := nI 1) hx hb dTP_skip_34 (by decide) ?_
      exact kr_z hx hb hr (by decide) hlocks hM dTP_skip_35 (⟨by first | exact bI_t (by omega) | exact bI_f (by omega), by rw [if_pos (by omega)]⟩)
set_option maxHeartbeats 800000 in
set_option maxRecDepth 100000 in
theorem mTP_addFour (l : Launch) (g : kG) (μ : km_M) {ta ba sa oa ln ai zi : Nat} (ht : μ ta = some (.inr (1, [.ref ba, .ref sa, .ref oa, .int (nI ln), .int (nI ai), .int (nI zi)]))) {B : Nat → Nat} (hB : ∀ k, B k < 256) (hb0 : μ ba = some (.inl (g.2.2.1 0, 400, .inl (fun j => sb (B j))))) {v : Int32} (hln : ln + 4 ≤ 400) : Met l yTP_addFour (Cond.code yTP_addFour cTP_addFour 3 none :: Wd) ({ frames := 0, cells := 0, slots := 0, locals := 0 } : Room) (kPre g μ [.ref ta, .int v]) (kQv g (fun (μ1 : km_M) => μ1 = km_up (km_up μ ba (.inl (g.2.2.1 0, 400, .inl (fun j => sb ((pb4 B ln v) j))))) ta (.inr (1, [.ref ba, .ref sa, .ref oa, .int (nI (ln + 4)), .int (nI ai), .int (nI zi)])))) 0 0 (kF g) := by
  refine k_met (by decide) (Nat.le_of_ble_eq_true rfl) ?_
  intro p e s m below meth c hx hb hr hlocks hml hown hnm hW ls hl H locs hM
  have hl : lv_has ls 3 [(0, .ref ta), (1, .int v)] := hl
  refine lv_bipush (v := nI 24) hx hb dTP_addFour_0 (by decide) ?_
  refine lv_istore_n (lv' := [(2, .int (nI 24)), (0, .ref ta), (1, .int v)]) hx hb dTP_addFour_2 rfl hl (by decide) rfl (fun ls hl => ?_)
  refine lv_iload_n hx hb dTP_addFour_3 rfl (lv_at hl 0 rfl) ?_
  refine lv_if_lt (tgt := 36) hx hb dTP_addFour_4 (by decide) (fun h => absurd h (by decide)) (fun _ => ?_)
  refine lv_aload_n hx hb dTP_addFour_7 rfl (lv_at hl 1 rfl) ?_
  refine k_get (own := RTP) (ref := RTP) (C := RTP) (T := TTP) (N := 6) (ci := 1) (v := .ref ba) hx hb hW inTP hown hM ht rfl 0 (by decide) (hW _ w_34) (fun _ h => h) rfl dTP_addFour_8 ?_
  refine lv_aload_n hx hb dTP_addFour_11 rfl (lv_at hl 1 rfl) ?_
  refine k_get (own := RTP) (ref := RTP) (C := RTP) (T := TTP) (N := 6) (ci := 1) (v := .int (nI ln)) hx hb hW inTP hown hM ht rfl 3 (by decide) (hW _ w_37) (fun _ h => h) rfl dTP_addFour_12 ?_
  refine lv_iload_n hx hb dTP_addFour_15 rfl (lv_at hl 2 rfl) ?_
  refine lv_iload_n hx hb dTP_addFour_16 rfl (lv_at hl 0 rfl) ?_
  refine lv_ishr hx hb dTP_addFour_17 ?_
  refine lv_i2b (v := sb (bt v 24)) hx hb dTP_addFour_18 (bt_sb _ _) ?_
  refine k_bast (i := ln) (f1 := (fun j => sb ((va_up B ln (bt v 24)) j))) hx hb hM 0 hb0 rfl (by omega) (by omega) updsb_at dTP_addFour_19 (fun H locs hM => ?_)
  have hM : kS g (km_up μ ba (.inl (g.2.2.1 0, 400, .inl (fun j => sb ((va_up B ln (bt v 24)) j))))) s H locs := hM
  refine lv_aload_n hx hb dTP_addFour_20 rfl (lv_at hl 1 rfl) ?_
  refine lv_dup hx hb dTP_addFour_21 rfl ?_
  refine k_get (own := RTP) (ref := RTP) (C := RTP) (T := TTP) (N := 6) (ci := 1) (v := .int (nI ln)) hx hb hW inTP hown hM ((km_n (km_apB ht hb0)).trans ht) rfl 3 (by decide) (hW _ w_37) (fun _ h => h) rfl dTP_addFour_22 ?_
  refine lv_iconst (v := nI 1) hx hb dTP_addFour_25 (by decide) ?_
  refine lv_iadd hx hb dTP_addFour_26 ?_
  refine topi_eq (y := nI (ln + 1)) (nI_add ln 1) ?_
  refine k_put (own := RTP) (ref := RTP) (C := RTP) (T := TTP) (N := 6) (ci := 1) (v := .int (nI (ln + 1))) (ty := .int) (fs' := [.ref ba, .ref sa, .ref oa, .int (nI (ln + 1)), .int (nI ai), .int (nI zi)]) hx hb hW inTP tyTP tyokTP nmokTP hown hM ((km_n (km_apB ht hb0)).trans ht) rfl 3 (by decide) (hW _ w_37) (fun _ h => h) rfl (by decide +kernel) rfl rfl (Nat.le_of_ble_eq_true rfl) dTP_addFour_27 rfl (fun H locs hM => ?_)
  have hM : kS g (km_up (km_up μ ba (.inl (g.2.2.1 0, 400, .inl (fun j => sb ((va_up B ln (bt v 24)) j))))) ta (.inr (1, [.ref ba, .ref sa, .ref oa, .int (nI (ln + 1)), .int (nI ai), .int (nI zi)]))) s H locs := hM
  refine lv_iinc (v := nI 16) (lv' := [(2, .int (nI 16)), (0, .ref ta), (1, .int v)]) (k := 0) hx hb dTP_addFour_30 hl rfl (by decide) (by decide) rfl (fun ls hl => ?_)
  refine lv_goto (tgt := 3) hx hb dTP_addFour_33 (by decide) ?_
  refine lv_iload_n hx hb dTP_addFour_3 rfl (lv_at hl 0 rfl) ?_
  refine lv_if_lt (tgt := 36) hx hb dTP_addFour_4 (by decide) (fun h => absurd h (by decide)) (fun _ => ?_)
  refine lv_aload_n hx hb dTP_addFour_7 rfl (lv_at hl 1 rfl) ?_
  refine k_get (own := RTP) (ref := RTP) (C := RTP) (T := TTP) (N := 6) (ci := 1) (v := .ref ba) hx hb hW inTP hown hM (km_s _ _ _) rfl 0 (by decide) (hW _ w_34) (fun _ h => h) rfl dTP_addFour_8 ?_
  refine lv_aload_n hx hb dTP_addFour_11 rfl (lv_at hl 1 rfl) ?_
  refine k_get (own := RTP) (ref := RTP) (C := RTP) (T := TTP) (N := 6) (ci := 1) (v := .int (nI (ln + 1))) hx hb hW inTP hown hM (km_s _ _ _) rfl 3 (by decide) (hW _ w_37) (fun _ h => h) rfl dTP_addFour_12 ?_
  refine lv_iload_n hx hb dTP_addFour_15 rfl (lv_at hl 2 rfl) ?_
  refine lv_iload_n hx hb dTP_addFour_16 rfl (lv_at hl 0 rfl) ?_
  refine lv_ishr hx hb dTP_addFour_17 ?_
  refine lv_i2b (v := sb (bt v 16)) hx hb dTP_addFour_18 (bt_sb _ _) ?_
  refine k_bast (i := ln + 1) (f1 := (fun j => sb ((va_up (va_up B ln (bt v 24)) (ln + 1) (bt v 16)) j))) hx hb hM 0 ((km_n (km_apA hb0 ht)).trans (km_s _ _ _)) rfl (by omega) (by omega) updsb_at dTP_addFour_19 (fun H locs hM => ?_)
  have hM : kS g (km_up (km_up μ ba (.inl (g.2.2.1 0, 400, .inl (fun j => sb ((va_up (va_up B ln (bt v 24)) (ln + 1) (bt v 16)) j))))) ta (.inr (1, [.ref ba, .ref sa, .ref oa, .int (nI (ln + 1)), .int (nI ai), .int (nI zi)]))) s H locs := kS_eq (km_u2 _ _ _ _ (km_apA hb0 ht)) hM
  refine lv_aload_n hx hb dTP_addFour_20 rfl (lv_at hl 1 rfl) ?_
  refine lv_dup hx hb dTP_addFour_21 rfl ?_
  refine k_get (own := RTP) (ref := RTP) (C := RTP) (T := TTP) (N := 6) (ci := 1) (v := .int (nI (ln + 1))) hx hb hW inTP hown hM (km_s _ _ _) rfl 3 (by decide) (hW _ w_37) (fun _ h => h) rfl dTP_addFour_22 ?_
  refine lv_iconst (v := nI 1) hx hb dTP_addFour_25 (by decide) ?_
  refine lv_iadd hx hb dTP_addFour_26 ?_
  refine topi_eq (y := nI (ln + 2)) (nI_add (ln + 1) 1) ?_
  refine k_put (own := RTP) (ref := RTP) (C := RTP) (T := TTP) (N := 6) (ci := 1) (v := .int (nI (ln + 2))) (ty := .int) (fs' := [.ref ba, .ref sa, .ref oa, .int (nI (ln + 2)), .int (nI ai), .int (nI zi)]) hx hb hW inTP tyTP tyokTP nmokTP hown hM (km_s _ _ _) rfl 3 (by decide) (hW _ w_37) (fun _ h => h) rfl (by decide +kernel) rfl rfl (Nat.le_of_ble_eq_true rfl) dTP_addFour_27 rfl (fun H locs hM => ?_)
  have hM : kS g (km_up (km_up μ ba (.inl (g.2.2.1 0, 400, .inl (fun j => sb ((va_up (va_up B ln (bt v 24)) (ln + 1) (bt v 16)) j))))) ta (.inr (1, [.ref ba, .ref sa, .ref oa, .int (nI (ln + 2)), .int (nI ai), .int (nI zi)]))) s H locs := kS_eq (km_u1 _ _ _ _) hM
  refine lv_iinc (v := nI 8) (lv' := [(2, .int (nI 8)), (0, .ref ta), (1, .int v)]) (k := 0) hx hb dTP_addFour_30 hl rfl (by decide) (by decide) rfl (fun ls hl => ?_)
  refine lv_goto (tgt := 3) hx hb dTP_addFour_33 (by decide) ?_
  refine lv_iload_n hx hb dTP_addFour_3 rfl (lv_at hl 0 rfl) ?_
  refine lv_if_lt (tgt := 36) hx hb dTP_addFour_4 (by decide) (fun h => absurd h (by decide)) (fun _ => ?_)
  refine lv_aload_n hx hb dTP_addFour_7 rfl (lv_at hl 1 rfl) ?_
  refine k_get (own := RTP) (ref := RTP) (C := RTP) (T := TTP) (N := 6) (ci := 1) (v := .ref ba) hx hb hW inTP hown hM (km_s _ _ _) rfl 0 (by decide) (hW _ w_34) (fun _ h => h) rfl dTP_addFour_8 ?_
  refine lv_aload_n hx hb dTP_addFour_11 rfl (lv_at hl 1 rfl) ?_
  refine k_get (own := RTP) (ref := RTP) (C := RTP) (T := TTP) (N := 6) (ci := 1) (v := .int (nI (ln + 2))) hx hb hW inTP hown hM (km_s _ _ _) rfl 3 (by decide) (hW _ w_37) (fun _ h => h) rfl dTP_addFour_12 ?_
  refine lv_iload_n hx hb dTP_addFour_15 rfl (lv_at hl 2 rfl) ?_
  refine lv_iload_n hx hb dTP_addFour_16 rfl (lv_at hl 0 rfl) ?_
  refine lv_ishr hx hb dTP_addFour_17 ?_
  refine lv_i2b (v := sb (bt v 8)) hx hb dTP_addFour_18 (bt_sb _ _) ?_
  refine k_bast (i := ln + 2) (f1 := (fun j => sb ((va_up (va_up (va_up B ln (bt v 24)) (ln + 1) (bt v 16)) (ln + 2) (bt v 8)) j))) hx hb hM 0 ((km_n (km_apA hb0 ht)).trans (km_s _ _ _)) rfl (by omega) (by omega) updsb_at dTP_addFour_19 (fun H locs hM => ?_)
  have hM : kS g (km_up (km_up μ ba (.inl (g.2.2.1 0, 400, .inl (fun j => sb ((va_up (va_up (va_up B ln (bt v 24)) (ln + 1) (bt v 16)) (ln + 2) (bt v 8)) j))))) ta (.inr (1, [.ref ba, .ref sa, .ref oa, .int (nI (ln + 2)), .int (nI ai), .int (nI zi)]))) s H locs := kS_eq (km_u2 _ _ _ _ (km_apA hb0 ht)) hM
  refine lv_aload_n hx hb dTP_addFour_20 rfl (lv_at hl 1 rfl) ?_
  refine lv_dup hx hb dTP_addFour_21 rfl ?_
  refine k_get (own := RTP) (ref := RTP) (C := RTP) (T := TTP) (N := 6) (ci := 1) (v := .int (nI (ln + 2))) hx hb hW inTP hown hM (km_s _ _ _) rfl 3 (by decide) (hW _ w_37) (fun _ h => h) rfl dTP_addFour_22 ?_
  refine lv_iconst (v := nI 1) hx hb dTP_addFour_25 (by decide) ?_
  refine lv_iadd hx hb dTP_addFour_26 ?_
  refine topi_eq (y := nI (ln + 3)) (nI_add (ln + 2) 1) ?_
  refine k_put (own := RTP) (ref := RTP) (C := RTP) (T := TTP) (N := 6) (ci := 1) (v := .int (nI (ln + 3))) (ty := .int) (fs' := [.ref ba, .ref sa, .ref oa, .int (nI (ln + 3)), .int (nI ai), .int (nI zi)]) hx hb hW inTP tyTP tyokTP nmokTP hown hM (km_s _ _ _) rfl 3 (by decide) (hW _ w_37) (fun _ h => h) rfl (by decide +kernel) rfl rfl (Nat.le_of_ble_eq_true rfl) dTP_addFour_27 rfl (fun H locs hM => ?_)
  have hM : kS g (km_up (km_up μ ba (.inl (g.2.2.1 0, 400, .inl (fun j => sb ((va_up (va_up (va_up B ln (bt v 24)) (ln + 1) (bt v 16)) (ln + 2) (bt v 8)) j))))) ta (.inr (1, [.ref ba, .ref sa, .ref oa, .int (nI (ln + 3)), .int (nI ai), .int (nI zi)]))) s H locs := kS_eq (km_u1 _ _ _ _) hM
  refine lv_iinc (v := nI 0) (lv' := [(2, .int (nI 0)), (0, .ref ta), (1, .int v)]) (k := 0) hx hb dTP_addFour_30 hl rfl (by decide) (by decide) rfl (fun ls hl => ?_)
  refine lv_goto (tgt := 3) hx hb dTP_addFour_33 (by decide) ?_
  refine lv_iload_n hx hb dTP_addFour_3 rfl (lv_at hl 0 rfl) ?_
  refine lv_if_lt (tgt := 36) hx hb dTP_addFour_4 (by decide) (fun h => absurd h (by decide)) (fun _ => ?_)
  refine lv_aload_n hx hb dTP_addFour_7 rfl (lv_at hl 1 rfl) ?_
  refine k_get (own := RTP) (ref := RTP) (C := RTP) (T := TTP) (N := 6) (ci := 1) (v := .ref ba) hx hb hW inTP hown hM (km_s _ _ _) rfl 0 (by decide) (hW _ w_34) (fun _ h => h) rfl dTP_addFour_8 ?_
  refine lv_aload_n hx hb dTP_addFour_11 rfl (lv_at hl 1 rfl) ?_
  refine k_get (own := RTP) (ref := RTP) (C := RTP) (T := TTP) (N := 6) (ci := 1) (v := .int (nI (ln + 3))) hx hb hW inTP hown hM (km_s _ _ _) rfl 3 (by decide) (hW _ w_37) (fun _ h => h) rfl dTP_addFour_12 ?_
  refine lv_iload_n hx hb dTP_addFour_15 rfl (lv_at hl 2 rfl) ?_
  refine lv_iload_n hx hb dTP_addFour_16 rfl (lv_at hl 0 rfl) ?_
  refine lv_ishr hx hb dTP_addFour_17 ?_
  refine lv_i2b (v := sb (bt v 0)) hx hb dTP_addFour_18 (bt_sb _ _) ?_
  refine k_bast (i := ln + 3) (f1 := (fun j => sb ((va_up (va_up (va_up (va_up B ln (bt v 24)) (ln + 1) (bt v 16)) (ln + 2) (bt v 8)) (ln + 3) (bt v 0)) j))) hx hb hM 0 ((km_n (km_apA hb0 ht)).trans (km_s _ _ _)) rfl (by omega) (by omega) updsb_at dTP_addFour_19 (fun H locs hM => ?_)
  have hM : kS g (km_up (km_up μ ba (.inl (g.2.2.1 0, 400, .inl (fun j => sb ((va_up (va_up (va_up (va_up B ln (bt v 24)) (ln + 1) (bt v 16)) (ln + 2) (bt v 8)) (ln + 3) (bt v 0)) j))))) ta (.inr (1, [.ref ba, .ref sa, .ref oa, .int (nI (ln + 3)), .int (nI ai), .int (nI zi)]))) s H locs := kS_eq (km_u2 _ _ _ _ (km_apA hb0 ht)) hM
  refine lv_aload_n hx hb dTP_addFour_20 rfl (lv_at hl 1 rfl) ?_
  refine lv_dup hx hb dTP_addFour_21 rfl ?_
  refine k_get (own := RTP) (ref := RTP) (C := RTP) (T := TTP) (N := 6) (ci := 1) (v := .int (nI (ln + 3))) hx hb hW inTP hown hM (km_s _ _ _) rfl 3 (by decide) (hW _ w_37) (fun _ h => h) rfl dTP_addFour_22 ?_
  refine lv_iconst (v := nI 1) hx hb dTP_addFour_25 (by decide) ?_
  refine lv_iadd hx hb dTP_addFour_26 ?_
  refine topi_eq (y := nI (ln + 4)) (nI_add (ln + 3) 1) ?_
  refine k_put (own := RTP) (ref := RTP) (C := RTP) (T := TTP) (N := 6) (ci := 1) (v := .int (nI (ln + 4))) (ty := .int) (fs' := [.ref ba, .ref sa, .ref oa, .int (nI (ln + 4)), .int (nI ai), .int (nI zi)]) hx hb hW inTP tyTP tyokTP nmokTP hown hM (km_s _ _ _) rfl 3 (by decide) (hW _ w_37) (fun _ h => h) rfl (by decide +kernel) rfl rfl (Nat.le_of_ble_eq_true rfl) dTP_addFour_27 rfl (fun H locs hM => ?_)
  have hM : kS g (km_up (km_up μ ba (.inl (g.2.2.1 0, 400, .inl (fun j => sb ((va_up (va_up (va_up (va_up B ln (bt v 24)) (ln + 1) (bt v 16)) (ln + 2) (bt v 8)) (ln + 3) (bt v 0)) j))))) ta (.inr (1, [.ref ba, .ref sa, .ref oa, .int (nI (ln + 4)), .int (nI ai), .int (nI zi)]))) s H locs := kS_eq (km_u1 _ _ _ _) hM
  refine lv_iinc (v := (-8)) (lv' := [(2, .int (-8)), (0, .ref ta), (1, .int v)]) (k := 0) hx hb dTP_addFour_30 hl rfl (by decide) (by decide) rfl (fun ls hl => ?_)
  refine lv_goto (tgt := 3) hx hb dTP_addFour_33 (by decide) ?_
  refine lv_iload_n hx hb dTP_addFour_3 rfl (lv_at hl 0 rfl) ?_
  refine lv_if_lt (tgt := 36) hx hb dTP_addFour_4 (by decide) (fun _ => ?_) (fun h => absurd (by decide) h)
  exact kr_v hx hb hr hlocks hM dTP_addFour_36 rfl
set_option maxHeartbeats 800000 in
set_option maxRecDepth 100000 in
theorem mTP_enterWord (l : Launch) (g : kG) (μ : km_M) {ta ba sa oa ln ai zi : Nat} (ht : μ ta = some (.inr (1, [.ref ba, .ref sa, .ref oa, .int (nI ln), .int (nI ai), .int (nI zi)]))) {S E : Nat → Nat} (hs0 : μ sa = some (.inl (g.2.2.1 1, 200, .inl (fun j => nI (S j))))) (ho0 : μ oa = some (.inl (g.2.2.1 1, 200, .inl (fun j => nI (E j))))) {k : Nat} (hk : k < 200) : Met l yTP_enterWord (Cond.code yTP_enterWord cTP_enterWord 2 none :: Wd) ({ frames := 0, cells := 0, slots := 0, locals := 0 } : Room) (kPre g μ [.ref ta, .int (nI k)]) (kQv g (fun (μ1 : km_M) => μ1 = km_up μ ta (.inr (1, [.ref ba, .ref sa, .ref oa, .int (nI ln), .int (nI (S k)), .int (nI (E k))])))) 0 0 (kF g) := by
  refine k_met (by decide) (Nat.le_of_ble_eq_true rfl) ?_
  intro p e s m below meth c hx hb hr hlocks hml hown hnm hW ls hl H locs hM
  have hl : lv_has ls 2 [(0, .ref ta), (1, .int (nI k))] := hl
  refine lv_aload_n hx hb dTP_enterWord_0 rfl (lv_at hl 0 rfl) ?_
  refine lv_aload_n hx hb dTP_enterWord_1 rfl (lv_at hl 0 rfl) ?_
  refine k_get (own := RTP) (ref := RTP) (C := RTP) (T := TTP) (N := 6) (ci := 1) (v := .ref sa) hx hb hW inTP hown hM ht rfl 1 (by decide) (hW _ w_35) (fun _ h => h) rfl dTP_enterWord_2 ?_
  refine lv_iload_n hx hb dTP_enterWord_5 rfl (lv_at hl 1 rfl) ?_
  refine k_iald (i := k) hx hb hM 1 hs0 rfl (by omega) (by omega) dTP_enterWord_6 ?_
  refine k_put (own := RTP) (ref := RTP) (C := RTP) (T := TTP) (N := 6) (ci := 1) (v := .int (nI (S k))) (ty := .int) (fs' := [.ref ba, .ref sa, .ref oa, .int (nI ln), .int (nI (S k)), .int (nI zi)]) hx hb hW inTP tyTP tyokTP nmokTP hown hM ht rfl 4 (by decide) (hW _ w_39) (fun _ h => h) rfl (by decide +kernel) rfl rfl (Nat.le_of_ble_eq_true rfl) dTP_enterWord_7 rfl (fun H locs hM => ?_)
  have hM : kS g (km_up μ ta (.inr (1, [.ref ba, .ref sa, .ref oa, .int (nI ln), .int (nI (S k)), .int (nI zi)]))) s H locs := hM
  refine lv_aload_n hx hb dTP_enterWord_10 rfl (lv_at hl 0 rfl) ?_
  refine lv_aload_n hx hb dTP_enterWord_11 rfl (lv_at hl 0 rfl) ?_
  refine k_get (own := RTP) (ref := RTP) (C := RTP) (T := TTP) (N := 6) (ci := 1) (v := .ref oa) hx hb hW inTP hown hM (km_s _ _ _) rfl 2 (by decide) (hW _ w_36) (fun _ h => h) rfl dTP_enterWord_12 ?_
  refine lv_iload_n hx hb dTP_enterWord_15 rfl (lv_at hl 1 rfl) ?_
  refine k_iald (i := k) hx hb hM 1 ((km_n (km_apA ho0 ht)).trans ho0) rfl (by omega) (by omega) dTP_enterWord_16 ?_
  refine k_put (own := RTP) (ref := RTP) (C := RTP) (T := TTP) (N := 6) (ci := 1) (v := .int (nI (E k))) (ty := .int) (fs' := [.ref ba, .ref sa, .ref oa, .int (nI ln), .int (nI (S k)), .int (nI (E k))]) hx hb hW inTP tyTP tyokTP nmokTP hown hM (km_s _ _ _) rfl 5 (by decide) (hW _ w_41) (fun _ h => h) rfl (by decide +kernel) rfl rfl (Nat.le_of_ble_eq_true rfl) dTP_enterWord_17 rfl (fun H locs hM => ?_)
  have hM : kS g (km_up μ ta (.inr (1, [.ref ba, .ref sa, .ref oa, .int (nI ln), .int (nI (S k)), .int (nI (E k))]))) s H locs := kS_eq (km_u1 _ _ _ _) hM
  exact kr_v hx hb hr hlocks hM dTP_enterWord_20 rfl
set_option maxHeartbeats 800000 in
set_option maxRecDepth 100000 in
theorem mTP_splitWords (l : Launch) (g : kG) (μ : km_M) {ta ba sa oa ln ai zi : Nat} (ht : μ ta = some (.inr (1, [.ref ba, .ref sa, .ref oa, .int (nI ln), .int (nI ai), .int (nI zi)]))) {B : Nat → Nat} (hB : ∀ k, B k < 256) (hb0 : μ ba = some (.inl (g.2.2.1 0, 400, .inl (fun j => sb (B j))))) {S E : Nat → Nat} (hs0 : μ sa = some (.inl (g.2.2.1 1, 200, .inl (fun j => nI (S j))))) (ho0 : μ oa = some (.inl (g.2.2.1 1, 200, .inl (fun j => nI (E j))))) (hso : sa ≠ oa) (hln : ln ≤ 400) : Met l yTP_splitWords (Cond.code yTP_splitWords cTP_splitWords 3 (some .int) :: Wd) ({ frames := 0, cells := 0, slots := 0, locals := 0 } : Room) (kPre g μ [.ref ta]) (kQi g (fun (r : Int32) (μ1 : km_M) => r = nI (spl B S E ln).1 ∧ μ1 = km_up (km_up μ sa (.inl (g.2.2.1 1, 200, .inl (fun j => nI (((spl B S E ln).2.1) j))))) oa (.inl (g.2.2.1 1, 200, .inl (fun j => nI (((spl B S E ln).2.2) j)))))) 0 0 (kF g) := by
  refine k_met (by decide) (Nat.le_of_ble_eq_true rfl) ?_
  intro p e s m below meth c hx hb hr hlocks hml hown hnm hW ls hl H locs hM
  have hl : lv_has ls 3 [(0, .ref ta)] := hl
  have cut4 : ∀ (n : Nat), ∀ (i : Nat) (w : Nat) (S1 : Nat → Nat) (E1 : Nat → Nat), ln - i < n → i ≤ ln → spl B S E i = (w, S1, E1) → ∀ (ls : Array Slot) (H : Heap) (locs : List Loc), lv_has ls 3 [(0, .ref ta), (1, .int (nI w)), (2, .int (nI i))] → kS g (km_up (km_up μ sa (.inl (g.2.2.1 1, 200, .inl (fun j => nI (S1 j))))) oa (.inl (g.2.2.1 1, 200, .inl (fun j => nI (E1 j))))) s H locs → W p l e ({ frames := 0, cells := 0, slots := 0, locals := 0 } : Room) s m [.ref ta].toArray below meth c H locs 0 0 (MQ below (kQi g (fun (r : Int32) (μ1 : km_M) => r = nI (spl B S E ln).1 ∧ μ1 = km_up (km_up μ sa (.inl (g.2.2.1 1, 200, .inl (fun j => nI (((spl B S E ln).2.1) j))))) oa (.inl (g.2.2.1 1, 200, .inl (fun j => nI (((spl B S E ln).2.2) j)))))) [.ref ta].toArray s 0 0 (kF g)) (F0 m 4 ls []) := by
    intro n
    induction n with
    | zero => intro i w S1 E1 hlt; exact absurd hlt (Nat.not_lt_zero _)
    | succ n ih =>
      intro i w S1 E1 hlt hi he ls H locs hl hM
      have hb3 := spl_b B S E i
      rw [he] at hb3
      simp only at hb3
      refine lv_iload_n hx hb dTP_splitWords_4 rfl (lv_at hl 2 rfl) ?_
      refine lv_aload_n hx hb dTP_splitWords_5 rfl (lv_at hl 0 rfl) ?_
      refine k_get (own := RTP) (ref := RTP) (C := RTP) (T := TTP) (N := 6) (ci := 1) (v := .int (nI ln)) hx hb hW inTP hown hM ((km_n (km_apB ht ho0)).trans ((km_n (km_apB ht hs0)).trans ht)) rfl 3 (by decide) (hW _ w_37) (fun _ h => h) rfl dTP_splitWords_6 ?_
      refine lv_icmp_ge (tgt := 70) hx hb dTP_splitWords_9 (by decide) (fun h9 => ?_) (fun h9 => ?_)
      · have h9 := (nJ_ge_t (a := i) (b := ln) (by omega) (by omega)).mp h9
        have z : i = ln := by omega
        rw [z] at he
        refine lv_iload_n hx hb dTP_splitWords_70 rfl (lv_at hl 1 rfl) ?_
        exact kr_i hx hb hr hlocks hM dTP_splitWords_71 (⟨by rw [he], by rw [he]⟩)
      · have h9 := (nJ_ge_f (a := i) (b := ln) (by omega) (by omega)).mp h9
        refine lv_aload_n hx hb dTP_splitWords_12 rfl (lv_at hl 0 rfl) ?_
        refine k_get (own := RTP) (ref := RTP) (C := RTP) (T := TTP) (N := 6) (ci := 1) (v := .ref ba) hx hb hW inTP hown hM ((km_n (km_apB ht ho0)).trans ((km_n (km_apB ht hs0)).trans ht)) rfl 0 (by decide) (hW _ w_34) (fun _ h => h) rfl dTP_splitWords_13 ?_
        refine lv_iload_n hx hb dTP_splitWords_16 rfl (lv_at hl 2 rfl) ?_
        refine k_bald (i := i) hx hb hM 0 ((km_n (km_apN hb0 ho0 (by decide))).trans ((km_n (km_apN hb0 hs0 (by decide))).trans hb0)) rfl (by omega) (by omega) dTP_splitWords_17 ?_
        refine lv_bipush (v := nI 32) hx hb dTP_splitWords_18 (by decide) ?_
        refine lv_icmp_ne (tgt := 26) hx hb dTP_splitWords_20 (by decide) (fun h20 => ?_) (fun h20 => ?_)
        · have h20 := (sJ_ne_t (n := B i) (c := 32) (hB _) (by omega)).mp h20
          refine lv_iload_n hx hb dTP_splitWords_26 rfl (lv_at hl 2 rfl) ?_
          refine lv_if_eq (tgt := 43) hx hb dTP_splitWords_27 (by decide) (fun h27 => ?_) (fun h27 => ?_)
          · have h27 := (nJ_eq_t (a := i) (b := 0) (by omega) (by omega)).mp h27
            refine lv_aload_n hx hb dTP_splitWords_43 rfl (lv_at hl 0 rfl) ?_
            refine k_get (own := RTP) (ref := RTP) (C := RTP) (T := TTP) (N := 6) (ci := 1) (v := .ref sa) hx hb hW inTP hown hM ((km_n (km_apB ht ho0)).trans ((km_n (km_apB ht hs0)).trans ht)) rfl 1 (by decide) (hW _ w_35) (fun _ h => h) rfl dTP_splitWords_44 ?_
            refine lv_iload_n hx hb dTP_splitWords_47 rfl (lv_at hl 1 rfl) ?_
            refine lv_iload_n hx hb dTP_splitWords_48 rfl (lv_at hl 2 rfl) ?_
            refine k_iast (i := w) (f1 := (fun j => nI ((va_up S1 w i) j))) hx hb hM 1 ((km_n hso).trans (km_s _ _ _)) rfl (by omega) (by omega) updn_at dTP_splitWords_49 (fun H locs hM => ?_)
            have hM : kS g (km_up (km_up μ sa (.inl (g.2.2.1 1, 200, .inl (fun j => nI ((va_up S1 w i) j))))) oa (.inl (g.2.2.1 1, 200, .inl (fun j => nI (E1 j))))) s H locs := kS_eq (km_u2 _ _ _ _ hso) hM
            refine lv_iinc (v := nI (w + 1)) (lv' := [(1, .int (nI (w + 1))), (0, .ref ta), (2, .int (nI i))]) (k := 1) hx hb dTP_splitWords_50 hl rfl (ii1 w) (by decide) rfl (fun ls hl => ?_)
            refine lv_aload_n hx hb dTP_splitWords_53 rfl (lv_at hl 1 rfl) ?_
            refine k_get (own := RTP) (ref := RTP) (C := RTP) (T := TTP) (N := 6) (ci := 1) (v := .ref oa) hx hb hW inTP hown hM ((km_n (km_apB ht ho0)).trans ((km_n (km_apB ht hs0)).trans ht)) rfl 2 (by decide) (hW _ w_36) (fun _ h => h) rfl dTP_splitWords_54 ?_
            refine lv_iload_n hx hb dTP_splitWords_57 rfl (lv_at hl 0 rfl) ?_
            refine lv_iconst (v := nI 1) hx hb dTP_splitWords_58 (by decide) ?_
            refine lv_isub hx hb dTP_splitWords_59 ?_
            refine topi_eq (y := nI w) (pk_sub (a := w + 1) (b := 1) (by omega)) ?_
            refine lv_iload_n hx hb dTP_splitWords_60 rfl (lv_at hl 2 rfl) ?_
            refine lv_iconst (v := nI 1) hx hb dTP_splitWords_61 (by decide) ?_
            refine lv_iadd hx hb dTP_splitWords_62 ?_
            refine topi_eq (y := nI (i + 1)) (nI_add i 1) ?_
            refine k_iast (i := w) (f1 := (fun j => nI ((va_up E1 w (i + 1)) j))) hx hb hM 1 (km_s _ _ _) rfl (by omega) (by omega) updn_at dTP_splitWords_63 (fun H locs hM => ?_)
            have hM : kS g (km_up (km_up μ sa (.inl (g.2.2.1 1, 200, .inl (fun j => nI ((va_up S1 w i) j))))) oa (.inl (g.2.2.1 1, 200, .inl (fun j => nI ((va_up E1 w (i + 1)) j))))) s H locs := kS_eq (km_u1 _ _ _ _) hM
            refine lv_iinc (v := nI (i + 1)) (lv' := [(2, .int (nI (i + 1))), (1, .int (nI (w + 1))), (0, .ref ta)]) (k := 2) hx hb dTP_splitWords_64 hl rfl (ii1 i) (by decide) rfl (fun ls hl => ?_)
            refine lv_goto (tgt := 4) hx hb dTP_splitWords_67 (by decide) ?_
            exact ih _ _ _ _ (by omega) (by omega) (by first | exact (spl_sp h20).trans he | exact spl_st he h20 (Or.inl h27) | exact spl_st he h20 (Or.inr h40) | exact spl_go he h20 (by omega)) ls H locs (lv_sub hl [2, 1, 0] rfl) hM
          · have h27 := (nJ_eq_f (a := i) (b := 0) (by omega) (by omega)).mp h27
            refine lv_aload_n hx hb dTP_splitWords_30 rfl (lv_at hl 0 rfl) ?_
            refine k_get (own := RTP) (ref := RTP) (C := RTP) (T := TTP) (N := 6) (ci := 1) (v := .ref ba) hx hb hW inTP hown hM ((km_n (km_apB ht ho0)).trans ((km_n (km_apB ht hs0)).trans ht)) rfl 0 (by decide) (hW _ w_34) (fun _ h => h) rfl dTP_splitWords_31 ?_
            refine lv_iload_n hx hb dTP_splitWords_34 rfl (lv_at hl 2 rfl) ?_
            refine lv_iconst (v := nI 1) hx hb dTP_splitWords_35 (by decide) ?_
            refine lv_isub hx hb dTP_splitWords_36 ?_
            refine topi_eq (y := nI (i - 1)) (pk_sub (a := i) (b := 1) (by omega)) ?_
            refine k_bald (i := i - 1) hx hb hM 0 ((km_n (km_apN hb0 ho0 (by decide))).trans ((km_n (km_apN hb0 hs0 (by decide))).trans hb0)) rfl (by omega) (by omega) dTP_splitWords_37 ?_
            refine lv_bipush (v := nI 32) hx hb dTP_splitWords_38 (by decide) ?_
            refine lv_icmp_ne (tgt := 53) hx hb dTP_splitWords_40 (by decide) (fun h40 => ?_) (fun h40 => ?_)
            · have h40 := (sJ_ne_t (n := B (i - 1)) (c := 32) (hB _) (by omega)).mp h40
              have hw1 := hb3.2.2 (by omega) h40
              refine lv_aload_n hx hb dTP_splitWords_53 rfl (lv_at hl 0 rfl) ?_
              refine k_get (own := RTP) (ref := RTP) (C := RTP) (T := TTP) (N := 6) (ci := 1) (v := .ref oa) hx hb hW inTP hown hM ((km_n (km_apB ht ho0)).trans ((km_n (km_apB ht hs0)).trans ht)) rfl 2 (by decide) (hW _ w_36) (fun _ h => h) rfl dTP_splitWords_54 ?_
              refine lv_iload_n hx hb dTP_splitWords_57 rfl (lv_at hl 1 rfl) ?_
              refine lv_iconst (v := nI 1) hx hb dTP_splitWords_58 (by decide) ?_
              refine lv_isub hx hb dTP_splitWords_59 ?_
              refine topi_eq (y := nI (w - 1)) (pk_sub (a := w) (b := 1) (by omega)) ?_
              refine lv_iload_n hx hb dTP_splitWords_60 rfl (lv_at hl 2 rfl) ?_
              refine lv_iconst (v := nI 1) hx hb dTP_splitWords_61 (by decide) ?_
              refine lv_iadd hx hb dTP_splitWords_62 ?_
              refine topi_eq (y := nI (i + 1)) (nI_add i 1) ?_
              refine k_iast (i := w - 1) (f1 := (fun j => nI ((va_up E1 (w - 1) (i + 1)) j))) hx hb hM 1 (km_s _ _ _) rfl (by omega) (by omega) updn_at dTP_splitWords_63 (fun H locs hM => ?_)
              have hM : kS g (km_up (km_up μ sa (.inl (g.2.2.1 1, 200, .inl (fun j => nI (S1 j))))) oa (.inl (g.2.2.1 1, 200, .inl (fun j => nI ((va_up E1 (w - 1) (i + 1)) j))))) s H locs := kS_eq (km_u1 _ _ _ _) hM
              refine lv_iinc (v := nI (i + 1)) (lv' := [(2, .int (nI (i + 1))), (0, .ref ta), (1, .int (nI w))]) (k := 2) hx hb dTP_splitWords_64 hl rfl (ii1 i) (by decide) rfl (fun ls hl => ?_)
              refine lv_goto (tgt := 4) hx hb dTP_splitWords_67 (by decide) ?_
              exact ih _ _ _ _ (by omega) (by omega) (by first | exact (spl_sp h20).trans he | exact spl_st he h20 (Or.inl h27) | exact spl_st he h20 (Or.inr h40) | exact spl_go he h20 (by omega)) ls H locs (lv_sub hl [1, 2, 0] rfl) hM
            · have h40 := (sJ_ne_f (n := B (i - 1)) (c := 32) (hB _) (by omega)).mp h40
              refine lv_aload_n hx hb dTP_splitWords_43 rfl (lv_at hl 0 rfl) ?_
              refine k_get (own := RTP) (ref := RTP) (C := RTP) (T := TTP) (N := 6) (ci := 1) (v := .ref sa) hx hb hW inTP hown hM ((km_n (km_apB ht ho0)).trans ((km_n (km_apB ht hs0)).trans ht)) rfl 1 (by decide) (hW _ w_35) (fun _ h => h) rfl dTP_splitWords_44 ?_
              refine lv_iload_n hx hb dTP_splitWords_47 rfl (lv_at hl 1 rfl) ?_
              refine lv_iload_n hx hb dTP_splitWords_48 rfl (lv_at hl 2 rfl) ?_
              refine k_iast (i := w) (f1 := (fun j => nI ((va_up S1 w i) j))) hx hb hM 1 ((km_n hso).trans (km_s _ _ _)) rfl (by omega) (by omega) updn_at dTP_splitWords_49 (fun H locs hM => ?_)
              have hM : kS g (km_up (km_up μ sa (.inl (g.2.2.1 1, 200, .inl (fun j => nI ((va_up S1 w i) j))))) oa (.inl (g.2.2.1 1, 200, .inl (fun j => nI (E1 j))))) s H locs := kS_eq (km_u2 _ _ _ _ hso) hM
              refine lv_iinc (v := nI (w + 1)) (lv' := [(1, .int (nI (w + 1))), (0, .ref ta), (2, .int (nI i))]) (k := 1) hx hb dTP_splitWords_50 hl rfl (ii1 w) (by decide) rfl (fun ls hl => ?_)
              refine lv_aload_n hx hb dTP_splitWords_53 rfl (lv_at hl 1 rfl) ?_
              refine k_get (own := RTP) (ref := RTP) (C := RTP) (T := TTP) (N := 6) (ci := 1) (v := .ref oa) hx hb hW inTP hown hM ((km_n (km_apB ht ho0)).trans ((km_n (km_apB ht hs0)).trans ht)) rfl 2 (by decide) (hW _ w_36) (fun _ h => h) rfl dTP_splitWords_54 ?_
              refine lv_iload_n hx hb dTP_splitWords_57 rfl (lv_at hl 0 rfl) ?_
              refine lv_iconst (v := nI 1) hx hb dTP_splitWords_58 (by decide) ?_
              refine lv_isub hx hb dTP_splitWords_59 ?_
              refine topi_eq (y := nI w) (pk_sub (a := w + 1) (b := 1) (by omega)) ?_
              refine lv_iload_n hx hb dTP_splitWords_60 rfl (lv_at hl 2 rfl) ?_
              refine lv_iconst (v := nI 1) hx hb dTP_splitWords_61 (by decide) ?_
              refine lv_iadd hx hb dTP_splitWords_62 ?_
              refine topi_eq (y := nI (i + 1)) (nI_add i 1) ?_
              refine k_iast (i := w) (f1 := (fun j => nI ((va_up E1 w (i + 1)) j))) hx hb hM 1 (km_s _ _ _) rfl (by omega) (by omega) updn_at dTP_splitWords_63 (fun H locs hM => ?_)
              have hM : kS g (km_up (km_up μ sa (.inl (g.2.2.1 1, 200, .inl (fun j => nI ((va_up S1 w i) j))))) oa (.inl (g.2.2.1 1, 200, .inl (fun j => nI ((va_up E1 w (i + 1)) j))))) s H locs := kS_eq (km_u1 _ _ _ _) hM
              refine lv_iinc (v := nI (i + 1)) (lv' := [(2, .int (nI (i + 1))), (1, .int (nI (w + 1))), (0, .ref ta)]) (k := 2) hx hb dTP_splitWords_64 hl rfl (ii1 i) (by decide) rfl (fun ls hl => ?_)
              refine lv_goto (tgt := 4) hx hb dTP_splitWords_67 (by decide) ?_
              exact ih _ _ _ _ (by omega) (by omega) (by first | exact (spl_sp h20).trans he | exact spl_st he h20 (Or.inl h27) | exact spl_st he h20 (Or.inr h40) | exact spl_go he h20 (by omega)) ls H locs (lv_sub hl [2, 1, 0] rfl) hM
        · have h20 := (sJ_ne_f (n := B i) (c := 32) (hB _) (by omega)).mp h20
          refine lv_goto (tgt := 64) hx hb dTP_splitWords_23 (by decide) ?_
          refine lv_iinc (v := nI (i + 1)) (lv' := [(2, .int (nI (i + 1))), (0, .ref ta), (1, .int (nI w))]) (k := 2) hx hb dTP_splitWords_64 hl rfl (ii1 i) (by decide) rfl (fun ls hl => ?_)
          refine lv_goto (tgt := 4) hx hb dTP_splitWords_67 (by decide) ?_
          exact ih _ _ _ _ (by omega) (by omega) (by first | exact (spl_sp h20).trans he | exact spl_st he h20 (Or.inl h27) | exact spl_st he h20 (Or.inr h40) | exact spl_go he h20 (by omega)) ls H locs (lv_sub hl [1, 2, 0] rfl) hM
  refine lv_iconst (v := nI 0) hx hb dTP_splitWords_0 (by decide) ?_
  refine lv_istore_n (lv' := [(1, .int (nI 0)), (0, .ref ta)]) hx hb dTP_splitWords_1 rfl hl (by decide) rfl (fun ls hl => ?_)
  refine lv_iconst (v := nI 0) hx hb dTP_splitWords_2 (by decide) ?_
  refine lv_istore_n (lv' := [(2, .int (nI 0)), (1, .int (nI 0)), (0, .ref ta)]) hx hb dTP_splitWords_3 rfl hl (by decide) rfl (fun ls hl => ?_)
  have hM : kS g (km_up (km_up μ sa (.inl (g.2.2.1 1, 200, .inl (fun j => nI (S j))))) oa (.inl (g.2.2.1 1, 200, .inl (fun j => nI (E j))))) s H locs := kS_eq (by rw [km_id hs0, km_id ho0]) hM
  exact cut4 _ _ _ _ _ (Nat.lt_succ_self _) (by omega) (by exact spl_0 _ _ _) ls H locs (lv_sub hl [2, 1, 0] rfl) hM
set_option maxHeartbeats 800000 in
set_option maxRecDepth 100000 in
theorem mTP_numberSince (l : Launch) (g : kG) (μ : km_M) {ta ba sa oa ln ai zi : Nat} (ht : μ ta = some (.inr (1, [.ref ba, .ref sa, .ref oa, .int (nI ln), .int (nI ai), .int (nI zi)]))) {B : Nat → Nat} (hB : ∀ k, B k < 256) (hb0 : μ ba = some (.inl (g.2.2.1 0, 400, .inl (fun j => sb (B j))))) {fr : Nat} (hfr : fr ≤ ai) (hai : ai ≤ 400) (hdig : ∀ k, fr ≤ k → k < ai → 48 ≤ B k ∧ B k ≤ 57) : Met l yTP_numberSince (Cond.code yTP_numberSince cTP_numberSince 5 (some .int) :: Wd) ({ frames := 0, cells := 0, slots := 0, locals := 0 } : Room) (kPre g μ [.ref ta, .int (nI fr)]) (kQi g (fun (r : Int32) (μ1 : km_M) => r = nR (sg B fr (ai - fr)) ∧ μ1 = μ)) 0 0 (kF g) := by
  refine k_met (by decide) (Nat.le_of_ble_eq_true rfl) ?_
  intro p e s m below meth c hx hb hr hlocks hml hown hnm hW ls hl H locs hM
  have hl : lv_has ls 5 [(0, .ref ta), (1, .int (nI fr))] := hl
  have cut41 : ∀ (n : Nat), ∀ (k : Nat), ai - (fr + k) < n → fr + k ≤ ai → 1 ≤ ai - fr → ai - fr ≤ 9 → ¬ (1 < ai - fr ∧ B fr = 48) → ∀ (ls : Array Slot) (H : Heap) (locs : List Loc), lv_has ls 5 [(0, .ref ta), (3, .int (nI (vN 0 (sg B fr k)))), (4, .int (nI (fr + k)))] → kS g (μ) s H locs → W p l e ({ frames := 0, cells := 0, slots := 0, locals := 0 } : Room) s m [.ref ta, .int (nI fr)].toArray below meth c H locs 0 0 (MQ below (kQi g (fun (r : Int32) (μ1 : km_M) => r = nR (sg B fr (ai - fr)) ∧ μ1 = μ)) [.ref ta, .int (nI fr)].toArray s 0 0 (kF g)) (F0 m 41 ls []) := by
    intro n
    induction n with
    | zero => intro k hlt; exact absurd hlt (Nat.not_lt_zero _)
    | succ n ih =>
      intro k hlt hk h1 h2 h3 ls H locs hl hM
      refine lv_iload hx hb dTP_numberSince_41 (lv_at hl 2 rfl) ?_
      refine lv_aload_n hx hb dTP_numberSince_43 rfl (lv_at hl 0 rfl) ?_
      refine k_get (own := RTP) (ref := RTP) (C := RTP) (T := TTP) (N := 6) (ci := 1) (v := .int (nI ai)) hx hb hW inTP hown hM ht rfl 4 (by decide) (hW _ w_39) (fun _ h => h) rfl dTP_numberSince_44 ?_
      refine lv_icmp_ge (tgt := 72) hx hb dTP_numberSince_47 (by decide) (fun h47 => ?_) (fun h47 => ?_)
      · have h47 := (nJ_ge_t (a := fr + k) (b := ai) (by omega) (by omega)).mp h47
        refine lv_iload_n hx hb dTP_numberSince_72 rfl (lv_at hl 1 rfl) ?_
        exact kr_i hx hb hr hlocks hM dTP_numberSince_73 (⟨by
          have z : ai - fr = k := by omega
          rw [z] at h1 h2 h3 ⊢
          exact (nR_ok h1 h2 h3).symm, rfl⟩)
      · have h47 := (nJ_ge_f (a := fr + k) (b := ai) (by omega) (by omega)).mp h47
        refine lv_iload_n hx hb dTP_numberSince_50 rfl (lv_at hl 1 rfl) ?_
        refine lv_bipush (v := nI 10) hx hb dTP_numberSince_51 (by decide) ?_
        refine lv_imul hx hb dTP_numberSince_53 ?_
        refine topi_eq (y := nI ((vN 0 (sg B fr k)) * 10)) (pk_mul (vN 0 (sg B fr k)) 10) ?_
        refine lv_aload_n hx hb dTP_numberSince_54 rfl (lv_at hl 0 rfl) ?_
        refine k_get (own := RTP) (ref := RTP) (C := RTP) (T := TTP) (N := 6) (ci := 1) (v := .ref ba) hx hb hW inTP hown hM ht rfl 0 (by decide) (hW _ w_34) (fun _ h => h) rfl dTP_numberSince_55 ?_
        refine lv_iload hx hb dTP_numberSince_58 (lv_at hl 2 rfl) ?_
        refine k_bald (i := fr + k) hx hb hM 0 hb0 rfl (by omega) (by omega) dTP_numberSince_60 ?_
        refine lv_bipush (v := nI 48) hx hb dTP_numberSince_61 (by decide) ?_
        refine lv_isub hx hb dTP_numberSince_63 ?_
        refine topi_eq (y := nI (B (fr + k) - 48)) (sb_dig (hdig (fr + k) (by omega) (by omega)).1 (hdig (fr + k) (by omega) (by omega)).2) ?_
        refine lv_iadd hx hb dTP_numberSince_64 ?_
        refine topi_eq (y := nI (vN 0 (sg B fr (k + 1)))) ((nI_add _ _).trans (by rw [sg_snoc, vN_snoc])) ?_
        refine lv_istore_n (lv' := [(3, .int (nI (vN 0 (sg B fr (k + 1))))), (0, .ref ta), (4, .int (nI (fr + k)))]) hx hb dTP_numberSince_65 rfl hl (by decide) rfl (fun ls hl => ?_)
        refine lv_iinc (v := nI (fr + k + 1)) (lv' := [(4, .int (nI (fr + k + 1))), (3, .int (nI (vN 0 (sg B fr (k + 1))))), (0, .ref ta)]) (k := 2) hx hb dTP_numberSince_66 hl rfl (ii1 (fr + k)) (by decide) rfl (fun ls hl => ?_)
        refine lv_goto (tgt := 41) hx hb dTP_numberSince_69 (by decide) ?_
        exact ih (k + 1) (by omega) (by first | assumption | omega | exact rfl) (by first | assumption | omega | exact rfl) (by first | assumption | omega | exact rfl) (by first | assumption | omega | exact rfl) ls H locs (lv_sub hl [2, 1, 0] rfl) hM
  have cut36 : 1 ≤ ai - fr → ai - fr ≤ 9 → ¬ (1 < ai - fr ∧ B fr = 48) → ∀ (ls : Array Slot) (H : Heap) (locs : List Loc), lv_has ls 5 [(0, .ref ta), (1, .int (nI fr))] → kS g (μ) s H locs → W p l e ({ frames := 0, cells := 0, slots := 0, locals := 0 } : Room) s m [.ref ta, .int (nI fr)].toArray below meth c H locs 0 0 (MQ below (kQi g (fun (r : Int32) (μ1 : km_M) => r = nR (sg B fr (ai - fr)) ∧ μ1 = μ)) [.ref ta, .int (nI fr)].toArray s 0 0 (kF g)) (F0 m 36 ls []) := by
    intro  h1 h2 h3 ls H locs hl hM
    refine lv_iconst (v := nI 0) hx hb dTP_numberSince_36 (by decide) ?_
    refine lv_istore_n (lv' := [(3, .int (nI 0)), (0, .ref ta), (1, .int (nI fr))]) hx hb dTP_numberSince_37 rfl hl (by decide) rfl (fun ls hl => ?_)
    refine lv_iload_n hx hb dTP_numberSince_38 rfl (lv_at hl 2 rfl) ?_
    refine lv_istore (lv' := [(4, .int (nI fr)), (3, .int (nI 0)), (0, .ref ta), (1, .int (nI fr))]) hx hb dTP_numberSince_39 hl (by decide) rfl (fun ls hl => ?_)
    exact cut41 _ 0 (Nat.lt_succ_self _) (by first | assumption | omega | exact rfl) (by first | assumption | omega | exact rfl) (by first | assumption | omega | exact rfl) (by first | assumption | omega | exact rfl) ls H locs (lv_sub hl [2, 1, 0] rfl) hM
  refine lv_aload_n hx hb dTP_numberSince_0 rfl (lv_at hl 0 rfl) ?_
  refine k_get (own := RTP) (ref := RTP) (C := RTP) (T := TTP) (N := 6) (ci := 1) (v := .int (nI ai)) hx hb hW inTP hown hM ht rfl 4 (by decide) (hW _ w_39) (fun _ h => h) rfl dTP_numberSince_1 ?_
  refine lv_iload_n hx hb dTP_numberSince_4 rfl (lv_at hl 1 rfl) ?_
  refine lv_isub hx hb dTP_numberSince_5 ?_
  refine topi_eq (y := nI (ai - fr)) (pk_sub (a := ai) (b := fr) (by omega)) ?_
  refine lv_istore_n (lv' := [(2, .int (nI (ai - fr))), (0, .ref ta), (1, .int (nI fr))]) hx hb dTP_numberSince_6 rfl hl (by decide) rfl (fun ls hl => ?_)
  refine lv_iload_n hx hb dTP_numberSince_7 rfl (lv_at hl 0 rfl) ?_
  refine lv_iconst (v := nI 1) hx hb dTP_numberSince_8 (by decide) ?_
  refine lv_icmp_lt (tgt := 34) hx hb dTP_numberSince_9 (by decide) (fun h9 => ?_) (fun h9 => ?_)
  · have h9 := (nJ_lt_t (a := ai - fr) (b := 1) (by omega) (by omega)).mp h9
    refine lv_iconst (v := (-1)) hx hb dTP_numberSince_34 (by decide) ?_
    exact kr_i hx hb hr hlocks hM dTP_numberSince_35 (⟨(nR_no (by omega)).symm, rfl⟩)
  · have h9 := (nJ_lt_f (a := ai - fr) (b := 1) (by omega) (by omega)).mp h9
    refine lv_iload_n hx hb dTP_numberSince_12 rfl (lv_at hl 0 rfl) ?_
    refine lv_bipush (v := nI 9) hx hb dTP_numberSince_13 (by decide) ?_
    refine lv_icmp_gt (tgt := 34) hx hb dTP_numberSince_15 (by decide) (fun h15 => ?_) (fun h15 => ?_)
    · have h15 := (nJ_gt_t (a := ai - fr) (b := 9) (by omega) (by omega)).mp h15
      refine lv_iconst (v := (-1)) hx hb dTP_numberSince_34 (by decide) ?_
      exact kr_i hx hb hr hlocks hM dTP_numberSince_35 (⟨(nR_no (by omega)).symm, rfl⟩)
    · have h15 := (nJ_gt_f (a := ai - fr) (b := 9) (by omega) (by omega)).mp h15
      refine lv_iload_n hx hb dTP_numberSince_18 rfl (lv_at hl 0 rfl) ?_
      refine lv_iconst (v := nI 1) hx hb dTP_numberSince_19 (by decide) ?_
      refine lv_icmp_le (tgt := 36) hx hb dTP_numberSince_20 (by decide) (fun h20 => ?_) (fun h20 => ?_)
      · have h20 := (nJ_le_t (a := ai - fr) (b := 1) (by omega) (by omega)).mp h20
        exact cut36   (by first | assumption | omega | exact rfl) (by first | assumption | omega | exact rfl) (by first | assumption | omega | exact rfl) ls H locs (lv_sub hl [1, 2] rfl) hM
      · have h20 := (nJ_le_f (a := ai - fr) (b := 1) (by omega) (by omega)).mp h20
        refine lv_aload_n hx hb dTP_numberSince_23 rfl (lv_at hl 1 rfl) ?_
        refine k_get (own := RTP) (ref := RTP) (C := RTP) (T := TTP) (N := 6) (ci := 1) (v := .ref ba) hx hb hW inTP hown hM ht rfl 0 (by decide) (hW _ w_34) (fun _ h => h) rfl dTP_numberSince_24 ?_
        refine lv_iload_n hx hb dTP_numberSince_27 rfl (lv_at hl 2 rfl) ?_
        refine k_bald (i := fr) hx hb hM 0 hb0 rfl (by omega) (by omega) dTP_numberSince_28 ?_
        refine lv_bipush (v := nI 48) hx hb dTP_numberSince_29 (by decide) ?_
        refine lv_icmp_ne (tgt := 36) hx hb dTP_numberSince_31 (by decide) (fun h31 => ?_) (fun h31 => ?_)
        · have h31 := (sJ_ne_t (n := B fr) (c := 48) (hB _) (by omega)).mp h31
          exact cut36   (by first | assumption | omega | exact rfl) (by first | assumption | omega | exact rfl) (by first | assumption | omega | exact rfl) ls H locs (lv_sub hl [1, 2] rfl) hM
        · have h31 := (sJ_ne_f (n := B fr) (c := 48) (hB _) (by omega)).mp h31
          refine lv_iconst (v := (-1)) hx hb dTP_numberSince_34 (by decide) ?_
          exact kr_i hx hb hr hlocks hM dTP_numberSince_35 (⟨(nR_no (by omega)).symm, rfl⟩)
set_option maxHeartbeats 800000 in
set_option maxRecDepth 100000 in
theorem mTP_readNumber (l : Launch) (g : kG) (μ : km_M) {ta ba sa oa ln ai zi : Nat} (ht : μ ta = some (.inr (1, [.ref ba, .ref sa, .ref oa, .int (nI ln), .int (nI ai), .int (nI zi)]))) {B : Nat → Nat} (hB : ∀ k, B k < 256) (hb0 : μ ba = some (.inl (g.2.2.1 0, 400, .inl (fun j => sb (B j))))) (hai : ai ≤ zi) (hzi : zi ≤ 400) : Met l yTP_readNumber (Cond.code yTP_readNumber cTP_readNumber 2 (some .int) :: Wd) ({ frames := 1, cells := 0, slots := 0, locals := 24 } : Room) (kPre g μ [.ref ta]) (kQi g (fun (r : Int32) (μ1 : km_M) => r = nR (sg B ai (nD B ai (zi - ai))) ∧ μ1 = km_up μ ta (.inr (1, [.ref ba, .ref sa, .ref oa, .int (nI ln), .int (nI (ai + nD B ai (zi - ai))), .int (nI zi)])))) 0 0 (kF g) := by
  refine k_met (by decide) (Nat.le_of_ble_eq_true rfl) ?_
  intro p e s m below meth c hx hb hr hlocks hml hown hnm hW ls hl H locs hM
  have hl : lv_has ls 2 [(0, .ref ta)] := hl
  have cut5 : ∀ (n : Nat), ∀ (k : Nat), zi - (ai + k) < n → ai + k ≤ zi → nD B ai (zi - ai) = k + nD B (ai + k) (zi - (ai + k)) → ∀ (ls : Array Slot) (H : Heap) (locs : List Loc), lv_has ls 2 [(0, .ref ta), (1, .int (nI ai))] → kS g (km_up μ ta (.inr (1, [.ref ba, .ref sa, .ref oa, .int (nI ln), .int (nI (ai + k)), .int (nI zi)]))) s H locs → W p l e ({ frames := 1, cells := 0, slots := 0, locals := 24 } : Room) s m [.ref ta].toArray below meth c H locs 0 0 (MQ below (kQi g (fun (r : Int32) (μ1 : km_M) => r = nR (sg B ai (nD B ai (zi - ai))) ∧ μ1 = km_up μ ta (.inr (1, [.ref ba, .ref sa, .ref oa, .int (nI ln), .int (nI (ai + nD B ai (zi - ai))), .int (nI zi)])))) [.ref ta].toArray s 0 0 (kF g)) (F0 m 5 ls []) := by
    intro n
    induction n with
    | zero => intro k hlt; exact absurd hlt (Nat.not_lt_zero _)
    | succ n ih =>
      intro k hlt hk hn ls H locs hl hM
      refine lv_aload_n hx hb dTP_readNumber_5 rfl (lv_at hl 0 rfl) ?_
      refine k_get (own := RTP) (ref := RTP) (C := RTP) (T := TTP) (N := 6) (ci := 1) (v := .int (nI (ai + k))) hx hb hW inTP hown hM (km_s _ _ _) rfl 4 (by decide) (hW _ w_39) (fun _ h => h) rfl dTP_readNumber_6 ?_
      refine lv_aload_n hx hb dTP_readNumber_9 rfl (lv_at hl 0 rfl) ?_
      refine k_get (own := RTP) (ref := RTP) (C := RTP) (T := TTP) (N := 6) (ci := 1) (v := .int (nI zi)) hx hb hW inTP hown hM (km_s _ _ _) rfl 5 (by decide) (hW _ w_41) (fun _ h => h) rfl dTP_readNumber_10 ?_
      refine lv_icmp_ge (tgt := 44) hx hb dTP_readNumber_13 (by decide) (fun h13 => ?_) (fun h13 => ?_)
      · have h13 := (nJ_ge_t (a := ai + k) (b := zi) (by omega) (by omega)).mp h13
        rw [nD_end h13] at hn
        refine lv_aload_n hx hb dTP_readNumber_44 rfl (lv_at hl 0 rfl) ?_
        refine lv_iload_n hx hb dTP_readNumber_45 rfl (lv_at hl 1 rfl) ?_
        refine kc_i (va_runV (C := RTP) (As := [.int (nI ai)]) (b := ta) (rest := []) (Ts := Wd) ⟨hx, hb, hml, hown, hW⟩ (mTP_numberSince l g (km_up μ ta (.inr (1, [.ref ba, .ref sa, .ref oa, .int (nI ln), .int (nI (ai + k)), .int (nI zi)]))) (km_s _ _ _) hB ((km_n (km_apA hb0 ht)).trans hb0) (fr := ai) (by omega) (by omega) (nD_digs (n := zi - ai) (by omega))) (cwV 1 hW (k_gV w_157 w_159 p_8 w_2 w_160) rfl rfl rfl (by decide +kernel) ⟨Nat.le_of_ble_eq_true rfl, Nat.le_of_ble_eq_true rfl⟩) (k_preV (q := (RTP, TTP, 6)) hM (km_s _ _ _) rfl) rfl rfl hl.1 rfl (lv_room (Nat.le_of_ble_eq_true rfl)) dTP_readNumber_46 ⟨Nat.zero_le _, Nat.zero_le _⟩) hM (fun r μ1 H locs hp hM => ?_)
        obtain ⟨rfl, hmu⟩ := hp
        rw [hmu] at hM
        exact kr_i hx hb hr hlocks hM dTP_readNumber_49 (⟨by rw [hn]; exact congrArg (fun z => nR (sg B ai z)) (by omega), by rw [hn]; rfl⟩)
      · have h13 := (nJ_ge_f (a := ai + k) (b := zi) (by omega) (by omega)).mp h13
        refine lv_aload_n hx hb dTP_readNumber_16 rfl (lv_at hl 0 rfl) ?_
        refine k_get (own := RTP) (ref := RTP) (C := RTP) (T := TTP) (N := 6) (ci := 1) (v := .ref ba) hx hb hW inTP hown hM (km_s _ _ _) rfl 0 (by decide) (hW _ w_34) (fun _ h => h) rfl dTP_readNumber_17 ?_
        refine lv_aload_n hx hb dTP_readNumber_20 rfl (lv_at hl 0 rfl) ?_
        refine k_get (own := RTP) (ref := RTP) (C := RTP) (T := TTP) (N := 6) (ci := 1) (v := .int (nI (ai + k))) hx hb hW inTP hown hM (km_s _ _ _) rfl 4 (by decide) (hW _ w_39) (fun _ h => h) rfl dTP_readNumber_21 ?_
        refine k_bald (i := ai + k) hx hb hM 0 ((km_n (km_apA hb0 ht)).trans hb0) rfl (by omega) (by omega) dTP_readNumber_24 ?_
        refine kc_i (va_runS (As := [.int (sb (B (ai + k)))]) (rest := []) (Ts := Wd) ⟨hx, hb, hml, hown, hW⟩ (mTP_isDigit l g (km_up μ ta (.inr (1, [.ref ba, .ref sa, .ref oa, .int (nI ln), .int (nI (ai + k)), .int (nI zi)]))) (x := B (ai + k)) (hB _)) (va_cwS 1 hW (k_gS w_154 w_155 w_2 w_156) rfl rfl rfl (by decide +kernel) ⟨Nat.le_of_ble_eq_true rfl, Nat.le_of_ble_eq_true rfl⟩) (k_preS hM) rfl rfl hl.1 rfl (lv_room (Nat.le_of_ble_eq_true rfl)) dTP_readNumber_25 ⟨Nat.zero_le _, Nat.zero_le _⟩) hM (fun r μ1 H locs hp hM => ?_)
        obtain ⟨rfl, hmu⟩ := hp
        rw [hmu] at hM
        refine lv_if_eq (tgt := 44) hx hb dTP_readNumber_28 (by decide) (fun h28 => ?_) (fun h28 => ?_)
        · have h28 := bD_0.mp h28
          rw [nD_stop h13 h28] at hn
          refine lv_aload_n hx hb dTP_readNumber_44 rfl (lv_at hl 0 rfl) ?_
          refine lv_iload_n hx hb dTP_readNumber_45 rfl (lv_at hl 1 rfl) ?_
          refine kc_i (va_runV (C := RTP) (As := [.int (nI ai)]) (b := ta) (rest := []) (Ts := Wd) ⟨hx, hb, hml, hown, hW⟩ (mTP_numberSince l g (km_up μ ta (.inr (1, [.ref ba, .ref sa, .ref oa, .int (nI ln), .int (nI (ai + k)), .int (nI zi)]))) (km_s _ _ _) hB ((km_n (km_apA hb0 ht)).trans hb0) (fr := ai) (by omega) (by omega) (nD_digs (n := zi - ai) (by omega))) (cwV 1 hW (k_gV w_157 w_159 p_8 w_2 w_160) rfl rfl rfl (by decide +kernel) ⟨Nat.le_of_ble_eq_true rfl, Nat.le_of_ble_eq_true rfl⟩) (k_preV (q := (RTP, TTP, 6)) hM (km_s _ _ _) rfl) rfl rfl hl.1 rfl (lv_room (Nat.le_of_ble_eq_true rfl)) dTP_readNumber_46 ⟨Nat.zero_le _, Nat.zero_le _⟩) hM (fun r μ1 H locs hp hM => ?_)
          obtain ⟨rfl, hmu⟩ := hp
          rw [hmu] at hM
          exact kr_i hx hb hr hlocks hM dTP_readNumber_49 (⟨by rw [hn]; exact congrArg (fun z => nR (sg B ai z)) (by omega), by rw [hn]; rfl⟩)
        · have h28 := bD_n.mp h28
          rw [nD_step h13 h28] at hn
          refine lv_aload_n hx hb dTP_readNumber_31 rfl (lv_at hl 0 rfl) ?_
          refine lv_dup hx hb dTP_readNumber_32 rfl ?_
          refine k_get (own := RTP) (ref := RTP) (C := RTP) (T := TTP) (N := 6) (ci := 1) (v := .int (nI (ai + k))) hx hb hW inTP hown hM (km_s _ _ _) rfl 4 (by decide) (hW _ w_39) (fun _ h => h) rfl dTP_readNumber_33 ?_
          refine lv_iconst (v := nI 1) hx hb dTP_readNumber_36 (by decide) ?_
          refine lv_iadd hx hb dTP_readNumber_37 ?_
          refine topi_eq (y := nI (ai + k + 1)) (nI_add (ai + k) 1) ?_
          refine k_put (own := RTP) (ref := RTP) (C := RTP) (T := TTP) (N := 6) (ci := 1) (v := .int (nI (ai + k + 1))) (ty := .int) (fs' := [.ref ba, .ref sa, .ref oa, .int (nI ln), .int (nI (ai + k + 1)), .int (nI zi)]) hx hb hW inTP tyTP tyokTP nmokTP hown hM (km_s _ _ _) rfl 4 (by decide) (hW _ w_39) (fun _ h => h) rfl (by decide +kernel) rfl rfl (Nat.le_of_ble_eq_true rfl) dTP_readNumber_38 rfl (fun H locs hM => ?_)
          have hM : kS g (km_up μ ta (.inr (1, [.ref ba, .ref sa, .ref oa, .int (nI ln), .int (nI (ai + k + 1)), .int (nI zi)]))) s H locs := kS_eq (km_u1 _ _ _ _) hM
          refine lv_goto (tgt := 5) hx hb dTP_readNumber_41 (by decide) ?_
          exact ih (k + 1) (by omega) (by first | assumption | omega | exact rfl) (by show nD B ai (zi - ai) = (k + 1) + nD B (ai + k + 1) (zi - (ai + k + 1)); omega) ls H locs (lv_sub hl [0, 1] rfl) hM
  refine lv_aload_n hx hb dTP_readNumber_0 rfl (lv_at hl 0 rfl) ?_
  refine k_get (own := RTP) (ref := RTP) (C := RTP) (T := TTP) (N := 6) (ci := 1) (v := .int (nI ai)) hx hb hW inTP hown hM ht rfl 4 (by decide) (hW _ w_39) (fun _ h => h) rfl dTP_readNumber_1 ?_
  refine lv_istore_n (lv' := [(1, .int (nI ai)), (0, .ref ta)]) hx hb dTP_readNumber_4 rfl hl (by decide) rfl (fun ls hl => ?_)
  have hM : kS g (km_up μ ta (.inr (1, [.ref ba, .ref sa, .ref oa, .int (nI ln), .int (nI (ai + 0)), .int (nI zi)]))) s H locs := kS_eq (km_id ht).symm hM
  exact cut5 _ 0 (Nat.lt_succ_self _) (by first | assumption | omega | exact rfl) (by exact (Nat.zero_add _).symm) ls H locs (lv_sub hl [1, 0] rfl) hM
set_option maxHeartbeats 800000 in
set_option maxRecDepth 100000 in
theorem mTP_readMark (l : Launch) (g : kG) (μ : km_M) {ta ba sa oa ln ai zi : Nat} (ht : μ ta = some (.inr (1, [.ref ba, .ref sa, .ref oa, .int (nI ln), .int (nI ai), .int (nI zi)]))) {B : Nat → Nat} (hB : ∀ k, B k < 256) (hb0 : μ ba = some (.inl (g.2.2.1 0, 400, .inl (fun j => sb (B j))))) (hai : ai ≤ zi) (hzi : zi ≤ 400) : Met l yTP_readMark (Cond.code yTP_readMark cTP_readMark 6 (some .long) :: Wd) ({ frames := 1, cells := 0, slots := 0, locals := 24 } : Room) (kPre g μ [.ref ta]) (kQl g (fun (r : Int64) (μ1 : km_M) => r = mR (sg B ai (nM B ai (zi - ai))) ∧ μ1 = km_up μ ta (.inr (1, [.ref ba, .ref sa, .ref oa, .int (nI ln), .int (nI (ai + nM B ai (zi - ai))), .int (nI zi)])))) 0 0 (kF g) := by
  refine k_met (by decide) (Nat.le_of_ble_eq_true rfl) ?_
  intro p e s m below meth c hx hb hr hlocks hml hown hnm hW ls hl H locs hM
  have hl : lv_has ls 6 [(0, .ref ta)] := hl
  have cut104 : ∀ (k : Nat), ai + k ≤ zi → nM B ai (zi - ai) = k → ∀ (ls : Array Slot) (H : Heap) (locs : List Loc), lv_has ls 6 [(0, .ref ta), (1, .int (nI ai)), (2, .long (pkI (lN 0) (sg B ai k))), (4, .int (bI (decide ((sg B ai k).all dD = true))))] → kS g (km_up μ ta (.inr (1, [.ref ba, .ref sa, .ref oa, .int (nI ln), .int (nI (ai + k)), .int (nI zi)]))) s H locs → W p l e ({ frames := 1, cells := 0, slots := 0, locals := 24 } : Room) s m [.ref ta].toArray below meth c H locs 0 0 (MQ below (kQl g (fun (r : Int64) (μ1 : km_M) => r = mR (sg B ai (nM B ai (zi - ai))) ∧ μ1 = km_up μ ta (.inr (1, [.ref ba, .ref sa, .ref oa, .int (nI ln), .int (nI (ai + nM B ai (zi - ai))), .int (nI zi)])))) [.ref ta].toArray s 0 0 (kF g)) (F0 m 104 ls []) := by
    intro k hk hn ls H locs hl hM
    refine lv_aload_n hx hb dTP_readMark_104 rfl (lv_at hl 0 rfl) ?_
    refine k_get (own := RTP) (ref := RTP) (C := RTP) (T := TTP) (N := 6) (ci := 1) (v := .int (nI (ai + k))) hx hb hW inTP hown hM (km_s _ _ _) rfl 4 (by decide) (hW _ w_39) (fun _ h => h) rfl dTP_readMark_105 ?_
    refine lv_iload_n hx hb dTP_readMark_108 rfl (lv_at hl 1 rfl) ?_
    refine lv_isub hx hb dTP_readMark_109 ?_
    refine topi_eq (y := nI k) ((pk_sub (a := ai + k) (b := ai) (by omega)).trans (congrArg nI (by omega))) ?_
    refine lv_istore (lv' := [(5, .int (nI k)), (0, .ref ta), (1, .int (nI ai)), (2, .long (pkI (lN 0) (sg B ai k))), (4, .int (bI (decide ((sg B ai k).all dD = true))))]) hx hb dTP_readMark_110 hl (by decide) rfl (fun ls hl => ?_)
    refine lv_iload hx hb dTP_readMark_112 (lv_at hl 0 rfl) ?_
    refine lv_iconst (v := nI 1) hx hb dTP_readMark_114 (by decide) ?_
    refine lv_icmp_lt (tgt := 125) hx hb dTP_readMark_115 (by decide) (fun h115 => ?_) (fun h115 => ?_)
    · have h115 := (nJ_lt_t (a := k) (b := 1) (by omega) (by omega)).mp h115
      refine lv_ldc2 (v := (-1)) hx hb hown (hW _ w_182) dTP_readMark_125 ?_
      exact kr_l hx hb hr hlocks hM dTP_readMark_128 (⟨by rw [hn]; exact (mR_no (by omega)).symm, by rw [hn]⟩)
    · have h115 := (nJ_lt_f (a := k) (b := 1) (by omega) (by omega)).mp h115
      refine lv_iload hx hb dTP_readMark_118 (lv_at hl 0 rfl) ?_
      refine lv_bipush (v := nI 8) hx hb dTP_readMark_120 (by decide) ?_
      refine lv_icmp_le (tgt := 129) hx hb dTP_readMark_122 (by decide) (fun h122 => ?_) (fun h122 => ?_)
      · have h122 := (nJ_le_t (a := k) (b := 8) (by omega) (by omega)).mp h122
        refine lv_iload hx hb dTP_readMark_129 (lv_at hl 4 rfl) ?_
        refine lv_if_eq (tgt := 143) hx hb dTP_readMark_131 (by decide) (fun h131 => ?_) (fun h131 => ?_)
        · have h131 := bD_0.mp h131
          refine lv_lload_n hx hb dTP_readMark_143 rfl (lv_at hl 3 rfl) ?_
          refine lv_bipush (v := nI 8) hx hb dTP_readMark_144 (by decide) ?_
          refine lv_bipush (v := nI 8) hx hb dTP_readMark_146 (by decide) ?_
          refine lv_iload hx hb dTP_readMark_148 (lv_at hl 0 rfl) ?_
          refine lv_isub hx hb dTP_readMark_150 ?_
          refine topi_eq (y := nI (8 - k)) (pk_sub (a := 8) (b := k) (by omega)) ?_
          refine lv_imul hx hb dTP_readMark_151 ?_
          refine topi_eq (y := nI (8 * (8 - k))) (pk_mul 8 (8 - k)) ?_
          refine lv_lshl (v := (pkI (lN 0) (sg B ai k)) <<< ((nI (8 * (8 - k))).toInt64 &&& 63)) hx hb dTP_readMark_152 rfl ?_
          exact kr_l hx hb hr hlocks hM dTP_readMark_153 (⟨by rw [hn]; first | exact (mR_txt (by omega) (by omega) h131).symm | (rw [mR_dig (by omega) (by omega) h131]; exact congrArg (fun z => (nR (sg B ai z)).toInt64) (by omega)), by rw [hn]⟩)
        · have h131 := bD_n.mp h131
          refine lv_aload_n hx hb dTP_readMark_134 rfl (lv_at hl 1 rfl) ?_
          refine lv_iload_n hx hb dTP_readMark_135 rfl (lv_at hl 2 rfl) ?_
          refine kc_i (va_runV (C := RTP) (As := [.int (nI ai)]) (b := ta) (rest := []) (Ts := Wd) ⟨hx, hb, hml, hown, hW⟩ (mTP_numberSince l g (km_up μ ta (.inr (1, [.ref ba, .ref sa, .ref oa, .int (nI ln), .int (nI (ai + k)), .int (nI zi)]))) (km_s _ _ _) hB ((km_n (km_apA hb0 ht)).trans hb0) (fr := ai) (by omega) (by omega) (all_dig h131)) (cwV 1 hW (k_gV w_157 w_159 p_8 w_2 w_160) rfl rfl rfl (by decide +kernel) ⟨Nat.le_of_ble_eq_true rfl, Nat.le_of_ble_eq_true rfl⟩) (k_preV (q := (RTP, TTP, 6)) hM (km_s _ _ _) rfl) rfl rfl hl.1 rfl (lv_room (Nat.le_of_ble_eq_true rfl)) dTP_readMark_136 ⟨Nat.zero_le _, Nat.zero_le _⟩) hM (fun r μ1 H locs hp hM => ?_)
          obtain ⟨rfl, hmu⟩ := hp
          rw [hmu] at hM
          refine lv_i2l (v := (nR (sg B ai ((ai + k) - ai))).toInt64) hx hb dTP_readMark_139 rfl ?_
          refine lv_goto (tgt := 153) hx hb dTP_readMark_140 (by decide) ?_
          exact kr_l hx hb hr hlocks hM dTP_readMark_153 (⟨by rw [hn]; first | exact (mR_txt (by omega) (by omega) h131).symm | (rw [mR_dig (by omega) (by omega) h131]; exact congrArg (fun z => (nR (sg B ai z)).toInt64) (by omega)), by rw [hn]⟩)
      · have h122 := (nJ_le_f (a := k) (b := 8) (by omega) (by omega)).mp h122
        refine lv_ldc2 (v := (-1)) hx hb hown (hW _ w_182) dTP_readMark_125 ?_
        exact kr_l hx hb hr hlocks hM dTP_readMark_128 (⟨by rw [hn]; exact (mR_no (by omega)).symm, by rw [hn]⟩)
  have cut10 : ∀ (n : Nat), ∀ (k : Nat), zi - (ai + k) < n → ai + k ≤ zi → nM B ai (zi - ai) = k + nM B (ai + k) (zi - (ai + k)) → ∀ (ls : Array Slot) (H : Heap) (locs : List Loc), lv_has ls 6 [(0, .ref ta), (1, .int (nI ai)), (2, .long (pkI (lN 0) (sg B ai k))), (4, .int (bI (decide ((sg B ai k).all dD = true))))] → kS g (km_up μ ta (.inr (1, [.ref ba, .ref sa, .ref oa, .int (nI ln), .int (nI (ai + k)), .int (nI zi)]))) s H locs → W p l e ({ frames := 1, cells := 0, slots := 0, locals := 24 } : Room) s m [.ref ta].toArray below meth c H locs 0 0 (MQ below (kQl g (fun (r : Int64) (μ1 : km_M) => r = mR (sg B ai (nM B ai (zi - ai))) ∧ μ1 = km_up μ ta (.inr (1, [.ref ba, .ref sa, .ref oa, .int (nI ln), .int (nI (ai + nM B ai (zi - ai))), .int (nI zi)])))) [.ref ta].toArray s 0 0 (kF g)) (F0 m 10 ls []) := by
    intro n
    induction n with
    | zero => intro k hlt; exact absurd hlt (Nat.not_lt_zero _)
    | succ n ih =>
      intro k hlt hk hn ls H locs hl hM
      have cut73 : ai + k < zi → dM (B (ai + k)) = true → ∀ (ls : Array Slot) (H : Heap) (locs : List Loc), lv_has ls 6 [(0, .ref ta), (1, .int (nI ai)), (2, .long (pkI (lN 0) (sg B ai k)))] → kS g (km_up μ ta (.inr (1, [.ref ba, .ref sa, .ref oa, .int (nI ln), .int (nI (ai + k)), .int (nI zi)]))) s H locs → W p l e ({ frames := 1, cells := 0, slots := 0, locals := 24 } : Room) s m [.ref ta].toArray below meth c H locs 0 0 (MQ below (kQl g (fun (r : Int64) (μ1 : km_M) => r = mR (sg B ai (nM B ai (zi - ai))) ∧ μ1 = km_up μ ta (.inr (1, [.ref ba, .ref sa, .ref oa, .int (nI ln), .int (nI (ai + nM B ai (zi - ai))), .int (nI zi)])))) [.ref ta].toArray s 0 0 (kF g)) (F0 m 73 ls [.int (bI (decide ((sg B ai (k + 1)).all dD = true)))]) := by
        intro  h18 hm1 ls H locs hl hM
        refine lv_istore (lv' := [(4, .int (bI (decide ((sg B ai (k + 1)).all dD = true)))), (0, .ref ta), (1, .int (nI ai)), (2, .long (pkI (lN 0) (sg B ai k)))]) hx hb dTP_readMark_73 hl (by decide) rfl (fun ls hl => ?_)
        refine lv_lload_n hx hb dTP_readMark_75 rfl (lv_at hl 3 rfl) ?_
        refine lv_bipush (v := nI 8) hx hb dTP_readMark_76 (by decide) ?_
        refine lv_lshl (v := (pkI (lN 0) (sg B ai k)) <<< ((nI 8).toInt64 &&& 63)) hx hb dTP_readMark_78 rfl ?_
        refine lv_aload_n hx hb dTP_readMark_79 rfl (lv_at hl 1 rfl) ?_
        refine k_get (own := RTP) (ref := RTP) (C := RTP) (T := TTP) (N := 6) (ci := 1) (v := .ref ba) hx hb hW inTP hown hM (km_s _ _ _) rfl 0 (by decide) (hW _ w_34) (fun _ h => h) rfl dTP_readMark_80 ?_
        refine lv_aload_n hx hb dTP_readMark_83 rfl (lv_at hl 1 rfl) ?_
        refine k_get (own := RTP) (ref := RTP) (C := RTP) (T := TTP) (N := 6) (ci := 1) (v := .int (nI (ai + k))) hx hb hW inTP hown hM (km_s _ _ _) rfl 4 (by decide) (hW _ w_39) (fun _ h => h) rfl dTP_readMark_84 ?_
        refine k_bald (i := ai + k) hx hb hM 0 ((km_n (km_apA hb0 ht)).trans hb0) rfl (by omega) (by omega) dTP_readMark_87 ?_
        refine lv_i2l (v := (sb (B (ai + k))).toInt64) hx hb dTP_readMark_88 rfl ?_
        refine lv_lor hx hb dTP_readMark_89 ?_
        refine topl_eq (y := pkI (lN 0) (sg B ai (k + 1))) (by rw [sg_snoc, pkI_snoc]) ?_
        refine lv_lstore_n (lv' := [(2, .long (pkI (lN 0) (sg B ai (k + 1)))), (4, .int (bI (decide ((sg B ai (k + 1)).all dD = true)))), (0, .ref ta), (1, .int (nI ai))]) hx hb dTP_readMark_90 rfl hl (by decide) rfl (fun ls hl => ?_)
        refine lv_aload_n hx hb dTP_readMark_91 rfl (lv_at hl 2 rfl) ?_
        refine lv_dup hx hb dTP_readMark_92 rfl ?_
        refine k_get (own := RTP) (ref := RTP) (C := RTP) (T := TTP) (N := 6) (ci := 1) (v := .int (nI (ai + k))) hx hb hW inTP hown hM (km_s _ _ _) rfl 4 (by decide) (hW _ w_39) (fun _ h => h) rfl dTP_readMark_93 ?_
        refine lv_iconst (v := nI 1) hx hb dTP_readMark_96 (by decide) ?_
        refine lv_iadd hx hb dTP_readMark_97 ?_
        refine topi_eq (y := nI (ai + k + 1)) (nI_add (ai + k) 1) ?_
        refine k_put (own := RTP) (ref := RTP) (C := RTP) (T := TTP) (N := 6) (ci := 1) (v := .int (nI (ai + k + 1))) (ty := .int) (fs' := [.ref ba, .ref sa, .ref oa, .int (nI ln), .int (nI (ai + k + 1)), .int (nI zi)]) hx hb hW inTP tyTP tyokTP nmokTP hown hM (km_s _ _ _) rfl 4 (by decide) (hW _ w_39) (fun _ h => h) rfl (by decide +kernel) rfl rfl (Nat.le_of_ble_eq_true rfl) dTP_readMark_98 rfl (fun H locs hM => ?_)
        have hM : kS g (km_up μ ta (.inr (1, [.ref ba, .ref sa, .ref oa, .int (nI ln), .int (nI (ai + k + 1)), .int (nI zi)]))) s H locs := kS_eq (km_u1 _ _ _ _) hM
        refine lv_goto (tgt := 10) hx hb dTP_readMark_101 (by decide) ?_
        rw [nM_step h18 hm1] at hn
        exact ih (k + 1) (by omega) (by first | assumption | omega | exact rfl) (by show nM B ai (zi - ai) = (k + 1) + nM B (ai + k + 1) (zi - (ai + k + 1)); omega) ls H locs (lv_sub hl [2, 3, 0, 1] rfl) hM
      have cut58 : ai + k < zi → dM (B (ai + k)) = true → ∀ (ls : Array Slot) (H : Heap) (locs : List Loc), lv_has ls 6 [(0, .ref ta), (1, .int (nI ai)), (2, .long (pkI (lN 0) (sg B ai k))), (4, .int (bI (decide ((sg B ai k).all dD = true)))), (5, .int (bI (decide (48 ≤ B (ai + k) ∧ B (ai + k) ≤ 57))))] → kS g (km_up μ ta (.inr (1, [.ref ba, .ref sa, .ref oa, .int (nI ln), .int (nI (ai + k)), .int (nI zi)]))) s H locs → W p l e ({ frames := 1, cells := 0, slots := 0, locals := 24 } : Room) s m [.ref ta].toArray below meth c H locs 0 0 (MQ below (kQl g (fun (r : Int64) (μ1 : km_M) => r = mR (sg B ai (nM B ai (zi - ai))) ∧ μ1 = km_up μ ta (.inr (1, [.ref ba, .ref sa, .ref oa, .int (nI ln), .int (nI (ai + nM B ai (zi - ai))), .int (nI zi)])))) [.ref ta].toArray s 0 0 (kF g)) (F0 m 58 ls []) := by
        intro  h18 hm1 ls H locs hl hM
        refine lv_iload hx hb dTP_readMark_58 (lv_at hl 3 rfl) ?_
        refine lv_if_eq (tgt := 72) hx hb dTP_readMark_60 (by decide) (fun h60 => ?_) (fun h60 => ?_)
        · have h60 := bD_0.mp h60
          refine lv_iconst (v := nI 0) hx hb dTP_readMark_72 (by decide) ?_
          refine topi_eq (y := bI (decide ((sg B ai (k + 1)).all dD = true))) (by first | exact bI_f (fun z => h60 ((all_snoc _ _ _).mp z).1) | exact bI_f (fun z => h65 ((all_snoc _ _ _).mp z).2)) ?_
          exact cut73   (by first | assumption | omega | exact rfl) (by first | assumption | omega | exact rfl) ls H locs (lv_sub hl [0, 1, 2] rfl) hM
        · have h60 := bD_n.mp h60
          refine lv_iload hx hb dTP_readMark_63 (lv_at hl 4 rfl) ?_
          refine lv_if_eq (tgt := 72) hx hb dTP_readMark_65 (by decide) (fun h65 => ?_) (fun h65 => ?_)
          · have h65 := bD_0.mp h65
            refine lv_iconst (v := nI 0) hx hb dTP_readMark_72 (by decide) ?_
            refine topi_eq (y := bI (decide ((sg B ai (k + 1)).all dD = true))) (by first | exact bI_f (fun z => h60 ((all_snoc _ _ _).mp z).1) | exact bI_f (fun z => h65 ((all_snoc _ _ _).mp z).2)) ?_
            exact cut73   (by first | assumption | omega | exact rfl) (by first | assumption | omega | exact rfl) ls H locs (lv_sub hl [0, 1, 2] rfl) hM
          · have h65 := bD_n.mp h65
            refine lv_iconst (v := nI 1) hx hb dTP_readMark_68 (by decide) ?_
            refine lv_goto (tgt := 73) hx hb dTP_readMark_69 (by decide) ?_
            refine topi_eq (y := bI (decide ((sg B ai (k + 1)).all dD = true))) (bI_t ((all_snoc _ _ _).mpr ⟨h60, h65⟩)) ?_
            exact cut73   (by first | assumption | omega | exact rfl) (by first | assumption | omega | exact rfl) ls H locs (lv_sub hl [0, 1, 2] rfl) hM
      refine lv_aload_n hx hb dTP_readMark_10 rfl (lv_at hl 0 rfl) ?_
      refine k_get (own := RTP) (ref := RTP) (C := RTP) (T := TTP) (N := 6) (ci := 1) (v := .int (nI (ai + k))) hx hb hW inTP hown hM (km_s _ _ _) rfl 4 (by decide) (hW _ w_39) (fun _ h => h) rfl dTP_readMark_11 ?_
      refine lv_aload_n hx hb dTP_readMark_14 rfl (lv_at hl 0 rfl) ?_
      refine k_get (own := RTP) (ref := RTP) (C := RTP) (T := TTP) (N := 6) (ci := 1) (v := .int (nI zi)) hx hb hW inTP hown hM (km_s _ _ _) rfl 5 (by decide) (hW _ w_41) (fun _ h => h) rfl dTP_readMark_15 ?_
      refine lv_icmp_ge (tgt := 104) hx hb dTP_readMark_18 (by decide) (fun h18 => ?_) (fun h18 => ?_)
      · have h18 := (nJ_ge_t (a := ai + k) (b := zi) (by omega) (by omega)).mp h18
        rw [nM_end h18] at hn
        exact cut104 _  (by first | assumption | omega | exact rfl) (by omega) ls H locs (lv_sub hl [0, 1, 2, 3] rfl) hM
      · have h18 := (nJ_ge_f (a := ai + k) (b := zi) (by omega) (by omega)).mp h18
        refine lv_aload_n hx hb dTP_readMark_21 rfl (lv_at hl 0 rfl) ?_
        refine k_get (own := RTP) (ref := RTP) (C := RTP) (T := TTP) (N := 6) (ci := 1) (v := .ref ba) hx hb hW inTP hown hM (km_s _ _ _) rfl 0 (by decide) (hW _ w_34) (fun _ h => h) rfl dTP_readMark_22 ?_
        refine lv_aload_n hx hb dTP_readMark_25 rfl (lv_at hl 0 rfl) ?_
        refine k_get (own := RTP) (ref := RTP) (C := RTP) (T := TTP) (N := 6) (ci := 1) (v := .int (nI (ai + k))) hx hb hW inTP hown hM (km_s _ _ _) rfl 4 (by decide) (hW _ w_39) (fun _ h => h) rfl dTP_readMark_26 ?_
        refine k_bald (i := ai + k) hx hb hM 0 ((km_n (km_apA hb0 ht)).trans hb0) rfl (by omega) (by omega) dTP_readMark_29 ?_
        refine kc_i (va_runS (As := [.int (sb (B (ai + k)))]) (rest := []) (Ts := Wd) ⟨hx, hb, hml, hown, hW⟩ (mTP_isDigit l g (km_up μ ta (.inr (1, [.ref ba, .ref sa, .ref oa, .int (nI ln), .int (nI (ai + k)), .int (nI zi)]))) (x := B (ai + k)) (hB _)) (va_cwS 1 hW (k_gS w_154 w_155 w_2 w_156) rfl rfl rfl (by decide +kernel) ⟨Nat.le_of_ble_eq_true rfl, Nat.le_of_ble_eq_true rfl⟩) (k_preS hM) rfl rfl hl.1 rfl (lv_room (Nat.le_of_ble_eq_true rfl)) dTP_readMark_30 ⟨Nat.zero_le _, Nat.zero_le _⟩) hM (fun r μ1 H locs hp hM => ?_)
        obtain ⟨rfl, hmu⟩ := hp
        rw [hmu] at hM
        refine lv_istore (lv' := [(5, .int (bI (decide (48 ≤ B (ai + k) ∧ B (ai + k) ≤ 57)))), (0, .ref ta), (1, .int (nI ai)), (2, .long (pkI (lN 0) (sg B ai k))), (4, .int (bI (decide ((sg B ai k).all dD = true))))]) hx hb dTP_readMark_33 hl (by decide) rfl (fun ls hl => ?_)
        refine lv_iload hx hb dTP_readMark_35 (lv_at hl 0 rfl) ?_
        refine lv_if_ne (tgt := 58) hx hb dTP_readMark_37 (by decide) (fun h37 => ?_) (fun h37 => ?_)
        · have h37 := bD_n.mp h37
          exact cut58   (by first | assumption | omega | exact rfl) (by exact decide_eq_true (Or.inl h37)) ls H locs (lv_sub hl [1, 2, 3, 4, 0] rfl) hM
        · have h37 := bD_0.mp h37
          refine lv_aload_n hx hb dTP_readMark_40 rfl (lv_at hl 1 rfl) ?_
          refine k_get (own := RTP) (ref := RTP) (C := RTP) (T := TTP) (N := 6) (ci := 1) (v := .ref ba) hx hb hW inTP hown hM (km_s _ _ _) rfl 0 (by decide) (hW _ w_34) (fun _ h => h) rfl dTP_readMark_41 ?_
          refine lv_aload_n hx hb dTP_readMark_44 rfl (lv_at hl 1 rfl) ?_
          refine k_get (own := RTP) (ref := RTP) (C := RTP) (T := TTP) (N := 6) (ci := 1) (v := .int (nI (ai + k))) hx hb hW inTP hown hM (km_s _ _ _) rfl 4 (by decide) (hW _ w_39) (fun _ h => h) rfl dTP_readMark_45 ?_
          refine k_bald (i := ai + k) hx hb hM 0 ((km_n (km_apA hb0 ht)).trans hb0) rfl (by omega) (by omega) dTP_readMark_48 ?_
          refine kc_i (va_runS (As := [.int (sb (B (ai + k)))]) (rest := []) (Ts := Wd) ⟨hx, hb, hml, hown, hW⟩ (mTP_isLetterOrHyphen l g (km_up μ ta (.inr (1, [.ref ba, .ref sa, .ref oa, .int (nI ln), .int (nI (ai + k)), .int (nI zi)]))) (x := B (ai + k)) (hB _)) (va_cwS 1 hW (k_gS w_179 w_180 w_2 w_181) rfl rfl rfl (by decide +kernel) ⟨Nat.le_of_ble_eq_true rfl, Nat.le_of_ble_eq_true rfl⟩) (k_preS hM) rfl rfl hl.1 rfl (lv_room (Nat.le_of_ble_eq_true rfl)) dTP_readMark_49 ⟨Nat.zero_le _, Nat.zero_le _⟩) hM (fun r μ1 H locs hp hM => ?_)
          obtain ⟨rfl, hmu⟩ := hp
          rw [hmu] at hM
          refine lv_if_ne (tgt := 58) hx hb dTP_readMark_52 (by decide) (fun h52 => ?_) (fun h52 => ?_)
          · have h52 := bD_n.mp h52
            exact cut58   (by first | assumption | omega | exact rfl) (by exact decide_eq_true (Or.inr h52)) ls H locs (lv_sub hl [1, 2, 3, 4, 0] rfl) hM
          · have h52 := bD_0.mp h52
            refine lv_goto (tgt := 104) hx hb dTP_readMark_55 (by decide) ?_
            rw [nM_stop h18 (decide_eq_false (by omega))] at hn
            exact cut104 _  (by first | assumption | omega | exact rfl) (by omega) ls H locs (lv_sub hl [1, 2, 3, 4] rfl) hM
  refine lv_aload_n hx hb dTP_readMark_0 rfl (lv_at hl 0 rfl) ?_
  refine k_get (own := RTP) (ref := RTP) (C := RTP) (T := TTP) (N := 6) (ci := 1) (v := .int (nI ai)) hx hb hW inTP hown hM ht rfl 4 (by decide) (hW _ w_39) (fun _ h => h) rfl dTP_readMark_1 ?_
  refine lv_istore_n (lv' := [(1, .int (nI ai)), (0, .ref ta)]) hx hb dTP_readMark_4 rfl hl (by decide) rfl (fun ls hl => ?_)
  refine lv_lconst (v := lN 0) hx hb dTP_readMark_5 (by decide) ?_
  refine lv_lstore_n (lv' := [(2, .long (lN 0)), (1, .int (nI ai)), (0, .ref ta)]) hx hb dTP_readMark_6 rfl hl (by decide) rfl (fun ls hl => ?_)
  refine lv_iconst (v := nI 1) hx hb dTP_readMark_7 (by decide) ?_
  refine lv_istore (lv' := [(4, .int (nI 1)), (2, .long (lN 0)), (1, .int (nI ai)), (0, .ref ta)]) hx hb dTP_readMark_8 hl (by decide) rfl (fun ls hl => ?_)
  have hM : kS g (km_up μ ta (.inr (1, [.ref ba, .ref sa, .ref oa, .int (nI ln), .int (nI (ai + 0)), .int (nI zi)]))) s H locs := kS_eq (km_id ht).symm hM
  exact cut10 _ 0 (Nat.lt_succ_self _) (by first | assumption | omega | exact rfl) (by exact (Nat.zero_add _).symm) ls H locs (lv_sub hl [3, 2, 1, 0] rfl) hM
