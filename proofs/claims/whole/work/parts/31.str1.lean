set_option maxHeartbeats 800000 in
set_option maxRecDepth 100000 in
theorem mPC_checkIndex_n (l : Launch) (g : kG) (μ : km_M) {i n : Nat} (hi : i < n) (hn : n ≤ 400) : Met l yPC_checkIndex (Cond.code yPC_checkIndex cPC_checkIndex 3 (some .int) :: Wd) ({ frames := 0, cells := 0, slots := 0, locals := 0 } : Room) (kPre g μ [.int (nI i), .int (nI n), .null]) (kQi g (fun (r : Int32) (μ1 : km_M) => r = nI i ∧ μ1 = μ)) 0 0 (kF g) := by
  refine k_met (by decide) (Nat.le_of_ble_eq_true rfl) ?_
  intro p e s m below meth c hx hb hr hlocks hml hown hnm hW ls hl H locs hM
  have hl : lv_has ls 3 [(0, .int (nI i)), (1, .int (nI n)), (2, .null)] := hl
  refine lv_iload_n hx hb dPC_checkIndex_0 rfl (lv_at hl 0 rfl) ?_
  refine lv_if_lt (tgt := 9) hx hb dPC_checkIndex_1 (by decide) (fun h1 => ?_) (fun h1 => ?_)
  · exact absurd h1 (nI_pos (by omega))
  · skip
    refine lv_iload_n hx hb dPC_checkIndex_4 rfl (lv_at hl 0 rfl) ?_
    refine lv_iload_n hx hb dPC_checkIndex_5 rfl (lv_at hl 1 rfl) ?_
    refine lv_icmp_lt (tgt := 16) hx hb dPC_checkIndex_6 (by decide) (fun h6 => ?_) (fun h6 => ?_)
    · skip
      refine lv_iload_n hx hb dPC_checkIndex_16 rfl (lv_at hl 0 rfl) ?_
      exact kr_i hx hb hr hlocks hM dPC_checkIndex_17 (⟨by first | rfl | exact bI_t (by omega) | exact bI_f (by omega), rfl⟩)
    · exact absurd (nI_lt hi (by omega)) h6
set_option maxHeartbeats 800000 in
set_option maxRecDepth 100000 in
theorem mPC_checkFromToIndex_n (l : Launch) (g : kG) (μ : km_M) {i j n : Nat} (hi : i ≤ j) (hj : j ≤ n) (hn : n ≤ 400) : Met l yPC_checkFromToIndex (Cond.code yPC_checkFromToIndex cPC_checkFromToIndex 4 (some .int) :: Wd) ({ frames := 0, cells := 0, slots := 0, locals := 0 } : Room) (kPre g μ [.int (nI i), .int (nI j), .int (nI n), .null]) (kQi g (fun (r : Int32) (μ1 : km_M) => r = nI i ∧ μ1 = μ)) 0 0 (kF g) := by
  refine k_met (by decide) (Nat.le_of_ble_eq_true rfl) ?_
  intro p e s m below meth c hx hb hr hlocks hml hown hnm hW ls hl H locs hM
  have hl : lv_has ls 4 [(0, .int (nI i)), (1, .int (nI j)), (2, .int (nI n)), (3, .null)] := hl
  refine lv_iload_n hx hb dPC_checkFromToIndex_0 rfl (lv_at hl 0 rfl) ?_
  refine lv_if_lt (tgt := 14) hx hb dPC_checkFromToIndex_1 (by decide) (fun h1 => ?_) (fun h1 => ?_)
  · exact absurd h1 (nI_pos (by omega))
  · skip
    refine lv_iload_n hx hb dPC_checkFromToIndex_4 rfl (lv_at hl 0 rfl) ?_
    refine lv_iload_n hx hb dPC_checkFromToIndex_5 rfl (lv_at hl 1 rfl) ?_
    refine lv_icmp_gt (tgt := 14) hx hb dPC_checkFromToIndex_6 (by decide) (fun h6 => ?_) (fun h6 => ?_)
    · exact absurd h6 (nI_nlt hi (by omega))
    · skip
      refine lv_iload_n hx hb dPC_checkFromToIndex_9 rfl (lv_at hl 1 rfl) ?_
      refine lv_iload_n hx hb dPC_checkFromToIndex_10 rfl (lv_at hl 2 rfl) ?_
      refine lv_icmp_le (tgt := 22) hx hb dPC_checkFromToIndex_11 (by decide) (fun h11 => ?_) (fun h11 => ?_)
      · skip
        refine lv_iload_n hx hb dPC_checkFromToIndex_22 rfl (lv_at hl 0 rfl) ?_
        exact kr_i hx hb hr hlocks hM dPC_checkFromToIndex_23 (⟨by first | rfl | exact bI_t (by omega) | exact bI_f (by omega), rfl⟩)
      · exact absurd (nI_le hj (by omega)) h11
set_option maxHeartbeats 800000 in
set_option maxRecDepth 100000 in
theorem mPC_checkFromIndexSize_n (l : Launch) (g : kG) (μ : km_M) {i k n : Nat} (hi : i + k ≤ n) (hn : n ≤ 400) : Met l yPC_checkFromIndexSize (Cond.code yPC_checkFromIndexSize cPC_checkFromIndexSize 4 (some .int) :: Wd) ({ frames := 0, cells := 0, slots := 0, locals := 0 } : Room) (kPre g μ [.int (nI i), .int (nI k), .int (nI n), .null]) (kQi g (fun (r : Int32) (μ1 : km_M) => r = nI i ∧ μ1 = μ)) 0 0 (kF g) := by
  refine k_met (by decide) (Nat.le_of_ble_eq_true rfl) ?_
  intro p e s m below meth c hx hb hr hlocks hml hown hnm hW ls hl H locs hM
  have hl : lv_has ls 4 [(0, .int (nI i)), (1, .int (nI k)), (2, .int (nI n)), (3, .null)] := hl
  refine lv_iload_n hx hb dPC_checkFromIndexSize_0 rfl (lv_at hl 2 rfl) ?_
  refine lv_iload_n hx hb dPC_checkFromIndexSize_1 rfl (lv_at hl 0 rfl) ?_
  refine lv_ior hx hb dPC_checkFromIndexSize_2 ?_
  refine topi_eq (y := nI (n ||| i)) (or_nI (by omega) (by omega)) ?_
  refine lv_iload_n hx hb dPC_checkFromIndexSize_3 rfl (lv_at hl 1 rfl) ?_
  refine lv_ior hx hb dPC_checkFromIndexSize_4 ?_
  refine topi_eq (y := nI (n ||| i ||| k)) (or_nI (or_lt (by omega) (by omega)) (by omega)) ?_
  refine lv_if_lt (tgt := 15) hx hb dPC_checkFromIndexSize_5 (by decide) (fun h5 => ?_) (fun h5 => ?_)
  · exact absurd h5 (nI_pos (Nat.lt_trans (or_lt (or_lt (a := n) (b := i) (by omega) (by omega)) (by omega)) (by decide)))
  · skip
    refine lv_iload_n hx hb dPC_checkFromIndexSize_8 rfl (lv_at hl 1 rfl) ?_
    refine lv_iload_n hx hb dPC_checkFromIndexSize_9 rfl (lv_at hl 2 rfl) ?_
    refine lv_iload_n hx hb dPC_checkFromIndexSize_10 rfl (lv_at hl 0 rfl) ?_
    refine lv_isub hx hb dPC_checkFromIndexSize_11 ?_
    refine topi_eq (y := nI (n - i)) (pk_sub (a := n) (b := i) (by omega)) ?_
    refine lv_icmp_le (tgt := 23) hx hb dPC_checkFromIndexSize_12 (by decide) (fun h12 => ?_) (fun h12 => ?_)
    · skip
      refine lv_iload_n hx hb dPC_checkFromIndexSize_23 rfl (lv_at hl 0 rfl) ?_
      exact kr_i hx hb hr hlocks hM dPC_checkFromIndexSize_24 (⟨by first | rfl | exact bI_t (by omega) | exact bI_f (by omega), rfl⟩)
    · exact absurd (nI_le (show k ≤ n - i by omega) (by omega)) h12
set_option maxHeartbeats 800000 in
set_option maxRecDepth 100000 in
theorem mPC_checkIndex (l : Launch) (g : kG) (μ : km_M) {fm : Nat} {i n : Nat} (hi : i < n) (hn : n ≤ 400) : Met l yPC_checkIndex (Cond.code yPC_checkIndex cPC_checkIndex 3 (some .int) :: Wd) ({ frames := 0, cells := 0, slots := 0, locals := 0 } : Room) (kPre g μ [.int (nI i), .int (nI n), .ref fm]) (kQi g (fun (r : Int32) (μ1 : km_M) => r = nI i ∧ μ1 = μ)) 0 0 (kF g) := by
  refine k_met (by decide) (Nat.le_of_ble_eq_true rfl) ?_
  intro p e s m below meth c hx hb hr hlocks hml hown hnm hW ls hl H locs hM
  have hl : lv_has ls 3 [(0, .int (nI i)), (1, .int (nI n)), (2, .ref fm)] := hl
  refine lv_iload_n hx hb dPC_checkIndex_0 rfl (lv_at hl 0 rfl) ?_
  refine lv_if_lt (tgt := 9) hx hb dPC_checkIndex_1 (by decide) (fun h1 => ?_) (fun h1 => ?_)
  · exact absurd h1 (nI_pos (by omega))
  · skip
    refine lv_iload_n hx hb dPC_checkIndex_4 rfl (lv_at hl 0 rfl) ?_
    refine lv_iload_n hx hb dPC_checkIndex_5 rfl (lv_at hl 1 rfl) ?_
    refine lv_icmp_lt (tgt := 16) hx hb dPC_checkIndex_6 (by decide) (fun h6 => ?_) (fun h6 => ?_)
    · skip
      refine lv_iload_n hx hb dPC_checkIndex_16 rfl (lv_at hl 0 rfl) ?_
      exact kr_i hx hb hr hlocks hM dPC_checkIndex_17 (⟨by first | rfl | exact bI_t (by omega) | exact bI_f (by omega), rfl⟩)
    · exact absurd (nI_lt hi (by omega)) h6
set_option maxHeartbeats 800000 in
set_option maxRecDepth 100000 in
theorem mPC_checkFromToIndex (l : Launch) (g : kG) (μ : km_M) {fm : Nat} {i j n : Nat} (hi : i ≤ j) (hj : j ≤ n) (hn : n ≤ 400) : Met l yPC_checkFromToIndex (Cond.code yPC_checkFromToIndex cPC_checkFromToIndex 4 (some .int) :: Wd) ({ frames := 0, cells := 0, slots := 0, locals := 0 } : Room) (kPre g μ [.int (nI i), .int (nI j), .int (nI n), .ref fm]) (kQi g (fun (r : Int32) (μ1 : km_M) => r = nI i ∧ μ1 = μ)) 0 0 (kF g) := by
  refine k_met (by decide) (Nat.le_of_ble_eq_true rfl) ?_
  intro p e s m below meth c hx hb hr hlocks hml hown hnm hW ls hl H locs hM
  have hl : lv_has ls 4 [(0, .int (nI i)), (1, .int (nI j)), (2, .int (nI n)), (3, .ref fm)] := hl
  refine lv_iload_n hx hb dPC_checkFromToIndex_0 rfl (lv_at hl 0 rfl) ?_
  refine lv_if_lt (tgt := 14) hx hb dPC_checkFromToIndex_1 (by decide) (fun h1 => ?_) (fun h1 => ?_)
  · exact absurd h1 (nI_pos (by omega))
  · skip
    refine lv_iload_n hx hb dPC_checkFromToIndex_4 rfl (lv_at hl 0 rfl) ?_
    refine lv_iload_n hx hb dPC_checkFromToIndex_5 rfl (lv_at hl 1 rfl) ?_
    refine lv_icmp_gt (tgt := 14) hx hb dPC_checkFromToIndex_6 (by decide) (fun h6 => ?_) (fun h6 => ?_)
    · exact absurd h6 (nI_nlt hi (by omega))
    · skip
      refine lv_iload_n hx hb dPC_checkFromToIndex_9 rfl (lv_at hl 1 rfl) ?_
      refine lv_iload_n hx hb dPC_checkFromToIndex_10 rfl (lv_at hl 2 rfl) ?_
      refine lv_icmp_le (tgt := 22) hx hb dPC_checkFromToIndex_11 (by decide) (fun h11 => ?_) (fun h11 => ?_)
      · skip
        refine lv_iload_n hx hb dPC_checkFromToIndex_22 rfl (lv_at hl 0 rfl) ?_
        exact kr_i hx hb hr hlocks hM dPC_checkFromToIndex_23 (⟨by first | rfl | exact bI_t (by omega) | exact bI_f (by omega), rfl⟩)
      · exact absurd (nI_le hj (by omega)) h11
set_option maxHeartbeats 800000 in
set_option maxRecDepth 100000 in
theorem mPC_checkFromIndexSize (l : Launch) (g : kG) (μ : km_M) {fm : Nat} {i k n : Nat} (hi : i + k ≤ n) (hn : n ≤ 400) : Met l yPC_checkFromIndexSize (Cond.code yPC_checkFromIndexSize cPC_checkFromIndexSize 4 (some .int) :: Wd) ({ frames := 0, cells := 0, slots := 0, locals := 0 } : Room) (kPre g μ [.int (nI i), .int (nI k), .int (nI n), .ref fm]) (kQi g (fun (r : Int32) (μ1 : km_M) => r = nI i ∧ μ1 = μ)) 0 0 (kF g) := by
  refine k_met (by decide) (Nat.le_of_ble_eq_true rfl) ?_
  intro p e s m below meth c hx hb hr hlocks hml hown hnm hW ls hl H locs hM
  have hl : lv_has ls 4 [(0, .int (nI i)), (1, .int (nI k)), (2, .int (nI n)), (3, .ref fm)] := hl
  refine lv_iload_n hx hb dPC_checkFromIndexSize_0 rfl (lv_at hl 2 rfl) ?_
  refine lv_iload_n hx hb dPC_checkFromIndexSize_1 rfl (lv_at hl 0 rfl) ?_
  refine lv_ior hx hb dPC_checkFromIndexSize_2 ?_
  refine topi_eq (y := nI (n ||| i)) (or_nI (by omega) (by omega)) ?_
  refine lv_iload_n hx hb dPC_checkFromIndexSize_3 rfl (lv_at hl 1 rfl) ?_
  refine lv_ior hx hb dPC_checkFromIndexSize_4 ?_
  refine topi_eq (y := nI (n ||| i ||| k)) (or_nI (or_lt (by omega) (by omega)) (by omega)) ?_
  refine lv_if_lt (tgt := 15) hx hb dPC_checkFromIndexSize_5 (by decide) (fun h5 => ?_) (fun h5 => ?_)
  · exact absurd h5 (nI_pos (Nat.lt_trans (or_lt (or_lt (a := n) (b := i) (by omega) (by omega)) (by omega)) (by decide)))
  · skip
    refine lv_iload_n hx hb dPC_checkFromIndexSize_8 rfl (lv_at hl 1 rfl) ?_
    refine lv_iload_n hx hb dPC_checkFromIndexSize_9 rfl (lv_at hl 2 rfl) ?_
    refine lv_iload_n hx hb dPC_checkFromIndexSize_10 rfl (lv_at hl 0 rfl) ?_
    refine lv_isub hx hb dPC_checkFromIndexSize_11 ?_
    refine topi_eq (y := nI (n - i)) (pk_sub (a := n) (b := i) (by omega)) ?_
    refine lv_icmp_le (tgt := 23) hx hb dPC_checkFromIndexSize_12 (by decide) (fun h12 => ?_) (fun h12 => ?_)
    · skip
      refine lv_iload_n hx hb dPC_checkFromIndexSize_23 rfl (lv_at hl 0 rfl) ?_
      exact kr_i hx hb hr hlocks hM dPC_checkFromIndexSize_24 (⟨by first | rfl | exact bI_t (by omega) | exact bI_f (by omega), rfl⟩)
    · exact absurd (nI_le (show k ≤ n - i by omega) (by omega)) h12
set_option maxHeartbeats 800000 in
set_option maxRecDepth 100000 in
theorem mST_checkIndex (l : Launch) (g : kG) (μ : km_M) {i n : Nat} (hi : i < n) (hn : n ≤ 400) : Met l yST_checkIndex (Cond.code yST_checkIndex cST_checkIndex 2 none :: Wd) ({ frames := 1, cells := 0, slots := 0, locals := 22 } : Room) (kPre g μ [.int (nI i), .int (nI n)]) (kQv g (fun (μ1 : km_M) => μ1 = μ)) 0 0 (kF g) := by
  refine k_met (by decide) (Nat.le_of_ble_eq_true rfl) ?_
  intro p e s m below meth c hx hb hr hlocks hml hown hnm hW ls hl H locs hM
  have hl : lv_has ls 2 [(0, .int (nI i)), (1, .int (nI n))] := hl
  refine lv_iload_n hx hb dST_checkIndex_0 rfl (lv_at hl 0 rfl) ?_
  refine lv_iload_n hx hb dST_checkIndex_1 rfl (lv_at hl 1 rfl) ?_
  rcases hM.2.1.2.2.2.2.2.2.1 ("jdk/internal/util/Preconditions", "SIOOBE_FORMATTER", "Ljava/util/function/BiFunction;") (by decide +kernel) with hz | ⟨fm, hz⟩
  · refine va_gets (C := "jdk/internal/util/Preconditions") (n := "SIOOBE_FORMATTER") (d := "Ljava/util/function/BiFunction;") (v := .null) hx hb hz hM.2.2.2 hown (hW _ w_344) (fun _ h => h) dST_checkIndex_2 ?_
    refine kc_i (va_runS (As := [.int (nI i), .int (nI n), .null]) (rest := []) (Ts := Wd) ⟨hx, hb, hml, hown, hW⟩ (mPC_checkIndex_n l g μ (i := i) (n := n) (by omega) (by omega)) (va_cwS 3 hW (k_gS w_452 w_453 w_10 w_454) rfl rfl rfl (by decide +kernel) ⟨Nat.le_of_ble_eq_true rfl, Nat.le_of_ble_eq_true rfl⟩) (k_preS hM) rfl rfl hl.1 rfl (lv_room (Nat.le_of_ble_eq_true rfl)) dST_checkIndex_5 ⟨Nat.zero_le _, Nat.zero_le _⟩) hM (fun r μ1 H locs hp hM => ?_)
    obtain ⟨rfl, hmu⟩ := hp
    rw [hmu] at hM
    refine lv_pop hx hb dST_checkIndex_8 rfl ?_
    exact kr_v hx hb hr hlocks hM dST_checkIndex_9 rfl
  · refine va_gets (C := "jdk/internal/util/Preconditions") (n := "SIOOBE_FORMATTER") (d := "Ljava/util/function/BiFunction;") (v := .ref fm) hx hb hz hM.2.2.2 hown (hW _ w_344) (fun _ h => h) dST_checkIndex_2 ?_
    refine kc_i (va_runS (As := [.int (nI i), .int (nI n), .ref fm]) (rest := []) (Ts := Wd) ⟨hx, hb, hml, hown, hW⟩ (mPC_checkIndex l g μ (i := i) (n := n) (fm := fm) (by omega) (by omega)) (va_cwS 3 hW (k_gS w_452 w_453 w_10 w_454) rfl rfl rfl (by decide +kernel) ⟨Nat.le_of_ble_eq_true rfl, Nat.le_of_ble_eq_true rfl⟩) (k_preS hM) rfl rfl hl.1 rfl (lv_room (Nat.le_of_ble_eq_true rfl)) dST_checkIndex_5 ⟨Nat.zero_le _, Nat.zero_le _⟩) hM (fun r μ1 H locs hp hM => ?_)
    obtain ⟨rfl, hmu⟩ := hp
    rw [hmu] at hM
    refine lv_pop hx hb dST_checkIndex_8 rfl ?_
    exact kr_v hx hb hr hlocks hM dST_checkIndex_9 rfl
set_option maxHeartbeats 800000 in
set_option maxRecDepth 100000 in
theorem mST_checkBoundsBeginEnd (l : Launch) (g : kG) (μ : km_M) {i j n : Nat} (hi : i ≤ j) (hj : j ≤ n) (hn : n ≤ 400) : Met l yST_checkBoundsBeginEnd (Cond.code yST_checkBoundsBeginEnd cST_checkBoundsBeginEnd 3 none :: Wd) ({ frames := 1, cells := 0, slots := 0, locals := 23 } : Room) (kPre g μ [.int (nI i), .int (nI j), .int (nI n)]) (kQv g (fun (μ1 : km_M) => μ1 = μ)) 0 0 (kF g) := by
  refine k_met (by decide) (Nat.le_of_ble_eq_true rfl) ?_
  intro p e s m below meth c hx hb hr hlocks hml hown hnm hW ls hl H locs hM
  have hl : lv_has ls 3 [(0, .int (nI i)), (1, .int (nI j)), (2, .int (nI n))] := hl
  refine lv_iload_n hx hb dST_checkBoundsBeginEnd_0 rfl (lv_at hl 0 rfl) ?_
  refine lv_iload_n hx hb dST_checkBoundsBeginEnd_1 rfl (lv_at hl 1 rfl) ?_
  refine lv_iload_n hx hb dST_checkBoundsBeginEnd_2 rfl (lv_at hl 2 rfl) ?_
  rcases hM.2.1.2.2.2.2.2.2.1 ("jdk/internal/util/Preconditions", "SIOOBE_FORMATTER", "Ljava/util/function/BiFunction;") (by decide +kernel) with hz | ⟨fm, hz⟩
  · refine va_gets (C := "jdk/internal/util/Preconditions") (n := "SIOOBE_FORMATTER") (d := "Ljava/util/function/BiFunction;") (v := .null) hx hb hz hM.2.2.2 hown (hW _ w_344) (fun _ h => h) dST_checkBoundsBeginEnd_3 ?_
    refine kc_i (va_runS (As := [.int (nI i), .int (nI j), .int (nI n), .null]) (rest := []) (Ts := Wd) ⟨hx, hb, hml, hown, hW⟩ (mPC_checkFromToIndex_n l g μ (i := i) (j := j) (n := n) (by omega) (by omega) (by omega)) (va_cwS 4 hW (k_gS w_473 w_474 w_10 w_475) rfl rfl rfl (by decide +kernel) ⟨Nat.le_of_ble_eq_true rfl, Nat.le_of_ble_eq_true rfl⟩) (k_preS hM) rfl rfl hl.1 rfl (lv_room (Nat.le_of_ble_eq_true rfl)) dST_checkBoundsBeginEnd_6 ⟨Nat.zero_le _, Nat.zero_le _⟩) hM (fun r μ1 H locs hp hM => ?_)
    obtain ⟨rfl, hmu⟩ := hp
    rw [hmu] at hM
    refine lv_pop hx hb dST_checkBoundsBeginEnd_9 rfl ?_
    exact kr_v hx hb hr hlocks hM dST_checkBoundsBeginEnd_10 rfl
  · refine va_gets (C := "jdk/internal/util/Preconditions") (n := "SIOOBE_FORMATTER") (d := "Ljava/util/function/BiFunction;") (v := .ref fm) hx hb hz hM.2.2.2 hown (hW _ w_344) (fun _ h => h) dST_checkBoundsBeginEnd_3 ?_
    refine kc_i (va_runS (As := [.int (nI i), .int (nI j), .int (nI n), .ref fm]) (rest := []) (Ts := Wd) ⟨hx, hb, hml, hown, hW⟩ (mPC_checkFromToIndex l g μ (i := i) (j := j) (n := n) (fm := fm) (by omega) (by omega) (by omega)) (va_cwS 4 hW (k_gS w_473 w_474 w_10 w_475) rfl rfl rfl (by decide +kernel) ⟨Nat.le_of_ble_eq_true rfl, Nat.le_of_ble_eq_true rfl⟩) (k_preS hM) rfl rfl hl.1 rfl (lv_room (Nat.le_of_ble_eq_true rfl)) dST_checkBoundsBeginEnd_6 ⟨Nat.zero_le _, Nat.zero_le _⟩) hM (fun r μ1 H locs hp hM => ?_)
    obtain ⟨rfl, hmu⟩ := hp
    rw [hmu] at hM
    refine lv_pop hx hb dST_checkBoundsBeginEnd_9 rfl ?_
    exact kr_v hx hb hr hlocks hM dST_checkBoundsBeginEnd_10 rfl
set_option maxHeartbeats 800000 in
set_option maxRecDepth 100000 in
theorem mST_checkBoundsOffCount (l : Launch) (g : kG) (μ : km_M) {i k n : Nat} (hi : i + k ≤ n) (hn : n ≤ 400) : Met l yST_checkBoundsOffCount (Cond.code yST_checkBoundsOffCount cST_checkBoundsOffCount 3 (some .int) :: Wd) ({ frames := 1, cells := 0, slots := 0, locals := 23 } : Room) (kPre g μ [.int (nI i), .int (nI k), .int (nI n)]) (kQi g (fun (r : Int32) (μ1 : km_M) => r = nI i ∧ μ1 = μ)) 0 0 (kF g) := by
  refine k_met (by decide) (Nat.le_of_ble_eq_true rfl) ?_
  intro p e s m below meth c hx hb hr hlocks hml hown hnm hW ls hl H locs hM
  have hl : lv_has ls 3 [(0, .int (nI i)), (1, .int (nI k)), (2, .int (nI n))] := hl
  refine lv_iload_n hx hb dST_checkBoundsOffCount_0 rfl (lv_at hl 0 rfl) ?_
  refine lv_iload_n hx hb dST_checkBoundsOffCount_1 rfl (lv_at hl 1 rfl) ?_
  refine lv_iload_n hx hb dST_checkBoundsOffCount_2 rfl (lv_at hl 2 rfl) ?_
  rcases hM.2.1.2.2.2.2.2.2.1 ("jdk/internal/util/Preconditions", "SIOOBE_FORMATTER", "Ljava/util/function/BiFunction;") (by decide +kernel) with hz | ⟨fm, hz⟩
  · refine va_gets (C := "jdk/internal/util/Preconditions") (n := "SIOOBE_FORMATTER") (d := "Ljava/util/function/BiFunction;") (v := .null) hx hb hz hM.2.2.2 hown (hW _ w_344) (fun _ h => h) dST_checkBoundsOffCount_3 ?_
    refine kc_i (va_runS (As := [.int (nI i), .int (nI k), .int (nI n), .null]) (rest := []) (Ts := Wd) ⟨hx, hb, hml, hown, hW⟩ (mPC_checkFromIndexSize_n l g μ (i := i) (k := k) (n := n) (by omega) (by omega)) (va_cwS 4 hW (k_gS w_346 w_347 w_10 w_348) rfl rfl rfl (by decide +kernel) ⟨Nat.le_of_ble_eq_true rfl, Nat.le_of_ble_eq_true rfl⟩) (k_preS hM) rfl rfl hl.1 rfl (lv_room (Nat.le_of_ble_eq_true rfl)) dST_checkBoundsOffCount_6 ⟨Nat.zero_le _, Nat.zero_le _⟩) hM (fun r μ1 H locs hp hM => ?_)
    obtain ⟨rfl, hmu⟩ := hp
    rw [hmu] at hM
    exact kr_i hx hb hr hlocks hM dST_checkBoundsOffCount_9 (⟨by first | rfl | exact bI_t (by omega) | exact bI_f (by omega), rfl⟩)
  · refine va_gets (C := "jdk/internal/util/Preconditions") (n := "SIOOBE_FORMATTER") (d := "Ljava/util/function/BiFunction;") (v := .ref fm) hx hb hz hM.2.2.2 hown (hW _ w_344) (fun _ h => h) dST_checkBoundsOffCount_3 ?_
    refine kc_i (va_runS (As := [.int (nI i), .int (nI k), .int (nI n), .ref fm]) (rest := []) (Ts := Wd) ⟨hx, hb, hml, hown, hW⟩ (mPC_checkFromIndexSize l g μ (i := i) (k := k) (n := n) (fm := fm) (by omega) (by omega)) (va_cwS 4 hW (k_gS w_346 w_347 w_10 w_348) rfl rfl rfl (by decide +kernel) ⟨Nat.le_of_ble_eq_true rfl, Nat.le_of_ble_eq_true rfl⟩) (k_preS hM) rfl rfl hl.1 rfl (lv_room (Nat.le_of_ble_eq_true rfl)) dST_checkBoundsOffCount_6 ⟨Nat.zero_le _, Nat.zero_le _⟩) hM (fun r μ1 H locs hp hM => ?_)
    obtain ⟨rfl, hmu⟩ := hp
    rw [hmu] at hM
    exact kr_i hx hb hr hlocks hM dST_checkBoundsOffCount_9 (⟨by first | rfl | exact bI_t (by omega) | exact bI_f (by omega), rfl⟩)
set_option maxHeartbeats 800000 in
set_option maxRecDepth 100000 in
theorem mST_coder (l : Launch) (g : kG) (μ : km_M) {a va : Nat} (hs : μ a = some (.inr (7, [.ref va, .int (nI 0), .int (nI 0), .int (nI 0)]))) : Met l yST_coder (Cond.code yST_coder cST_coder 1 (some .byte) :: Wd) ({ frames := 0, cells := 0, slots := 0, locals := 0 } : Room) (kPre g μ [.ref a]) (kQi g (fun (r : Int32) (μ1 : km_M) => r = nI 0 ∧ μ1 = μ)) 0 0 (kF g) := by
  refine k_met (by decide) (Nat.le_of_ble_eq_true rfl) ?_
  intro p e s m below meth c hx hb hr hlocks hml hown hnm hW ls hl H locs hM
  have hl : lv_has ls 1 [(0, .ref a)] := hl
  refine va_gets (C := "java/lang/String") (n := "COMPACT_STRINGS") (d := "Z") (v := .int (nI 1)) hx hb (hM.2.1.2.2.2.2.2.1 ("java/lang/String", "COMPACT_STRINGS", "Z", 1) (by decide +kernel)) hM.2.2.2 hown (hW _ w_354) (fun _ h => h) dST_coder_0 ?_
  refine lv_if_eq (tgt := 13) hx hb dST_coder_3 (by decide) (fun h => absurd h (by decide)) (fun _ => ?_)
  refine lv_aload_n hx hb dST_coder_6 rfl (lv_at hl 0 rfl) ?_
  refine k_get (own := RST) (ref := RST) (C := RST) (T := TST) (N := 4) (ci := 7) (v := .int (nI 0)) hx hb hW inST hown hM hs rfl 1 (by decide) (hW _ w_399) (fun _ h => h) rfl dST_coder_7 ?_
  refine lv_goto (tgt := 14) hx hb dST_coder_10 (by decide) ?_
  exact kr_z hx hb hr (by decide) hlocks hM dST_coder_14 (⟨by first | rfl | exact bI_t (by omega) | exact bI_f (by omega), rfl⟩)
set_option maxHeartbeats 800000 in
set_option maxRecDepth 100000 in
theorem mST_isLatin1 (l : Launch) (g : kG) (μ : km_M) {a va : Nat} (hs : μ a = some (.inr (7, [.ref va, .int (nI 0), .int (nI 0), .int (nI 0)]))) : Met l yST_isLatin1 (Cond.code yST_isLatin1 cST_isLatin1 1 (some .boolean) :: Wd) ({ frames := 0, cells := 0, slots := 0, locals := 0 } : Room) (kPre g μ [.ref a]) (kQi g (fun (r : Int32) (μ1 : km_M) => r = nI 1 ∧ μ1 = μ)) 0 0 (kF g) := by
  refine k_met (by decide) (Nat.le_of_ble_eq_true rfl) ?_
  intro p e s m below meth c hx hb hr hlocks hml hown hnm hW ls hl H locs hM
  have hl : lv_has ls 1 [(0, .ref a)] := hl
  refine va_gets (C := "java/lang/String") (n := "COMPACT_STRINGS") (d := "Z") (v := .int (nI 1)) hx hb (hM.2.1.2.2.2.2.2.1 ("java/lang/String", "COMPACT_STRINGS", "Z", 1) (by decide +kernel)) hM.2.2.2 hown (hW _ w_354) (fun _ h => h) dST_isLatin1_0 ?_
  refine lv_if_eq (tgt := 17) hx hb dST_isLatin1_3 (by decide) (fun h => absurd h (by decide)) (fun _ => ?_)
  refine lv_aload_n hx hb dST_isLatin1_6 rfl (lv_at hl 0 rfl) ?_
  refine k_get (own := RST) (ref := RST) (C := RST) (T := TST) (N := 4) (ci := 7) (v := .int (nI 0)) hx hb hW inST hown hM hs rfl 1 (by decide) (hW _ w_399) (fun _ h => h) rfl dST_isLatin1_7 ?_
  refine lv_if_ne (tgt := 17) hx hb dST_isLatin1_10 (by decide) (fun h => absurd (by decide) h) (fun _ => ?_)
  refine lv_iconst (v := nI 1) hx hb dST_isLatin1_13 (by decide) ?_
  refine lv_goto (tgt := 18) hx hb dST_isLatin1_14 (by decide) ?_
  exact kr_z hx hb hr (by decide) hlocks hM dST_isLatin1_18 (⟨by first | rfl | exact bI_t (by omega) | exact bI_f (by omega), rfl⟩)
set_option maxHeartbeats 800000 in
set_option maxRecDepth 100000 in
theorem mST_length (l : Launch) (g : kG) (μ : km_M) {a va n : Nat} {f : Nat → Nat} (hs : μ a = some (.inr (7, [.ref va, .int (nI 0), .int (nI 0), .int (nI 0)]))) (hv : μ va = some (.inl (g.2.2.1 0, n, .inl (fun j => sb (f j))))) (hf : ∀ k, f k < 256) (hn : n ≤ 400) : Met l yST_length (Cond.code yST_length cST_length 1 (some .int) :: Wd) ({ frames := 1, cells := 0, slots := 0, locals := 20 } : Room) (kPre g μ [.ref a]) (kQi g (fun (r : Int32) (μ1 : km_M) => r = nI n ∧ μ1 = μ)) 0 0 (kF g) := by
  refine k_met (by decide) (Nat.le_of_ble_eq_true rfl) ?_
  intro p e s m below meth c hx hb hr hlocks hml hown hnm hW ls hl H locs hM
  have hl : lv_has ls 1 [(0, .ref a)] := hl
  refine lv_aload_n hx hb dST_length_0 rfl (lv_at hl 0 rfl) ?_
  refine k_get (own := RST) (ref := RST) (C := RST) (T := TST) (N := 4) (ci := 7) (v := .ref va) hx hb hW inST hown hM hs rfl 0 (by decide) (hW _ w_398) (fun _ h => h) rfl dST_length_1 ?_
  refine k_alen hx hb hM 0 hv rfl dST_length_4 ?_
  refine lv_aload_n hx hb dST_length_5 rfl (lv_at hl 0 rfl) ?_
  refine kc_i (va_runV (C := RST) (As := []) (b := a) (rest := [.int (nI n)]) (Ts := Wd) ⟨hx, hb, hml, hown, hW⟩ (mST_coder l g μ hs) (cwV 0 hW (k_gV w_434 w_435 w_436 w_9 w_437) rfl rfl rfl (by decide +kernel) ⟨Nat.le_of_ble_eq_true rfl, Nat.le_of_ble_eq_true rfl⟩) (k_preV (q := (RST, TST, 4)) hM hs rfl) rfl rfl hl.1 rfl (lv_room (Nat.le_of_ble_eq_true rfl)) dST_length_6 ⟨Nat.zero_le _, Nat.zero_le _⟩) hM (fun r μ1 H locs hp hM => ?_)
  obtain ⟨rfl, hmu⟩ := hp
  rw [hmu] at hM
  refine lv_ishr hx hb dST_length_9 ?_
  refine topi_eq (y := nI n) (shr_0 (by omega)) ?_
  exact kr_i hx hb hr hlocks hM dST_length_10 (⟨by first | rfl | exact bI_t (by omega) | exact bI_f (by omega), rfl⟩)
set_option maxHeartbeats 800000 in
set_option maxRecDepth 100000 in
theorem mSL_charAt (l : Launch) (g : kG) (μ : km_M) {va n i : Nat} {f : Nat → Nat} (hv : μ va = some (.inl (g.2.2.1 0, n, .inl (fun j => sb (f j))))) (hf : ∀ k, f k < 256) (hn : n ≤ 400) (hi : i < n) : Met l ySL_charAt (Cond.code ySL_charAt cSL_charAt 2 (some .char) :: Wd) ({ frames := 2, cells := 0, slots := 0, locals := 43 } : Room) (kPre g μ [.ref va, .int (nI i)]) (kQi g (fun (r : Int32) (μ1 : km_M) => r = nI (f i) ∧ μ1 = μ)) 0 0 (kF g) := by
  refine k_met (by decide) (Nat.le_of_ble_eq_true rfl) ?_
  intro p e s m below meth c hx hb hr hlocks hml hown hnm hW ls hl H locs hM
  have hl : lv_has ls 2 [(0, .ref va), (1, .int (nI i))] := hl
  refine lv_iload_n hx hb dSL_charAt_0 rfl (lv_at hl 1 rfl) ?_
  refine lv_aload_n hx hb dSL_charAt_1 rfl (lv_at hl 0 rfl) ?_
  refine k_alen hx hb hM 0 hv rfl dSL_charAt_2 ?_
  refine kc_v (va_runS (As := [.int (nI i), .int (nI n)]) (rest := []) (Ts := Wd) ⟨hx, hb, hml, hown, hW⟩ (mST_checkIndex l g μ (i := i) (n := n) (by omega) (by omega)) (va_cwS 2 hW (k_gS w_449 w_450 w_9 w_451) rfl rfl rfl (by decide +kernel) ⟨Nat.le_of_ble_eq_true rfl, Nat.le_of_ble_eq_true rfl⟩) (k_preS hM) rfl rfl hl.1 rfl (lv_room (Nat.le_of_ble_eq_true rfl)) dSL_charAt_3 ⟨Nat.zero_le _, Nat.zero_le _⟩) hM (fun μ1 H locs hp hM => ?_)
  rw [hp] at hM
  refine lv_aload_n hx hb dSL_charAt_6 rfl (lv_at hl 0 rfl) ?_
  refine lv_iload_n hx hb dSL_charAt_7 rfl (lv_at hl 1 rfl) ?_
  refine k_bald (i := i) hx hb hM 0 hv rfl (by omega) (by omega) dSL_charAt_8 ?_
  refine lv_sipush (v := nI 255) hx hb dSL_charAt_9 (by decide) ?_
  refine lv_iand hx hb dSL_charAt_12 ?_
  refine topi_eq (y := nI (f i)) (sb_255 _ (hf i)) ?_
  refine lv_i2c (v := nI (f i)) hx hb dSL_charAt_13 (nI_c (Nat.lt_trans (hf i) (by decide))) ?_
  exact kr_z hx hb hr ((pk_charN (by exact Nat.lt_trans (hf i) (by decide))).1) hlocks hM dSL_charAt_14 (⟨by first | rfl | exact bI_t (by omega) | exact bI_f (by omega), rfl⟩)
set_option maxHeartbeats 800000 in
set_option maxRecDepth 100000 in
theorem mST_charAt (l : Launch) (g : kG) (μ : km_M) {a va n : Nat} {f : Nat → Nat} (hs : μ a = some (.inr (7, [.ref va, .int (nI 0), .int (nI 0), .int (nI 0)]))) (hv : μ va = some (.inl (g.2.2.1 0, n, .inl (fun j => sb (f j))))) (hf : ∀ k, f k < 256) (hn : n ≤ 400) {i : Nat} (hi : i < n) : Met l yST_charAt (Cond.code yST_charAt cST_charAt 2 (some .char) :: Wd) ({ frames := 3, cells := 0, slots := 0, locals := 64 } : Room) (kPre g μ [.ref a, .int (nI i)]) (kQi g (fun (r : Int32) (μ1 : km_M) => r = nI (f i) ∧ μ1 = μ)) 0 0 (kF g) := by
  refine k_met (by decide) (Nat.le_of_ble_eq_true rfl) ?_
  intro p e s m below meth c hx hb hr hlocks hml hown hnm hW ls hl H locs hM
  have hl : lv_has ls 2 [(0, .ref a), (1, .int (nI i))] := hl
  refine lv_aload_n hx hb dST_charAt_0 rfl (lv_at hl 0 rfl) ?_
  refine kc_i (va_runV (C := RST) (As := []) (b := a) (rest := []) (Ts := Wd) ⟨hx, hb, hml, hown, hW⟩ (mST_isLatin1 l g μ hs) (cwV 0 hW (k_gV w_442 w_443 w_444 w_9 w_445) rfl rfl rfl (by decide +kernel) ⟨Nat.le_of_ble_eq_true rfl, Nat.le_of_ble_eq_true rfl⟩) (k_preV (q := (RST, TST, 4)) hM hs rfl) rfl rfl hl.1 rfl (lv_room (Nat.le_of_ble_eq_true rfl)) dST_charAt_1 ⟨Nat.zero_le _, Nat.zero_le _⟩) hM (fun r μ1 H locs hp hM => ?_)
  obtain ⟨rfl, hmu⟩ := hp
  rw [hmu] at hM
  refine lv_if_eq (tgt := 16) hx hb dST_charAt_4 (by decide) (fun h => absurd h (by decide)) (fun _ => ?_)
  refine lv_aload_n hx hb dST_charAt_7 rfl (lv_at hl 0 rfl) ?_
  refine k_get (own := RST) (ref := RST) (C := RST) (T := TST) (N := 4) (ci := 7) (v := .ref va) hx hb hW inST hown hM hs rfl 0 (by decide) (hW _ w_398) (fun _ h => h) rfl dST_charAt_8 ?_
  refine lv_iload_n hx hb dST_charAt_11 rfl (lv_at hl 1 rfl) ?_
  refine kc_i (va_runS (As := [.ref va, .int (nI i)]) (rest := []) (Ts := Wd) ⟨hx, hb, hml, hown, hW⟩ (mSL_charAt l g μ hv hf (by omega) (i := i) (by omega)) (va_cwS 2 hW (k_gS w_446 w_447 w_13 w_448) rfl rfl rfl (by decide +kernel) ⟨Nat.le_of_ble_eq_true rfl, Nat.le_of_ble_eq_true rfl⟩) (k_preS hM) rfl rfl hl.1 rfl (lv_room (Nat.le_of_ble_eq_true rfl)) dST_charAt_12 ⟨Nat.zero_le _, Nat.zero_le _⟩) hM (fun r μ1 H locs hp hM => ?_)
  obtain ⟨rfl, hmu⟩ := hp
  rw [hmu] at hM
  exact kr_z hx hb hr ((pk_charN (by exact Nat.lt_trans (hf i) (by decide))).1) hlocks hM dST_charAt_15 (⟨by first | rfl | exact bI_t (by omega) | exact bI_f (by omega), rfl⟩)
