-- literals
theorem k_preL {g : kG} {μ : km_M} {s : State} {H : Heap} {locs : List Loc} {i : Nat} {As : List Value} (hM : kS g μ s H locs) (hi : i < 13) : PreV s H "java/lang/String" (g.2.2.2.2.1 i) (kPre g μ (.ref (g.2.2.2.2.1 i) :: As)) As :=
  ⟨kPre_blind, vk_recv hM.2.1.2.2.2.1 hi hM.2.2.2, (k_preS hM).2⟩
theorem kLen_le : ∀ i, i < 13 → kLen.getD i 0 ≤ 6 := by decide +kernel
/-- a literal's bytes as numbers -/
def kb (i j : Nat) : Nat := (([[], [110, 101, 101, 100, 115], [98, 114, 101, 97, 107, 115], [111, 119, 110, 115], [124, 124], [42], [60, 61], [62, 61], [60], [62], [94], [126], [61]] : List (List Nat)).getD i []).getD j 0
theorem kb_sb : ∀ i, i < 13 → ∀ j, j < 6 → (kByt.getD i []).getD j 0 = sb (kb i j) := by decide +kernel
/-- a literal lies apart from all that may be written -/
theorem k_litne {g : kG} {μ : km_M} {s : State} {H : Heap} {locs : List Loc} {i a : Nat} {e : va_E} (hM : kS g μ s H locs) (hi : i < 13) (ha : μ a = some e) : a ≠ g.2.2.2.2.1 i := by
  intro z
  obtain ⟨ws, hP, hD, hr⟩ := hM.2.2.1
  obtain ⟨q0, hq⟩ := (hr _ _).mp ha
  have h1 : g.1 ≤ a := hD.2 q0 _ hq
  obtain ⟨_, _, _, _, h2⟩ := (hM.2.1.2.2.2.1.1 i hi).1
  rw [z] at h1
  exact h2 h1
set_option maxHeartbeats 800000 in
set_option maxRecDepth 100000 in
theorem mST_coderL (l : Launch) (g : kG) (μ : km_M) {i : Nat} (hi : i < 13) : Met l yST_coder (Cond.code yST_coder cST_coder 1 (some .byte) :: Wd) ({ frames := 0, cells := 0, slots := 0, locals := 0 } : Room) (kPre g μ [.ref (g.2.2.2.2.1 i)]) (kQi g (fun (r : Int32) (μ1 : km_M) => r = nI 0 ∧ μ1 = μ)) 0 0 (kF g) := by
  refine k_met (by decide) (Nat.le_of_ble_eq_true rfl) ?_
  intro p e s m below meth c hx hb hr hlocks hml hown hnm hW ls hl H locs hM
  have hl : lv_has ls 1 [(0, .ref (g.2.2.2.2.1 i))] := hl
  refine va_gets (C := "java/lang/String") (n := "COMPACT_STRINGS") (d := "Z") (v := .int (nI 1)) hx hb (hM.2.1.2.2.2.2.2.1 ("java/lang/String", "COMPACT_STRINGS", "Z", 1) (by decide +kernel)) hM.2.2.2 hown (hW _ w_354) (fun _ h => h) dST_coder_0 ?_
  refine lv_if_eq (tgt := 13) hx hb dST_coder_3 (by decide) (fun h => absurd h (by decide)) (fun _ => ?_)
  refine lv_aload_n hx hb dST_coder_6 rfl (lv_at hl 0 rfl) ?_
  refine vk_getf (o := "java/lang/String") (n := "coder") (d := "B") (q := g.2.2.2.2.1 i) (v := .int (nI 0)) hx hb (hM.2.1.2.2.2.1.1 i (hi)).2.1 hM.2.2.2 hown (hW _ w_399) (fun _ h => h) dST_coder_7 ?_
  refine lv_goto (tgt := 14) hx hb dST_coder_10 (by decide) ?_
  exact kr_z hx hb hr (by decide) hlocks hM dST_coder_14 (⟨by first | rfl | exact bI_t (by omega) | exact bI_f (by omega), rfl⟩)
set_option maxHeartbeats 800000 in
set_option maxRecDepth 100000 in
theorem mST_lengthL (l : Launch) (g : kG) (μ : km_M) {i : Nat} (hi : i < 13) : Met l yST_length (Cond.code yST_length cST_length 1 (some .int) :: Wd) ({ frames := 1, cells := 0, slots := 0, locals := 20 } : Room) (kPre g μ [.ref (g.2.2.2.2.1 i)]) (kQi g (fun (r : Int32) (μ1 : km_M) => r = nI (kLen.getD i 0) ∧ μ1 = μ)) 0 0 (kF g) := by
  refine k_met (by decide) (Nat.le_of_ble_eq_true rfl) ?_
  intro p e s m below meth c hx hb hr hlocks hml hown hnm hW ls hl H locs hM
  have hl : lv_has ls 1 [(0, .ref (g.2.2.2.2.1 i))] := hl
  have hkl := kLen_le i hi
  refine lv_aload_n hx hb dST_length_0 rfl (lv_at hl 0 rfl) ?_
  refine vk_getf (o := "java/lang/String") (n := "value") (d := "[B") (q := g.2.2.2.2.1 i) (v := .ref (g.2.2.2.2.2 i)) hx hb (hM.2.1.2.2.2.1.1 i (hi)).2.2.1 hM.2.2.2 hown (hW _ w_398) (fun _ h => h) dST_length_1 ?_
  refine va_tlen (v := nI (kLen.getD i 0)) hx hb (hM.2.1.2.2.2.1.1 i (hi)).2.2.2 hM.2.2.2 rfl dST_length_4 ?_
  refine lv_aload_n hx hb dST_length_5 rfl (lv_at hl 0 rfl) ?_
  refine kc_i (va_runV (C := RST) (As := []) (b := g.2.2.2.2.1 i) (rest := [.int (nI (kLen.getD i 0))]) (Ts := Wd) ⟨hx, hb, hml, hown, hW⟩ (mST_coderL l g μ hi) (cwV 0 hW (k_gV w_434 w_435 w_436 w_9 w_437) rfl rfl rfl (by decide +kernel) ⟨Nat.le_of_ble_eq_true rfl, Nat.le_of_ble_eq_true rfl⟩) (k_preL hM (hi)) rfl rfl hl.1 rfl (lv_room (Nat.le_of_ble_eq_true rfl)) dST_length_6 ⟨Nat.zero_le _, Nat.zero_le _⟩) hM (fun r μ1 H locs hp hM => ?_)
  obtain ⟨rfl, hmu⟩ := hp
  rw [hmu] at hM
  refine lv_ishr hx hb dST_length_9 ?_
  refine topi_eq (y := nI (kLen.getD i 0)) (shr_0 (by omega)) ?_
  exact kr_i hx hb hr hlocks hM dST_length_10 (⟨by first | rfl | exact bI_t (by omega) | exact bI_f (by omega), rfl⟩)
set_option maxHeartbeats 800000 in
set_option maxRecDepth 100000 in
theorem mMD_digitsL (l : Launch) (g : kG) (μ : km_M)  : Met l yMD_digits (Cond.code yMD_digits cMD_digits 2 (some .boolean) :: Wd) ({ frames := 4, cells := 0, slots := 0, locals := 85 } : Room) (kPre g μ [.ref (g.2.2.2.2.1 0)]) (kQi g (fun (r : Int32) (μ1 : km_M) => r = nI 0 ∧ μ1 = μ)) 0 0 (kF g) := by
  refine k_met (by decide) (Nat.le_of_ble_eq_true rfl) ?_
  intro p e s m below meth c hx hb hr hlocks hml hown hnm hW ls hl H locs hM
  have hl : lv_has ls 2 [(0, .ref (g.2.2.2.2.1 0))] := hl
  refine lv_iconst (v := nI 0) hx hb dMD_digits_0 (by decide) ?_
  refine lv_istore_n (lv' := [(1, .int (nI 0)), (0, .ref (g.2.2.2.2.1 0))]) hx hb dMD_digits_1 rfl hl (by decide) rfl (fun ls hl => ?_)
  refine lv_iload_n hx hb dMD_digits_2 rfl (lv_at hl 0 rfl) ?_
  refine lv_aload_n hx hb dMD_digits_3 rfl (lv_at hl 1 rfl) ?_
  refine kc_i (va_runV (C := RST) (As := []) (b := g.2.2.2.2.1 0) (rest := [.int (nI 0)]) (Ts := Wd) ⟨hx, hb, hml, hown, hW⟩ (mST_lengthL l g μ (i := 0) (by decide)) (cwV 0 hW (k_gV w_430 w_431 w_432 w_9 w_433) rfl rfl rfl (by decide +kernel) ⟨Nat.le_of_ble_eq_true rfl, Nat.le_of_ble_eq_true rfl⟩) (k_preL hM (by decide)) rfl rfl hl.1 rfl (lv_room (Nat.le_of_ble_eq_true rfl)) dMD_digits_4 ⟨Nat.zero_le _, Nat.zero_le _⟩) hM (fun r μ1 H locs hp hM => ?_)
  obtain ⟨rfl, hmu⟩ := hp
  rw [hmu] at hM
  refine topi_eq (y := nI 0) rfl ?_
  refine lv_icmp_ge (tgt := 29) hx hb dMD_digits_7 (by decide) (fun _ => ?_) (fun h => absurd (by decide) h)
  refine lv_aload_n hx hb dMD_digits_29 rfl (lv_at hl 1 rfl) ?_
  refine kc_i (va_runV (C := RST) (As := []) (b := g.2.2.2.2.1 0) (rest := []) (Ts := Wd) ⟨hx, hb, hml, hown, hW⟩ (mST_lengthL l g μ (i := 0) (by decide)) (cwV 0 hW (k_gV w_430 w_431 w_432 w_9 w_433) rfl rfl rfl (by decide +kernel) ⟨Nat.le_of_ble_eq_true rfl, Nat.le_of_ble_eq_true rfl⟩) (k_preL hM (by decide)) rfl rfl hl.1 rfl (lv_room (Nat.le_of_ble_eq_true rfl)) dMD_digits_30 ⟨Nat.zero_le _, Nat.zero_le _⟩) hM (fun r μ1 H locs hp hM => ?_)
  obtain ⟨rfl, hmu⟩ := hp
  rw [hmu] at hM
  refine topi_eq (y := nI 0) rfl ?_
  refine lv_if_le (tgt := 40) hx hb dMD_digits_33 (by decide) (fun _ => ?_) (fun h => absurd (by decide) h)
  refine lv_iconst (v := nI 0) hx hb dMD_digits_40 (by decide) ?_
  exact kr_z hx hb hr (by decide) hlocks hM dMD_digits_41 (⟨rfl, rfl⟩)
set_option maxHeartbeats 800000 in
set_option maxRecDepth 100000 in
theorem mMD_numberL (l : Launch) (g : kG) (μ : km_M) {mo : Nat} : Met l yMD_number (Cond.code yMD_number cMD_number 4 (some .int) :: Wd) ({ frames := 5, cells := 0, slots := 0, locals := 106 } : Room) (kPre g μ [.ref (g.2.2.2.2.1 0), .int (nI mo)]) (kQi g (fun (r : Int32) (μ1 : km_M) => r = (-1) ∧ μ1 = μ)) 0 0 (kF g) := by
  refine k_met (by decide) (Nat.le_of_ble_eq_true rfl) ?_
  intro p e s m below meth c hx hb hr hlocks hml hown hnm hW ls hl H locs hM
  have hl : lv_has ls 4 [(0, .ref (g.2.2.2.2.1 0)), (1, .int (nI mo))] := hl
  refine lv_aload_n hx hb dMD_number_0 rfl (lv_at hl 0 rfl) ?_
  refine kc_i (va_runS (As := [.ref (g.2.2.2.2.1 0)]) (rest := []) (Ts := Wd) ⟨hx, hb, hml, hown, hW⟩ (mMD_digitsL l g μ) (va_cwS 1 hW (k_gS w_519 w_520 w_7 w_521) rfl rfl rfl (by decide +kernel) ⟨Nat.le_of_ble_eq_true rfl, Nat.le_of_ble_eq_true rfl⟩) (k_preS hM) rfl rfl hl.1 rfl (lv_room (Nat.le_of_ble_eq_true rfl)) dMD_number_1 ⟨Nat.zero_le _, Nat.zero_le _⟩) hM (fun r μ1 H locs hp hM => ?_)
  obtain ⟨rfl, hmu⟩ := hp
  rw [hmu] at hM
  refine lv_if_eq (tgt := 33) hx hb dMD_number_4 (by decide) (fun _ => ?_) (fun h => absurd (by decide) h)
  refine lv_iconst (v := (-1)) hx hb dMD_number_33 (by decide) ?_
  exact kr_i hx hb hr hlocks hM dMD_number_34 (⟨rfl, rfl⟩)
