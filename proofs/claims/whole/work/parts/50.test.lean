set_option maxHeartbeats 800000 in
set_option maxRecDepth 100000 in
theorem mMD_test_1 (l : Launch) (g : kG) (μ : km_M) {a na_a ka_a : Nat} {NN_a : Nat → Nat} {M_a : Nat → Option Nat} {sa_a sv_a : Nat → Nat} {F_a : Nat → Nat → Nat} {v : kVer} (hb_a : kMV g μ a na_a ka_a NN_a M_a sa_a sv_a F_a v) {b na_b ka_b : Nat} {NN_b : Nat → Nat} {M_b : Nat → Option Nat} {sa_b sv_b : Nat → Nat} {F_b : Nat → Nat → Nat} {u : kVer} (hb_b : kMV g μ b na_b ka_b NN_b M_b sa_b sv_b F_b u) : Met l yMD_test (Cond.code yMD_test cMD_test 5 (some .boolean) :: Wd) ({ frames := 8, cells := 0, slots := 0, locals := 176 } : Room) (kPre g μ [.int (nI 1), .ref a, .ref b]) (kQi g (fun (r : Int32) (μ1 : km_M) => r = bI (hldR 1 (rowOf u) (n3F (fun _ => 0) (ceT 1 u.1 u.2.1 u.2.2.1)) (rowOf v)) ∧ μ1 = μ)) 0 0 (kF g) := by
  refine k_met (by decide) (Nat.le_of_ble_eq_true rfl) ?_
  intro p e s m below meth c hx hb hr hlocks hml hown hnm hW ls hl H locs hM
  have hl : lv_has ls 5 [(0, .int (nI 1)), (1, .ref a), (2, .ref b)] := hl
  obtain ⟨ea0, ea1, ea2, ba0, ba1, ba2⟩ : NN_a 0 = v.1 ∧ NN_a 1 = v.2.1 ∧ NN_a 2 = v.2.2.1 ∧ v.1 < 1000000000 ∧ v.2.1 < 1000000000 ∧ v.2.2.1 < 1000000000 := ⟨hb_a.2.2.1, hb_a.2.2.2.1, hb_a.2.2.2.2.1, hb_a.2.2.2.2.2.1, hb_a.2.2.2.2.2.2.1, hb_a.2.2.2.2.2.2.2.1⟩
  have la4 : v.2.2.2.length ≤ 4 := hb_a.2.2.2.2.2.2.2.2.2.1
  obtain ⟨eb0, eb1, eb2, bb0, bb1, bb2⟩ : NN_b 0 = u.1 ∧ NN_b 1 = u.2.1 ∧ NN_b 2 = u.2.2.1 ∧ u.1 < 1000000000 ∧ u.2.1 < 1000000000 ∧ u.2.2.1 < 1000000000 := ⟨hb_b.2.2.1, hb_b.2.2.2.1, hb_b.2.2.2.2.1, hb_b.2.2.2.2.2.1, hb_b.2.2.2.2.2.2.1, hb_b.2.2.2.2.2.2.2.1⟩
  have lb4 : u.2.2.2.length ≤ 4 := hb_b.2.2.2.2.2.2.2.2.2.1
  refine lv_iload_n hx hb dMD_test_0 rfl (lv_at hl 0 rfl) ?_
  refine lv_if_ne (tgt := 6) hx hb dMD_test_1 (by decide) (fun _ => ?_) (fun h => absurd h (by decide))
  refine lv_aload_n hx hb dMD_test_6 rfl (lv_at hl 1 rfl) ?_
  refine lv_aload_n hx hb dMD_test_7 rfl (lv_at hl 2 rfl) ?_
  refine kc_i (va_runS (As := [.ref a, .ref b]) (rest := []) (Ts := Wd) ⟨hx, hb, hml, hown, hW⟩ (mMD_order l g μ hb_a hb_b) (va_cwS 2 hW (k_gS w_533 w_534 w_7 w_535) rfl rfl rfl (by decide +kernel) ⟨Nat.le_of_ble_eq_true rfl, Nat.le_of_ble_eq_true rfl⟩) (k_preS hM) rfl rfl hl.1 rfl (lv_room (Nat.le_of_ble_eq_true rfl)) dMD_test_8 ⟨Nat.zero_le _, Nat.zero_le _⟩) hM (fun r μ1 H locs hp hM => ?_)
  obtain ⟨rfl, hmu⟩ := hp
  rw [hmu] at hM
  refine lv_istore_n (lv' := [(3, .int (oF (rowOf v) (rowOf u) 0 7)), (0, .int (nI 1)), (1, .ref a), (2, .ref b)]) hx hb dMD_test_11 rfl hl (by decide) rfl (fun ls hl => ?_)
  refine lv_aload_n hx hb dMD_test_12 rfl (lv_at hl 3 rfl) ?_
  refine k_get (own := RMD) (ref := RMV) (C := RMV) (T := TMV) (N := 3) (ci := 5) (v := .ref na_b) hx hb hW inMV hown hM hb_b.1 rfl 0 (by decide) (hW _ w_419) (fun _ h => h) rfl dMD_test_13 ?_
  refine lv_astore (lv' := [(4, .ref na_b), (3, .int (oF (rowOf v) (rowOf u) 0 7)), (0, .int (nI 1)), (1, .ref a), (2, .ref b)]) hx hb dMD_test_16 hl (by decide) rfl (fun ls hl => ?_)
  refine lv_iload_n hx hb dMD_test_18 rfl (lv_at hl 2 rfl) ?_
  refine lv_tableIn (tgt := 56) (off := 37) hx hb dMD_test_19 (by decide) (by decide) (by decide) (by decide) ?_
  refine lv_iload_n hx hb dMD_test_56 rfl (lv_at hl 1 rfl) ?_
  refine lv_if_ne (tgt := 64) hx hb dMD_test_57 (by decide) (fun h57 => ?_) (fun h57 => ?_)
  · skip
    refine lv_iconst (v := nI 0) hx hb dMD_test_64 (by decide) ?_
    exact kr_z hx hb hr (by decide) hlocks hM dMD_test_65 (⟨by rw [tk1]; first | rw [if_pos h57] | rw [if_neg h57], rfl⟩)
  · skip
    refine lv_iconst (v := nI 1) hx hb dMD_test_60 (by decide) ?_
    refine lv_goto (tgt := 65) hx hb dMD_test_61 (by decide) ?_
    exact kr_z hx hb hr (by decide) hlocks hM dMD_test_65 (⟨by rw [tk1]; first | rw [if_pos h57] | rw [if_neg h57], rfl⟩)
set_option maxHeartbeats 800000 in
set_option maxRecDepth 100000 in
theorem mMD_test_2 (l : Launch) (g : kG) (μ : km_M) {a na_a ka_a : Nat} {NN_a : Nat → Nat} {M_a : Nat → Option Nat} {sa_a sv_a : Nat → Nat} {F_a : Nat → Nat → Nat} {v : kVer} (hb_a : kMV g μ a na_a ka_a NN_a M_a sa_a sv_a F_a v) {b na_b ka_b : Nat} {NN_b : Nat → Nat} {M_b : Nat → Option Nat} {sa_b sv_b : Nat → Nat} {F_b : Nat → Nat → Nat} {u : kVer} (hb_b : kMV g μ b na_b ka_b NN_b M_b sa_b sv_b F_b u) : Met l yMD_test (Cond.code yMD_test cMD_test 5 (some .boolean) :: Wd) ({ frames := 8, cells := 0, slots := 0, locals := 176 } : Room) (kPre g μ [.int (nI 2), .ref a, .ref b]) (kQi g (fun (r : Int32) (μ1 : km_M) => r = bI (hldR 2 (rowOf u) (n3F (fun _ => 0) (ceT 2 u.1 u.2.1 u.2.2.1)) (rowOf v)) ∧ μ1 = μ)) 0 0 (kF g) := by
  refine k_met (by decide) (Nat.le_of_ble_eq_true rfl) ?_
  intro p e s m below meth c hx hb hr hlocks hml hown hnm hW ls hl H locs hM
  have hl : lv_has ls 5 [(0, .int (nI 2)), (1, .ref a), (2, .ref b)] := hl
  obtain ⟨ea0, ea1, ea2, ba0, ba1, ba2⟩ : NN_a 0 = v.1 ∧ NN_a 1 = v.2.1 ∧ NN_a 2 = v.2.2.1 ∧ v.1 < 1000000000 ∧ v.2.1 < 1000000000 ∧ v.2.2.1 < 1000000000 := ⟨hb_a.2.2.1, hb_a.2.2.2.1, hb_a.2.2.2.2.1, hb_a.2.2.2.2.2.1, hb_a.2.2.2.2.2.2.1, hb_a.2.2.2.2.2.2.2.1⟩
  have la4 : v.2.2.2.length ≤ 4 := hb_a.2.2.2.2.2.2.2.2.2.1
  obtain ⟨eb0, eb1, eb2, bb0, bb1, bb2⟩ : NN_b 0 = u.1 ∧ NN_b 1 = u.2.1 ∧ NN_b 2 = u.2.2.1 ∧ u.1 < 1000000000 ∧ u.2.1 < 1000000000 ∧ u.2.2.1 < 1000000000 := ⟨hb_b.2.2.1, hb_b.2.2.2.1, hb_b.2.2.2.2.1, hb_b.2.2.2.2.2.1, hb_b.2.2.2.2.2.2.1, hb_b.2.2.2.2.2.2.2.1⟩
  have lb4 : u.2.2.2.length ≤ 4 := hb_b.2.2.2.2.2.2.2.2.2.1
  refine lv_iload_n hx hb dMD_test_0 rfl (lv_at hl 0 rfl) ?_
  refine lv_if_ne (tgt := 6) hx hb dMD_test_1 (by decide) (fun _ => ?_) (fun h => absurd h (by decide))
  refine lv_aload_n hx hb dMD_test_6 rfl (lv_at hl 1 rfl) ?_
  refine lv_aload_n hx hb dMD_test_7 rfl (lv_at hl 2 rfl) ?_
  refine kc_i (va_runS (As := [.ref a, .ref b]) (rest := []) (Ts := Wd) ⟨hx, hb, hml, hown, hW⟩ (mMD_order l g μ hb_a hb_b) (va_cwS 2 hW (k_gS w_533 w_534 w_7 w_535) rfl rfl rfl (by decide +kernel) ⟨Nat.le_of_ble_eq_true rfl, Nat.le_of_ble_eq_true rfl⟩) (k_preS hM) rfl rfl hl.1 rfl (lv_room (Nat.le_of_ble_eq_true rfl)) dMD_test_8 ⟨Nat.zero_le _, Nat.zero_le _⟩) hM (fun r μ1 H locs hp hM => ?_)
  obtain ⟨rfl, hmu⟩ := hp
  rw [hmu] at hM
  refine lv_istore_n (lv' := [(3, .int (oF (rowOf v) (rowOf u) 0 7)), (0, .int (nI 2)), (1, .ref a), (2, .ref b)]) hx hb dMD_test_11 rfl hl (by decide) rfl (fun ls hl => ?_)
  refine lv_aload_n hx hb dMD_test_12 rfl (lv_at hl 3 rfl) ?_
  refine k_get (own := RMD) (ref := RMV) (C := RMV) (T := TMV) (N := 3) (ci := 5) (v := .ref na_b) hx hb hW inMV hown hM hb_b.1 rfl 0 (by decide) (hW _ w_419) (fun _ h => h) rfl dMD_test_13 ?_
  refine lv_astore (lv' := [(4, .ref na_b), (3, .int (oF (rowOf v) (rowOf u) 0 7)), (0, .int (nI 2)), (1, .ref a), (2, .ref b)]) hx hb dMD_test_16 hl (by decide) rfl (fun ls hl => ?_)
  refine lv_iload_n hx hb dMD_test_18 rfl (lv_at hl 2 rfl) ?_
  refine lv_tableIn (tgt := 66) (off := 47) hx hb dMD_test_19 (by decide) (by decide) (by decide) (by decide) ?_
  refine lv_iload_n hx hb dMD_test_66 rfl (lv_at hl 1 rfl) ?_
  refine lv_if_ge (tgt := 74) hx hb dMD_test_67 (by decide) (fun h67 => ?_) (fun h67 => ?_)
  · skip
    refine lv_iconst (v := nI 0) hx hb dMD_test_74 (by decide) ?_
    exact kr_z hx hb hr (by decide) hlocks hM dMD_test_75 (⟨by rw [tk2]; first | rw [if_pos h67] | rw [if_neg h67], rfl⟩)
  · skip
    refine lv_iconst (v := nI 1) hx hb dMD_test_70 (by decide) ?_
    refine lv_goto (tgt := 75) hx hb dMD_test_71 (by decide) ?_
    exact kr_z hx hb hr (by decide) hlocks hM dMD_test_75 (⟨by rw [tk2]; first | rw [if_pos h67] | rw [if_neg h67], rfl⟩)
set_option maxHeartbeats 800000 in
set_option maxRecDepth 100000 in
theorem mMD_test_3 (l : Launch) (g : kG) (μ : km_M) {a na_a ka_a : Nat} {NN_a : Nat → Nat} {M_a : Nat → Option Nat} {sa_a sv_a : Nat → Nat} {F_a : Nat → Nat → Nat} {v : kVer} (hb_a : kMV g μ a na_a ka_a NN_a M_a sa_a sv_a F_a v) {b na_b ka_b : Nat} {NN_b : Nat → Nat} {M_b : Nat → Option Nat} {sa_b sv_b : Nat → Nat} {F_b : Nat → Nat → Nat} {u : kVer} (hb_b : kMV g μ b na_b ka_b NN_b M_b sa_b sv_b F_b u) : Met l yMD_test (Cond.code yMD_test cMD_test 5 (some .boolean) :: Wd) ({ frames := 8, cells := 0, slots := 0, locals := 176 } : Room) (kPre g μ [.int (nI 3), .ref a, .ref b]) (kQi g (fun (r : Int32) (μ1 : km_M) => r = bI (hldR 3 (rowOf u) (n3F (fun _ => 0) (ceT 3 u.1 u.2.1 u.2.2.1)) (rowOf v)) ∧ μ1 = μ)) 0 0 (kF g) := by
  refine k_met (by decide) (Nat.le_of_ble_eq_true rfl) ?_
  intro p e s m below meth c hx hb hr hlocks hml hown hnm hW ls hl H locs hM
  have hl : lv_has ls 5 [(0, .int (nI 3)), (1, .ref a), (2, .ref b)] := hl
  obtain ⟨ea0, ea1, ea2, ba0, ba1, ba2⟩ : NN_a 0 = v.1 ∧ NN_a 1 = v.2.1 ∧ NN_a 2 = v.2.2.1 ∧ v.1 < 1000000000 ∧ v.2.1 < 1000000000 ∧ v.2.2.1 < 1000000000 := ⟨hb_a.2.2.1, hb_a.2.2.2.1, hb_a.2.2.2.2.1, hb_a.2.2.2.2.2.1, hb_a.2.2.2.2.2.2.1, hb_a.2.2.2.2.2.2.2.1⟩
  have la4 : v.2.2.2.length ≤ 4 := hb_a.2.2.2.2.2.2.2.2.2.1
  obtain ⟨eb0, eb1, eb2, bb0, bb1, bb2⟩ : NN_b 0 = u.1 ∧ NN_b 1 = u.2.1 ∧ NN_b 2 = u.2.2.1 ∧ u.1 < 1000000000 ∧ u.2.1 < 1000000000 ∧ u.2.2.1 < 1000000000 := ⟨hb_b.2.2.1, hb_b.2.2.2.1, hb_b.2.2.2.2.1, hb_b.2.2.2.2.2.1, hb_b.2.2.2.2.2.2.1, hb_b.2.2.2.2.2.2.2.1⟩
  have lb4 : u.2.2.2.length ≤ 4 := hb_b.2.2.2.2.2.2.2.2.2.1
  refine lv_iload_n hx hb dMD_test_0 rfl (lv_at hl 0 rfl) ?_
  refine lv_if_ne (tgt := 6) hx hb dMD_test_1 (by decide) (fun _ => ?_) (fun h => absurd h (by decide))
  refine lv_aload_n hx hb dMD_test_6 rfl (lv_at hl 1 rfl) ?_
  refine lv_aload_n hx hb dMD_test_7 rfl (lv_at hl 2 rfl) ?_
  refine kc_i (va_runS (As := [.ref a, .ref b]) (rest := []) (Ts := Wd) ⟨hx, hb, hml, hown, hW⟩ (mMD_order l g μ hb_a hb_b) (va_cwS 2 hW (k_gS w_533 w_534 w_7 w_535) rfl rfl rfl (by decide +kernel) ⟨Nat.le_of_ble_eq_true rfl, Nat.le_of_ble_eq_true rfl⟩) (k_preS hM) rfl rfl hl.1 rfl (lv_room (Nat.le_of_ble_eq_true rfl)) dMD_test_8 ⟨Nat.zero_le _, Nat.zero_le _⟩) hM (fun r μ1 H locs hp hM => ?_)
  obtain ⟨rfl, hmu⟩ := hp
  rw [hmu] at hM
  refine lv_istore_n (lv' := [(3, .int (oF (rowOf v) (rowOf u) 0 7)), (0, .int (nI 3)), (1, .ref a), (2, .ref b)]) hx hb dMD_test_11 rfl hl (by decide) rfl (fun ls hl => ?_)
  refine lv_aload_n hx hb dMD_test_12 rfl (lv_at hl 3 rfl) ?_
  refine k_get (own := RMD) (ref := RMV) (C := RMV) (T := TMV) (N := 3) (ci := 5) (v := .ref na_b) hx hb hW inMV hown hM hb_b.1 rfl 0 (by decide) (hW _ w_419) (fun _ h => h) rfl dMD_test_13 ?_
  refine lv_astore (lv' := [(4, .ref na_b), (3, .int (oF (rowOf v) (rowOf u) 0 7)), (0, .int (nI 3)), (1, .ref a), (2, .ref b)]) hx hb dMD_test_16 hl (by decide) rfl (fun ls hl => ?_)
  refine lv_iload_n hx hb dMD_test_18 rfl (lv_at hl 2 rfl) ?_
  refine lv_tableIn (tgt := 76) (off := 57) hx hb dMD_test_19 (by decide) (by decide) (by decide) (by decide) ?_
  refine lv_iload_n hx hb dMD_test_76 rfl (lv_at hl 1 rfl) ?_
  refine lv_if_gt (tgt := 84) hx hb dMD_test_77 (by decide) (fun h77 => ?_) (fun h77 => ?_)
  · skip
    refine lv_iconst (v := nI 0) hx hb dMD_test_84 (by decide) ?_
    exact kr_z hx hb hr (by decide) hlocks hM dMD_test_85 (⟨by rw [tk3]; first | rw [if_pos h77] | rw [if_neg h77], rfl⟩)
  · skip
    refine lv_iconst (v := nI 1) hx hb dMD_test_80 (by decide) ?_
    refine lv_goto (tgt := 85) hx hb dMD_test_81 (by decide) ?_
    exact kr_z hx hb hr (by decide) hlocks hM dMD_test_85 (⟨by rw [tk3]; first | rw [if_pos h77] | rw [if_neg h77], rfl⟩)
set_option maxHeartbeats 800000 in
set_option maxRecDepth 100000 in
theorem mMD_test_4 (l : Launch) (g : kG) (μ : km_M) {a na_a ka_a : Nat} {NN_a : Nat → Nat} {M_a : Nat → Option Nat} {sa_a sv_a : Nat → Nat} {F_a : Nat → Nat → Nat} {v : kVer} (hb_a : kMV g μ a na_a ka_a NN_a M_a sa_a sv_a F_a v) {b na_b ka_b : Nat} {NN_b : Nat → Nat} {M_b : Nat → Option Nat} {sa_b sv_b : Nat → Nat} {F_b : Nat → Nat → Nat} {u : kVer} (hb_b : kMV g μ b na_b ka_b NN_b M_b sa_b sv_b F_b u) : Met l yMD_test (Cond.code yMD_test cMD_test 5 (some .boolean) :: Wd) ({ frames := 8, cells := 0, slots := 0, locals := 176 } : Room) (kPre g μ [.int (nI 4), .ref a, .ref b]) (kQi g (fun (r : Int32) (μ1 : km_M) => r = bI (hldR 4 (rowOf u) (n3F (fun _ => 0) (ceT 4 u.1 u.2.1 u.2.2.1)) (rowOf v)) ∧ μ1 = μ)) 0 0 (kF g) := by
  refine k_met (by decide) (Nat.le_of_ble_eq_true rfl) ?_
  intro p e s m below meth c hx hb hr hlocks hml hown hnm hW ls hl H locs hM
  have hl : lv_has ls 5 [(0, .int (nI 4)), (1, .ref a), (2, .ref b)] := hl
  obtain ⟨ea0, ea1, ea2, ba0, ba1, ba2⟩ : NN_a 0 = v.1 ∧ NN_a 1 = v.2.1 ∧ NN_a 2 = v.2.2.1 ∧ v.1 < 1000000000 ∧ v.2.1 < 1000000000 ∧ v.2.2.1 < 1000000000 := ⟨hb_a.2.2.1, hb_a.2.2.2.1, hb_a.2.2.2.2.1, hb_a.2.2.2.2.2.1, hb_a.2.2.2.2.2.2.1, hb_a.2.2.2.2.2.2.2.1⟩
  have la4 : v.2.2.2.length ≤ 4 := hb_a.2.2.2.2.2.2.2.2.2.1
  obtain ⟨eb0, eb1, eb2, bb0, bb1, bb2⟩ : NN_b 0 = u.1 ∧ NN_b 1 = u.2.1 ∧ NN_b 2 = u.2.2.1 ∧ u.1 < 1000000000 ∧ u.2.1 < 1000000000 ∧ u.2.2.1 < 1000000000 := ⟨hb_b.2.2.1, hb_b.2.2.2.1, hb_b.2.2.2.2.1, hb_b.2.2.2.2.2.1, hb_b.2.2.2.2.2.2.1, hb_b.2.2.2.2.2.2.2.1⟩
  have lb4 : u.2.2.2.length ≤ 4 := hb_b.2.2.2.2.2.2.2.2.2.1
  refine lv_iload_n hx hb dMD_test_0 rfl (lv_at hl 0 rfl) ?_
  refine lv_if_ne (tgt := 6) hx hb dMD_test_1 (by decide) (fun _ => ?_) (fun h => absurd h (by decide))
  refine lv_aload_n hx hb dMD_test_6 rfl (lv_at hl 1 rfl) ?_
  refine lv_aload_n hx hb dMD_test_7 rfl (lv_at hl 2 rfl) ?_
  refine kc_i (va_runS (As := [.ref a, .ref b]) (rest := []) (Ts := Wd) ⟨hx, hb, hml, hown, hW⟩ (mMD_order l g μ hb_a hb_b) (va_cwS 2 hW (k_gS w_533 w_534 w_7 w_535) rfl rfl rfl (by decide +kernel) ⟨Nat.le_of_ble_eq_true rfl, Nat.le_of_ble_eq_true rfl⟩) (k_preS hM) rfl rfl hl.1 rfl (lv_room (Nat.le_of_ble_eq_true rfl)) dMD_test_8 ⟨Nat.zero_le _, Nat.zero_le _⟩) hM (fun r μ1 H locs hp hM => ?_)
  obtain ⟨rfl, hmu⟩ := hp
  rw [hmu] at hM
  refine lv_istore_n (lv' := [(3, .int (oF (rowOf v) (rowOf u) 0 7)), (0, .int (nI 4)), (1, .ref a), (2, .ref b)]) hx hb dMD_test_11 rfl hl (by decide) rfl (fun ls hl => ?_)
  refine lv_aload_n hx hb dMD_test_12 rfl (lv_at hl 3 rfl) ?_
  refine k_get (own := RMD) (ref := RMV) (C := RMV) (T := TMV) (N := 3) (ci := 5) (v := .ref na_b) hx hb hW inMV hown hM hb_b.1 rfl 0 (by decide) (hW _ w_419) (fun _ h => h) rfl dMD_test_13 ?_
  refine lv_astore (lv' := [(4, .ref na_b), (3, .int (oF (rowOf v) (rowOf u) 0 7)), (0, .int (nI 4)), (1, .ref a), (2, .ref b)]) hx hb dMD_test_16 hl (by decide) rfl (fun ls hl => ?_)
  refine lv_iload_n hx hb dMD_test_18 rfl (lv_at hl 2 rfl) ?_
  refine lv_tableIn (tgt := 86) (off := 67) hx hb dMD_test_19 (by decide) (by decide) (by decide) (by decide) ?_
  refine lv_iload_n hx hb dMD_test_86 rfl (lv_at hl 1 rfl) ?_
  refine lv_if_le (tgt := 94) hx hb dMD_test_87 (by decide) (fun h87 => ?_) (fun h87 => ?_)
  · skip
    refine lv_iconst (v := nI 0) hx hb dMD_test_94 (by decide) ?_
    exact kr_z hx hb hr (by decide) hlocks hM dMD_test_95 (⟨by rw [tk4]; first | rw [if_pos h87] | rw [if_neg h87], rfl⟩)
  · skip
    refine lv_iconst (v := nI 1) hx hb dMD_test_90 (by decide) ?_
    refine lv_goto (tgt := 95) hx hb dMD_test_91 (by decide) ?_
    exact kr_z hx hb hr (by decide) hlocks hM dMD_test_95 (⟨by rw [tk4]; first | rw [if_pos h87] | rw [if_neg h87], rfl⟩)
set_option maxHeartbeats 800000 in
set_option maxRecDepth 100000 in
theorem mMD_test_5 (l : Launch) (g : kG) (μ : km_M) {a na_a ka_a : Nat} {NN_a : Nat → Nat} {M_a : Nat → Option Nat} {sa_a sv_a : Nat → Nat} {F_a : Nat → Nat → Nat} {v : kVer} (hb_a : kMV g μ a na_a ka_a NN_a M_a sa_a sv_a F_a v) {b na_b ka_b : Nat} {NN_b : Nat → Nat} {M_b : Nat → Option Nat} {sa_b sv_b : Nat → Nat} {F_b : Nat → Nat → Nat} {u : kVer} (hb_b : kMV g μ b na_b ka_b NN_b M_b sa_b sv_b F_b u) : Met l yMD_test (Cond.code yMD_test cMD_test 5 (some .boolean) :: Wd) ({ frames := 8, cells := 0, slots := 0, locals := 176 } : Room) (kPre g μ [.int (nI 5), .ref a, .ref b]) (kQi g (fun (r : Int32) (μ1 : km_M) => r = bI (hldR 5 (rowOf u) (n3F (fun _ => 0) (ceT 5 u.1 u.2.1 u.2.2.1)) (rowOf v)) ∧ μ1 = μ)) 0 0 (kF g) := by
  refine k_met (by decide) (Nat.le_of_ble_eq_true rfl) ?_
  intro p e s m below meth c hx hb hr hlocks hml hown hnm hW ls hl H locs hM
  have hl : lv_has ls 5 [(0, .int (nI 5)), (1, .ref a), (2, .ref b)] := hl
  obtain ⟨ea0, ea1, ea2, ba0, ba1, ba2⟩ : NN_a 0 = v.1 ∧ NN_a 1 = v.2.1 ∧ NN_a 2 = v.2.2.1 ∧ v.1 < 1000000000 ∧ v.2.1 < 1000000000 ∧ v.2.2.1 < 1000000000 := ⟨hb_a.2.2.1, hb_a.2.2.2.1, hb_a.2.2.2.2.1, hb_a.2.2.2.2.2.1, hb_a.2.2.2.2.2.2.1, hb_a.2.2.2.2.2.2.2.1⟩
  have la4 : v.2.2.2.length ≤ 4 := hb_a.2.2.2.2.2.2.2.2.2.1
  obtain ⟨eb0, eb1, eb2, bb0, bb1, bb2⟩ : NN_b 0 = u.1 ∧ NN_b 1 = u.2.1 ∧ NN_b 2 = u.2.2.1 ∧ u.1 < 1000000000 ∧ u.2.1 < 1000000000 ∧ u.2.2.1 < 1000000000 := ⟨hb_b.2.2.1, hb_b.2.2.2.1, hb_b.2.2.2.2.1, hb_b.2.2.2.2.2.1, hb_b.2.2.2.2.2.2.1, hb_b.2.2.2.2.2.2.2.1⟩
  have lb4 : u.2.2.2.length ≤ 4 := hb_b.2.2.2.2.2.2.2.2.2.1
  refine lv_iload_n hx hb dMD_test_0 rfl (lv_at hl 0 rfl) ?_
  refine lv_if_ne (tgt := 6) hx hb dMD_test_1 (by decide) (fun _ => ?_) (fun h => absurd h (by decide))
  refine lv_aload_n hx hb dMD_test_6 rfl (lv_at hl 1 rfl) ?_
  refine lv_aload_n hx hb dMD_test_7 rfl (lv_at hl 2 rfl) ?_
  refine kc_i (va_runS (As := [.ref a, .ref b]) (rest := []) (Ts := Wd) ⟨hx, hb, hml, hown, hW⟩ (mMD_order l g μ hb_a hb_b) (va_cwS 2 hW (k_gS w_533 w_534 w_7 w_535) rfl rfl rfl (by decide +kernel) ⟨Nat.le_of_ble_eq_true rfl, Nat.le_of_ble_eq_true rfl⟩) (k_preS hM) rfl rfl hl.1 rfl (lv_room (Nat.le_of_ble_eq_true rfl)) dMD_test_8 ⟨Nat.zero_le _, Nat.zero_le _⟩) hM (fun r μ1 H locs hp hM => ?_)
  obtain ⟨rfl, hmu⟩ := hp
  rw [hmu] at hM
  refine lv_istore_n (lv' := [(3, .int (oF (rowOf v) (rowOf u) 0 7)), (0, .int (nI 5)), (1, .ref a), (2, .ref b)]) hx hb dMD_test_11 rfl hl (by decide) rfl (fun ls hl => ?_)
  refine lv_aload_n hx hb dMD_test_12 rfl (lv_at hl 3 rfl) ?_
  refine k_get (own := RMD) (ref := RMV) (C := RMV) (T := TMV) (N := 3) (ci := 5) (v := .ref na_b) hx hb hW inMV hown hM hb_b.1 rfl 0 (by decide) (hW _ w_419) (fun _ h => h) rfl dMD_test_13 ?_
  refine lv_astore (lv' := [(4, .ref na_b), (3, .int (oF (rowOf v) (rowOf u) 0 7)), (0, .int (nI 5)), (1, .ref a), (2, .ref b)]) hx hb dMD_test_16 hl (by decide) rfl (fun ls hl => ?_)
  refine lv_iload_n hx hb dMD_test_18 rfl (lv_at hl 2 rfl) ?_
  refine lv_tableIn (tgt := 96) (off := 77) hx hb dMD_test_19 (by decide) (by decide) (by decide) (by decide) ?_
  refine lv_iload_n hx hb dMD_test_96 rfl (lv_at hl 1 rfl) ?_
  refine lv_if_lt (tgt := 104) hx hb dMD_test_97 (by decide) (fun h97 => ?_) (fun h97 => ?_)
  · skip
    refine lv_iconst (v := nI 0) hx hb dMD_test_104 (by decide) ?_
    exact kr_z hx hb hr (by decide) hlocks hM dMD_test_105 (⟨by rw [tk5]; first | rw [if_pos h97] | rw [if_neg h97], rfl⟩)
  · skip
    refine lv_iconst (v := nI 1) hx hb dMD_test_100 (by decide) ?_
    refine lv_goto (tgt := 105) hx hb dMD_test_101 (by decide) ?_
    exact kr_z hx hb hr (by decide) hlocks hM dMD_test_105 (⟨by rw [tk5]; first | rw [if_pos h97] | rw [if_neg h97], rfl⟩)
