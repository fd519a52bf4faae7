set_option maxHeartbeats 800000 in
set_option maxRecDepth 100000 in
theorem mMD_test_6 (l : Launch) (g : kG) (μ : km_M) {a na_a ka_a : Nat} {NN_a : Nat → Nat} {M_a : Nat → Option Nat} {sa_a sv_a : Nat → Nat} {F_a : Nat → Nat → Nat} {v : kVer} (hb_a : kMV g μ a na_a ka_a NN_a M_a sa_a sv_a F_a v) {b na_b ka_b : Nat} {NN_b : Nat → Nat} {M_b : Nat → Option Nat} {sa_b sv_b : Nat → Nat} {F_b : Nat → Nat → Nat} {u : kVer} (hb_b : kMV g μ b na_b ka_b NN_b M_b sa_b sv_b F_b u) : Met l yMD_test (Cond.code yMD_test cMD_test 5 (some .boolean) :: Wd) ({ frames := 8, cells := 0, slots := 0, locals := 176 } : Room) (kPre g μ [.int (nI 6), .ref a, .ref b]) (kQi g (fun (r : Int32) (μ1 : km_M) => r = bI (hldR 6 (rowOf u) (n3F (fun _ => 0) (ceT 6 u.1 u.2.1 u.2.2.1)) (rowOf v)) ∧ μ1 = μ)) 0 0 (kF g) := by
  refine k_met (by decide) (Nat.le_of_ble_eq_true rfl) ?_
  intro p e s m below meth c hx hb hr hlocks hml hown hnm hW ls hl H locs hM
  have hl : lv_has ls 5 [(0, .int (nI 6)), (1, .ref a), (2, .ref b)] := hl
  obtain ⟨ea0, ea1, ea2, ba0, ba1, ba2⟩ : NN_a 0 = v.1 ∧ NN_a 1 = v.2.1 ∧ NN_a 2 = v.2.2.1 ∧ v.1 < 1000000000 ∧ v.2.1 < 1000000000 ∧ v.2.2.1 < 1000000000 := ⟨hb_a.2.2.1, hb_a.2.2.2.1, hb_a.2.2.2.2.1, hb_a.2.2.2.2.2.1, hb_a.2.2.2.2.2.2.1, hb_a.2.2.2.2.2.2.2.1⟩
  have la4 : v.2.2.2.length ≤ 4 := hb_a.2.2.2.2.2.2.2.2.2.1
  obtain ⟨eb0, eb1, eb2, bb0, bb1, bb2⟩ : NN_b 0 = u.1 ∧ NN_b 1 = u.2.1 ∧ NN_b 2 = u.2.2.1 ∧ u.1 < 1000000000 ∧ u.2.1 < 1000000000 ∧ u.2.2.1 < 1000000000 := ⟨hb_b.2.2.1, hb_b.2.2.2.1, hb_b.2.2.2.2.1, hb_b.2.2.2.2.2.1, hb_b.2.2.2.2.2.2.1, hb_b.2.2.2.2.2.2.2.1⟩
  have lb4 : u.2.2.2.length ≤ 4 := hb_b.2.2.2.2.2.2.2.2.2.1
  refine lv_iload_n hx hb dMD_test_0 rfl (lv_at hl 0 rfl) ?_
  refine lv_if_ne (tgt := 6) hx hb dMD_test_1 (by decide) (fun _ => ?_) (fun h => absurd h (by decide))
  refine lv_aload_n hx hb dMD_test_6 rfl (lv_at hl 1 rfl) ?_
  refine lv_aload_n hx hb dMD_test_7 rfl (lv_at hl 2 rfl) ?_
  refine kc_i (va_runS (As := [.ref a, .ref b]) (rest := []) (Ts := Wd) ⟨hx, hb, hml, hown, hW⟩ (mMD_order l g μ hb_a hb_b) (va_cwS 2 hW (k_gS w_533 w_534 w_7 w_535) rfl rfl rfl (by decide +kernel) ⟨Nat.le_of_ble_eq_true rfl, Nat.le_of_ble_eq_true rfl⟩) (k_preS hM) rfl rfl hl.1 rfl (lv_room (Nat.le_of_ble_eq_true rfl)) dMD_test_8 ⟨Nat.zero_le _, Nat.zero_le _⟩) hM (fun r μ1 H locs hp hM => ?_)
  obtain ⟨rfl, hmu⟩ := hp
  rw [hmu] at hM
  refine lv_istore_n (lv' := [(3, .int (oF (rowOf v) (rowOf u) 0 7)), (0, .int (nI 6)), (1, .ref a), (2, .ref b)]) hx hb dMD_test_11 rfl hl (by decide) rfl (fun ls hl => ?_)
  refine lv_aload_n hx hb dMD_test_12 rfl (lv_at hl 3 rfl) ?_
  refine k_get (own := RMD) (ref := RMV) (C := RMV) (T := TMV) (N := 3) (ci := 5) (v := .ref na_b) hx hb hW inMV hown hM hb_b.1 rfl 0 (by decide) (hW _ w_419) (fun _ h => h) rfl dMD_test_13 ?_
  refine lv_astore (lv' := [(4, .ref na_b), (3, .int (oF (rowOf v) (rowOf u) 0 7)), (0, .int (nI 6)), (1, .ref a), (2, .ref b)]) hx hb dMD_test_16 hl (by decide) rfl (fun ls hl => ?_)
  refine lv_iload_n hx hb dMD_test_18 rfl (lv_at hl 2 rfl) ?_
  refine lv_tableIn (tgt := 106) (off := 87) hx hb dMD_test_19 (by decide) (by decide) (by decide) (by decide) ?_
  refine lv_iload_n hx hb dMD_test_106 rfl (lv_at hl 1 rfl) ?_
  refine lv_if_ge (tgt := 112) hx hb dMD_test_107 (by decide) (fun h107 => ?_) (fun h107 => ?_)
  · skip
    refine lv_aload hx hb dMD_test_112 (lv_at hl 0 rfl) ?_
    refine lv_iconst (v := nI 0) hx hb dMD_test_114 (by decide) ?_
    refine k_iald (i := 0) hx hb hM 1 hb_b.2.1 rfl (by omega) (by omega) dMD_test_115 ?_
    refine lv_if_le (tgt := 132) hx hb dMD_test_116 (by decide) (fun h116 => ?_) (fun h116 => ?_)
    · have h116 := (nJ_le_t (a := NN_b 0) (b := 0) (by omega) (by omega)).mp h116
      refine lv_aload hx hb dMD_test_132 (lv_at hl 0 rfl) ?_
      refine lv_iconst (v := nI 1) hx hb dMD_test_134 (by decide) ?_
      refine k_iald (i := 1) hx hb hM 1 hb_b.2.1 rfl (by omega) (by omega) dMD_test_135 ?_
      refine lv_if_le (tgt := 154) hx hb dMD_test_136 (by decide) (fun h136 => ?_) (fun h136 => ?_)
      · have h136 := (nJ_le_t (a := NN_b 1) (b := 0) (by omega) (by omega)).mp h136
        refine lv_aload_n hx hb dMD_test_154 rfl (lv_at hl 3 rfl) ?_
        refine lv_iconst (v := nI 0) hx hb dMD_test_155 (by decide) ?_
        refine lv_iconst (v := nI 0) hx hb dMD_test_156 (by decide) ?_
        refine lv_aload hx hb dMD_test_157 (lv_at hl 0 rfl) ?_
        refine lv_iconst (v := nI 2) hx hb dMD_test_159 (by decide) ?_
        refine k_iald (i := 2) hx hb hM 1 hb_b.2.1 rfl (by omega) (by omega) dMD_test_160 ?_
        refine lv_iconst (v := nI 1) hx hb dMD_test_161 (by decide) ?_
        refine lv_iadd hx hb dMD_test_162 ?_
        refine topi_eq (y := nI (NN_b 2 + 1)) (nI_add (NN_b 2) 1) ?_
        refine kc_i (va_runS (As := [.ref a, .int (nI 0), .int (nI 0), .int (nI (NN_b 2 + 1))]) (rest := []) (Ts := Wd) ⟨hx, hb, hml, hown, hW⟩ (mMD_below l g μ hb_a.1 hb_a.2.1 (mvN hb_a) la4 (x := 0) (y := 0) (z := NN_b 2 + 1) (by omega) (by omega) (by omega)) (va_cwS 4 hW (k_gS w_661 w_662 w_7 w_663) rfl rfl rfl (by decide +kernel) ⟨Nat.le_of_ble_eq_true rfl, Nat.le_of_ble_eq_true rfl⟩) (k_preS hM) rfl rfl hl.1 rfl (lv_room (Nat.le_of_ble_eq_true rfl)) dMD_test_163 ⟨Nat.zero_le _, Nat.zero_le _⟩) hM (fun r μ1 H locs hp hM => ?_)
        obtain ⟨rfl, hmu⟩ := hp
        rw [hmu] at hM
        exact kr_z hx hb hr (nar_b _) hlocks hM dMD_test_166 (⟨by rw [tk6, if_pos h107]; exact bI_c (by rw [show ceT 6 u.1 u.2.1 u.2.2.1 = _ by unfold ceT; first | rw [if_neg (by decide), if_pos (by omega)] | rw [if_neg (by decide), if_neg (by omega), if_pos (by omega)] | rw [if_neg (by decide), if_neg (by omega), if_neg (by omega)]]; rw [bel_iff ba0 ba1 ba2 (by simp only; omega) (by simp only; omega) (by simp only; omega) (mv0 hb_a)]; unfold belP; simp only; omega), rfl⟩)
      · have h136 := (nJ_le_f (a := NN_b 1) (b := 0) (by omega) (by omega)).mp h136
        refine lv_aload_n hx hb dMD_test_139 rfl (lv_at hl 3 rfl) ?_
        refine lv_iconst (v := nI 0) hx hb dMD_test_140 (by decide) ?_
        refine lv_aload hx hb dMD_test_141 (lv_at hl 0 rfl) ?_
        refine lv_iconst (v := nI 1) hx hb dMD_test_143 (by decide) ?_
        refine k_iald (i := 1) hx hb hM 1 hb_b.2.1 rfl (by omega) (by omega) dMD_test_144 ?_
        refine lv_iconst (v := nI 1) hx hb dMD_test_145 (by decide) ?_
        refine lv_iadd hx hb dMD_test_146 ?_
        refine topi_eq (y := nI (NN_b 1 + 1)) (nI_add (NN_b 1) 1) ?_
        refine lv_iconst (v := nI 0) hx hb dMD_test_147 (by decide) ?_
        refine kc_i (va_runS (As := [.ref a, .int (nI 0), .int (nI (NN_b 1 + 1)), .int (nI 0)]) (rest := []) (Ts := Wd) ⟨hx, hb, hml, hown, hW⟩ (mMD_below l g μ hb_a.1 hb_a.2.1 (mvN hb_a) la4 (x := 0) (y := NN_b 1 + 1) (z := 0) (by omega) (by omega) (by omega)) (va_cwS 4 hW (k_gS w_661 w_662 w_7 w_663) rfl rfl rfl (by decide +kernel) ⟨Nat.le_of_ble_eq_true rfl, Nat.le_of_ble_eq_true rfl⟩) (k_preS hM) rfl rfl hl.1 rfl (lv_room (Nat.le_of_ble_eq_true rfl)) dMD_test_148 ⟨Nat.zero_le _, Nat.zero_le _⟩) hM (fun r μ1 H locs hp hM => ?_)
        obtain ⟨rfl, hmu⟩ := hp
        rw [hmu] at hM
        refine lv_goto (tgt := 166) hx hb dMD_test_151 (by decide) ?_
        exact kr_z hx hb hr (nar_b _) hlocks hM dMD_test_166 (⟨by rw [tk6, if_pos h107]; exact bI_c (by rw [show ceT 6 u.1 u.2.1 u.2.2.1 = _ by unfold ceT; first | rw [if_neg (by decide), if_pos (by omega)] | rw [if_neg (by decide), if_neg (by omega), if_pos (by omega)] | rw [if_neg (by decide), if_neg (by omega), if_neg (by omega)]]; rw [bel_iff ba0 ba1 ba2 (by simp only; omega) (by simp only; omega) (by simp only; omega) (mv0 hb_a)]; unfold belP; simp only; omega), rfl⟩)
    · have h116 := (nJ_le_f (a := NN_b 0) (b := 0) (by omega) (by omega)).mp h116
      refine lv_aload_n hx hb dMD_test_119 rfl (lv_at hl 3 rfl) ?_
      refine lv_aload hx hb dMD_test_120 (lv_at hl 0 rfl) ?_
      refine lv_iconst (v := nI 0) hx hb dMD_test_122 (by decide) ?_
      refine k_iald (i := 0) hx hb hM 1 hb_b.2.1 rfl (by omega) (by omega) dMD_test_123 ?_
      refine lv_iconst (v := nI 1) hx hb dMD_test_124 (by decide) ?_
      refine lv_iadd hx hb dMD_test_125 ?_
      refine topi_eq (y := nI (NN_b 0 + 1)) (nI_add (NN_b 0) 1) ?_
      refine lv_iconst (v := nI 0) hx hb dMD_test_126 (by decide) ?_
      refine lv_iconst (v := nI 0) hx hb dMD_test_127 (by decide) ?_
      refine kc_i (va_runS (As := [.ref a, .int (nI (NN_b 0 + 1)), .int (nI 0), .int (nI 0)]) (rest := []) (Ts := Wd) ⟨hx, hb, hml, hown, hW⟩ (mMD_below l g μ hb_a.1 hb_a.2.1 (mvN hb_a) la4 (x := NN_b 0 + 1) (y := 0) (z := 0) (by omega) (by omega) (by omega)) (va_cwS 4 hW (k_gS w_661 w_662 w_7 w_663) rfl rfl rfl (by decide +kernel) ⟨Nat.le_of_ble_eq_true rfl, Nat.le_of_ble_eq_true rfl⟩) (k_preS hM) rfl rfl hl.1 rfl (lv_room (Nat.le_of_ble_eq_true rfl)) dMD_test_128 ⟨Nat.zero_le _, Nat.zero_le _⟩) hM (fun r μ1 H locs hp hM => ?_)
      obtain ⟨rfl, hmu⟩ := hp
      rw [hmu] at hM
      exact kr_z hx hb hr (nar_b _) hlocks hM dMD_test_131 (⟨by rw [tk6, if_pos h107]; exact bI_c (by rw [show ceT 6 u.1 u.2.1 u.2.2.1 = _ by unfold ceT; first | rw [if_neg (by decide), if_pos (by omega)] | rw [if_neg (by decide), if_neg (by omega), if_pos (by omega)] | rw [if_neg (by decide), if_neg (by omega), if_neg (by omega)]]; rw [bel_iff ba0 ba1 ba2 (by simp only; omega) (by simp only; omega) (by simp only; omega) (mv0 hb_a)]; unfold belP; simp only; omega), rfl⟩)
  · skip
    refine lv_iconst (v := nI 0) hx hb dMD_test_110 (by decide) ?_
    exact kr_z hx hb hr (by decide) hlocks hM dMD_test_111 (⟨by rw [tk6, if_neg h107], rfl⟩)
set_option maxHeartbeats 800000 in
set_option maxRecDepth 100000 in
theorem mMD_test_7 (l : Launch) (g : kG) (μ : km_M) {a na_a ka_a : Nat} {NN_a : Nat → Nat} {M_a : Nat → Option Nat} {sa_a sv_a : Nat → Nat} {F_a : Nat → Nat → Nat} {v : kVer} (hb_a : kMV g μ a na_a ka_a NN_a M_a sa_a sv_a F_a v) {b na_b ka_b : Nat} {NN_b : Nat → Nat} {M_b : Nat → Option Nat} {sa_b sv_b : Nat → Nat} {F_b : Nat → Nat → Nat} {u : kVer} (hb_b : kMV g μ b na_b ka_b NN_b M_b sa_b sv_b F_b u) : Met l yMD_test (Cond.code yMD_test cMD_test 5 (some .boolean) :: Wd) ({ frames := 8, cells := 0, slots := 0, locals := 176 } : Room) (kPre g μ [.int (nI 7), .ref a, .ref b]) (kQi g (fun (r : Int32) (μ1 : km_M) => r = bI (hldR 7 (rowOf u) (n3F (fun _ => 0) (ceT 7 u.1 u.2.1 u.2.2.1)) (rowOf v)) ∧ μ1 = μ)) 0 0 (kF g) := by
  refine k_met (by decide) (Nat.le_of_ble_eq_true rfl) ?_
  intro p e s m below meth c hx hb hr hlocks hml hown hnm hW ls hl H locs hM
  have hl : lv_has ls 5 [(0, .int (nI 7)), (1, .ref a), (2, .ref b)] := hl
  obtain ⟨ea0, ea1, ea2, ba0, ba1, ba2⟩ : NN_a 0 = v.1 ∧ NN_a 1 = v.2.1 ∧ NN_a 2 = v.2.2.1 ∧ v.1 < 1000000000 ∧ v.2.1 < 1000000000 ∧ v.2.2.1 < 1000000000 := ⟨hb_a.2.2.1, hb_a.2.2.2.1, hb_a.2.2.2.2.1, hb_a.2.2.2.2.2.1, hb_a.2.2.2.2.2.2.1, hb_a.2.2.2.2.2.2.2.1⟩
  have la4 : v.2.2.2.length ≤ 4 := hb_a.2.2.2.2.2.2.2.2.2.1
  obtain ⟨eb0, eb1, eb2, bb0, bb1, bb2⟩ : NN_b 0 = u.1 ∧ NN_b 1 = u.2.1 ∧ NN_b 2 = u.2.2.1 ∧ u.1 < 1000000000 ∧ u.2.1 < 1000000000 ∧ u.2.2.1 < 1000000000 := ⟨hb_b.2.2.1, hb_b.2.2.2.1, hb_b.2.2.2.2.1, hb_b.2.2.2.2.2.1, hb_b.2.2.2.2.2.2.1, hb_b.2.2.2.2.2.2.2.1⟩
  have lb4 : u.2.2.2.length ≤ 4 := hb_b.2.2.2.2.2.2.2.2.2.1
  refine lv_iload_n hx hb dMD_test_0 rfl (lv_at hl 0 rfl) ?_
  refine lv_if_ne (tgt := 6) hx hb dMD_test_1 (by decide) (fun _ => ?_) (fun h => absurd h (by decide))
  refine lv_aload_n hx hb dMD_test_6 rfl (lv_at hl 1 rfl) ?_
  refine lv_aload_n hx hb dMD_test_7 rfl (lv_at hl 2 rfl) ?_
  refine kc_i (va_runS (As := [.ref a, .ref b]) (rest := []) (Ts := Wd) ⟨hx, hb, hml, hown, hW⟩ (mMD_order l g μ hb_a hb_b) (va_cwS 2 hW (k_gS w_533 w_534 w_7 w_535) rfl rfl rfl (by decide +kernel) ⟨Nat.le_of_ble_eq_true rfl, Nat.le_of_ble_eq_true rfl⟩) (k_preS hM) rfl rfl hl.1 rfl (lv_room (Nat.le_of_ble_eq_true rfl)) dMD_test_8 ⟨Nat.zero_le _, Nat.zero_le _⟩) hM (fun r μ1 H locs hp hM => ?_)
  obtain ⟨rfl, hmu⟩ := hp
  rw [hmu] at hM
  refine lv_istore_n (lv' := [(3, .int (oF (rowOf v) (rowOf u) 0 7)), (0, .int (nI 7)), (1, .ref a), (2, .ref b)]) hx hb dMD_test_11 rfl hl (by decide) rfl (fun ls hl => ?_)
  refine lv_aload_n hx hb dMD_test_12 rfl (lv_at hl 3 rfl) ?_
  refine k_get (own := RMD) (ref := RMV) (C := RMV) (T := TMV) (N := 3) (ci := 5) (v := .ref na_b) hx hb hW inMV hown hM hb_b.1 rfl 0 (by decide) (hW _ w_419) (fun _ h => h) rfl dMD_test_13 ?_
  refine lv_astore (lv' := [(4, .ref na_b), (3, .int (oF (rowOf v) (rowOf u) 0 7)), (0, .int (nI 7)), (1, .ref a), (2, .ref b)]) hx hb dMD_test_16 hl (by decide) rfl (fun ls hl => ?_)
  refine lv_iload_n hx hb dMD_test_18 rfl (lv_at hl 2 rfl) ?_
  refine lv_tableOut (tgt := 167) hx hb dMD_test_19 (by decide) (by decide) ?_
  refine lv_iload_n hx hb dMD_test_167 rfl (lv_at hl 1 rfl) ?_
  refine lv_if_lt (tgt := 193) hx hb dMD_test_168 (by decide) (fun h168 => ?_) (fun h168 => ?_)
  · skip
    refine lv_iconst (v := nI 0) hx hb dMD_test_193 (by decide) ?_
    exact kr_z hx hb hr (by decide) hlocks hM dMD_test_194 (⟨by rw [tk7]; first | rw [if_pos h168] | (rw [if_neg h168]; exact bI_f (by rw [show ceT 7 u.1 u.2.1 u.2.2.1 = _ by unfold ceT; rw [if_pos rfl]]; rw [bel_iff ba0 ba1 ba2 (by simp only; omega) (by simp only; omega) (by simp only; omega) (mv0 hb_a)]; unfold belP; simp only; omega)), rfl⟩)
  · skip
    refine lv_aload_n hx hb dMD_test_171 rfl (lv_at hl 3 rfl) ?_
    refine lv_aload hx hb dMD_test_172 (lv_at hl 0 rfl) ?_
    refine lv_iconst (v := nI 0) hx hb dMD_test_174 (by decide) ?_
    refine k_iald (i := 0) hx hb hM 1 hb_b.2.1 rfl (by omega) (by omega) dMD_test_175 ?_
    refine lv_aload hx hb dMD_test_176 (lv_at hl 0 rfl) ?_
    refine lv_iconst (v := nI 1) hx hb dMD_test_178 (by decide) ?_
    refine k_iald (i := 1) hx hb hM 1 hb_b.2.1 rfl (by omega) (by omega) dMD_test_179 ?_
    refine lv_iconst (v := nI 1) hx hb dMD_test_180 (by decide) ?_
    refine lv_iadd hx hb dMD_test_181 ?_
    refine topi_eq (y := nI (NN_b 1 + 1)) (nI_add (NN_b 1) 1) ?_
    refine lv_iconst (v := nI 0) hx hb dMD_test_182 (by decide) ?_
    refine kc_i (va_runS (As := [.ref a, .int (nI (NN_b 0)), .int (nI (NN_b 1 + 1)), .int (nI 0)]) (rest := []) (Ts := Wd) ⟨hx, hb, hml, hown, hW⟩ (mMD_below l g μ hb_a.1 hb_a.2.1 (mvN hb_a) la4 (x := NN_b 0) (y := NN_b 1 + 1) (z := 0) (by omega) (by omega) (by omega)) (va_cwS 4 hW (k_gS w_661 w_662 w_7 w_663) rfl rfl rfl (by decide +kernel) ⟨Nat.le_of_ble_eq_true rfl, Nat.le_of_ble_eq_true rfl⟩) (k_preS hM) rfl rfl hl.1 rfl (lv_room (Nat.le_of_ble_eq_true rfl)) dMD_test_183 ⟨Nat.zero_le _, Nat.zero_le _⟩) hM (fun r μ1 H locs hp hM => ?_)
    obtain ⟨rfl, hmu⟩ := hp
    rw [hmu] at hM
    refine lv_if_eq (tgt := 193) hx hb dMD_test_186 (by decide) (fun h186 => ?_) (fun h186 => ?_)
    · have h186 := bD_0.mp h186
      refine lv_iconst (v := nI 0) hx hb dMD_test_193 (by decide) ?_
      exact kr_z hx hb hr (by decide) hlocks hM dMD_test_194 (⟨by rw [tk7]; first | rw [if_pos h168] | (rw [if_neg h168]; exact bI_f (by rw [show ceT 7 u.1 u.2.1 u.2.2.1 = _ by unfold ceT; rw [if_pos rfl]]; rw [bel_iff ba0 ba1 ba2 (by simp only; omega) (by simp only; omega) (by simp only; omega) (mv0 hb_a)]; unfold belP; simp only; omega)), rfl⟩)
    · have h186 := bD_n.mp h186
      refine lv_iconst (v := nI 1) hx hb dMD_test_189 (by decide) ?_
      refine lv_goto (tgt := 194) hx hb dMD_test_190 (by decide) ?_
      exact kr_z hx hb hr (by decide) hlocks hM dMD_test_194 (⟨by rw [tk7, if_neg h168]; exact bI_t (by rw [show ceT 7 u.1 u.2.1 u.2.2.1 = _ by unfold ceT; rw [if_pos rfl]]; rw [bel_iff ba0 ba1 ba2 (by simp only; omega) (by simp only; omega) (by simp only; omega) (mv0 hb_a)]; unfold belP; simp only; omega), rfl⟩)
