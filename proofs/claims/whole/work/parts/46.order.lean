set_option maxHeartbeats 800000 in
set_option maxRecDepth 100000 in
theorem mMD_order (l : Launch) (g : kG) (μ : km_M) {a na_a ka_a : Nat} {NN_a : Nat → Nat} {M_a : Nat → Option Nat} {sa_a sv_a : Nat → Nat} {F_a : Nat → Nat → Nat} {v : kVer} (hb_a : kMV g μ a na_a ka_a NN_a M_a sa_a sv_a F_a v) {b na_b ka_b : Nat} {NN_b : Nat → Nat} {M_b : Nat → Option Nat} {sa_b sv_b : Nat → Nat} {F_b : Nat → Nat → Nat} {u : kVer} (hb_b : kMV g μ b na_b ka_b NN_b M_b sa_b sv_b F_b u) : Met l yMD_order (Cond.code yMD_order cMD_order 4 (some .int) :: Wd) ({ frames := 7, cells := 0, slots := 0, locals := 153 } : Room) (kPre g μ [.ref a, .ref b]) (kQi g (fun (r : Int32) (μ1 : km_M) => r = oF (rowOf v) (rowOf u) 0 7 ∧ μ1 = μ)) 0 0 (kF g) := by
  refine k_met (by decide) (Nat.le_of_ble_eq_true rfl) ?_
  intro p e s m below meth c hx hb hr hlocks hml hown hnm hW ls hl H locs hM
  have hl : lv_has ls 4 [(0, .ref a), (1, .ref b)] := hl
  obtain ⟨ea0, ea1, ea2, ba0, ba1, ba2⟩ : NN_a 0 = v.1 ∧ NN_a 1 = v.2.1 ∧ NN_a 2 = v.2.2.1 ∧ v.1 < 1000000000 ∧ v.2.1 < 1000000000 ∧ v.2.2.1 < 1000000000 := ⟨hb_a.2.2.1, hb_a.2.2.2.1, hb_a.2.2.2.2.1, hb_a.2.2.2.2.2.1, hb_a.2.2.2.2.2.2.1, hb_a.2.2.2.2.2.2.2.1⟩
  have la4 : v.2.2.2.length ≤ 4 := hb_a.2.2.2.2.2.2.2.2.2.1
  obtain ⟨eb0, eb1, eb2, bb0, bb1, bb2⟩ : NN_b 0 = u.1 ∧ NN_b 1 = u.2.1 ∧ NN_b 2 = u.2.2.1 ∧ u.1 < 1000000000 ∧ u.2.1 < 1000000000 ∧ u.2.2.1 < 1000000000 := ⟨hb_b.2.2.1, hb_b.2.2.2.1, hb_b.2.2.2.2.1, hb_b.2.2.2.2.2.1, hb_b.2.2.2.2.2.2.1, hb_b.2.2.2.2.2.2.2.1⟩
  have lb4 : u.2.2.2.length ≤ 4 := hb_b.2.2.2.2.2.2.2.2.2.1
  have hor := or3 ba0 ba1 ba2 bb0 bb1 bb2
  have cut93 : ∀ (fu : Nat), ∀ (k : Nat), v.2.2.2.length - k < fu → k ≤ v.2.2.2.length → k ≤ u.2.2.2.length → 1 ≤ v.2.2.2.length → 1 ≤ u.2.2.2.length → oF (rowOf v) (rowOf u) 0 7 = oF (rowOf v) (rowOf u) (3 + k) (4 - k) → ∀ (ls : Array Slot) (H : Heap) (locs : List Loc), lv_has ls 4 [(0, .ref a), (1, .ref b), (2, .int (nI k))] → kS g (μ) s H locs → W p l e ({ frames := 7, cells := 0, slots := 0, locals := 153 } : Room) s m [.ref a, .ref b].toArray below meth c H locs 0 0 (MQ below (kQi g (fun (r : Int32) (μ1 : km_M) => r = oF (rowOf v) (rowOf u) 0 7 ∧ μ1 = μ)) [.ref a, .ref b].toArray s 0 0 (kF g)) (F0 m 93 ls []) := by
    intro fu
    induction fu with
    | zero => intro k hlt; exact absurd hlt (Nat.not_lt_zero _)
    | succ fu ih =>
      intro k hlt hk hk2 hm1 hm2 h3 ls H locs hl hM
      refine lv_iload_n hx hb dMD_order_93 rfl (lv_at hl 2 rfl) ?_
      refine lv_aload_n hx hb dMD_order_94 rfl (lv_at hl 0 rfl) ?_
      refine k_get (own := RMD) (ref := RMV) (C := RMV) (T := TMV) (N := 3) (ci := 5) (v := .int (nI v.2.2.2.length)) hx hb hW inMV hown hM hb_a.1 rfl 2 (by decide) (hW _ w_422) (fun _ h => h) rfl dMD_order_95 ?_
      refine lv_icmp_ge (tgt := 145) hx hb dMD_order_98 (by decide) (fun h98 => ?_) (fun h98 => ?_)
      · have h98 := (nJ_ge_t (a := k) (b := v.2.2.2.length) (by omega) (by omega)).mp h98
        refine lv_aload_n hx hb dMD_order_145 rfl (lv_at hl 0 rfl) ?_
        refine k_get (own := RMD) (ref := RMV) (C := RMV) (T := TMV) (N := 3) (ci := 5) (v := .int (nI v.2.2.2.length)) hx hb hW inMV hown hM hb_a.1 rfl 2 (by decide) (hW _ w_422) (fun _ h => h) rfl dMD_order_146 ?_
        refine lv_aload_n hx hb dMD_order_149 rfl (lv_at hl 1 rfl) ?_
        refine k_get (own := RMD) (ref := RMV) (C := RMV) (T := TMV) (N := 3) (ci := 5) (v := .int (nI u.2.2.2.length)) hx hb hW inMV hown hM hb_b.1 rfl 2 (by decide) (hW _ w_422) (fun _ h => h) rfl dMD_order_150 ?_
        refine lv_icmp_ge (tgt := 160) hx hb dMD_order_153 (by decide) (fun h153 => ?_) (fun h153 => ?_)
        · have h153 := (nJ_ge_t (a := v.2.2.2.length) (b := u.2.2.2.length) (by omega) (by omega)).mp h153
          refine lv_aload_n hx hb dMD_order_160 rfl (lv_at hl 0 rfl) ?_
          refine k_get (own := RMD) (ref := RMV) (C := RMV) (T := TMV) (N := 3) (ci := 5) (v := .int (nI v.2.2.2.length)) hx hb hW inMV hown hM hb_a.1 rfl 2 (by decide) (hW _ w_422) (fun _ h => h) rfl dMD_order_161 ?_
          refine lv_aload_n hx hb dMD_order_164 rfl (lv_at hl 1 rfl) ?_
          refine k_get (own := RMD) (ref := RMV) (C := RMV) (T := TMV) (N := 3) (ci := 5) (v := .int (nI u.2.2.2.length)) hx hb hW inMV hown hM hb_b.1 rfl 2 (by decide) (hW _ w_422) (fun _ h => h) rfl dMD_order_165 ?_
          refine lv_icmp_le (tgt := 175) hx hb dMD_order_168 (by decide) (fun h168 => ?_) (fun h168 => ?_)
          · have h168 := (nJ_le_t (a := v.2.2.2.length) (b := u.2.2.2.length) (by omega) (by omega)).mp h168
            refine lv_iconst (v := nI 0) hx hb dMD_order_175 (by decide) ?_
            exact kr_i hx hb hr hlocks hM dMD_order_176 (⟨by rw [h3, or_e (by omega) la4 lb4 hk hk2 (by omega) (fun q xs hq => by have z := mV_lt (hb_a.2.2.2.2.2.2.2.2.2.2 q xs hq).2.2.2.2.2; rw [(hb_a.2.2.2.2.2.2.2.2.2.2 q xs hq).2.2.2.2.1] at z; exact z) (fun q xs hq => by have z := mV_lt (hb_b.2.2.2.2.2.2.2.2.2.2 q xs hq).2.2.2.2.2; rw [(hb_b.2.2.2.2.2.2.2.2.2.2 q xs hq).2.2.2.2.1] at z; exact z)]; first | (exfalso; omega) | rw [if_pos (by omega)] | rw [if_neg (by omega), if_pos (by omega)] | rw [if_neg (by omega), if_neg (by omega)], rfl⟩)
          · have h168 := (nJ_le_f (a := v.2.2.2.length) (b := u.2.2.2.length) (by omega) (by omega)).mp h168
            refine lv_iconst (v := nI 1) hx hb dMD_order_171 (by decide) ?_
            refine lv_goto (tgt := 176) hx hb dMD_order_172 (by decide) ?_
            exact kr_i hx hb hr hlocks hM dMD_order_176 (⟨by rw [h3, or_e (by omega) la4 lb4 hk hk2 (by omega) (fun q xs hq => by have z := mV_lt (hb_a.2.2.2.2.2.2.2.2.2.2 q xs hq).2.2.2.2.2; rw [(hb_a.2.2.2.2.2.2.2.2.2.2 q xs hq).2.2.2.2.1] at z; exact z) (fun q xs hq => by have z := mV_lt (hb_b.2.2.2.2.2.2.2.2.2.2 q xs hq).2.2.2.2.2; rw [(hb_b.2.2.2.2.2.2.2.2.2.2 q xs hq).2.2.2.2.1] at z; exact z)]; first | (exfalso; omega) | rw [if_pos (by omega)] | rw [if_neg (by omega), if_pos (by omega)] | rw [if_neg (by omega), if_neg (by omega)], rfl⟩)
        · have h153 := (nJ_ge_f (a := v.2.2.2.length) (b := u.2.2.2.length) (by omega) (by omega)).mp h153
          refine lv_iconst (v := (-1)) hx hb dMD_order_156 (by decide) ?_
          refine lv_goto (tgt := 176) hx hb dMD_order_157 (by decide) ?_
          exact kr_i hx hb hr hlocks hM dMD_order_176 (⟨by rw [h3, or_e (by omega) la4 lb4 hk hk2 (by omega) (fun q xs hq => by have z := mV_lt (hb_a.2.2.2.2.2.2.2.2.2.2 q xs hq).2.2.2.2.2; rw [(hb_a.2.2.2.2.2.2.2.2.2.2 q xs hq).2.2.2.2.1] at z; exact z) (fun q xs hq => by have z := mV_lt (hb_b.2.2.2.2.2.2.2.2.2.2 q xs hq).2.2.2.2.2; rw [(hb_b.2.2.2.2.2.2.2.2.2.2 q xs hq).2.2.2.2.1] at z; exact z)]; first | (exfalso; omega) | rw [if_pos (by omega)] | rw [if_neg (by omega), if_pos (by omega)] | rw [if_neg (by omega), if_neg (by omega)], rfl⟩)
      · have h98 := (nJ_ge_f (a := k) (b := v.2.2.2.length) (by omega) (by omega)).mp h98
        refine lv_iload_n hx hb dMD_order_101 rfl (lv_at hl 2 rfl) ?_
        refine lv_aload_n hx hb dMD_order_102 rfl (lv_at hl 1 rfl) ?_
        refine k_get (own := RMD) (ref := RMV) (C := RMV) (T := TMV) (N := 3) (ci := 5) (v := .int (nI u.2.2.2.length)) hx hb hW inMV hown hM hb_b.1 rfl 2 (by decide) (hW _ w_422) (fun _ h => h) rfl dMD_order_103 ?_
        refine lv_icmp_ge (tgt := 145) hx hb dMD_order_106 (by decide) (fun h106 => ?_) (fun h106 => ?_)
        · have h106 := (nJ_ge_t (a := k) (b := u.2.2.2.length) (by omega) (by omega)).mp h106
          refine lv_aload_n hx hb dMD_order_145 rfl (lv_at hl 0 rfl) ?_
          refine k_get (own := RMD) (ref := RMV) (C := RMV) (T := TMV) (N := 3) (ci := 5) (v := .int (nI v.2.2.2.length)) hx hb hW inMV hown hM hb_a.1 rfl 2 (by decide) (hW _ w_422) (fun _ h => h) rfl dMD_order_146 ?_
          refine lv_aload_n hx hb dMD_order_149 rfl (lv_at hl 1 rfl) ?_
          refine k_get (own := RMD) (ref := RMV) (C := RMV) (T := TMV) (N := 3) (ci := 5) (v := .int (nI u.2.2.2.length)) hx hb hW inMV hown hM hb_b.1 rfl 2 (by decide) (hW _ w_422) (fun _ h => h) rfl dMD_order_150 ?_
          refine lv_icmp_ge (tgt := 160) hx hb dMD_order_153 (by decide) (fun h153 => ?_) (fun h153 => ?_)
          · have h153 := (nJ_ge_t (a := v.2.2.2.length) (b := u.2.2.2.length) (by omega) (by omega)).mp h153
            refine lv_aload_n hx hb dMD_order_160 rfl (lv_at hl 0 rfl) ?_
            refine k_get (own := RMD) (ref := RMV) (C := RMV) (T := TMV) (N := 3) (ci := 5) (v := .int (nI v.2.2.2.length)) hx hb hW inMV hown hM hb_a.1 rfl 2 (by decide) (hW _ w_422) (fun _ h => h) rfl dMD_order_161 ?_
            refine lv_aload_n hx hb dMD_order_164 rfl (lv_at hl 1 rfl) ?_
            refine k_get (own := RMD) (ref := RMV) (C := RMV) (T := TMV) (N := 3) (ci := 5) (v := .int (nI u.2.2.2.length)) hx hb hW inMV hown hM hb_b.1 rfl 2 (by decide) (hW _ w_422) (fun _ h => h) rfl dMD_order_165 ?_
            refine lv_icmp_le (tgt := 175) hx hb dMD_order_168 (by decide) (fun h168 => ?_) (fun h168 => ?_)
            · have h168 := (nJ_le_t (a := v.2.2.2.length) (b := u.2.2.2.length) (by omega) (by omega)).mp h168
              refine lv_iconst (v := nI 0) hx hb dMD_order_175 (by decide) ?_
              exact kr_i hx hb hr hlocks hM dMD_order_176 (⟨by rw [h3, or_e (by omega) la4 lb4 hk hk2 (by omega) (fun q xs hq => by have z := mV_lt (hb_a.2.2.2.2.2.2.2.2.2.2 q xs hq).2.2.2.2.2; rw [(hb_a.2.2.2.2.2.2.2.2.2.2 q xs hq).2.2.2.2.1] at z; exact z) (fun q xs hq => by have z := mV_lt (hb_b.2.2.2.2.2.2.2.2.2.2 q xs hq).2.2.2.2.2; rw [(hb_b.2.2.2.2.2.2.2.2.2.2 q xs hq).2.2.2.2.1] at z; exact z)]; first | (exfalso; omega) | rw [if_pos (by omega)] | rw [if_neg (by omega), if_pos (by omega)] | rw [if_neg (by omega), if_neg (by omega)], rfl⟩)
            · have h168 := (nJ_le_f (a := v.2.2.2.length) (b := u.2.2.2.length) (by omega) (by omega)).mp h168
              refine lv_iconst (v := nI 1) hx hb dMD_order_171 (by decide) ?_
              refine lv_goto (tgt := 176) hx hb dMD_order_172 (by decide) ?_
              exact kr_i hx hb hr hlocks hM dMD_order_176 (⟨by rw [h3, or_e (by omega) la4 lb4 hk hk2 (by omega) (fun q xs hq => by have z := mV_lt (hb_a.2.2.2.2.2.2.2.2.2.2 q xs hq).2.2.2.2.2; rw [(hb_a.2.2.2.2.2.2.2.2.2.2 q xs hq).2.2.2.2.1] at z; exact z) (fun q xs hq => by have z := mV_lt (hb_b.2.2.2.2.2.2.2.2.2.2 q xs hq).2.2.2.2.2; rw [(hb_b.2.2.2.2.2.2.2.2.2.2 q xs hq).2.2.2.2.1] at z; exact z)]; first | (exfalso; omega) | rw [if_pos (by omega)] | rw [if_neg (by omega), if_pos (by omega)] | rw [if_neg (by omega), if_neg (by omega)], rfl⟩)
          · have h153 := (nJ_ge_f (a := v.2.2.2.length) (b := u.2.2.2.length) (by omega) (by omega)).mp h153
            refine lv_iconst (v := (-1)) hx hb dMD_order_156 (by decide) ?_
            refine lv_goto (tgt := 176) hx hb dMD_order_157 (by decide) ?_
            exact kr_i hx hb hr hlocks hM dMD_order_176 (⟨by rw [h3, or_e (by omega) la4 lb4 hk hk2 (by omega) (fun q xs hq => by have z := mV_lt (hb_a.2.2.2.2.2.2.2.2.2.2 q xs hq).2.2.2.2.2; rw [(hb_a.2.2.2.2.2.2.2.2.2.2 q xs hq).2.2.2.2.1] at z; exact z) (fun q xs hq => by have z := mV_lt (hb_b.2.2.2.2.2.2.2.2.2.2 q xs hq).2.2.2.2.2; rw [(hb_b.2.2.2.2.2.2.2.2.2.2 q xs hq).2.2.2.2.1] at z; exact z)]; first | (exfalso; omega) | rw [if_pos (by omega)] | rw [if_neg (by omega), if_pos (by omega)] | rw [if_neg (by omega), if_neg (by omega)], rfl⟩)
        · have h106 := (nJ_ge_f (a := k) (b := u.2.2.2.length) (by omega) (by omega)).mp h106
          refine lv_aload_n hx hb dMD_order_109 rfl (lv_at hl 0 rfl) ?_
          refine k_get (own := RMD) (ref := RMV) (C := RMV) (T := TMV) (N := 3) (ci := 5) (v := .ref ka_a) hx hb hW inMV hown hM hb_a.1 rfl 1 (by decide) (hW _ w_421) (fun _ h => h) rfl dMD_order_110 ?_
          refine lv_iload_n hx hb dMD_order_113 rfl (lv_at hl 2 rfl) ?_
          refine k_aald (i := k) (r := some (sa_a k)) hx hb hM 5 hb_a.2.2.2.2.2.2.2.2.1 rfl (by omega) (by omega) ((hb_a.2.2.2.2.2.2.2.2.2.2 k _ (List.getElem?_eq_getElem (show k < v.2.2.2.length by omega))).1) dMD_order_114 ?_
          refine lv_aload_n hx hb dMD_order_115 rfl (lv_at hl 1 rfl) ?_
          refine k_get (own := RMD) (ref := RMV) (C := RMV) (T := TMV) (N := 3) (ci := 5) (v := .ref ka_b) hx hb hW inMV hown hM hb_b.1 rfl 1 (by decide) (hW _ w_421) (fun _ h => h) rfl dMD_order_116 ?_
          refine lv_iload_n hx hb dMD_order_119 rfl (lv_at hl 2 rfl) ?_
          refine k_aald (i := k) (r := some (sa_b k)) hx hb hM 5 hb_b.2.2.2.2.2.2.2.2.1 rfl (by omega) (by omega) ((hb_b.2.2.2.2.2.2.2.2.2.2 k _ (List.getElem?_eq_getElem (show k < u.2.2.2.length by omega))).1) dMD_order_120 ?_
          have hka := hb_a.2.2.2.2.2.2.2.2.2.2 k _ (List.getElem?_eq_getElem (show k < v.2.2.2.length by omega))
          have hkb := hb_b.2.2.2.2.2.2.2.2.2.2 k _ (List.getElem?_eq_getElem (show k < u.2.2.2.length by omega))
          have ex := hka.2.2.2.2.1
          have ey := hkb.2.2.2.2.1
          refine kc_i (va_runS (As := [.ref (sa_a k), .ref (sa_b k)]) (rest := []) (Ts := Wd) ⟨hx, hb, hml, hown, hW⟩ (mMD_mark l g μ hka.2.1 hka.2.2.1 hka.2.2.2.1 hka.2.2.2.2.2 hkb.2.1 hkb.2.2.1 hkb.2.2.2.1 hkb.2.2.2.2.2) (va_cwS 2 hW (k_gS w_536 w_537 w_7 w_538) rfl rfl rfl (by decide +kernel) ⟨Nat.le_of_ble_eq_true rfl, Nat.le_of_ble_eq_true rfl⟩) (k_preS hM) rfl rfl hl.1 rfl (lv_room (Nat.le_of_ble_eq_true rfl)) dMD_order_121 ⟨Nat.zero_le _, Nat.zero_le _⟩) hM (fun r μ1 H locs hp hM => ?_)
          obtain ⟨hmu, hr0, hr1⟩ := hp
          rw [hmu] at hM
          rw [ex, ey] at hr0 hr1
          have hork := or_k (v := v) (w := u) (List.getElem?_eq_getElem (show k < v.2.2.2.length by omega)) (List.getElem?_eq_getElem (show k < u.2.2.2.length by omega)) (by have z := mV_lt hka.2.2.2.2.2; rw [ex] at z; exact z) (by have z := mV_lt hkb.2.2.2.2.2; rw [ey] at z; exact z) (by omega)
          refine lv_istore_n (lv' := [(3, .int r), (0, .ref a), (1, .ref b), (2, .int (nI k))]) hx hb dMD_order_124 rfl hl (by decide) rfl (fun ls hl => ?_)
          refine lv_iload_n hx hb dMD_order_125 rfl (lv_at hl 0 rfl) ?_
          refine lv_if_eq (tgt := 139) hx hb dMD_order_126 (by decide) (fun h126 => ?_) (fun h126 => ?_)
          · skip
            refine lv_iinc (v := nI (k + 1)) (lv' := [(2, .int (nI (k + 1))), (3, .int r), (0, .ref a), (1, .ref b)]) (k := 3) hx hb dMD_order_139 hl rfl (ii1 k) (by decide) rfl (fun ls hl => ?_)
            refine lv_goto (tgt := 93) hx hb dMD_order_142 (by decide) ?_
            exact ih (k + 1) (by omega) (by first | assumption | omega | exact rfl) (by first | assumption | omega | exact rfl) (by first | assumption | omega | exact rfl) (by first | assumption | omega | exact rfl) (by rw [h3, hork, if_pos (hr0.mp h126)]) ls H locs (lv_sub hl [2, 3, 0] rfl) hM
          · skip
            refine lv_iload_n hx hb dMD_order_129 rfl (lv_at hl 0 rfl) ?_
            refine lv_if_ge (tgt := 137) hx hb dMD_order_130 (by decide) (fun h130 => ?_) (fun h130 => ?_)
            · skip
              refine lv_iconst (v := nI 1) hx hb dMD_order_137 (by decide) ?_
              exact kr_i hx hb hr hlocks hM dMD_order_138 (⟨by rw [h3, hork, if_neg (fun z => h126 (hr0.mpr z)), if_neg (fun z => absurd (hr1.mpr z) (Int32.not_lt.mpr h130))], rfl⟩)
            · skip
              refine lv_iconst (v := (-1)) hx hb dMD_order_133 (by decide) ?_
              refine lv_goto (tgt := 138) hx hb dMD_order_134 (by decide) ?_
              exact kr_i hx hb hr hlocks hM dMD_order_138 (⟨by rw [h3, hork, if_neg (fun z => h126 (hr0.mpr z)), if_pos (hr1.mp (Int32.not_le.mp h130))], rfl⟩)
  refine lv_iconst (v := nI 0) hx hb dMD_order_0 (by decide) ?_
  refine lv_istore_n (lv' := [(2, .int (nI 0)), (0, .ref a), (1, .ref b)]) hx hb dMD_order_1 rfl hl (by decide) rfl (fun ls hl => ?_)
  refine lv_iload_n hx hb dMD_order_2 rfl (lv_at hl 0 rfl) ?_
  refine lv_iconst (v := nI 3) hx hb dMD_order_3 (by decide) ?_
  refine lv_icmp_ge (tgt := 49) hx hb dMD_order_4 (by decide) (fun h => absurd h (by decide)) (fun _ => ?_)
  refine lv_aload_n hx hb dMD_order_7 rfl (lv_at hl 1 rfl) ?_
  refine k_get (own := RMD) (ref := RMV) (C := RMV) (T := TMV) (N := 3) (ci := 5) (v := .ref na_a) hx hb hW inMV hown hM hb_a.1 rfl 0 (by decide) (hW _ w_419) (fun _ h => h) rfl dMD_order_8 ?_
  refine lv_iload_n hx hb dMD_order_11 rfl (lv_at hl 0 rfl) ?_
  refine k_iald (i := 0) hx hb hM 1 hb_a.2.1 rfl (by omega) (by omega) dMD_order_12 ?_
  refine lv_aload_n hx hb dMD_order_13 rfl (lv_at hl 2 rfl) ?_
  refine k_get (own := RMD) (ref := RMV) (C := RMV) (T := TMV) (N := 3) (ci := 5) (v := .ref na_b) hx hb hW inMV hown hM hb_b.1 rfl 0 (by decide) (hW _ w_419) (fun _ h => h) rfl dMD_order_14 ?_
  refine lv_iload_n hx hb dMD_order_17 rfl (lv_at hl 0 rfl) ?_
  refine k_iald (i := 0) hx hb hM 1 hb_b.2.1 rfl (by omega) (by omega) dMD_order_18 ?_
  refine lv_icmp_eq (tgt := 43) hx hb dMD_order_19 (by decide) (fun h19 => ?_) (fun h19 => ?_)
  · have h19 := (nJ_eq_t (a := NN_a 0) (b := NN_b 0) (by omega) (by omega)).mp h19
    refine lv_iinc (v := nI 1) (lv' := [(2, .int (nI 1)), (0, .ref a), (1, .ref b)]) (k := 0) hx hb dMD_order_43 hl rfl (by decide) (by decide) rfl (fun ls hl => ?_)
    refine lv_goto (tgt := 2) hx hb dMD_order_46 (by decide) ?_
    refine lv_iload_n hx hb dMD_order_2 rfl (lv_at hl 0 rfl) ?_
    refine lv_iconst (v := nI 3) hx hb dMD_order_3 (by decide) ?_
    refine lv_icmp_ge (tgt := 49) hx hb dMD_order_4 (by decide) (fun h => absurd h (by decide)) (fun _ => ?_)
    refine lv_aload_n hx hb dMD_order_7 rfl (lv_at hl 1 rfl) ?_
    refine k_get (own := RMD) (ref := RMV) (C := RMV) (T := TMV) (N := 3) (ci := 5) (v := .ref na_a) hx hb hW inMV hown hM hb_a.1 rfl 0 (by decide) (hW _ w_419) (fun _ h => h) rfl dMD_order_8 ?_
    refine lv_iload_n hx hb dMD_order_11 rfl (lv_at hl 0 rfl) ?_
    refine k_iald (i := 1) hx hb hM 1 hb_a.2.1 rfl (by omega) (by omega) dMD_order_12 ?_
    refine lv_aload_n hx hb dMD_order_13 rfl (lv_at hl 2 rfl) ?_
    refine k_get (own := RMD) (ref := RMV) (C := RMV) (T := TMV) (N := 3) (ci := 5) (v := .ref na_b) hx hb hW inMV hown hM hb_b.1 rfl 0 (by decide) (hW _ w_419) (fun _ h => h) rfl dMD_order_14 ?_
    refine lv_iload_n hx hb dMD_order_17 rfl (lv_at hl 0 rfl) ?_
    refine k_iald (i := 1) hx hb hM 1 hb_b.2.1 rfl (by omega) (by omega) dMD_order_18 ?_
    refine lv_icmp_eq (tgt := 43) hx hb dMD_order_19 (by decide) (fun h19 => ?_) (fun h19 => ?_)
    · have h19 := (nJ_eq_t (a := NN_a 1) (b := NN_b 1) (by omega) (by omega)).mp h19
      refine lv_iinc (v := nI 2) (lv' := [(2, .int (nI 2)), (0, .ref a), (1, .ref b)]) (k := 0) hx hb dMD_order_43 hl rfl (by decide) (by decide) rfl (fun ls hl => ?_)
      refine lv_goto (tgt := 2) hx hb dMD_order_46 (by decide) ?_
      refine lv_iload_n hx hb dMD_order_2 rfl (lv_at hl 0 rfl) ?_
      refine lv_iconst (v := nI 3) hx hb dMD_order_3 (by decide) ?_
      refine lv_icmp_ge (tgt := 49) hx hb dMD_order_4 (by decide) (fun h => absurd h (by decide)) (fun _ => ?_)
      refine lv_aload_n hx hb dMD_order_7 rfl (lv_at hl 1 rfl) ?_
      refine k_get (own := RMD) (ref := RMV) (C := RMV) (T := TMV) (N := 3) (ci := 5) (v := .ref na_a) hx hb hW inMV hown hM hb_a.1 rfl 0 (by decide) (hW _ w_419) (fun _ h => h) rfl dMD_order_8 ?_
      refine lv_iload_n hx hb dMD_order_11 rfl (lv_at hl 0 rfl) ?_
      refine k_iald (i := 2) hx hb hM 1 hb_a.2.1 rfl (by omega) (by omega) dMD_order_12 ?_
      refine lv_aload_n hx hb dMD_order_13 rfl (lv_at hl 2 rfl) ?_
      refine k_get (own := RMD) (ref := RMV) (C := RMV) (T := TMV) (N := 3) (ci := 5) (v := .ref na_b) hx hb hW inMV hown hM hb_b.1 rfl 0 (by decide) (hW _ w_419) (fun _ h => h) rfl dMD_order_14 ?_
      refine lv_iload_n hx hb dMD_order_17 rfl (lv_at hl 0 rfl) ?_
      refine k_iald (i := 2) hx hb hM 1 hb_b.2.1 rfl (by omega) (by omega) dMD_order_18 ?_
      refine lv_icmp_eq (tgt := 43) hx hb dMD_order_19 (by decide) (fun h19 => ?_) (fun h19 => ?_)
      · have h19 := (nJ_eq_t (a := NN_a 2) (b := NN_b 2) (by omega) (by omega)).mp h19
        refine lv_iinc (v := nI 3) (lv' := [(2, .int (nI 3)), (0, .ref a), (1, .ref b)]) (k := 0) hx hb dMD_order_43 hl rfl (by decide) (by decide) rfl (fun ls hl => ?_)
        refine lv_goto (tgt := 2) hx hb dMD_order_46 (by decide) ?_
        refine lv_iload_n hx hb dMD_order_2 rfl (lv_at hl 0 rfl) ?_
        refine lv_iconst (v := nI 3) hx hb dMD_order_3 (by decide) ?_
        refine lv_icmp_ge (tgt := 49) hx hb dMD_order_4 (by decide) (fun _ => ?_) (fun h => absurd (by decide) h)
        have h3 : oF (rowOf v) (rowOf u) 0 7 = oF (rowOf v) (rowOf u) 3 4 := by rw [hor, if_pos (by omega), if_pos (by omega), if_pos (by omega)]
        refine lv_aload_n hx hb dMD_order_49 rfl (lv_at hl 1 rfl) ?_
        refine k_get (own := RMD) (ref := RMV) (C := RMV) (T := TMV) (N := 3) (ci := 5) (v := .int (nI v.2.2.2.length)) hx hb hW inMV hown hM hb_a.1 rfl 2 (by decide) (hW _ w_422) (fun _ h => h) rfl dMD_order_50 ?_
        refine lv_if_eq (tgt := 63) hx hb dMD_order_53 (by decide) (fun h53 => ?_) (fun h53 => ?_)
        · have h53 := (nJ_eq_t (a := v.2.2.2.length) (b := 0) (by omega) (by omega)).mp h53
          refine lv_aload_n hx hb dMD_order_63 rfl (lv_at hl 1 rfl) ?_
          refine k_get (own := RMD) (ref := RMV) (C := RMV) (T := TMV) (N := 3) (ci := 5) (v := .int (nI v.2.2.2.length)) hx hb hW inMV hown hM hb_a.1 rfl 2 (by decide) (hW _ w_422) (fun _ h => h) rfl dMD_order_64 ?_
          refine lv_aload_n hx hb dMD_order_67 rfl (lv_at hl 2 rfl) ?_
          refine k_get (own := RMD) (ref := RMV) (C := RMV) (T := TMV) (N := 3) (ci := 5) (v := .int (nI u.2.2.2.length)) hx hb hW inMV hown hM hb_b.1 rfl 2 (by decide) (hW _ w_422) (fun _ h => h) rfl dMD_order_68 ?_
          refine lv_icmp_ne (tgt := 78) hx hb dMD_order_71 (by decide) (fun h71 => ?_) (fun h71 => ?_)
          · have h71 := (nJ_ne_t (a := v.2.2.2.length) (b := u.2.2.2.length) (by omega) (by omega)).mp h71
            refine lv_aload_n hx hb dMD_order_78 rfl (lv_at hl 1 rfl) ?_
            refine k_get (own := RMD) (ref := RMV) (C := RMV) (T := TMV) (N := 3) (ci := 5) (v := .int (nI v.2.2.2.length)) hx hb hW inMV hown hM hb_a.1 rfl 2 (by decide) (hW _ w_422) (fun _ h => h) rfl dMD_order_79 ?_
            refine lv_if_ne (tgt := 89) hx hb dMD_order_82 (by decide) (fun h82 => ?_) (fun h82 => ?_)
            · have h82 := (nJ_ne_t (a := v.2.2.2.length) (b := 0) (by omega) (by omega)).mp h82
              refine lv_iconst (v := (-1)) hx hb dMD_order_89 (by decide) ?_
              exact kr_i hx hb hr hlocks hM dMD_order_90 (⟨by rw [h3]; first | exact (or_00 (List.length_eq_zero_iff.mp (by omega)) (List.length_eq_zero_iff.mp (by omega))).symm | exact (or_01 (List.length_eq_zero_iff.mp (by omega)) (List.getElem?_eq_getElem (show 0 < u.2.2.2.length by omega)) (by have z := mV_lt (hb_b.2.2.2.2.2.2.2.2.2.2 0 _ (List.getElem?_eq_getElem (show 0 < u.2.2.2.length by omega))).2.2.2.2.2; rw [(hb_b.2.2.2.2.2.2.2.2.2.2 0 _ (List.getElem?_eq_getElem (show 0 < u.2.2.2.length by omega))).2.2.2.2.1] at z; exact z)).symm | exact (or_10 (List.getElem?_eq_getElem (show 0 < v.2.2.2.length by omega)) (List.length_eq_zero_iff.mp (by omega)) (by have z := mV_lt (hb_a.2.2.2.2.2.2.2.2.2.2 0 _ (List.getElem?_eq_getElem (show 0 < v.2.2.2.length by omega))).2.2.2.2.2; rw [(hb_a.2.2.2.2.2.2.2.2.2.2 0 _ (List.getElem?_eq_getElem (show 0 < v.2.2.2.length by omega))).2.2.2.2.1] at z; exact z)).symm, rfl⟩)
            · have h82 := (nJ_ne_f (a := v.2.2.2.length) (b := 0) (by omega) (by omega)).mp h82
              refine lv_iconst (v := nI 1) hx hb dMD_order_85 (by decide) ?_
              refine lv_goto (tgt := 90) hx hb dMD_order_86 (by decide) ?_
              exact kr_i hx hb hr hlocks hM dMD_order_90 (⟨by rw [h3]; first | exact (or_00 (List.length_eq_zero_iff.mp (by omega)) (List.length_eq_zero_iff.mp (by omega))).symm | exact (or_01 (List.length_eq_zero_iff.mp (by omega)) (List.getElem?_eq_getElem (show 0 < u.2.2.2.length by omega)) (by have z := mV_lt (hb_b.2.2.2.2.2.2.2.2.2.2 0 _ (List.getElem?_eq_getElem (show 0 < u.2.2.2.length by omega))).2.2.2.2.2; rw [(hb_b.2.2.2.2.2.2.2.2.2.2 0 _ (List.getElem?_eq_getElem (show 0 < u.2.2.2.length by omega))).2.2.2.2.1] at z; exact z)).symm | exact (or_10 (List.getElem?_eq_getElem (show 0 < v.2.2.2.length by omega)) (List.length_eq_zero_iff.mp (by omega)) (by have z := mV_lt (hb_a.2.2.2.2.2.2.2.2.2.2 0 _ (List.getElem?_eq_getElem (show 0 < v.2.2.2.length by omega))).2.2.2.2.2; rw [(hb_a.2.2.2.2.2.2.2.2.2.2 0 _ (List.getElem?_eq_getElem (show 0 < v.2.2.2.length by omega))).2.2.2.2.1] at z; exact z)).symm, rfl⟩)
          · have h71 := (nJ_ne_f (a := v.2.2.2.length) (b := u.2.2.2.length) (by omega) (by omega)).mp h71
            refine lv_iconst (v := nI 0) hx hb dMD_order_74 (by decide) ?_
            refine lv_goto (tgt := 90) hx hb dMD_order_75 (by decide) ?_
            exact kr_i hx hb hr hlocks hM dMD_order_90 (⟨by rw [h3]; first | exact (or_00 (List.length_eq_zero_iff.mp (by omega)) (List.length_eq_zero_iff.mp (by omega))).symm | exact (or_01 (List.length_eq_zero_iff.mp (by omega)) (List.getElem?_eq_getElem (show 0 < u.2.2.2.length by omega)) (by have z := mV_lt (hb_b.2.2.2.2.2.2.2.2.2.2 0 _ (List.getElem?_eq_getElem (show 0 < u.2.2.2.length by omega))).2.2.2.2.2; rw [(hb_b.2.2.2.2.2.2.2.2.2.2 0 _ (List.getElem?_eq_getElem (show 0 < u.2.2.2.length by omega))).2.2.2.2.1] at z; exact z)).symm | exact (or_10 (List.getElem?_eq_getElem (show 0 < v.2.2.2.length by omega)) (List.length_eq_zero_iff.mp (by omega)) (by have z := mV_lt (hb_a.2.2.2.2.2.2.2.2.2.2 0 _ (List.getElem?_eq_getElem (show 0 < v.2.2.2.length by omega))).2.2.2.2.2; rw [(hb_a.2.2.2.2.2.2.2.2.2.2 0 _ (List.getElem?_eq_getElem (show 0 < v.2.2.2.length by omega))).2.2.2.2.1] at z; exact z)).symm, rfl⟩)
        · have h53 := (nJ_eq_f (a := v.2.2.2.length) (b := 0) (by omega) (by omega)).mp h53
          refine lv_aload_n hx hb dMD_order_56 rfl (lv_at hl 2 rfl) ?_
          refine k_get (own := RMD) (ref := RMV) (C := RMV) (T := TMV) (N := 3) (ci := 5) (v := .int (nI u.2.2.2.length)) hx hb hW inMV hown hM hb_b.1 rfl 2 (by decide) (hW _ w_422) (fun _ h => h) rfl dMD_order_57 ?_
          refine lv_if_ne (tgt := 91) hx hb dMD_order_60 (by decide) (fun h60 => ?_) (fun h60 => ?_)
          · have h60 := (nJ_ne_t (a := u.2.2.2.length) (b := 0) (by omega) (by omega)).mp h60
            refine lv_iconst (v := nI 0) hx hb dMD_order_91 (by decide) ?_
            refine lv_istore_n (lv' := [(2, .int (nI 0)), (0, .ref a), (1, .ref b)]) hx hb dMD_order_92 rfl hl (by decide) rfl (fun ls hl => ?_)
            exact cut93 _ 0 (Nat.lt_succ_self _) (by first | assumption | omega | exact rfl) (by first | assumption | omega | exact rfl) (by first | assumption | omega | exact rfl) (by first | assumption | omega | exact rfl) (by first | assumption | omega | exact rfl) ls H locs (lv_sub hl [1, 2, 0] rfl) hM
          · have h60 := (nJ_ne_f (a := u.2.2.2.length) (b := 0) (by omega) (by omega)).mp h60
            refine lv_aload_n hx hb dMD_order_63 rfl (lv_at hl 1 rfl) ?_
            refine k_get (own := RMD) (ref := RMV) (C := RMV) (T := TMV) (N := 3) (ci := 5) (v := .int (nI v.2.2.2.length)) hx hb hW inMV hown hM hb_a.1 rfl 2 (by decide) (hW _ w_422) (fun _ h => h) rfl dMD_order_64 ?_
            refine lv_aload_n hx hb dMD_order_67 rfl (lv_at hl 2 rfl) ?_
            refine k_get (own := RMD) (ref := RMV) (C := RMV) (T := TMV) (N := 3) (ci := 5) (v := .int (nI u.2.2.2.length)) hx hb hW inMV hown hM hb_b.1 rfl 2 (by decide) (hW _ w_422) (fun _ h => h) rfl dMD_order_68 ?_
            refine lv_icmp_ne (tgt := 78) hx hb dMD_order_71 (by decide) (fun h71 => ?_) (fun h71 => ?_)
            · have h71 := (nJ_ne_t (a := v.2.2.2.length) (b := u.2.2.2.length) (by omega) (by omega)).mp h71
              refine lv_aload_n hx hb dMD_order_78 rfl (lv_at hl 1 rfl) ?_
              refine k_get (own := RMD) (ref := RMV) (C := RMV) (T := TMV) (N := 3) (ci := 5) (v := .int (nI v.2.2.2.length)) hx hb hW inMV hown hM hb_a.1 rfl 2 (by decide) (hW _ w_422) (fun _ h => h) rfl dMD_order_79 ?_
              refine lv_if_ne (tgt := 89) hx hb dMD_order_82 (by decide) (fun h82 => ?_) (fun h82 => ?_)
              · have h82 := (nJ_ne_t (a := v.2.2.2.length) (b := 0) (by omega) (by omega)).mp h82
                refine lv_iconst (v := (-1)) hx hb dMD_order_89 (by decide) ?_
                exact kr_i hx hb hr hlocks hM dMD_order_90 (⟨by rw [h3]; first | exact (or_00 (List.length_eq_zero_iff.mp (by omega)) (List.length_eq_zero_iff.mp (by omega))).symm | exact (or_01 (List.length_eq_zero_iff.mp (by omega)) (List.getElem?_eq_getElem (show 0 < u.2.2.2.length by omega)) (by have z := mV_lt (hb_b.2.2.2.2.2.2.2.2.2.2 0 _ (List.getElem?_eq_getElem (show 0 < u.2.2.2.length by omega))).2.2.2.2.2; rw [(hb_b.2.2.2.2.2.2.2.2.2.2 0 _ (List.getElem?_eq_getElem (show 0 < u.2.2.2.length by omega))).2.2.2.2.1] at z; exact z)).symm | exact (or_10 (List.getElem?_eq_getElem (show 0 < v.2.2.2.length by omega)) (List.length_eq_zero_iff.mp (by omega)) (by have z := mV_lt (hb_a.2.2.2.2.2.2.2.2.2.2 0 _ (List.getElem?_eq_getElem (show 0 < v.2.2.2.length by omega))).2.2.2.2.2; rw [(hb_a.2.2.2.2.2.2.2.2.2.2 0 _ (List.getElem?_eq_getElem (show 0 < v.2.2.2.length by omega))).2.2.2.2.1] at z; exact z)).symm, rfl⟩)
              · have h82 := (nJ_ne_f (a := v.2.2.2.length) (b := 0) (by omega) (by omega)).mp h82
                refine lv_iconst (v := nI 1) hx hb dMD_order_85 (by decide) ?_
                refine lv_goto (tgt := 90) hx hb dMD_order_86 (by decide) ?_
                exact kr_i hx hb hr hlocks hM dMD_order_90 (⟨by rw [h3]; first | exact (or_00 (List.length_eq_zero_iff.mp (by omega)) (List.length_eq_zero_iff.mp (by omega))).symm | exact (or_01 (List.length_eq_zero_iff.mp (by omega)) (List.getElem?_eq_getElem (show 0 < u.2.2.2.length by omega)) (by have z := mV_lt (hb_b.2.2.2.2.2.2.2.2.2.2 0 _ (List.getElem?_eq_getElem (show 0 < u.2.2.2.length by omega))).2.2.2.2.2; rw [(hb_b.2.2.2.2.2.2.2.2.2.2 0 _ (List.getElem?_eq_getElem (show 0 < u.2.2.2.length by omega))).2.2.2.2.1] at z; exact z)).symm | exact (or_10 (List.getElem?_eq_getElem (show 0 < v.2.2.2.length by omega)) (List.length_eq_zero_iff.mp (by omega)) (by have z := mV_lt (hb_a.2.2.2.2.2.2.2.2.2.2 0 _ (List.getElem?_eq_getElem (show 0 < v.2.2.2.length by omega))).2.2.2.2.2; rw [(hb_a.2.2.2.2.2.2.2.2.2.2 0 _ (List.getElem?_eq_getElem (show 0 < v.2.2.2.length by omega))).2.2.2.2.1] at z; exact z)).symm, rfl⟩)
            · have h71 := (nJ_ne_f (a := v.2.2.2.length) (b := u.2.2.2.length) (by omega) (by omega)).mp h71
              refine lv_iconst (v := nI 0) hx hb dMD_order_74 (by decide) ?_
              refine lv_goto (tgt := 90) hx hb dMD_order_75 (by decide) ?_
              exact kr_i hx hb hr hlocks hM dMD_order_90 (⟨by rw [h3]; first | exact (or_00 (List.length_eq_zero_iff.mp (by omega)) (List.length_eq_zero_iff.mp (by omega))).symm | exact (or_01 (List.length_eq_zero_iff.mp (by omega)) (List.getElem?_eq_getElem (show 0 < u.2.2.2.length by omega)) (by have z := mV_lt (hb_b.2.2.2.2.2.2.2.2.2.2 0 _ (List.getElem?_eq_getElem (show 0 < u.2.2.2.length by omega))).2.2.2.2.2; rw [(hb_b.2.2.2.2.2.2.2.2.2.2 0 _ (List.getElem?_eq_getElem (show 0 < u.2.2.2.length by omega))).2.2.2.2.1] at z; exact z)).symm | exact (or_10 (List.getElem?_eq_getElem (show 0 < v.2.2.2.length by omega)) (List.length_eq_zero_iff.mp (by omega)) (by have z := mV_lt (hb_a.2.2.2.2.2.2.2.2.2.2 0 _ (List.getElem?_eq_getElem (show 0 < v.2.2.2.length by omega))).2.2.2.2.2; rw [(hb_a.2.2.2.2.2.2.2.2.2.2 0 _ (List.getElem?_eq_getElem (show 0 < v.2.2.2.length by omega))).2.2.2.2.1] at z; exact z)).symm, rfl⟩)
      · have h19 := (nJ_eq_f (a := NN_a 2) (b := NN_b 2) (by omega) (by omega)).mp h19
        refine lv_aload_n hx hb dMD_order_22 rfl (lv_at hl 1 rfl) ?_
        refine k_get (own := RMD) (ref := RMV) (C := RMV) (T := TMV) (N := 3) (ci := 5) (v := .ref na_a) hx hb hW inMV hown hM hb_a.1 rfl 0 (by decide) (hW _ w_419) (fun _ h => h) rfl dMD_order_23 ?_
        refine lv_iload_n hx hb dMD_order_26 rfl (lv_at hl 0 rfl) ?_
        refine k_iald (i := 2) hx hb hM 1 hb_a.2.1 rfl (by omega) (by omega) dMD_order_27 ?_
        refine lv_aload_n hx hb dMD_order_28 rfl (lv_at hl 2 rfl) ?_
        refine k_get (own := RMD) (ref := RMV) (C := RMV) (T := TMV) (N := 3) (ci := 5) (v := .ref na_b) hx hb hW inMV hown hM hb_b.1 rfl 0 (by decide) (hW _ w_419) (fun _ h => h) rfl dMD_order_29 ?_
        refine lv_iload_n hx hb dMD_order_32 rfl (lv_at hl 0 rfl) ?_
        refine k_iald (i := 2) hx hb hM 1 hb_b.2.1 rfl (by omega) (by omega) dMD_order_33 ?_
        refine lv_icmp_ge (tgt := 41) hx hb dMD_order_34 (by decide) (fun h34 => ?_) (fun h34 => ?_)
        · have h34 := (nJ_ge_t (a := NN_a 2) (b := NN_b 2) (by omega) (by omega)).mp h34
          refine lv_iconst (v := nI 1) hx hb dMD_order_41 (by decide) ?_
          exact kr_i hx hb hr hlocks hM dMD_order_42 (⟨by rw [hor]; first | rw [if_neg (by omega), if_pos (by omega)] | rw [if_neg (by omega), if_neg (by omega)] | rw [if_pos (by omega), if_neg (by omega), if_pos (by omega)] | rw [if_pos (by omega), if_neg (by omega), if_neg (by omega)] | rw [if_pos (by omega), if_pos (by omega), if_neg (by omega), if_pos (by omega)] | rw [if_pos (by omega), if_pos (by omega), if_neg (by omega), if_neg (by omega)], rfl⟩)
        · have h34 := (nJ_ge_f (a := NN_a 2) (b := NN_b 2) (by omega) (by omega)).mp h34
          refine lv_iconst (v := (-1)) hx hb dMD_order_37 (by decide) ?_
          refine lv_goto (tgt := 42) hx hb dMD_order_38 (by decide) ?_
          exact kr_i hx hb hr hlocks hM dMD_order_42 (⟨by rw [hor]; first | rw [if_neg (by omega), if_pos (by omega)] | rw [if_neg (by omega), if_neg (by omega)] | rw [if_pos (by omega), if_neg (by omega), if_pos (by omega)] | rw [if_pos (by omega), if_neg (by omega), if_neg (by omega)] | rw [if_pos (by omega), if_pos (by omega), if_neg (by omega), if_pos (by omega)] | rw [if_pos (by omega), if_pos (by omega), if_neg (by omega), if_neg (by omega)], rfl⟩)
    · have h19 := (nJ_eq_f (a := NN_a 1) (b := NN_b 1) (by omega) (by omega)).mp h19
      refine lv_aload_n hx hb dMD_order_22 rfl (lv_at hl 1 rfl) ?_
      refine k_get (own := RMD) (ref := RMV) (C := RMV) (T := TMV) (N := 3) (ci := 5) (v := .ref na_a) hx hb hW inMV hown hM hb_a.1 rfl 0 (by decide) (hW _ w_419) (fun _ h => h) rfl dMD_order_23 ?_
      refine lv_iload_n hx hb dMD_order_26 rfl (lv_at hl 0 rfl) ?_
      refine k_iald (i := 1) hx hb hM 1 hb_a.2.1 rfl (by omega) (by omega) dMD_order_27 ?_
      refine lv_aload_n hx hb dMD_order_28 rfl (lv_at hl 2 rfl) ?_
      refine k_get (own := RMD) (ref := RMV) (C := RMV) (T := TMV) (N := 3) (ci := 5) (v := .ref na_b) hx hb hW inMV hown hM hb_b.1 rfl 0 (by decide) (hW _ w_419) (fun _ h => h) rfl dMD_order_29 ?_
      refine lv_iload_n hx hb dMD_order_32 rfl (lv_at hl 0 rfl) ?_
      refine k_iald (i := 1) hx hb hM 1 hb_b.2.1 rfl (by omega) (by omega) dMD_order_33 ?_
      refine lv_icmp_ge (tgt := 41) hx hb dMD_order_34 (by decide) (fun h34 => ?_) (fun h34 => ?_)
      · have h34 := (nJ_ge_t (a := NN_a 1) (b := NN_b 1) (by omega) (by omega)).mp h34
        refine lv_iconst (v := nI 1) hx hb dMD_order_41 (by decide) ?_
        exact kr_i hx hb hr hlocks hM dMD_order_42 (⟨by rw [hor]; first | rw [if_neg (by omega), if_pos (by omega)] | rw [if_neg (by omega), if_neg (by omega)] | rw [if_pos (by omega), if_neg (by omega), if_pos (by omega)] | rw [if_pos (by omega), if_neg (by omega), if_neg (by omega)] | rw [if_pos (by omega), if_pos (by omega), if_neg (by omega), if_pos (by omega)] | rw [if_pos (by omega), if_pos (by omega), if_neg (by omega), if_neg (by omega)], rfl⟩)
      · have h34 := (nJ_ge_f (a := NN_a 1) (b := NN_b 1) (by omega) (by omega)).mp h34
        refine lv_iconst (v := (-1)) hx hb dMD_order_37 (by decide) ?_
        refine lv_goto (tgt := 42) hx hb dMD_order_38 (by decide) ?_
        exact kr_i hx hb hr hlocks hM dMD_order_42 (⟨by rw [hor]; first | rw [if_neg (by omega), if_pos (by omega)] | rw [if_neg (by omega), if_neg (by omega)] | rw [if_pos (by omega), if_neg (by omega), if_pos (by omega)] | rw [if_pos (by omega), if_neg (by omega), if_neg (by omega)] | rw [if_pos (by omega), if_pos (by omega), if_neg (by omega), if_pos (by omega)] | rw [if_pos (by omega), if_pos (by omega), if_neg (by omega), if_neg (by omega)], rfl⟩)
  · have h19 := (nJ_eq_f (a := NN_a 0) (b := NN_b 0) (by omega) (by omega)).mp h19
    refine lv_aload_n hx hb dMD_order_22 rfl (lv_at hl 1 rfl) ?_
    refine k_get (own := RMD) (ref := RMV) (C := RMV) (T := TMV) (N := 3) (ci := 5) (v := .ref na_a) hx hb hW inMV hown hM hb_a.1 rfl 0 (by decide) (hW _ w_419) (fun _ h => h) rfl dMD_order_23 ?_
    refine lv_iload_n hx hb dMD_order_26 rfl (lv_at hl 0 rfl) ?_
    refine k_iald (i := 0) hx hb hM 1 hb_a.2.1 rfl (by omega) (by omega) dMD_order_27 ?_
    refine lv_aload_n hx hb dMD_order_28 rfl (lv_at hl 2 rfl) ?_
    refine k_get (own := RMD) (ref := RMV) (C := RMV) (T := TMV) (N := 3) (ci := 5) (v := .ref na_b) hx hb hW inMV hown hM hb_b.1 rfl 0 (by decide) (hW _ w_419) (fun _ h => h) rfl dMD_order_29 ?_
    refine lv_iload_n hx hb dMD_order_32 rfl (lv_at hl 0 rfl) ?_
    refine k_iald (i := 0) hx hb hM 1 hb_b.2.1 rfl (by omega) (by omega) dMD_order_33 ?_
    refine lv_icmp_ge (tgt := 41) hx hb dMD_order_34 (by decide) (fun h34 => ?_) (fun h34 => ?_)
    · have h34 := (nJ_ge_t (a := NN_a 0) (b := NN_b 0) (by omega) (by omega)).mp h34
      refine lv_iconst (v := nI 1) hx hb dMD_order_41 (by decide) ?_
      exact kr_i hx hb hr hlocks hM dMD_order_42 (⟨by rw [hor]; first | rw [if_neg (by omega), if_pos (by omega)] | rw [if_neg (by omega), if_neg (by omega)] | rw [if_pos (by omega), if_neg (by omega), if_pos (by omega)] | rw [if_pos (by omega), if_neg (by omega), if_neg (by omega)] | rw [if_pos (by omega), if_pos (by omega), if_neg (by omega), if_pos (by omega)] | rw [if_pos (by omega), if_pos (by omega), if_neg (by omega), if_neg (by omega)], rfl⟩)
    · have h34 := (nJ_ge_f (a := NN_a 0) (b := NN_b 0) (by omega) (by omega)).mp h34
      refine lv_iconst (v := (-1)) hx hb dMD_order_37 (by decide) ?_
      refine lv_goto (tgt := 42) hx hb dMD_order_38 (by decide) ?_
      exact kr_i hx hb hr hlocks hM dMD_order_42 (⟨by rw [hor]; first | rw [if_neg (by omega), if_pos (by omega)] | rw [if_neg (by omega), if_neg (by omega)] | rw [if_pos (by omega), if_neg (by omega), if_pos (by omega)] | rw [if_pos (by omega), if_neg (by omega), if_neg (by omega)] | rw [if_pos (by omega), if_pos (by omega), if_neg (by omega), if_pos (by omega)] | rw [if_pos (by omega), if_pos (by omega), if_neg (by omega), if_neg (by omega)], rfl⟩)
