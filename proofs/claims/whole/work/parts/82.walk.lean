theorem and7 (x : Int32) : x &&& nI 7 = nI 0 ∨ x &&& nI 7 = nI 1 ∨ x &&& nI 7 = nI 2 ∨ x &&& nI 7 = nI 3 ∨ x &&& nI 7 = nI 4 ∨ x &&& nI 7 = nI 5 ∨ x &&& nI 7 = nI 6 ∨ x &&& nI 7 = nI 7 := by
  have h : x &&& nI 7 = nI (x.toBitVec.toNat % 8) := pk_and x 3 (by decide)
  rw [h]
  have h8 : x.toBitVec.toNat % 8 < 8 := Nat.mod_lt _ (by decide)
  rcases (show x.toBitVec.toNat % 8 = 0 ∨ x.toBitVec.toNat % 8 = 1 ∨ x.toBitVec.toNat % 8 = 2 ∨ x.toBitVec.toNat % 8 = 3 ∨ x.toBitVec.toNat % 8 = 4 ∨ x.toBitVec.toNat % 8 = 5 ∨ x.toBitVec.toNat % 8 = 6 ∨ x.toBitVec.toNat % 8 = 7 by omega) with h | h | h | h | h | h | h | h <;> rw [h] <;> simp
theorem ii6 (t : Nat) : nI (6 * t) + 6 = nI (6 * (t + 1)) := nI_add (6 * t) 6
theorem ge6 {i L : Nat} (hi : i < 2 ^ 30) (hL : L < 2 ^ 30) (h : ¬ nI L - nI 6 < nI i) : i + 6 ≤ L := by
  rw [Int32.lt_iff_toInt_lt, pk_sub_toInt hL (by decide), nI_toInt (by omega)] at h
  omega
set_option maxHeartbeats 4000000 in
set_option maxRecDepth 100000 in
theorem whole_walk {p : Program} {e : Env} {s : State} {m : MethodId} {below : List Frame} {meth : Method} {c : Code} (l : Launch) {b L : Nat} {xs : Nat → Int32} (hL : L ≤ 3072) {g : kG} (hx : p.tables.exec = Jvm.exec) (hb : c.code = code) (hr : meth.sig.returnType = ret) (hml : c.maxLocals = 4) (hown : s.vm.findClass RLW = some m.cls) (hW : ∀ w ∈ Wd, w.before #[Value.ref b] s = true) (hX : va_X b L xs s s.heap) (hbl : b < s.heap.size) (hlocks : meth.locks = false) (hg : g.1 = s.heap.size) (ls : Array Slot) (hl : lv_has ls 4 [(0, .ref b)]) (H : Heap) (locs : List Loc) (hM : kS g (fun _ => none) s H locs) : W p l e room_1 s m #[Value.ref b] below meth c H locs 0 0 (lw_Z below #[Value.ref b] s) (F0 m 0 ls []) := by
  have hbA : ¬ g.1 ≤ b := by rw [hg]; exact Nat.not_le.mpr hbl
  have hL9 : L ≤ 4000 := Nat.le_trans hL (by decide)
  have cut18 : ∀ (fu : Nat), ∀ (t : Nat) (ν : km_M) (xa : Nat) (ma : Nat) (ta : Nat) (ba : Nat) (sa : Nat) (oa : Nat) (la : Nat) (cd : Nat) (cr : Nat) (te : Nat) (bo : Nat) (br : Nat) (co : Nat) (er : Nat) (lv : Nat → Nat) (lr : Nat → Nat) (tp : Nat) (wd : Nat) (li : Nat) (B : Nat → Nat) (ln : Nat) (vs : List kVer), L + 1 - 6 * t < fu → 6 * t ≤ L → kCD sa oa cd cr bo br co er lv lr → kCI g ν xa ta ba sa oa la cd cr te bo br co er lv lr B ln vs → kRI g ν ma tp wd li B ln vs → ∀ (ls : Array Slot) (H : Heap) (locs : List Loc), lv_has ls 4 [(0, .ref b), (1, .ref xa), (2, .ref ma), (3, .int (nI (6 * t)))] → kS g (ν) s H locs → W p l e room_1 s m #[Value.ref b] below meth c H locs (41 + 708 * t) (1780 + 8312 * t) (lw_Z below #[Value.ref b] s) (F0 m 18 ls []) := by
    intro fu
    induction fu with
    | zero => intro t ν xa ma ta ba sa oa la cd cr te bo br co er lv lr tp wd li B ln vs hlt; exact absurd hlt (Nat.not_lt_zero _)
    | succ fu ih =>
      intro t ν xa ma ta ba sa oa la cd cr te bo br co er lv lr tp wd li B ln vs hlt ht hCD hCI hRI ls H locs hl hM
      refine lv_iload_n hx hb dLW_law_18 rfl (lv_at hl 3 rfl) ?_
      refine lv_aload_n hx hb dLW_law_19 rfl (lv_at hl 0 rfl) ?_
      refine va_slen hx hb hX hbl hbA hM.2.2.2 dLW_law_20 ?_
      refine topi_eq (y := nI L) rfl ?_
      refine lv_bipush (v := nI 6) hx hb dLW_law_21 (by decide) ?_
      refine lv_isub hx hb dLW_law_23 ?_
      refine topi_eq (y := nI L - nI 6) rfl ?_
      refine lv_icmp_gt (tgt := 300) hx hb dLW_law_24 (by decide) (fun h24 => ?_) (fun h24 => ?_)
      · skip
        refine lv_iconst (v := nI 1) hx hb dLW_law_300 (by decide) ?_
        refine va_forget (fun q hq => ?_) (W.widen (k := 600000) (n := 7302250) (by omega) (by omega) (lw_ret hx hb hr hlocks dLW_law_301))
        have hz : g.1 ≤ q.base := hM.2.2.2.2.2 q hq
        omega
      · have h24 : 6 * t + 6 ≤ L := ge6 (by omega) (by omega) h24
        refine lv_aload_n hx hb dLW_law_27 rfl (lv_at hl 0 rfl) ?_
        refine lv_iload_n hx hb dLW_law_28 rfl (lv_at hl 3 rfl) ?_
        refine va_sld (i := nI (6 * t)) hx hb hX hbl hbA hM.2.2.2 (vp_in_nI (by omega) (by omega)) dLW_law_29 ?_
        refine topi_eq (y := xs (6 * t)) (congrArg xs (nI_clamp (by omega))) ?_
        refine lv_bipush (v := nI 7) hx hb dLW_law_30 (by decide) ?_
        refine lv_iand hx hb dLW_law_32 ?_
        rcases and7 (xs (6 * t)) with h8 | h8 | h8 | h8 | h8 | h8 | h8 | h8
        · refine topi_eq (y := nI 0) h8 ?_
          refine lv_tableIn (tgt := 80) (off := 47) hx hb dLW_law_33 (by decide) (by decide) (by decide) (by decide) ?_
          refine lv_aload_n hx hb dLW_law_80 rfl (lv_at hl 1 rfl) ?_
          refine lv_aload_n hx hb dLW_law_81 rfl (lv_at hl 0 rfl) ?_
          refine lv_iload_n hx hb dLW_law_82 rfl (lv_at hl 3 rfl) ?_
          refine lv_iconst (v := nI 1) hx hb dLW_law_83 (by decide) ?_
          refine lv_iadd hx hb dLW_law_84 ?_
          refine topi_eq (y := nI ((6 * t) + 1)) (nI_add (6 * t) 1) ?_
          refine va_sld (i := nI ((6 * t) + 1)) hx hb hX hbl hbA hM.2.2.2 (vp_in_nI (by omega) (by omega)) dLW_law_85 ?_
          refine topi_eq (y := xs ((6 * t) + 1)) (congrArg xs (nI_clamp (by omega))) ?_
          refine lv_aload_n hx hb dLW_law_86 rfl (lv_at hl 0 rfl) ?_
          refine lv_iload_n hx hb dLW_law_87 rfl (lv_at hl 3 rfl) ?_
          refine lv_iconst (v := nI 2) hx hb dLW_law_88 (by decide) ?_
          refine lv_iadd hx hb dLW_law_89 ?_
          refine topi_eq (y := nI ((6 * t) + 2)) (nI_add (6 * t) 2) ?_
          refine va_sld (i := nI ((6 * t) + 2)) hx hb hX hbl hbA hM.2.2.2 (vp_in_nI (by omega) (by omega)) dLW_law_90 ?_
          refine topi_eq (y := xs ((6 * t) + 2)) (congrArg xs (nI_clamp (by omega))) ?_
          refine lv_aload_n hx hb dLW_law_91 rfl (lv_at hl 0 rfl) ?_
          refine lv_iload_n hx hb dLW_law_92 rfl (lv_at hl 3 rfl) ?_
          refine lv_iconst (v := nI 3) hx hb dLW_law_93 (by decide) ?_
          refine lv_iadd hx hb dLW_law_94 ?_
          refine topi_eq (y := nI ((6 * t) + 3)) (nI_add (6 * t) 3) ?_
          refine va_sld (i := nI ((6 * t) + 3)) hx hb hX hbl hbA hM.2.2.2 (vp_in_nI (by omega) (by omega)) dLW_law_95 ?_
          refine topi_eq (y := xs ((6 * t) + 3)) (congrArg xs (nI_clamp (by omega))) ?_
          refine lv_aload_n hx hb dLW_law_96 rfl (lv_at hl 0 rfl) ?_
          refine lv_iload_n hx hb dLW_law_97 rfl (lv_at hl 3 rfl) ?_
          refine lv_iconst (v := nI 4) hx hb dLW_law_98 (by decide) ?_
          refine lv_iadd hx hb dLW_law_99 ?_
          refine topi_eq (y := nI ((6 * t) + 4)) (nI_add (6 * t) 4) ?_
          refine va_sld (i := nI ((6 * t) + 4)) hx hb hX hbl hbA hM.2.2.2 (vp_in_nI (by omega) (by omega)) dLW_law_100 ?_
          refine topi_eq (y := xs ((6 * t) + 4)) (congrArg xs (nI_clamp (by omega))) ?_
          refine lv_aload_n hx hb dLW_law_101 rfl (lv_at hl 0 rfl) ?_
          refine lv_iload_n hx hb dLW_law_102 rfl (lv_at hl 3 rfl) ?_
          refine lv_iconst (v := nI 5) hx hb dLW_law_103 (by decide) ?_
          refine lv_iadd hx hb dLW_law_104 ?_
          refine topi_eq (y := nI ((6 * t) + 5)) (nI_add (6 * t) 5) ?_
          refine va_sld (i := nI ((6 * t) + 5)) hx hb hX hbl hbA hM.2.2.2 (vp_in_nI (by omega) (by omega)) dLW_law_105 ?_
          refine topi_eq (y := xs ((6 * t) + 5)) (congrArg xs (nI_clamp (by omega))) ?_
          refine kc_i (va_runV (C := RVR) (As := [.int (xs ((6 * t) + 1)), .int (xs ((6 * t) + 2)), .int (xs ((6 * t) + 3)), .int (xs ((6 * t) + 4)), .int (xs ((6 * t) + 5))]) (b := xa) (rest := []) (Ts := Wd) ⟨hx, hb, hml, hown, hW⟩ (xVR_feed l g ν hCD hCI (xs ((6 * t) + 1)) (xs ((6 * t) + 2)) (xs ((6 * t) + 3)) (xs ((6 * t) + 4)) (xs ((6 * t) + 5))) (cwV 5 hW (k_gV w_110 w_111 w_112 w_1 w_113) rfl rfl rfl (by decide +kernel) ⟨Nat.le_of_ble_eq_true rfl, Nat.le_of_ble_eq_true rfl⟩) (k_preV (q := (RVR, TVR, 5)) hM hCI.2.2.2.1 rfl) rfl rfl hl.1 rfl (lv_room (Nat.le_of_ble_eq_true rfl)) dLW_law_106 ⟨(show (41 + 708 * t) + 0 ≤ 600000 by omega), (show (1780 + 8312 * t) + 0 ≤ 7302250 by omega)⟩) hM (fun r μ2 H locs hp hM => ?_)
          obtain ⟨rfl, hC1, hK1⟩ := hp
          have hR1 := kRI_kp hK1 hRI
          obtain ⟨ws1, at1, hma1⟩ := hR1.2.2.2.1
          refine lv_aload_n hx hb dLW_law_109 rfl (lv_at hl 2 rfl) ?_
          refine lv_aload_n hx hb dLW_law_110 rfl (lv_at hl 0 rfl) ?_
          refine lv_iload_n hx hb dLW_law_111 rfl (lv_at hl 3 rfl) ?_
          refine lv_iconst (v := nI 1) hx hb dLW_law_112 (by decide) ?_
          refine lv_iadd hx hb dLW_law_113 ?_
          refine topi_eq (y := nI ((6 * t) + 1)) (nI_add (6 * t) 1) ?_
          refine va_sld (i := nI ((6 * t) + 1)) hx hb hX hbl hbA hM.2.2.2 (vp_in_nI (by omega) (by omega)) dLW_law_114 ?_
          refine topi_eq (y := xs ((6 * t) + 1)) (congrArg xs (nI_clamp (by omega))) ?_
          refine lv_aload_n hx hb dLW_law_115 rfl (lv_at hl 0 rfl) ?_
          refine lv_iload_n hx hb dLW_law_116 rfl (lv_at hl 3 rfl) ?_
          refine lv_iconst (v := nI 2) hx hb dLW_law_117 (by decide) ?_
          refine lv_iadd hx hb dLW_law_118 ?_
          refine topi_eq (y := nI ((6 * t) + 2)) (nI_add (6 * t) 2) ?_
          refine va_sld (i := nI ((6 * t) + 2)) hx hb hX hbl hbA hM.2.2.2 (vp_in_nI (by omega) (by omega)) dLW_law_119 ?_
          refine topi_eq (y := xs ((6 * t) + 2)) (congrArg xs (nI_clamp (by omega))) ?_
          refine lv_aload_n hx hb dLW_law_120 rfl (lv_at hl 0 rfl) ?_
          refine lv_iload_n hx hb dLW_law_121 rfl (lv_at hl 3 rfl) ?_
          refine lv_iconst (v := nI 3) hx hb dLW_law_122 (by decide) ?_
          refine lv_iadd hx hb dLW_law_123 ?_
          refine topi_eq (y := nI ((6 * t) + 3)) (nI_add (6 * t) 3) ?_
          refine va_sld (i := nI ((6 * t) + 3)) hx hb hX hbl hbA hM.2.2.2 (vp_in_nI (by omega) (by omega)) dLW_law_124 ?_
          refine topi_eq (y := xs ((6 * t) + 3)) (congrArg xs (nI_clamp (by omega))) ?_
          refine lv_aload_n hx hb dLW_law_125 rfl (lv_at hl 0 rfl) ?_
          refine lv_iload_n hx hb dLW_law_126 rfl (lv_at hl 3 rfl) ?_
          refine lv_iconst (v := nI 4) hx hb dLW_law_127 (by decide) ?_
          refine lv_iadd hx hb dLW_law_128 ?_
          refine topi_eq (y := nI ((6 * t) + 4)) (nI_add (6 * t) 4) ?_
          refine va_sld (i := nI ((6 * t) + 4)) hx hb hX hbl hbA hM.2.2.2 (vp_in_nI (by omega) (by omega)) dLW_law_129 ?_
          refine topi_eq (y := xs ((6 * t) + 4)) (congrArg xs (nI_clamp (by omega))) ?_
          refine lv_aload_n hx hb dLW_law_130 rfl (lv_at hl 0 rfl) ?_
          refine lv_iload_n hx hb dLW_law_131 rfl (lv_at hl 3 rfl) ?_
          refine lv_iconst (v := nI 5) hx hb dLW_law_132 (by decide) ?_
          refine lv_iadd hx hb dLW_law_133 ?_
          refine topi_eq (y := nI ((6 * t) + 5)) (nI_add (6 * t) 5) ?_
          refine va_sld (i := nI ((6 * t) + 5)) hx hb hX hbl hbA hM.2.2.2 (vp_in_nI (by omega) (by omega)) dLW_law_134 ?_
          refine topi_eq (y := xs ((6 * t) + 5)) (congrArg xs (nI_clamp (by omega))) ?_
          refine kc_i (va_runV (C := RMD) (As := [.int (xs ((6 * t) + 1)), .int (xs ((6 * t) + 2)), .int (xs ((6 * t) + 3)), .int (xs ((6 * t) + 4)), .int (xs ((6 * t) + 5))]) (b := ma) (rest := [.int (fdR ln)]) (Ts := Wd) ⟨hx, hb, hml, hown, hW⟩ (xMD_feed l g μ2 hR1 (xs ((6 * t) + 1)) (xs ((6 * t) + 2)) (xs ((6 * t) + 3)) (xs ((6 * t) + 4)) (xs ((6 * t) + 5))) (cwV 5 hW (k_gV w_314 w_315 w_316 w_7 w_317) rfl rfl rfl (by decide +kernel) ⟨Nat.le_of_ble_eq_true rfl, Nat.le_of_ble_eq_true rfl⟩) (k_preV (q := (RMD, TMD, 7)) hM hma1 rfl) rfl rfl hl.1 rfl (lv_room (Nat.le_of_ble_eq_true rfl)) dLW_law_135 ⟨(show (41 + 708 * t) + 0 ≤ 600000 by omega), (show (1780 + 8312 * t) + 0 ≤ 7302250 by omega)⟩) hM (fun r μ3 H locs hp hM => ?_)
          obtain ⟨rfl, hR2, hK2⟩ := hp
          have hC2 := kCI_kp hK2 hC1
          refine lv_icmp_eq (tgt := 294) hx hb dLW_law_138 (by decide) (fun _ => ?_) (fun h => absurd rfl h)
          refine lv_iinc (v := nI (6 * (t + 1))) (lv' := [(3, .int (nI (6 * (t + 1)))), (0, .ref b), (1, .ref xa), (2, .ref ma)]) (k := 3) hx hb dLW_law_294 hl rfl (ii6 t) (by decide) rfl (fun ls hl => ?_)
          refine lv_goto (tgt := 18) hx hb dLW_law_297 (by decide) ?_
          refine W.widen (k := 41 + 708 * (t + 1)) (n := 1780 + 8312 * (t + 1)) (by omega) (by omega) ?_
          exact ih (t + 1) μ3 xa ma ta ba sa oa la cd cr te bo br co er lv lr tp wd li (fdB B ln (xs ((6 * t) + 1)) (xs ((6 * t) + 2)) (xs ((6 * t) + 3)) (xs ((6 * t) + 4)) (xs ((6 * t) + 5))) (fdL ln) vs (by omega) (by first | assumption | omega | exact rfl) (by first | assumption | omega | exact rfl) (by exact hC2) (by exact hR2) ls H locs (lv_sub hl [1, 2, 3, 0] rfl) hM
        · refine topi_eq (y := nI 1) h8 ?_
          refine lv_tableIn (tgt := 143) (off := 110) hx hb dLW_law_33 (by decide) (by decide) (by decide) (by decide) ?_
          refine lv_aload_n hx hb dLW_law_143 rfl (lv_at hl 1 rfl) ?_
          refine lv_aload_n hx hb dLW_law_144 rfl (lv_at hl 0 rfl) ?_
          refine lv_iload_n hx hb dLW_law_145 rfl (lv_at hl 3 rfl) ?_
          refine lv_iconst (v := nI 1) hx hb dLW_law_146 (by decide) ?_
          refine lv_iadd hx hb dLW_law_147 ?_
          refine topi_eq (y := nI ((6 * t) + 1)) (nI_add (6 * t) 1) ?_
          refine va_sld (i := nI ((6 * t) + 1)) hx hb hX hbl hbA hM.2.2.2 (vp_in_nI (by omega) (by omega)) dLW_law_148 ?_
          refine topi_eq (y := xs ((6 * t) + 1)) (congrArg xs (nI_clamp (by omega))) ?_
          refine kc_i (va_runV (C := RVR) (As := [.int (xs ((6 * t) + 1))]) (b := xa) (rest := []) (Ts := Wd) ⟨hx, hb, hml, hown, hW⟩ (xVR_end l g ν hCD hCI (xs ((6 * t) + 1))) (cwV 1 hW (k_gV w_122 w_123 w_124 w_1 w_125) rfl rfl rfl (by decide +kernel) ⟨Nat.le_of_ble_eq_true rfl, Nat.le_of_ble_eq_true rfl⟩) (k_preV (q := (RVR, TVR, 5)) hM hCI.2.2.2.1 rfl) rfl rfl hl.1 rfl (lv_room (Nat.le_of_ble_eq_true rfl)) dLW_law_149 ⟨(show (41 + 708 * t) + 0 ≤ 600000 by omega), (show (1780 + 8312 * t) + 0 ≤ 7302250 by omega)⟩) hM (fun r μ2 H locs hp hM => ?_)
          obtain ⟨rfl, hC1, hK1⟩ := hp
          have hR1 := kRI_kp hK1 hRI
          obtain ⟨ws1, at1, hma1⟩ := hR1.2.2.2.1
          refine lv_aload_n hx hb dLW_law_152 rfl (lv_at hl 2 rfl) ?_
          refine lv_aload_n hx hb dLW_law_153 rfl (lv_at hl 0 rfl) ?_
          refine lv_iload_n hx hb dLW_law_154 rfl (lv_at hl 3 rfl) ?_
          refine lv_iconst (v := nI 1) hx hb dLW_law_155 (by decide) ?_
          refine lv_iadd hx hb dLW_law_156 ?_
          refine topi_eq (y := nI ((6 * t) + 1)) (nI_add (6 * t) 1) ?_
          refine va_sld (i := nI ((6 * t) + 1)) hx hb hX hbl hbA hM.2.2.2 (vp_in_nI (by omega) (by omega)) dLW_law_157 ?_
          refine topi_eq (y := xs ((6 * t) + 1)) (congrArg xs (nI_clamp (by omega))) ?_
          refine kc_i (va_runV (C := RMD) (As := [.int (xs ((6 * t) + 1))]) (b := ma) (rest := [.int (edR ln (xs ((6 * t) + 1)))]) (Ts := Wd) ⟨hx, hb, hml, hown, hW⟩ (xMD_end l g μ2 hR1 (xs ((6 * t) + 1))) (cwV 1 hW (k_gV w_322 w_323 w_324 w_7 w_325) rfl rfl rfl (by decide +kernel) ⟨Nat.le_of_ble_eq_true rfl, Nat.le_of_ble_eq_true rfl⟩) (k_preV (q := (RMD, TMD, 7)) hM hma1 rfl) rfl rfl hl.1 rfl (lv_room (Nat.le_of_ble_eq_true rfl)) dLW_law_158 ⟨(show (41 + 708 * t) + 0 ≤ 600000 by omega), (show (1780 + 8312 * t) + 0 ≤ 7302250 by omega)⟩) hM (fun r μ3 H locs hp hM => ?_)
          obtain ⟨rfl, hR2, hK2⟩ := hp
          have hC2 := kCI_kp hK2 hC1
          refine lv_icmp_eq (tgt := 294) hx hb dLW_law_161 (by decide) (fun _ => ?_) (fun h => absurd rfl h)
          refine lv_iinc (v := nI (6 * (t + 1))) (lv' := [(3, .int (nI (6 * (t + 1)))), (0, .ref b), (1, .ref xa), (2, .ref ma)]) (k := 3) hx hb dLW_law_294 hl rfl (ii6 t) (by decide) rfl (fun ls hl => ?_)
          refine lv_goto (tgt := 18) hx hb dLW_law_297 (by decide) ?_
          refine W.widen (k := 41 + 708 * (t + 1)) (n := 1780 + 8312 * (t + 1)) (by omega) (by omega) ?_
          exact ih (t + 1) μ3 xa ma ta ba sa oa la cd cr te bo br co er lv lr tp wd li B (edL ln (xs ((6 * t) + 1))) vs (by omega) (by first | assumption | omega | exact rfl) (by first | assumption | omega | exact rfl) (by exact hC2) (by exact hR2) ls H locs (lv_sub hl [1, 2, 3, 0] rfl) hM
        · refine topi_eq (y := nI 2) h8 ?_
          refine lv_tableIn (tgt := 166) (off := 133) hx hb dLW_law_33 (by decide) (by decide) (by decide) (by decide) ?_
          refine lv_aload_n hx hb dLW_law_166 rfl (lv_at hl 1 rfl) ?_
          refine kc_i (va_runV (C := RVR) (As := []) (b := xa) (rest := []) (Ts := Wd) ⟨hx, hb, hml, hown, hW⟩ (xVR_take l g ν hCD hCI ) (cwV 0 hW (k_gV w_126 w_127 w_128 w_1 w_129) rfl rfl rfl (by decide +kernel) ⟨Nat.le_of_ble_eq_true rfl, Nat.le_of_ble_eq_true rfl⟩) (k_preV (q := (RVR, TVR, 5)) hM hCI.2.2.2.1 rfl) rfl rfl hl.1 rfl (lv_room (Nat.le_of_ble_eq_true rfl)) dLW_law_167 ⟨(show (41 + 708 * t) + 0 ≤ 600000 by omega), (show (1780 + 8312 * t) + 0 ≤ 7302250 by omega)⟩) hM (fun r μ2 H locs hp hM => ?_)
          obtain ⟨rfl, hC1, hK1⟩ := hp
          have hR1 := kRI_kp hK1 hRI
          obtain ⟨ws1, at1, hma1⟩ := hR1.2.2.2.1
          refine lv_aload_n hx hb dLW_law_170 rfl (lv_at hl 2 rfl) ?_
          refine kc_i (va_runV (C := RMD) (As := []) (b := ma) (rest := [.int ((tkR B ln vs).1)]) (Ts := Wd) ⟨hx, hb, hml, hown, hW⟩ (mMD_take l g μ2 hR1 ) (cwV 0 hW (k_gV w_326 w_327 w_328 w_7 w_329) rfl rfl rfl (by decide +kernel) ⟨Nat.le_of_ble_eq_true rfl, Nat.le_of_ble_eq_true rfl⟩) (k_preV (q := (RMD, TMD, 7)) hM hma1 rfl) rfl rfl hl.1 rfl (lv_room (Nat.le_of_ble_eq_true rfl)) dLW_law_171 ⟨(show (41 + 708 * t) + 419 ≤ 600000 by omega), (show (1780 + 8312 * t) + 1642 ≤ 7302250 by omega)⟩) hM (fun r μ3 H locs hp hM => ?_)
          obtain ⟨rfl, hR2, hK2⟩ := hp
          have hC2 := kCI_kp hK2 hC1
          refine W.widen (k := (41 + 708 * t) + 419) (n := (1780 + 8312 * t) + 1642) (by omega) (by omega) ?_
          refine lv_icmp_eq (tgt := 294) hx hb dLW_law_174 (by decide) (fun _ => ?_) (fun h => absurd rfl h)
          refine lv_iinc (v := nI (6 * (t + 1))) (lv' := [(3, .int (nI (6 * (t + 1)))), (0, .ref b), (1, .ref xa), (2, .ref ma)]) (k := 3) hx hb dLW_law_294 hl rfl (ii6 t) (by decide) rfl (fun ls hl => ?_)
          refine lv_goto (tgt := 18) hx hb dLW_law_297 (by decide) ?_
          refine W.widen (k := 41 + 708 * (t + 1)) (n := 1780 + 8312 * (t + 1)) (by omega) (by omega) ?_
          exact ih (t + 1) μ3 xa ma ta ba sa oa la cd cr te bo br co er lv lr tp wd li B 0 ((tkR B ln vs).2) (by omega) (by first | assumption | omega | exact rfl) (by first | assumption | omega | exact rfl) (by exact hC2) (by exact hR2) ls H locs (lv_sub hl [1, 2, 3, 0] rfl) hM
        · refine topi_eq (y := nI 3) h8 ?_
          refine lv_tableIn (tgt := 179) (off := 146) hx hb dLW_law_33 (by decide) (by decide) (by decide) (by decide) ?_
          refine lv_aload_n hx hb dLW_law_179 rfl (lv_at hl 1 rfl) ?_
          refine lv_aload_n hx hb dLW_law_180 rfl (lv_at hl 0 rfl) ?_
          refine lv_iload_n hx hb dLW_law_181 rfl (lv_at hl 3 rfl) ?_
          refine lv_iconst (v := nI 1) hx hb dLW_law_182 (by decide) ?_
          refine lv_iadd hx hb dLW_law_183 ?_
          refine topi_eq (y := nI ((6 * t) + 1)) (nI_add (6 * t) 1) ?_
          refine va_sld (i := nI ((6 * t) + 1)) hx hb hX hbl hbA hM.2.2.2 (vp_in_nI (by omega) (by omega)) dLW_law_184 ?_
          refine topi_eq (y := xs ((6 * t) + 1)) (congrArg xs (nI_clamp (by omega))) ?_
          refine lv_aload_n hx hb dLW_law_185 rfl (lv_at hl 0 rfl) ?_
          refine lv_iload_n hx hb dLW_law_186 rfl (lv_at hl 3 rfl) ?_
          refine lv_iconst (v := nI 2) hx hb dLW_law_187 (by decide) ?_
          refine lv_iadd hx hb dLW_law_188 ?_
          refine topi_eq (y := nI ((6 * t) + 2)) (nI_add (6 * t) 2) ?_
          refine va_sld (i := nI ((6 * t) + 2)) hx hb hX hbl hbA hM.2.2.2 (vp_in_nI (by omega) (by omega)) dLW_law_189 ?_
          refine topi_eq (y := xs ((6 * t) + 2)) (congrArg xs (nI_clamp (by omega))) ?_
          refine kc_i (va_runV (C := RVR) (As := [.int (xs ((6 * t) + 1)), .int (xs ((6 * t) + 2))]) (b := xa) (rest := []) (Ts := Wd) ⟨hx, hb, hml, hown, hW⟩ (xVR_compare l g ν hCD hCI (xs ((6 * t) + 1)) (xs ((6 * t) + 2))) (cwV 2 hW (k_gV w_190 w_191 w_192 w_1 w_193) rfl rfl rfl (by decide +kernel) ⟨Nat.le_of_ble_eq_true rfl, Nat.le_of_ble_eq_true rfl⟩) (k_preV (q := (RVR, TVR, 5)) hM hCI.2.2.2.1 rfl) rfl rfl hl.1 rfl (lv_room (Nat.le_of_ble_eq_true rfl)) dLW_law_190 ⟨(show (41 + 708 * t) + 0 ≤ 600000 by omega), (show (1780 + 8312 * t) + 0 ≤ 7302250 by omega)⟩) hM (fun r μ2 H locs hp hM => ?_)
          obtain ⟨rfl, hC1, hK1⟩ := hp
          have hR1 := kRI_kp hK1 hRI
          obtain ⟨ws1, at1, hma1⟩ := hR1.2.2.2.1
          refine lv_aload_n hx hb dLW_law_193 rfl (lv_at hl 2 rfl) ?_
          refine lv_aload_n hx hb dLW_law_194 rfl (lv_at hl 0 rfl) ?_
          refine lv_iload_n hx hb dLW_law_195 rfl (lv_at hl 3 rfl) ?_
          refine lv_iconst (v := nI 1) hx hb dLW_law_196 (by decide) ?_
          refine lv_iadd hx hb dLW_law_197 ?_
          refine topi_eq (y := nI ((6 * t) + 1)) (nI_add (6 * t) 1) ?_
          refine va_sld (i := nI ((6 * t) + 1)) hx hb hX hbl hbA hM.2.2.2 (vp_in_nI (by omega) (by omega)) dLW_law_198 ?_
          refine topi_eq (y := xs ((6 * t) + 1)) (congrArg xs (nI_clamp (by omega))) ?_
          refine lv_aload_n hx hb dLW_law_199 rfl (lv_at hl 0 rfl) ?_
          refine lv_iload_n hx hb dLW_law_200 rfl (lv_at hl 3 rfl) ?_
          refine lv_iconst (v := nI 2) hx hb dLW_law_201 (by decide) ?_
          refine lv_iadd hx hb dLW_law_202 ?_
          refine topi_eq (y := nI ((6 * t) + 2)) (nI_add (6 * t) 2) ?_
          refine va_sld (i := nI ((6 * t) + 2)) hx hb hX hbl hbA hM.2.2.2 (vp_in_nI (by omega) (by omega)) dLW_law_203 ?_
          refine topi_eq (y := xs ((6 * t) + 2)) (congrArg xs (nI_clamp (by omega))) ?_
          refine kc_i (va_runV (C := RMD) (As := [.int (xs ((6 * t) + 1)), .int (xs ((6 * t) + 2))]) (b := ma) (rest := [.int (cmR vs (xs ((6 * t) + 1)) (xs ((6 * t) + 2)))]) (Ts := Wd) ⟨hx, hb, hml, hown, hW⟩ (xMD_compare l g μ2 hR1 (xs ((6 * t) + 1)) (xs ((6 * t) + 2))) (cwV 2 hW (k_gV w_525 w_526 w_527 w_7 w_528) rfl rfl rfl (by decide +kernel) ⟨Nat.le_of_ble_eq_true rfl, Nat.le_of_ble_eq_true rfl⟩) (k_preV (q := (RMD, TMD, 7)) hM hma1 rfl) rfl rfl hl.1 rfl (lv_room (Nat.le_of_ble_eq_true rfl)) dLW_law_204 ⟨(show (41 + 708 * t) + 0 ≤ 600000 by omega), (show (1780 + 8312 * t) + 0 ≤ 7302250 by omega)⟩) hM (fun r μ3 H locs hp hM => ?_)
          obtain ⟨rfl, hR2, hK2⟩ := hp
          have hC2 := kCI_kp hK2 hC1
          refine lv_icmp_eq (tgt := 294) hx hb dLW_law_207 (by decide) (fun _ => ?_) (fun h => absurd rfl h)
          refine lv_iinc (v := nI (6 * (t + 1))) (lv' := [(3, .int (nI (6 * (t + 1)))), (0, .ref b), (1, .ref xa), (2, .ref ma)]) (k := 3) hx hb dLW_law_294 hl rfl (ii6 t) (by decide) rfl (fun ls hl => ?_)
          refine lv_goto (tgt := 18) hx hb dLW_law_297 (by decide) ?_
          refine W.widen (k := 41 + 708 * (t + 1)) (n := 1780 + 8312 * (t + 1)) (by omega) (by omega) ?_
          exact ih (t + 1) μ3 xa ma ta ba sa oa la cd cr te bo br co er lv lr tp wd li B ln vs (by omega) (by first | assumption | omega | exact rfl) (by first | assumption | omega | exact rfl) (by exact hC2) (by exact hR2) ls H locs (lv_sub hl [1, 2, 3, 0] rfl) hM
        · refine topi_eq (y := nI 4) h8 ?_
          refine lv_tableIn (tgt := 212) (off := 179) hx hb dLW_law_33 (by decide) (by decide) (by decide) (by decide) ?_
          refine lv_aload_n hx hb dLW_law_212 rfl (lv_at hl 1 rfl) ?_
          refine lv_aload_n hx hb dLW_law_213 rfl (lv_at hl 0 rfl) ?_
          refine lv_iload_n hx hb dLW_law_214 rfl (lv_at hl 3 rfl) ?_
          refine lv_iconst (v := nI 1) hx hb dLW_law_215 (by decide) ?_
          refine lv_iadd hx hb dLW_law_216 ?_
          refine topi_eq (y := nI ((6 * t) + 1)) (nI_add (6 * t) 1) ?_
          refine va_sld (i := nI ((6 * t) + 1)) hx hb hX hbl hbA hM.2.2.2 (vp_in_nI (by omega) (by omega)) dLW_law_217 ?_
          refine topi_eq (y := xs ((6 * t) + 1)) (congrArg xs (nI_clamp (by omega))) ?_
          refine lv_aload_n hx hb dLW_law_218 rfl (lv_at hl 0 rfl) ?_
          refine lv_iload_n hx hb dLW_law_219 rfl (lv_at hl 3 rfl) ?_
          refine lv_iconst (v := nI 2) hx hb dLW_law_220 (by decide) ?_
          refine lv_iadd hx hb dLW_law_221 ?_
          refine topi_eq (y := nI ((6 * t) + 2)) (nI_add (6 * t) 2) ?_
          refine va_sld (i := nI ((6 * t) + 2)) hx hb hX hbl hbA hM.2.2.2 (vp_in_nI (by omega) (by omega)) dLW_law_222 ?_
          refine topi_eq (y := xs ((6 * t) + 2)) (congrArg xs (nI_clamp (by omega))) ?_
          refine kc_i (va_runV (C := RVR) (As := [.int (xs ((6 * t) + 1)), .int (xs ((6 * t) + 2))]) (b := xa) (rest := []) (Ts := Wd) ⟨hx, hb, hml, hown, hW⟩ (xVR_part l g ν hCD hCI (xs ((6 * t) + 1)) (xs ((6 * t) + 2))) (cwV 2 hW (k_gV w_202 w_203 w_204 w_1 w_205) rfl rfl rfl (by decide +kernel) ⟨Nat.le_of_ble_eq_true rfl, Nat.le_of_ble_eq_true rfl⟩) (k_preV (q := (RVR, TVR, 5)) hM hCI.2.2.2.1 rfl) rfl rfl hl.1 rfl (lv_room (Nat.le_of_ble_eq_true rfl)) dLW_law_223 ⟨(show (41 + 708 * t) + 0 ≤ 600000 by omega), (show (1780 + 8312 * t) + 0 ≤ 7302250 by omega)⟩) hM (fun r μ2 H locs hp hM => ?_)
          obtain ⟨rfl, hC1, hK1⟩ := hp
          have hR1 := kRI_kp hK1 hRI
          obtain ⟨ws1, at1, hma1⟩ := hR1.2.2.2.1
          refine lv_aload_n hx hb dLW_law_226 rfl (lv_at hl 2 rfl) ?_
          refine lv_aload_n hx hb dLW_law_227 rfl (lv_at hl 0 rfl) ?_
          refine lv_iload_n hx hb dLW_law_228 rfl (lv_at hl 3 rfl) ?_
          refine lv_iconst (v := nI 1) hx hb dLW_law_229 (by decide) ?_
          refine lv_iadd hx hb dLW_law_230 ?_
          refine topi_eq (y := nI ((6 * t) + 1)) (nI_add (6 * t) 1) ?_
          refine va_sld (i := nI ((6 * t) + 1)) hx hb hX hbl hbA hM.2.2.2 (vp_in_nI (by omega) (by omega)) dLW_law_231 ?_
          refine topi_eq (y := xs ((6 * t) + 1)) (congrArg xs (nI_clamp (by omega))) ?_
          refine lv_aload_n hx hb dLW_law_232 rfl (lv_at hl 0 rfl) ?_
          refine lv_iload_n hx hb dLW_law_233 rfl (lv_at hl 3 rfl) ?_
          refine lv_iconst (v := nI 2) hx hb dLW_law_234 (by decide) ?_
          refine lv_iadd hx hb dLW_law_235 ?_
          refine topi_eq (y := nI ((6 * t) + 2)) (nI_add (6 * t) 2) ?_
          refine va_sld (i := nI ((6 * t) + 2)) hx hb hX hbl hbA hM.2.2.2 (vp_in_nI (by omega) (by omega)) dLW_law_236 ?_
          refine topi_eq (y := xs ((6 * t) + 2)) (congrArg xs (nI_clamp (by omega))) ?_
          refine kc_i (va_runV (C := RMD) (As := [.int (xs ((6 * t) + 1)), .int (xs ((6 * t) + 2))]) (b := ma) (rest := [.int (ptR vs (xs ((6 * t) + 1)) (xs ((6 * t) + 2)))]) (Ts := Wd) ⟨hx, hb, hml, hown, hW⟩ (xMD_part l g μ2 hR1 (xs ((6 * t) + 1)) (xs ((6 * t) + 2))) (cwV 2 hW (k_gV w_539 w_540 w_541 w_7 w_542) rfl rfl rfl (by decide +kernel) ⟨Nat.le_of_ble_eq_true rfl, Nat.le_of_ble_eq_true rfl⟩) (k_preV (q := (RMD, TMD, 7)) hM hma1 rfl) rfl rfl hl.1 rfl (lv_room (Nat.le_of_ble_eq_true rfl)) dLW_law_237 ⟨(show (41 + 708 * t) + 0 ≤ 600000 by omega), (show (1780 + 8312 * t) + 0 ≤ 7302250 by omega)⟩) hM (fun r μ3 H locs hp hM => ?_)
          obtain ⟨rfl, hR2, hK2⟩ := hp
          have hC2 := kCI_kp hK2 hC1
          refine lv_icmp_eq (tgt := 294) hx hb dLW_law_240 (by decide) (fun _ => ?_) (fun h => absurd rfl h)
          refine lv_iinc (v := nI (6 * (t + 1))) (lv' := [(3, .int (nI (6 * (t + 1)))), (0, .ref b), (1, .ref xa), (2, .ref ma)]) (k := 3) hx hb dLW_law_294 hl rfl (ii6 t) (by decide) rfl (fun ls hl => ?_)
          refine lv_goto (tgt := 18) hx hb dLW_law_297 (by decide) ?_
          refine W.widen (k := 41 + 708 * (t + 1)) (n := 1780 + 8312 * (t + 1)) (by omega) (by omega) ?_
          exact ih (t + 1) μ3 xa ma ta ba sa oa la cd cr te bo br co er lv lr tp wd li B ln vs (by omega) (by first | assumption | omega | exact rfl) (by first | assumption | omega | exact rfl) (by exact hC2) (by exact hR2) ls H locs (lv_sub hl [1, 2, 3, 0] rfl) hM
        · refine topi_eq (y := nI 5) h8 ?_
          refine lv_tableIn (tgt := 245) (off := 212) hx hb dLW_law_33 (by decide) (by decide) (by decide) (by decide) ?_
          refine lv_aload_n hx hb dLW_law_245 rfl (lv_at hl 1 rfl) ?_
          refine lv_aload_n hx hb dLW_law_246 rfl (lv_at hl 0 rfl) ?_
          refine lv_iload_n hx hb dLW_law_247 rfl (lv_at hl 3 rfl) ?_
          refine lv_iconst (v := nI 1) hx hb dLW_law_248 (by decide) ?_
          refine lv_iadd hx hb dLW_law_249 ?_
          refine topi_eq (y := nI ((6 * t) + 1)) (nI_add (6 * t) 1) ?_
          refine va_sld (i := nI ((6 * t) + 1)) hx hb hX hbl hbA hM.2.2.2 (vp_in_nI (by omega) (by omega)) dLW_law_250 ?_
          refine topi_eq (y := xs ((6 * t) + 1)) (congrArg xs (nI_clamp (by omega))) ?_
          refine kc_i (va_runV (C := RVR) (As := [.int (xs ((6 * t) + 1))]) (b := xa) (rest := []) (Ts := Wd) ⟨hx, hb, hml, hown, hW⟩ (xVR_rank l g ν hCD hCI (xs ((6 * t) + 1))) (cwV 1 hW (k_gV w_210 w_211 w_212 w_1 w_213) rfl rfl rfl (by decide +kernel) ⟨Nat.le_of_ble_eq_true rfl, Nat.le_of_ble_eq_true rfl⟩) (k_preV (q := (RVR, TVR, 5)) hM hCI.2.2.2.1 rfl) rfl rfl hl.1 rfl (lv_room (Nat.le_of_ble_eq_true rfl)) dLW_law_251 ⟨(show (41 + 708 * t) + 0 ≤ 600000 by omega), (show (1780 + 8312 * t) + 0 ≤ 7302250 by omega)⟩) hM (fun r μ2 H locs hp hM => ?_)
          obtain ⟨rfl, hC1, hK1⟩ := hp
          have hR1 := kRI_kp hK1 hRI
          obtain ⟨ws1, at1, hma1⟩ := hR1.2.2.2.1
          refine lv_aload_n hx hb dLW_law_254 rfl (lv_at hl 2 rfl) ?_
          refine lv_aload_n hx hb dLW_law_255 rfl (lv_at hl 0 rfl) ?_
          refine lv_iload_n hx hb dLW_law_256 rfl (lv_at hl 3 rfl) ?_
          refine lv_iconst (v := nI 1) hx hb dLW_law_257 (by decide) ?_
          refine lv_iadd hx hb dLW_law_258 ?_
          refine topi_eq (y := nI ((6 * t) + 1)) (nI_add (6 * t) 1) ?_
          refine va_sld (i := nI ((6 * t) + 1)) hx hb hX hbl hbA hM.2.2.2 (vp_in_nI (by omega) (by omega)) dLW_law_259 ?_
          refine topi_eq (y := xs ((6 * t) + 1)) (congrArg xs (nI_clamp (by omega))) ?_
          refine kc_i (va_runV (C := RMD) (As := [.int (xs ((6 * t) + 1))]) (b := ma) (rest := [.int (rkR vs (xs ((6 * t) + 1)))]) (Ts := Wd) ⟨hx, hb, hml, hown, hW⟩ (xMD_rank l g μ2 hR1 (xs ((6 * t) + 1))) (cwV 1 hW (k_gV w_543 w_544 w_545 w_7 w_546) rfl rfl rfl (by decide +kernel) ⟨Nat.le_of_ble_eq_true rfl, Nat.le_of_ble_eq_true rfl⟩) (k_preV (q := (RMD, TMD, 7)) hM hma1 rfl) rfl rfl hl.1 rfl (lv_room (Nat.le_of_ble_eq_true rfl)) dLW_law_260 ⟨(show (41 + 708 * t) + 0 ≤ 600000 by omega), (show (1780 + 8312 * t) + 0 ≤ 7302250 by omega)⟩) hM (fun r μ3 H locs hp hM => ?_)
          obtain ⟨rfl, hR2, hK2⟩ := hp
          have hC2 := kCI_kp hK2 hC1
          refine lv_icmp_eq (tgt := 294) hx hb dLW_law_263 (by decide) (fun _ => ?_) (fun h => absurd rfl h)
          refine lv_iinc (v := nI (6 * (t + 1))) (lv' := [(3, .int (nI (6 * (t + 1)))), (0, .ref b), (1, .ref xa), (2, .ref ma)]) (k := 3) hx hb dLW_law_294 hl rfl (ii6 t) (by decide) rfl (fun ls hl => ?_)
          refine lv_goto (tgt := 18) hx hb dLW_law_297 (by decide) ?_
          refine W.widen (k := 41 + 708 * (t + 1)) (n := 1780 + 8312 * (t + 1)) (by omega) (by omega) ?_
          exact ih (t + 1) μ3 xa ma ta ba sa oa la cd cr te bo br co er lv lr tp wd li B ln vs (by omega) (by first | assumption | omega | exact rfl) (by first | assumption | omega | exact rfl) (by exact hC2) (by exact hR2) ls H locs (lv_sub hl [1, 2, 3, 0] rfl) hM
        · refine topi_eq (y := nI 6) h8 ?_
          refine lv_tableIn (tgt := 268) (off := 235) hx hb dLW_law_33 (by decide) (by decide) (by decide) (by decide) ?_
          refine lv_aload_n hx hb dLW_law_268 rfl (lv_at hl 1 rfl) ?_
          refine kc_i (va_runV (C := RVR) (As := []) (b := xa) (rest := []) (Ts := Wd) ⟨hx, hb, hml, hown, hW⟩ (xVR_match l g ν hCD hCI ) (cwV 0 hW (k_gV w_214 w_215 w_216 w_1 w_217) rfl rfl rfl (by decide +kernel) ⟨Nat.le_of_ble_eq_true rfl, Nat.le_of_ble_eq_true rfl⟩) (k_preV (q := (RVR, TVR, 5)) hM hCI.2.2.2.1 rfl) rfl rfl hl.1 rfl (lv_room (Nat.le_of_ble_eq_true rfl)) dLW_law_269 ⟨(show (41 + 708 * t) + 0 ≤ 600000 by omega), (show (1780 + 8312 * t) + 0 ≤ 7302250 by omega)⟩) hM (fun r μ2 H locs hp hM => ?_)
          obtain ⟨rfl, hC1, hK1⟩ := hp
          have hR1 := kRI_kp hK1 hRI
          obtain ⟨ws1, at1, hma1⟩ := hR1.2.2.2.1
          refine lv_aload_n hx hb dLW_law_272 rfl (lv_at hl 2 rfl) ?_
          refine kc_i (va_runV (C := RMD) (As := []) (b := ma) (rest := [.int (mtR B ln vs)]) (Ts := Wd) ⟨hx, hb, hml, hown, hW⟩ (mMD_match l g μ2 hR1 ) (cwV 0 hW (k_gV w_547 w_548 w_549 w_7 w_550) rfl rfl rfl (by decide +kernel) ⟨Nat.le_of_ble_eq_true rfl, Nat.le_of_ble_eq_true rfl⟩) (k_preV (q := (RMD, TMD, 7)) hM hma1 rfl) rfl rfl hl.1 rfl (lv_room (Nat.le_of_ble_eq_true rfl)) dLW_law_273 ⟨(show (41 + 708 * t) + 708 ≤ 600000 by omega), (show (1780 + 8312 * t) + 8312 ≤ 7302250 by omega)⟩) hM (fun r μ3 H locs hp hM => ?_)
          obtain ⟨rfl, hR2, hK2⟩ := hp
          have hC2 := kCI_kp hK2 hC1
          refine W.widen (k := (41 + 708 * t) + 708) (n := (1780 + 8312 * t) + 8312) (by omega) (by omega) ?_
          refine lv_icmp_eq (tgt := 294) hx hb dLW_law_276 (by decide) (fun _ => ?_) (fun h => absurd rfl h)
          refine lv_iinc (v := nI (6 * (t + 1))) (lv' := [(3, .int (nI (6 * (t + 1)))), (0, .ref b), (1, .ref xa), (2, .ref ma)]) (k := 3) hx hb dLW_law_294 hl rfl (ii6 t) (by decide) rfl (fun ls hl => ?_)
          refine lv_goto (tgt := 18) hx hb dLW_law_297 (by decide) ?_
          refine W.widen (k := 41 + 708 * (t + 1)) (n := 1780 + 8312 * (t + 1)) (by omega) (by omega) ?_
          exact ih (t + 1) μ3 xa ma ta ba sa oa la cd cr te bo br co er lv lr tp wd li B 0 vs (by omega) (by first | assumption | omega | exact rfl) (by first | assumption | omega | exact rfl) (by exact hC2) (by exact hR2) ls H locs (lv_sub hl [1, 2, 3, 0] rfl) hM
        · refine topi_eq (y := nI 7) h8 ?_
          refine lv_tableIn (tgt := 281) (off := 248) hx hb dLW_law_33 (by decide) (by decide) (by decide) (by decide) ?_
          refine lv_aload_n hx hb dLW_law_281 rfl (lv_at hl 1 rfl) ?_
          refine kc_i (va_runV (C := RVR) (As := []) (b := xa) (rest := []) (Ts := Wd) ⟨hx, hb, hml, hown, hW⟩ (xVR_clear l g ν hCD hCI ) (cwV 0 hW (k_gV w_277 w_278 w_279 w_1 w_280) rfl rfl rfl (by decide +kernel) ⟨Nat.le_of_ble_eq_true rfl, Nat.le_of_ble_eq_true rfl⟩) (k_preV (q := (RVR, TVR, 5)) hM hCI.2.2.2.1 rfl) rfl rfl hl.1 rfl (lv_room (Nat.le_of_ble_eq_true rfl)) dLW_law_282 ⟨(show (41 + 708 * t) + 0 ≤ 600000 by omega), (show (1780 + 8312 * t) + 0 ≤ 7302250 by omega)⟩) hM (fun r μ2 H locs hp hM => ?_)
          obtain ⟨rfl, hC1, hK1⟩ := hp
          have hR1 := kRI_kp hK1 hRI
          obtain ⟨ws1, at1, hma1⟩ := hR1.2.2.2.1
          refine lv_aload_n hx hb dLW_law_285 rfl (lv_at hl 2 rfl) ?_
          refine kc_i (va_runV (C := RMD) (As := []) (b := ma) (rest := [.int (nI vs.length)]) (Ts := Wd) ⟨hx, hb, hml, hown, hW⟩ (xMD_clear l g μ2 hR1 ) (cwV 0 hW (k_gV w_664 w_665 w_666 w_7 w_667) rfl rfl rfl (by decide +kernel) ⟨Nat.le_of_ble_eq_true rfl, Nat.le_of_ble_eq_true rfl⟩) (k_preV (q := (RMD, TMD, 7)) hM hma1 rfl) rfl rfl hl.1 rfl (lv_room (Nat.le_of_ble_eq_true rfl)) dLW_law_286 ⟨(show (41 + 708 * t) + 0 ≤ 600000 by omega), (show (1780 + 8312 * t) + 0 ≤ 7302250 by omega)⟩) hM (fun r μ3 H locs hp hM => ?_)
          obtain ⟨rfl, hR2, hK2⟩ := hp
          have hC2 := kCI_kp hK2 hC1
          refine lv_icmp_eq (tgt := 294) hx hb dLW_law_289 (by decide) (fun _ => ?_) (fun h => absurd rfl h)
          refine lv_iinc (v := nI (6 * (t + 1))) (lv' := [(3, .int (nI (6 * (t + 1)))), (0, .ref b), (1, .ref xa), (2, .ref ma)]) (k := 3) hx hb dLW_law_294 hl rfl (ii6 t) (by decide) rfl (fun ls hl => ?_)
          refine lv_goto (tgt := 18) hx hb dLW_law_297 (by decide) ?_
          refine W.widen (k := 41 + 708 * (t + 1)) (n := 1780 + 8312 * (t + 1)) (by omega) (by omega) ?_
          exact ih (t + 1) μ3 xa ma ta ba sa oa la cd cr te bo br co er lv lr tp wd li B ln [] (by omega) (by first | assumption | omega | exact rfl) (by first | assumption | omega | exact rfl) (by exact hC2) (by exact hR2) ls H locs (lv_sub hl [1, 2, 3, 0] rfl) hM
  refine k_new (own := RLW) (C := RVR) (T := TVR) (N := 5) (ci := 3) (fs := [.null, .null, .null, .null, .int (nI 0)]) hx hb hW inVR tyVR tyokVR hown (hW _ w_20) (hW _ w_21) (hW _ w_1) hM rfl (fun j hj => by rcases (show j = 0 ∨ j = 1 ∨ j = 2 ∨ j = 3 ∨ j = 4 by omega) with rfl | rfl | rfl | rfl | rfl <;> rfl) (show 0 + 1 ≤ 600000 by omega) (show 0 + 5 ≤ 7302250 by omega) dLW_law_0 (fun q0 H hnq0 hM => ?_)
  have hM : kS g (km_up (fun _ => none) q0 (.inr (3, [.null, .null, .null, .null, .int (nI 0)]))) s H locs := hM
  refine W.widen (k := 1) (n := 5) (by omega) (by omega) ?_
  refine lv_dup hx hb dLW_law_3 rfl ?_
  refine kc_v (va_runI (As := []) (b := q0) (rest := [.ref q0]) (Ts := Wd) ⟨hx, hb, hml, hown, hW⟩ (mVR_init l g (km_up (fun _ => none) q0 (.inr (3, [.null, .null, .null, .null, .int (nI 0)]))) (km_s _ _ _)) (cwI 0 hW (k_gC w_24) rfl rfl rfl (hW _ w_1) (hW _ w_22) (hW _ w_23) rfl (by decide +kernel) ⟨Nat.le_of_ble_eq_true rfl, Nat.le_of_ble_eq_true rfl⟩) (k_preS hM) rfl rfl hl.1 rfl (lv_room (Nat.le_of_ble_eq_true rfl)) dLW_law_4 ⟨(show 1 + 36 ≤ 600000 by omega), (show 5 + 956 ≤ 7302250 by omega)⟩) hM (fun μ2 H locs hp hM => ?_)
  obtain ⟨ta, ba, sa, oa, la, cd, cr, te, bo, br, co, er, lv, lr, hCD, hCI⟩ := hp
  refine W.widen (k := 37) (n := 961) (by omega) (by omega) ?_
  refine lv_astore_n (lv' := [(1, .ref q0), (0, .ref b)]) hx hb dLW_law_7 rfl hl (by decide) rfl (fun ls hl => ?_)
  refine k_new (own := RLW) (C := RMD) (T := TMD) (N := 7) (ci := 4) (fs := [.null, .int (nI 0), .null, .int (nI 0), .int (nI 0), .null, .int (nI 0)]) hx hb hW inMD tyMD tyokMD hown (hW _ w_281) (hW _ w_282) (hW _ w_7) hM rfl (fun j hj => by rcases (show j = 0 ∨ j = 1 ∨ j = 2 ∨ j = 3 ∨ j = 4 ∨ j = 5 ∨ j = 6 by omega) with rfl | rfl | rfl | rfl | rfl | rfl | rfl <;> rfl) (show 37 + 1 ≤ 600000 by omega) (show 961 + 7 ≤ 7302250 by omega) dLW_law_8 (fun q8 H hnq8 hM => ?_)
  have hM : kS g (km_up μ2 q8 (.inr (4, [.null, .int (nI 0), .null, .int (nI 0), .int (nI 0), .null, .int (nI 0)]))) s H locs := hM
  refine W.widen (k := 38) (n := 968) (by omega) (by omega) ?_
  refine lv_dup hx hb dLW_law_11 rfl ?_
  refine kc_v (va_runI (As := []) (b := q8) (rest := [.ref q8]) (Ts := Wd) ⟨hx, hb, hml, hown, hW⟩ (mMD_init l g (km_up μ2 q8 (.inr (4, [.null, .int (nI 0), .null, .int (nI 0), .int (nI 0), .null, .int (nI 0)]))) (km_s _ _ _)) (cwI 0 hW (k_gC w_285) rfl rfl rfl (hW _ w_7) (hW _ w_283) (hW _ w_284) rfl (by decide +kernel) ⟨Nat.le_of_ble_eq_true rfl, Nat.le_of_ble_eq_true rfl⟩) (k_preS hM) rfl rfl hl.1 rfl (lv_room (Nat.le_of_ble_eq_true rfl)) dLW_law_12 ⟨(show 38 + 3 ≤ 600000 by omega), (show 968 + 812 ≤ 7302250 by omega)⟩) hM (fun μ1 H locs hp hM => ?_)
  obtain ⟨tp, wd, li, hw1, hw2, hw3, hn1, hn2, hn3, hmu⟩ := hp
  subst hmu
  refine W.widen (k := 41) (n := 1780) (by omega) (by omega) ?_
  have ne_q8_tp : q8 ≠ tp := km_apF (km_s _ _ _) hw1
  have ne_q8_wd : q8 ≠ wd := km_apF (km_s _ _ _) hw2
  have ne_q8_li : q8 ≠ li := km_apF (km_s _ _ _) hw3
  have hM : kS g (km_up (km_up (km_up (km_up (km_up μ2 q8 (.inr (4, [.null, .int (nI 0), .null, .int (nI 0), .int (nI 0), .null, .int (nI 0)]))) tp (.inl (g.2.2.1 3, 400, .inl (fun j => nI ((fun _ => 0) j))))) q8 (.inr (4, [.ref tp, .int (nI 0), .ref wd, .int (nI 0), .int (nI 0), .ref li, .int (nI 0)]))) wd (.inl (g.2.2.1 5, 400, .inr (.inr (.inr (.inr (fun _ => none))))))) li (.inl (g.2.2.1 6, 12, .inr (.inr (.inr (.inr (fun _ => none))))))) s H locs := hM
  have hM : kS g (km_up (km_up (km_up (km_up μ2 q8 (.inr (4, [.ref tp, .int (nI 0), .ref wd, .int (nI 0), .int (nI 0), .ref li, .int (nI 0)]))) tp (.inl (g.2.2.1 3, 400, .inl (fun j => nI ((fun _ => 0) j))))) wd (.inl (g.2.2.1 5, 400, .inr (.inr (.inr (.inr (fun _ => none))))))) li (.inl (g.2.2.1 6, 12, .inr (.inr (.inr (.inr (fun _ => none))))))) s H locs := kS_eq (congrArg (fun z => km_up z li (.inl (g.2.2.1 6, 12, .inr (.inr (.inr (.inr (fun _ => none))))))) (congrArg (fun z => km_up z wd (.inl (g.2.2.1 5, 400, .inr (.inr (.inr (.inr (fun _ => none))))))) (km_u2 _ _ _ _ ne_q8_tp))) hM
  refine lv_astore_n (lv' := [(2, .ref q8), (1, .ref q0), (0, .ref b)]) hx hb dLW_law_15 rfl hl (by decide) rfl (fun ls hl => ?_)
  refine lv_iconst (v := nI 0) hx hb dLW_law_16 (by decide) ?_
  refine lv_istore_n (lv' := [(3, .int (nI 0)), (2, .ref q8), (1, .ref q0), (0, .ref b)]) hx hb dLW_law_17 rfl hl (by decide) rfl (fun ls hl => ?_)
  refine W.widen (k := 41 + 708 * 0) (n := 1780 + 8312 * 0) (by omega) (by omega) ?_
  exact cut18 _ 0 (km_up (km_up (km_up (km_up μ2 q8 (.inr (4, [.ref tp, .int (nI 0), .ref wd, .int (nI 0), .int (nI 0), .ref li, .int (nI 0)]))) tp (.inl (g.2.2.1 3, 400, .inl (fun j => nI ((fun _ => 0) j))))) wd (.inl (g.2.2.1 5, 400, .inr (.inr (.inr (.inr (fun _ => none))))))) li (.inl (g.2.2.1 6, 12, .inr (.inr (.inr (.inr (fun _ => none))))))) q0 q8 ta ba sa oa la cd cr te bo br co er lv lr tp wd li (fun _ => 0) 0 [] (Nat.lt_succ_self _) (by first | assumption | omega | exact rfl) (by first | assumption | omega | exact rfl) (by exact kCI_kp (kKp_fr (kKp_fr (kKp_fr (kKp_fr (kKp_r _) hnq8) (km_none hw1).2) (km_none hw2).2) (km_none hw3).2) hCI) (by exact ⟨fun _ => (by decide : (0 : Nat) < 256), by decide, by decide, ⟨_, _, ((km_n ne_q8_li).trans ((km_n ne_q8_wd).trans ((km_n ne_q8_tp).trans (km_s _ _ _))))⟩, ((km_n (Ne.symm hn2)).trans ((km_n (Ne.symm hn1)).trans (km_s _ _ _))), ⟨_, ((km_n (Ne.symm hn3)).trans (km_s _ _ _))⟩, _, (km_s _ _ _), kLs_0⟩) ls H locs (lv_sub hl [3, 2, 1, 0] rfl) hM
