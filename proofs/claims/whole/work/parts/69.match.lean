set_option maxHeartbeats 800000 in
set_option maxRecDepth 100000 in
theorem mMD_match (l : Launch) (g : kG) (μ : km_M) {ma tp wd li : Nat} {B : Nat → Nat} {ln : Nat} {vs : List kVer} (hRI : kRI g μ ma tp wd li B ln vs) : Met l yMD_match (Cond.code yMD_match cMD_match 4 (some .int) :: Wd) ({ frames := 10, cells := 708, slots := 8312, locals := 224 } : Room) (kPre g μ [.ref ma]) (kQi g (fun (r : Int32) (μ1 : km_M) => r = mtR B ln vs ∧ kRI g μ1 ma tp wd li B 0 vs ∧ kKp (clsC g) μ μ1)) 708 8312 (kF g) := by
  refine k_met (by decide) (Nat.le_of_ble_eq_true rfl) ?_
  intro p e s m below meth c hx hb hr hlocks hml hown hnm hW ls hl H locs hM
  have hl : lv_has ls 4 [(0, .ref ma)] := hl
  have hty := k_ty hM
  obtain ⟨hB, hln, hcnt, ⟨ws, at0, hma⟩, htp, ⟨M0, hwd⟩, V, hli, hLs⟩ := hRI
  have ntw : tp ≠ wd := km_ap htp hwd (fun z => by simp at z)
  have nlw : li ≠ wd := km_apN hli hwd (by decide)
  have cut31 : ∀ (fu : Nat), ∀ (k : Nat) (ν : km_M) (w : Nat) (at1 : Nat) (V : Nat → Option Nat) (M : Nat → Option Nat) (ra : Nat) (sg0 : Nat) (ve : Nat) (ts : Nat) (ch : Nat) (SG : Nat → Nat) (TS : Nat → Nat) (VE : Nat → Option Nat) (T : Nat → Nat × kVer), vs.length - k < fu → k ≤ vs.length → ν ma = some (.inr (4, [.ref tp, .int (nI 0), .ref wd, .int (nI w), .int (nI at1), .ref li, .int (nI vs.length)])) → ν li = some (.inl (g.2.2.1 6, 12, .inr (.inr (.inr (.inr V))))) → ν ra = some (.inr (6, [.ref sg0, .ref ve, .ref ts, .int (nI ch)])) → ν sg0 = some (.inl (g.2.2.1 1, 16, .inl (fun j => nI (SG j)))) → ν ve = some (.inl (g.2.2.1 6, 16, .inr (.inr (.inr (.inr VE))))) → ν ts = some (.inl (g.2.2.1 1, 4, .inl (fun j => nI (TS j)))) → ch ≤ 4 → (∀ c, c < ch → TS c ≤ 4) → (∀ c q, c < ch → q < TS c → kEn g ν SG VE T (4 * c + q)) → kLs g ν V vs → mtR B ln vs = bN (fun k => chO T TS (rwL vs k) ch) vs.length → kRI g ν ma tp wd li B 0 vs → kKp (clsC g) μ ν → ∀ (ls : Array Slot) (H : Heap) (locs : List Loc), lv_has ls 4 [(0, .ref ma), (1, .ref ra), (2, .int (bN (fun k => chO T TS (rwL vs k) ch) k)), (3, .int (nI k))] → kS g (ν) s H locs → W p l e ({ frames := 10, cells := 708, slots := 8312, locals := 224 } : Room) s m [.ref ma].toArray below meth c H locs 708 8312 (MQ below (kQi g (fun (r : Int32) (μ1 : km_M) => r = mtR B ln vs ∧ kRI g μ1 ma tp wd li B 0 vs ∧ kKp (clsC g) μ μ1)) [.ref ma].toArray s 708 8312 (kF g)) (F0 m 31 ls []) := by
    intro fu
    induction fu with
    | zero => intro k ν w at1 V M ra sg0 ve ts ch SG TS VE T hlt; exact absurd hlt (Nat.not_lt_zero _)
    | succ fu ih =>
      intro k ν w at1 V M ra sg0 ve ts ch SG TS VE T hlt hk fm fli fra fsg fve fts hch hTS hT fls hX hend hcl ls H locs hl hM
      obtain ⟨ff, hff⟩ := kEn_sk hT
      obtain ⟨fl, hfl⟩ := kLs_sk fls
      refine lv_iload_n hx hb dMD_match_31 rfl (lv_at hl 3 rfl) ?_
      refine lv_aload_n hx hb dMD_match_32 rfl (lv_at hl 0 rfl) ?_
      refine k_get (own := RMD) (ref := RMD) (C := RMD) (T := TMD) (N := 7) (ci := 4) (v := .int (nI vs.length)) hx hb hW inMD hown hM fm rfl 6 (by decide) (hW _ w_297) (fun _ h => h) rfl dMD_match_33 ?_
      refine lv_icmp_ge (tgt := 68) hx hb dMD_match_36 (by decide) (fun h36 => ?_) (fun h36 => ?_)
      · have h36 := (nJ_ge_t (a := k) (b := vs.length) (by omega) (by omega)).mp h36
        refine lv_iload_n hx hb dMD_match_68 rfl (lv_at hl 2 rfl) ?_
        exact kr_i hx hb hr hlocks hM dMD_match_69 (⟨hX.trans (by rw [show vs.length = k by omega]) |>.symm, hend, hcl⟩)
      · have h36 := (nJ_ge_f (a := k) (b := vs.length) (by omega) (by omega)).mp h36
        obtain ⟨vk, hvk⟩ : ∃ x, vs[k]? = some x := ⟨_, List.getElem?_eq_getElem h36⟩
        have ej : vs.getD k (0, 0, 0, []) = vk := by rw [List.getD_eq_getElem?_getD, hvk]; rfl
        refine lv_iload_n hx hb dMD_match_39 rfl (lv_at hl 2 rfl) ?_
        refine lv_aload_n hx hb dMD_match_40 rfl (lv_at hl 0 rfl) ?_
        refine k_get (own := RMD) (ref := RMD) (C := RMD) (T := TMD) (N := 7) (ci := 4) (v := .ref li) hx hb hW inMD hown hM fm rfl 5 (by decide) (hW _ w_296) (fun _ h => h) rfl dMD_match_41 ?_
        refine lv_iload_n hx hb dMD_match_44 rfl (lv_at hl 3 rfl) ?_
        refine k_aald (i := k) (r := some ((fl k).1)) hx hb hM 6 fli rfl (by omega) (by omega) ((hfl _ _ hvk).1) dMD_match_45 ?_
        refine lv_aload_n hx hb dMD_match_46 rfl (lv_at hl 1 rfl) ?_
        refine kc_i (va_runS (As := [.ref ((fl k).1), .ref ra]) (rest := [.int (bN (fun k => chO T TS (rwL vs k) ch) k)]) (Ts := Wd) ⟨hx, hb, hml, hown, hW⟩ (mMD_in l g ν (hfl _ _ hvk).2 fra fsg fve fts hch hTS (T := T) (tw := fun j => (ff j).1) (tna := fun j => (ff j).2.1) (tka := fun j => (ff j).2.2.1) (tNN := fun j => (ff j).2.2.2.1) (tM := fun j => (ff j).2.2.2.2.1) (tsa := fun j => (ff j).2.2.2.2.2.1) (tsv := fun j => (ff j).2.2.2.2.2.2.1) (tF := fun j => (ff j).2.2.2.2.2.2.2) hff) (va_cwS 2 hW (k_gS w_655 w_656 w_7 w_657) rfl rfl rfl (by decide +kernel) ⟨Nat.le_of_ble_eq_true rfl, Nat.le_of_ble_eq_true rfl⟩) (k_preS hM) rfl rfl hl.1 rfl (lv_room (Nat.le_of_ble_eq_true rfl)) dMD_match_47 ⟨(show 708 + 0 ≤ 708 by omega), (show 8312 + 0 ≤ 8312 by omega)⟩) hM (fun r μ1 H locs hp hM => ?_)
        obtain ⟨hmu, hcase⟩ := hp
        rw [hmu] at hM
        rcases hcase with ⟨rfl, hin⟩ | ⟨rfl, hin⟩
        · have hfk : chO T TS (rwL vs k) ch = true := by rw [show rwL vs k = rowOf vk by show rowOf (vs.getD k (0, 0, 0, [])) = rowOf vk; rw [ej]]; exact chO_iff.mpr hin
          refine lv_if_eq (tgt := 59) hx hb dMD_match_50 (by decide) (fun h => absurd h (by decide)) (fun _ => ?_)
          refine lv_iconst (v := nI 1) hx hb dMD_match_53 (by decide) ?_
          refine lv_iload_n hx hb dMD_match_54 rfl (lv_at hl 3 rfl) ?_
          refine lv_ishl hx hb dMD_match_55 ?_
          refine topi_eq (y := nI 1 <<< (nI k &&& 31)) rfl ?_
          refine lv_goto (tgt := 60) hx hb dMD_match_56 (by decide) ?_
          refine lv_ior hx hb dMD_match_60 ?_
          refine topi_eq (y := bN (fun k => chO T TS (rwL vs k) ch) (k + 1)) ((bN_t (f := fun k => chO T TS (rwL vs k) ch) hfk).symm) ?_
          refine lv_istore_n (lv' := [(2, .int (bN (fun k => chO T TS (rwL vs k) ch) (k + 1))), (0, .ref ma), (1, .ref ra), (3, .int (nI k))]) hx hb dMD_match_61 rfl hl (by decide) rfl (fun ls hl => ?_)
          refine lv_iinc (v := nI (k + 1)) (lv' := [(3, .int (nI (k + 1))), (2, .int (bN (fun k => chO T TS (rwL vs k) ch) (k + 1))), (0, .ref ma), (1, .ref ra)]) (k := 3) hx hb dMD_match_62 hl rfl (ii1 k) (by decide) rfl (fun ls hl => ?_)
          refine lv_goto (tgt := 31) hx hb dMD_match_65 (by decide) ?_
          exact ih (k + 1) ν w at1 V M ra sg0 ve ts ch SG TS VE T (by omega) (by first | assumption | omega | exact rfl) (by first | assumption | omega | exact rfl) (by first | assumption | omega | exact rfl) (by first | assumption | omega | exact rfl) (by first | assumption | omega | exact rfl) (by first | assumption | omega | exact rfl) (by first | assumption | omega | exact rfl) (by first | assumption | omega | exact rfl) (by exact hTS) (by exact hT) (by first | assumption | omega | exact rfl) (by exact hX) (by first | assumption | omega | exact rfl) (by first | assumption | omega | exact rfl) ls H locs (lv_sub hl [2, 3, 1, 0] rfl) hM
        · have hfk : ¬ chO T TS (rwL vs k) ch = true := by rw [show rwL vs k = rowOf vk by show rowOf (vs.getD k (0, 0, 0, [])) = rowOf vk; rw [ej]]; exact fun z => hin (chO_iff.mp z)
          refine lv_if_eq (tgt := 59) hx hb dMD_match_50 (by decide) (fun _ => ?_) (fun h => absurd (by decide) h)
          refine lv_iconst (v := nI 0) hx hb dMD_match_59 (by decide) ?_
          refine lv_ior hx hb dMD_match_60 ?_
          refine topi_eq (y := bN (fun k => chO T TS (rwL vs k) ch) (k + 1)) ((or_z _).trans (bN_f (f := fun k => chO T TS (rwL vs k) ch) hfk).symm) ?_
          refine lv_istore_n (lv' := [(2, .int (bN (fun k => chO T TS (rwL vs k) ch) (k + 1))), (0, .ref ma), (1, .ref ra), (3, .int (nI k))]) hx hb dMD_match_61 rfl hl (by decide) rfl (fun ls hl => ?_)
          refine lv_iinc (v := nI (k + 1)) (lv' := [(3, .int (nI (k + 1))), (2, .int (bN (fun k => chO T TS (rwL vs k) ch) (k + 1))), (0, .ref ma), (1, .ref ra)]) (k := 3) hx hb dMD_match_62 hl rfl (ii1 k) (by decide) rfl (fun ls hl => ?_)
          refine lv_goto (tgt := 31) hx hb dMD_match_65 (by decide) ?_
          exact ih (k + 1) ν w at1 V M ra sg0 ve ts ch SG TS VE T (by omega) (by first | assumption | omega | exact rfl) (by first | assumption | omega | exact rfl) (by first | assumption | omega | exact rfl) (by first | assumption | omega | exact rfl) (by first | assumption | omega | exact rfl) (by first | assumption | omega | exact rfl) (by first | assumption | omega | exact rfl) (by first | assumption | omega | exact rfl) (by exact hTS) (by exact hT) (by first | assumption | omega | exact rfl) (by exact hX) (by first | assumption | omega | exact rfl) (by first | assumption | omega | exact rfl) ls H locs (lv_sub hl [2, 3, 1, 0] rfl) hM
  refine lv_aload_n hx hb dMD_match_0 rfl (lv_at hl 0 rfl) ?_
  refine kc_v (va_runV (C := RMD) (As := []) (b := ma) (rest := []) (Ts := Wd) ⟨hx, hb, hml, hown, hW⟩ (mMD_readWords l g μ hma hB htp hwd hln) (cwV 0 hW (k_gV w_330 w_332 p_27 w_7 w_333) rfl rfl rfl (by decide +kernel) ⟨Nat.le_of_ble_eq_true rfl, Nat.le_of_ble_eq_true rfl⟩) (k_preV (q := (RMD, TMD, 7)) hM hma rfl) rfl rfl hl.1 rfl (lv_room (Nat.le_of_ble_eq_true rfl)) dMD_match_1 ⟨(show 0 + 400 ≤ 708 by omega), (show 0 + 1200 ≤ 8312 by omega)⟩) hM (fun μ2 H locs hp hM => ?_)
  obtain ⟨w, S1, E1, sa, va, M, h, hsp, gm, gw, hI⟩ := hp
  obtain ⟨hw2, hok⟩ := spl_w hsp
  refine W.widen (k := 400) (n := 1200) (by omega) (by omega) ?_
  refine lv_aload_n hx hb dMD_match_4 rfl (lv_at hl 0 rfl) ?_
  refine kc_q (va_runV (C := RMD) (As := []) (b := ma) (rest := []) (Ts := Wd) ⟨hx, hb, hml, hown, hW⟩ (mMD_range l g μ2 gm gw (by omega) (B := B) (fun i hi => ⟨(hI.2.2 i hi).1, (hI.2.2 i hi).2.2.2.1, (hI.2.2 i hi).2.2.2.2.1, (hI.2.2 i hi).2.2.2.2.2.1, (hI.2.2 i hi).2.2.2.2.2.2, (hok i hi).1, Nat.le_trans (hok i hi).2 hln⟩) (LF := rwL vs) hcnt (mtR_w hsp)) (cwV 0 hW (k_gV w_551 w_553 p_29 w_7 w_554) rfl rfl rfl (by decide +kernel) ⟨Nat.le_of_ble_eq_true rfl, Nat.le_of_ble_eq_true rfl⟩) (k_preV (q := (RMD, TMD, 7)) hM gm rfl) rfl rfl hl.1 rfl (lv_room (Nat.le_of_ble_eq_true rfl)) dMD_match_5 ⟨(show 400 + 308 ≤ 708 by omega), (show 1200 + 7112 ≤ 8312 by omega)⟩) hM (fun r μ3 H locs hp hM => ?_)
  obtain ⟨hOr, at1, hat1, gm3, hcase⟩ := hp
  refine W.widen (k := 708) (n := 8312) (by omega) (by omega) ?_
  rcases hcase with ⟨rfl, hX4⟩ | ⟨ra, sg0, ve, ts, ch, SG, TS, VE, T, rfl, fra, fsg, fve, fts, hch, hTS, hT, hcase⟩
  · skip
    refine lv_astore_nN (lv' := [(1, .null), (0, .ref ma)]) hx hb dMD_match_8 rfl hl (by decide) rfl (fun ls hl => ?_)
    refine lv_aload_nN hx hb dMD_match_9 rfl (lv_at hl 0 rfl) ?_
    refine lv_ifnullN (tgt := 24) hx hb dMD_match_10 (by decide) ?_
    refine lv_bipush (v := (-4)) hx hb dMD_match_24 (by decide) ?_
    exact kr_i hx hb hr hlocks hM dMD_match_26 (⟨by first | exact hX4.symm | exact ((hcase.resolve_right (fun z => absurd z.1 (by omega))).2).symm, ⟨hB, Nat.zero_le _, hcnt, ⟨_, _, gm3⟩, (hOr _ _ (hI.2.1 _ _ htp (km_apA htp hma) ntw) trivial), ⟨_, (hOr _ _ gw trivial)⟩, V, (hOr _ _ (hI.2.1 _ _ hli (km_apA hli hma) nlw) trivial), (kLs_kp (kKp_t (kWD_kp hI hma (mvC_o (by decide)) hwd (mvC_n (by decide))) (kKp_i hOr mv_nMd)) hLs)⟩, (kKp_t (kWD_kp hI hma (clsC_o (by decide)) hwd (clsC_a hty (Or.inr (Or.inl rfl)))) (kKp_i hOr cl_nMd))⟩)
  · skip
    refine lv_astore_n (lv' := [(1, .ref ra), (0, .ref ma)]) hx hb dMD_match_8 rfl hl (by decide) rfl (fun ls hl => ?_)
    refine lv_aload_n hx hb dMD_match_9 rfl (lv_at hl 0 rfl) ?_
    refine lv_ifnull hx hb dMD_match_10 ?_
    refine lv_aload_n hx hb dMD_match_13 rfl (lv_at hl 1 rfl) ?_
    refine k_get (own := RMD) (ref := RMD) (C := RMD) (T := TMD) (N := 7) (ci := 4) (v := .int (nI at1)) hx hb hW inMD hown hM gm3 rfl 4 (by decide) (hW _ w_295) (fun _ h => h) rfl dMD_match_14 ?_
    refine lv_aload_n hx hb dMD_match_17 rfl (lv_at hl 1 rfl) ?_
    refine k_get (own := RMD) (ref := RMD) (C := RMD) (T := TMD) (N := 7) (ci := 4) (v := .int (nI w)) hx hb hW inMD hown hM gm3 rfl 3 (by decide) (hW _ w_294) (fun _ h => h) rfl dMD_match_18 ?_
    refine lv_icmp_ge (tgt := 27) hx hb dMD_match_21 (by decide) (fun h21 => ?_) (fun h21 => ?_)
    · have h21 := (nJ_ge_t (a := at1) (b := w) (by omega) (by omega)).mp h21
      refine lv_iconst (v := nI 0) hx hb dMD_match_27 (by decide) ?_
      refine lv_istore_n (lv' := [(2, .int (nI 0)), (1, .ref ra), (0, .ref ma)]) hx hb dMD_match_28 rfl hl (by decide) rfl (fun ls hl => ?_)
      refine lv_iconst (v := nI 0) hx hb dMD_match_29 (by decide) ?_
      refine lv_istore_n (lv' := [(3, .int (nI 0)), (2, .int (nI 0)), (1, .ref ra), (0, .ref ma)]) hx hb dMD_match_30 rfl hl (by decide) rfl (fun ls hl => ?_)
      exact cut31 _ 0 μ3 w at1 V M ra sg0 ve ts ch SG TS VE T (Nat.lt_succ_self _) (by first | assumption | omega | exact rfl) (by exact gm3) (by exact (hOr _ _ (hI.2.1 _ _ hli (km_apA hli hma) nlw) trivial)) (by exact fra) (by exact fsg) (by exact fve) (by exact fts) (by first | assumption | omega | exact rfl) (by exact hTS) (by exact hT) (by exact kLs_kp (kKp_t (kWD_kp hI hma (mvC_o (by decide)) hwd (mvC_n (by decide))) (kKp_i hOr mv_nMd)) hLs) (by exact (hcase.resolve_left (fun z => absurd z.1 (by omega))).2) (by exact ⟨hB, Nat.zero_le _, hcnt, ⟨_, _, gm3⟩, (hOr _ _ (hI.2.1 _ _ htp (km_apA htp hma) ntw) trivial), ⟨_, (hOr _ _ gw trivial)⟩, V, (hOr _ _ (hI.2.1 _ _ hli (km_apA hli hma) nlw) trivial), (kLs_kp (kKp_t (kWD_kp hI hma (mvC_o (by decide)) hwd (mvC_n (by decide))) (kKp_i hOr mv_nMd)) hLs)⟩) (by exact (kKp_t (kWD_kp hI hma (clsC_o (by decide)) hwd (clsC_a hty (Or.inr (Or.inl rfl)))) (kKp_i hOr cl_nMd))) ls H locs (lv_sub hl [3, 2, 1, 0] rfl) hM
    · have h21 := (nJ_ge_f (a := at1) (b := w) (by omega) (by omega)).mp h21
      refine lv_bipush (v := (-4)) hx hb dMD_match_24 (by decide) ?_
      exact kr_i hx hb hr hlocks hM dMD_match_26 (⟨by first | exact hX4.symm | exact ((hcase.resolve_right (fun z => absurd z.1 (by omega))).2).symm, ⟨hB, Nat.zero_le _, hcnt, ⟨_, _, gm3⟩, (hOr _ _ (hI.2.1 _ _ htp (km_apA htp hma) ntw) trivial), ⟨_, (hOr _ _ gw trivial)⟩, V, (hOr _ _ (hI.2.1 _ _ hli (km_apA hli hma) nlw) trivial), (kLs_kp (kKp_t (kWD_kp hI hma (mvC_o (by decide)) hwd (mvC_n (by decide))) (kKp_i hOr mv_nMd)) hLs)⟩, (kKp_t (kWD_kp hI hma (clsC_o (by decide)) hwd (clsC_a hty (Or.inr (Or.inl rfl)))) (kKp_i hOr cl_nMd))⟩)
