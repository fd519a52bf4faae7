set_option maxHeartbeats 2000000 in
set_option maxRecDepth 100000 in
theorem mMD_range (l : Launch) (g : kG) (μ : km_M) {ma tp wd li tl ws cnt : Nat} (hma : μ ma = some (.inr (4, [.ref tp, .int (nI tl), .ref wd, .int (nI ws), .int (nI 0), .ref li, .int (nI cnt)]))) {M : Nat → Option Nat} (hwd : μ wd = some (.inl (g.2.2.1 5, 400, .inr (.inr (.inr (.inr M)))))) (hws : ws ≤ 400) {S1 E1 sa va B : Nat → Nat} {h : Nat → Nat → Nat} (hWo : ∀ i, i < ws → M i = some (sa i) ∧ μ (sa i) = some (.inr (7, [.ref (va i), .int (nI 0), .int (nI 0), .int (nI 0)])) ∧ μ (va i) = some (.inl (g.2.2.1 0, (E1 i - S1 i), .inl (fun j => sb ((h i) j)))) ∧ (∀ j, j < E1 i - S1 i → h i j = B (S1 i + j)) ∧ (∀ q, h i q < 256) ∧ S1 i < E1 i ∧ E1 i ≤ 400) {LF : Nat → Nat → Int64} (hcnt : cnt ≤ 12) {X : Int32} (hX : X = mtC (fun k => tokC B LF cnt (S1 k) (E1 k)) (bN (fun _ => true) cnt) ws 0 (nI 0) 1 0 (bN (fun _ => true) cnt)) : Met l yMD_range (Cond.code yMD_range cMD_range 5 (some (.object "VersionRangesModel$Range")) :: Wd) ({ frames := 7, cells := 308, slots := 7112, locals := 157 } : Room) (kPre g μ [.ref ma]) (kQq g (fun (r : Option Nat) (μ1 : km_M) => kKp nMd μ μ1 ∧ ∃ at1, at1 ≤ ws ∧ μ1 ma = some (.inr (4, [.ref tp, .int (nI tl), .ref wd, .int (nI ws), .int (nI at1), .ref li, .int (nI cnt)])) ∧ ((r = none ∧ X = (-4)) ∨ ∃ (ra sg0 ve ts ch : Nat) (SG TS : Nat → Nat) (VE : Nat → Option Nat) (T : Nat → Nat × kVer), r = some ra ∧ μ1 ra = some (.inr (6, [.ref sg0, .ref ve, .ref ts, .int (nI ch)])) ∧ μ1 sg0 = some (.inl (g.2.2.1 1, 16, .inl (fun j => nI (SG j)))) ∧ μ1 ve = some (.inl (g.2.2.1 6, 16, .inr (.inr (.inr (.inr VE))))) ∧ μ1 ts = some (.inl (g.2.2.1 1, 4, .inl (fun j => nI (TS j)))) ∧ ch ≤ 4 ∧ (∀ c, c < ch → TS c ≤ 4) ∧ (∀ c q, c < ch → q < TS c → kEn g μ1 SG VE T (4 * c + q)) ∧ ((at1 < ws ∧ X = (-4)) ∨ (at1 = ws ∧ X = bN (fun k => chO T TS (LF k) ch) cnt))))) 308 7112 (kF g) := by
  refine k_met (by decide) (Nat.le_of_ble_eq_true rfl) ?_
  intro p e s m below meth c hx hb hr hlocks hml hown hnm hW ls hl H locs hM
  have hl : lv_has ls 5 [(0, .ref ma)] := hl
  have hty := k_ty hM
  have cut26 : ∀ (fu : Nat), ∀ (n : Nat) (ch : Nat) (i : Nat) (ν : km_M) (ra : Nat) (sg0 : Nat) (ve : Nat) (ts : Nat) (SG : Nat → Nat) (VE : Nat → Option Nat) (TS : Nat → Nat) (T : Nat → Nat × kVer), ws - i < fu → ch < 4 → n ≤ 4 → i ≤ ws → rI B S1 E1 LF cnt ws X T TS ch n i → kKp nMd μ ν → μ ra = none → μ sg0 = none → μ ve = none → μ ts = none → (∀ c, c < ch → TS c ≤ 4) → kRT g ν SG VE TS T ch n → ν ma = some (.inr (4, [.ref tp, .int (nI tl), .ref wd, .int (nI ws), .int (nI i), .ref li, .int (nI cnt)])) → ν ra = some (.inr (6, [.ref sg0, .ref ve, .ref ts, .int (nI ch)])) → ν sg0 = some (.inl (g.2.2.1 1, 16, .inl (fun j => nI (SG j)))) → ν ve = some (.inl (g.2.2.1 6, 16, .inr (.inr (.inr (.inr VE))))) → ν ts = some (.inl (g.2.2.1 1, 4, .inl (fun j => nI (TS j)))) → ∀ (ls : Array Slot) (H : Heap) (locs : List Loc), lv_has ls 5 [(0, .ref ma), (1, .ref ra), (3, .int (nI n))] → kS g (ν) s H locs → W p l e ({ frames := 7, cells := 308, slots := 7112, locals := 157 } : Room) s m [.ref ma].toArray below meth c H locs (4 + 19 * (4 * ch + n)) (40 + 442 * (4 * ch + n)) (MQ below (kQq g (fun (r : Option Nat) (μ1 : km_M) => kKp nMd μ μ1 ∧ ∃ at1, at1 ≤ ws ∧ μ1 ma = some (.inr (4, [.ref tp, .int (nI tl), .ref wd, .int (nI ws), .int (nI at1), .ref li, .int (nI cnt)])) ∧ ((r = none ∧ X = (-4)) ∨ ∃ (ra sg0 ve ts ch : Nat) (SG TS : Nat → Nat) (VE : Nat → Option Nat) (T : Nat → Nat × kVer), r = some ra ∧ μ1 ra = some (.inr (6, [.ref sg0, .ref ve, .ref ts, .int (nI ch)])) ∧ μ1 sg0 = some (.inl (g.2.2.1 1, 16, .inl (fun j => nI (SG j)))) ∧ μ1 ve = some (.inl (g.2.2.1 6, 16, .inr (.inr (.inr (.inr VE))))) ∧ μ1 ts = some (.inl (g.2.2.1 1, 4, .inl (fun j => nI (TS j)))) ∧ ch ≤ 4 ∧ (∀ c, c < ch → TS c ≤ 4) ∧ (∀ c q, c < ch → q < TS c → kEn g μ1 SG VE T (4 * c + q)) ∧ ((at1 < ws ∧ X = (-4)) ∨ (at1 = ws ∧ X = bN (fun k => chO T TS (LF k) ch) cnt))))) [.ref ma].toArray s 308 7112 (kF g)) (F0 m 26 ls []) := by
    intro fu
    induction fu with
    | zero => intro n ch i ν ra sg0 ve ts SG VE TS T hlt; exact absurd hlt (Nat.not_lt_zero _)
    | succ fu ih =>
      intro n ch i ν ra sg0 ve ts SG VE TS T hlt hch hn4 hi hR hO hq0 hq1 hq2 hq3 hT4 hE fm fra fsg fve fts ls H locs hl hM
      refine lv_aload_n hx hb dMD_range_26 rfl (lv_at hl 0 rfl) ?_
      rcases (show i = ws ∨ i < ws by omega) with hiw | hiw
      · skip
        refine kc_i (va_runV (C := RMD) (As := []) (b := ma) (rest := []) (Ts := Wd) ⟨hx, hb, hml, hown, hW⟩ (mMD_ends0 l g ν fm hiw hws) (cwV 0 hW (k_gV w_578 w_580 p_30 w_7 w_581) rfl rfl rfl (by decide +kernel) ⟨Nat.le_of_ble_eq_true rfl, Nat.le_of_ble_eq_true rfl⟩) (k_preV (q := (RMD, TMD, 7)) hM fm rfl) rfl rfl hl.1 rfl (lv_room (Nat.le_of_ble_eq_true rfl)) dMD_range_27 ⟨(show (4 + 19 * (4 * ch + n)) + 0 ≤ 308 by omega), (show (40 + 442 * (4 * ch + n)) + 0 ≤ 7112 by omega)⟩) hM (fun r μ1 H locs hp hM => ?_)
        obtain ⟨rfl, hmu⟩ := hp
        rw [hmu] at hM
        refine lv_if_ne (tgt := 137) hx hb dMD_range_30 (by decide) (fun _ => ?_) (fun h => absurd h (by decide))
        refine lv_iload_n hx hb dMD_range_137 rfl (lv_at hl 2 rfl) ?_
        refine lv_if_ne (tgt := 143) hx hb dMD_range_138 (by decide) (fun h138 => ?_) (fun h138 => ?_)
        · have h138 := (nJ_ne_t (a := n) (b := 0) (by omega) (by omega)).mp h138
          refine lv_aload_n hx hb dMD_range_143 rfl (lv_at hl 1 rfl) ?_
          refine k_get (own := RMD) (ref := RMR) (C := RMR) (T := TMR) (N := 4) (ci := 6) (v := .ref ts) hx hb hW inMR hown hM fra rfl 2 (by decide) (hW _ w_567) (fun _ h => h) rfl dMD_range_144 ?_
          refine lv_aload_n hx hb dMD_range_147 rfl (lv_at hl 1 rfl) ?_
          refine k_get (own := RMD) (ref := RMR) (C := RMR) (T := TMR) (N := 4) (ci := 6) (v := .int (nI ch)) hx hb hW inMR hown hM fra rfl 3 (by decide) (hW _ w_568) (fun _ h => h) rfl dMD_range_148 ?_
          refine lv_iload_n hx hb dMD_range_151 rfl (lv_at hl 2 rfl) ?_
          refine k_iast (i := ch) (f1 := (fun j => nI ((va_up TS ch n) j))) hx hb hM 1 fts rfl (by omega) (by omega) updn_at dMD_range_152 (fun H locs hM => ?_)
          have hM : kS g (km_up ν ts (.inl (g.2.2.1 1, 4, .inl (fun j => nI ((va_up TS ch n) j))))) s H locs := hM
          refine lv_aload_n hx hb dMD_range_153 rfl (lv_at hl 1 rfl) ?_
          refine lv_dup hx hb dMD_range_154 rfl ?_
          refine k_get (own := RMD) (ref := RMR) (C := RMR) (T := TMR) (N := 4) (ci := 6) (v := .int (nI ch)) hx hb hW inMR hown hM ((km_n (km_apB fra fts)).trans fra) rfl 3 (by decide) (hW _ w_568) (fun _ h => h) rfl dMD_range_155 ?_
          refine lv_iconst (v := nI 1) hx hb dMD_range_158 (by decide) ?_
          refine lv_iadd hx hb dMD_range_159 ?_
          refine topi_eq (y := nI (ch + 1)) (nI_add ch 1) ?_
          refine k_put (own := RMD) (ref := RMR) (C := RMR) (T := TMR) (N := 4) (ci := 6) (v := .int (nI (ch + 1))) (ty := .int) (fs' := [.ref sg0, .ref ve, .ref ts, .int (nI (ch + 1))]) hx hb hW inMR tyMR tyokMR nmokMR hown hM ((km_n (km_apB fra fts)).trans fra) rfl 3 (by decide) (hW _ w_568) (fun _ h => h) rfl (by decide +kernel) rfl rfl (Nat.le_of_ble_eq_true rfl) dMD_range_160 rfl (fun H locs hM => ?_)
          have hM : kS g (km_up (km_up ν ts (.inl (g.2.2.1 1, 4, .inl (fun j => nI ((va_up TS ch n) j))))) ra (.inr (6, [.ref sg0, .ref ve, .ref ts, .int (nI (ch + 1))]))) s H locs := hM
          refine lv_aload_n hx hb dMD_range_163 rfl (lv_at hl 0 rfl) ?_
          refine kc_i (va_runV (C := RMD) (As := []) (b := ma) (rest := []) (Ts := Wd) ⟨hx, hb, hml, hown, hW⟩ (mMD_ends0 l g (km_up (km_up ν ts (.inl (g.2.2.1 1, 4, .inl (fun j => nI ((va_up TS ch n) j))))) ra (.inr (6, [.ref sg0, .ref ve, .ref ts, .int (nI (ch + 1))]))) ((km_n (km_apC fm fra (by decide))).trans ((km_n (km_apB fm fts)).trans fm)) hiw hws) (cwV 0 hW (k_gV w_578 w_580 p_30 w_7 w_581) rfl rfl rfl (by decide +kernel) ⟨Nat.le_of_ble_eq_true rfl, Nat.le_of_ble_eq_true rfl⟩) (k_preV (q := (RMD, TMD, 7)) hM ((km_n (km_apC fm fra (by decide))).trans ((km_n (km_apB fm fts)).trans fm)) rfl) rfl rfl hl.1 rfl (lv_room (Nat.le_of_ble_eq_true rfl)) dMD_range_164 ⟨(show (4 + 19 * (4 * ch + n)) + 0 ≤ 308 by omega), (show (40 + 442 * (4 * ch + n)) + 0 ≤ 7112 by omega)⟩) hM (fun r μ1 H locs hp hM => ?_)
          obtain ⟨rfl, hmu⟩ := hp
          rw [hmu] at hM
          refine lv_if_ne (tgt := 174) hx hb dMD_range_167 (by decide) (fun _ => ?_) (fun h => absurd h (by decide))
          refine lv_iconst (v := nI 0) hx hb dMD_range_174 (by decide) ?_
          refine lv_istore_n (lv' := [(2, .int (nI 0)), (0, .ref ma), (1, .ref ra), (3, .int (nI n))]) hx hb dMD_range_175 rfl hl (by decide) rfl (fun ls hl => ?_)
          refine lv_iload_n hx hb dMD_range_176 rfl (lv_at hl 0 rfl) ?_
          refine lv_if_eq (tgt := 190) hx hb dMD_range_177 (by decide) (fun _ => ?_) (fun h => absurd (by decide) h)
          refine lv_goto (tgt := 10) hx hb dMD_range_190 (by decide) ?_
          refine lv_iload_n hx hb dMD_range_10 rfl (lv_at hl 0 rfl) ?_
          refine lv_if_eq (tgt := 193) hx hb dMD_range_11 (by decide) (fun _ => ?_) (fun h => absurd (by decide) h)
          refine lv_aload_n hx hb dMD_range_193 rfl (lv_at hl 2 rfl) ?_
          refine W.widen (k := 308) (n := 7112) (by omega) (by omega) ?_
          exact kr_q (v := some ra) hx hb hr (Or.inl ⟨_, rfl⟩) hlocks hM dMD_range_194 (⟨(kKp_fr (kKp_fr hO hq3) hq0), i, hi, ((km_n (km_apC fm fra (by decide))).trans ((km_n (km_apB fm fts)).trans fm)), Or.inr ⟨ra, sg0, ve, ts, ch + 1, SG, va_up TS ch n, VE, T, rfl, (km_s _ _ _), ((km_n (km_apA fsg fra)).trans ((km_n (km_apN fsg fts (by decide))).trans fsg)), ((km_n (km_apA fve fra)).trans ((km_n (km_apN fve fts (by decide))).trans fve)), ((km_n (km_apA fts fra)).trans (km_s _ _ _)), by omega, up_le hT4 hn4, fun c q h1 h2 => (kRT_kp (kKp_up (kKp_up (kKp_r _) fts (mvC_ts hty)) fra (mvC_o (by decide))) (kRT_ch hE hn4)).2.1 c q h1 h2, Or.inr ⟨hiw, rI_end hR hcnt hiw h138⟩⟩⟩)
        · have h138 := (nJ_ne_f (a := n) (b := 0) (by omega) (by omega)).mp h138
          refine lv_null hx hb dMD_range_141 ?_
          refine W.widen (k := 308) (n := 7112) (by omega) (by omega) ?_
          exact kr_q (v := none) hx hb hr (Or.inl ⟨_, rfl⟩) hlocks hM dMD_range_142 (⟨hO, i, by omega, fm, Or.inl ⟨rfl, rI_w0 hR hiw h138⟩⟩)
      · obtain ⟨w1, w2, w3, w4, w5, w6, w7⟩ := hWo i hiw
        have hs9 := hO _ _ w2 (show (7 : Nat) ≠ 4 by decide)
        have hv9 := hO _ _ w3 trivial
        have hE9 : S1 i + (E1 i - S1 i) = E1 i := by omega
        refine kc_i (va_runV (C := RMD) (As := []) (b := ma) (rest := []) (Ts := Wd) ⟨hx, hb, hml, hown, hW⟩ (mMD_ends l g ν fm (hO _ _ hwd trivial) hiw hws hs9 hv9 w5 (by omega) w1) (cwV 0 hW (k_gV w_578 w_580 p_30 w_7 w_581) rfl rfl rfl (by decide +kernel) ⟨Nat.le_of_ble_eq_true rfl, Nat.le_of_ble_eq_true rfl⟩) (k_preV (q := (RMD, TMD, 7)) hM fm rfl) rfl rfl hl.1 rfl (lv_room (Nat.le_of_ble_eq_true rfl)) dMD_range_27 ⟨(show (4 + 19 * (4 * ch + n)) + 0 ≤ 308 by omega), (show (40 + 442 * (4 * ch + n)) + 0 ≤ 7112 by omega)⟩) hM (fun r μ1 H locs hp hM => ?_)
        obtain ⟨hmu, hcase⟩ := hp
        rw [hmu] at hM
        rcases hcase with ⟨hK9, rfl⟩ | ⟨hK9, rfl⟩
        · skip
          refine lv_if_ne (tgt := 137) hx hb dMD_range_30 (by decide) (fun _ => ?_) (fun h => absurd h (by decide))
          refine lv_iload_n hx hb dMD_range_137 rfl (lv_at hl 2 rfl) ?_
          refine lv_if_ne (tgt := 143) hx hb dMD_range_138 (by decide) (fun h138 => ?_) (fun h138 => ?_)
          · have h138 := (nJ_ne_t (a := n) (b := 0) (by omega) (by omega)).mp h138
            refine lv_aload_n hx hb dMD_range_143 rfl (lv_at hl 1 rfl) ?_
            refine k_get (own := RMD) (ref := RMR) (C := RMR) (T := TMR) (N := 4) (ci := 6) (v := .ref ts) hx hb hW inMR hown hM fra rfl 2 (by decide) (hW _ w_567) (fun _ h => h) rfl dMD_range_144 ?_
            refine lv_aload_n hx hb dMD_range_147 rfl (lv_at hl 1 rfl) ?_
            refine k_get (own := RMD) (ref := RMR) (C := RMR) (T := TMR) (N := 4) (ci := 6) (v := .int (nI ch)) hx hb hW inMR hown hM fra rfl 3 (by decide) (hW _ w_568) (fun _ h => h) rfl dMD_range_148 ?_
            refine lv_iload_n hx hb dMD_range_151 rfl (lv_at hl 2 rfl) ?_
            refine k_iast (i := ch) (f1 := (fun j => nI ((va_up TS ch n) j))) hx hb hM 1 fts rfl (by omega) (by omega) updn_at dMD_range_152 (fun H locs hM => ?_)
            have hM : kS g (km_up ν ts (.inl (g.2.2.1 1, 4, .inl (fun j => nI ((va_up TS ch n) j))))) s H locs := hM
            refine lv_aload_n hx hb dMD_range_153 rfl (lv_at hl 1 rfl) ?_
            refine lv_dup hx hb dMD_range_154 rfl ?_
            refine k_get (own := RMD) (ref := RMR) (C := RMR) (T := TMR) (N := 4) (ci := 6) (v := .int (nI ch)) hx hb hW inMR hown hM ((km_n (km_apB fra fts)).trans fra) rfl 3 (by decide) (hW _ w_568) (fun _ h => h) rfl dMD_range_155 ?_
            refine lv_iconst (v := nI 1) hx hb dMD_range_158 (by decide) ?_
            refine lv_iadd hx hb dMD_range_159 ?_
            refine topi_eq (y := nI (ch + 1)) (nI_add ch 1) ?_
            refine k_put (own := RMD) (ref := RMR) (C := RMR) (T := TMR) (N := 4) (ci := 6) (v := .int (nI (ch + 1))) (ty := .int) (fs' := [.ref sg0, .ref ve, .ref ts, .int (nI (ch + 1))]) hx hb hW inMR tyMR tyokMR nmokMR hown hM ((km_n (km_apB fra fts)).trans fra) rfl 3 (by decide) (hW _ w_568) (fun _ h => h) rfl (by decide +kernel) rfl rfl (Nat.le_of_ble_eq_true rfl) dMD_range_160 rfl (fun H locs hM => ?_)
            have hM : kS g (km_up (km_up ν ts (.inl (g.2.2.1 1, 4, .inl (fun j => nI ((va_up TS ch n) j))))) ra (.inr (6, [.ref sg0, .ref ve, .ref ts, .int (nI (ch + 1))]))) s H locs := hM
            refine lv_aload_n hx hb dMD_range_163 rfl (lv_at hl 0 rfl) ?_
            refine kc_i (va_runV (C := RMD) (As := []) (b := ma) (rest := []) (Ts := Wd) ⟨hx, hb, hml, hown, hW⟩ (mMD_ends l g (km_up (km_up ν ts (.inl (g.2.2.1 1, 4, .inl (fun j => nI ((va_up TS ch n) j))))) ra (.inr (6, [.ref sg0, .ref ve, .ref ts, .int (nI (ch + 1))]))) ((km_n (km_apC fm fra (by decide))).trans ((km_n (km_apB fm fts)).trans fm)) ((km_n (km_apA (hO _ _ hwd trivial) fra)).trans ((km_n (km_apN (hO _ _ hwd trivial) fts (by decide))).trans (hO _ _ hwd trivial))) hiw hws ((km_n (km_apC hs9 fra (by decide))).trans ((km_n (km_apB hs9 fts)).trans hs9)) ((km_n (km_apA hv9 fra)).trans ((km_n (km_apF w3 hq3)).trans hv9)) w5 (by omega) w1) (cwV 0 hW (k_gV w_578 w_580 p_30 w_7 w_581) rfl rfl rfl (by decide +kernel) ⟨Nat.le_of_ble_eq_true rfl, Nat.le_of_ble_eq_true rfl⟩) (k_preV (q := (RMD, TMD, 7)) hM ((km_n (km_apC fm fra (by decide))).trans ((km_n (km_apB fm fts)).trans fm)) rfl) rfl rfl hl.1 rfl (lv_room (Nat.le_of_ble_eq_true rfl)) dMD_range_164 ⟨(show (4 + 19 * (4 * ch + n)) + 0 ≤ 308 by omega), (show (40 + 442 * (4 * ch + n)) + 0 ≤ 7112 by omega)⟩) hM (fun r μ1 H locs hp hM => ?_)
            obtain ⟨hmu, hcase⟩ := hp
            rw [hmu] at hM
            have hr9 := (hcase.resolve_right (fun z => z.1 hK9)).2
            subst hr9
            refine lv_if_ne (tgt := 174) hx hb dMD_range_167 (by decide) (fun _ => ?_) (fun h => absurd h (by decide))
            refine lv_iconst (v := nI 0) hx hb dMD_range_174 (by decide) ?_
            refine lv_istore_n (lv' := [(2, .int (nI 0)), (0, .ref ma), (1, .ref ra), (3, .int (nI n))]) hx hb dMD_range_175 rfl hl (by decide) rfl (fun ls hl => ?_)
            refine lv_iload_n hx hb dMD_range_176 rfl (lv_at hl 0 rfl) ?_
            refine lv_if_eq (tgt := 190) hx hb dMD_range_177 (by decide) (fun _ => ?_) (fun h => absurd (by decide) h)
            refine lv_goto (tgt := 10) hx hb dMD_range_190 (by decide) ?_
            refine lv_iload_n hx hb dMD_range_10 rfl (lv_at hl 0 rfl) ?_
            refine lv_if_eq (tgt := 193) hx hb dMD_range_11 (by decide) (fun _ => ?_) (fun h => absurd (by decide) h)
            refine lv_aload_n hx hb dMD_range_193 rfl (lv_at hl 2 rfl) ?_
            refine W.widen (k := 308) (n := 7112) (by omega) (by omega) ?_
            have ht := tokW_e (LF := LF) (cnt := cnt) (a := S1 i) w4 hK9
            rw [hE9] at ht
            exact kr_q (v := some ra) hx hb hr (Or.inl ⟨_, rfl⟩) hlocks hM dMD_range_194 (⟨(kKp_fr (kKp_fr hO hq3) hq0), i, hi, ((km_n (km_apC fm fra (by decide))).trans ((km_n (km_apB fm fts)).trans fm)), Or.inr ⟨ra, sg0, ve, ts, ch + 1, SG, va_up TS ch n, VE, T, rfl, (km_s _ _ _), ((km_n (km_apA fsg fra)).trans ((km_n (km_apN fsg fts (by decide))).trans fsg)), ((km_n (km_apA fve fra)).trans ((km_n (km_apN fve fts (by decide))).trans fve)), ((km_n (km_apA fts fra)).trans (km_s _ _ _)), by omega, up_le hT4 hn4, fun c q h1 h2 => (kRT_kp (kKp_up (kKp_up (kKp_r _) fts (mvC_ts hty)) fra (mvC_o (by decide))) (kRT_ch hE hn4)).2.1 c q h1 h2, Or.inl ⟨hiw, rI_bad hR hiw ht⟩⟩⟩)
          · have h138 := (nJ_ne_f (a := n) (b := 0) (by omega) (by omega)).mp h138
            refine lv_null hx hb dMD_range_141 ?_
            refine W.widen (k := 308) (n := 7112) (by omega) (by omega) ?_
            have ht := tokW_e (LF := LF) (cnt := cnt) (a := S1 i) w4 hK9
            rw [hE9] at ht
            exact kr_q (v := none) hx hb hr (Or.inl ⟨_, rfl⟩) hlocks hM dMD_range_142 (⟨hO, i, by omega, fm, Or.inl ⟨rfl, rI_bad hR hiw ht⟩⟩)
        · skip
          refine lv_if_ne (tgt := 137) hx hb dMD_range_30 (by decide) (fun h => absurd (by decide) h) (fun _ => ?_)
          refine lv_aload_n hx hb dMD_range_33 rfl (lv_at hl 0 rfl) ?_
          refine kc_r (va_runV (C := RMD) (As := []) (b := ma) (rest := []) (Ts := Wd) ⟨hx, hb, hml, hown, hW⟩ (mMD_here l g ν fm (hO _ _ hwd trivial) hiw hws w1) (cwV 0 hW (k_gV w_582 w_584 p_31 w_7 w_585) rfl rfl rfl (by decide +kernel) ⟨Nat.le_of_ble_eq_true rfl, Nat.le_of_ble_eq_true rfl⟩) (k_preV (q := (RMD, TMD, 7)) hM fm rfl) rfl rfl hl.1 rfl (lv_room (Nat.le_of_ble_eq_true rfl)) dMD_range_34 ⟨(show (4 + 19 * (4 * ch + n)) + 0 ≤ 308 by omega), (show (40 + 442 * (4 * ch + n)) + 0 ≤ 7112 by omega)⟩) hM (fun r9 μ1 H locs hp hM => ?_)
          obtain ⟨hra, hmu⟩ := hp
          rw [hmu] at hM
          subst hra
          refine va_ldcS hx hb hown (hM.2.1.2.2.2.2.1 ("VersionRangesModel", 125, "||", 4) (by decide +kernel)) dMD_range_37 ?_
          refine kc_i (va_runV (C := RST) (As := [.ref (g.2.2.2.2.1 4)]) (b := sa i) (rest := []) (Ts := Wd) ⟨hx, hb, hml, hown, hW⟩ (mST_equals l g ν hs9 hv9 w5 (by omega) (i := 4) (by decide)) (cwV 1 hW (k_gV w_588 w_589 w_590 w_9 w_591) rfl rfl rfl (by decide +kernel) ⟨Nat.le_of_ble_eq_true rfl, Nat.le_of_ble_eq_true rfl⟩) (k_preV (q := (RST, TST, 4)) hM hs9 rfl) rfl rfl hl.1 rfl (lv_room (Nat.le_of_ble_eq_true rfl)) dMD_range_39 ⟨(show (4 + 19 * (4 * ch + n)) + 0 ≤ 308 by omega), (show (40 + 442 * (4 * ch + n)) + 0 ≤ 7112 by omega)⟩) hM (fun r μ1 H locs hp hM => ?_)
          obtain ⟨hmu, hcase⟩ := hp
          rw [hmu] at hM
          rcases hcase with ⟨y4, rfl⟩ | ⟨y4, rfl⟩
          · skip
            refine lv_if_ne (tgt := 137) hx hb dMD_range_42 (by decide) (fun _ => ?_) (fun h => absurd h (by decide))
            refine lv_iload_n hx hb dMD_range_137 rfl (lv_at hl 2 rfl) ?_
            refine lv_if_ne (tgt := 143) hx hb dMD_range_138 (by decide) (fun h138 => ?_) (fun h138 => ?_)
            · have h138 := (nJ_ne_t (a := n) (b := 0) (by omega) (by omega)).mp h138
              refine lv_aload_n hx hb dMD_range_143 rfl (lv_at hl 1 rfl) ?_
              refine k_get (own := RMD) (ref := RMR) (C := RMR) (T := TMR) (N := 4) (ci := 6) (v := .ref ts) hx hb hW inMR hown hM fra rfl 2 (by decide) (hW _ w_567) (fun _ h => h) rfl dMD_range_144 ?_
              refine lv_aload_n hx hb dMD_range_147 rfl (lv_at hl 1 rfl) ?_
              refine k_get (own := RMD) (ref := RMR) (C := RMR) (T := TMR) (N := 4) (ci := 6) (v := .int (nI ch)) hx hb hW inMR hown hM fra rfl 3 (by decide) (hW _ w_568) (fun _ h => h) rfl dMD_range_148 ?_
              refine lv_iload_n hx hb dMD_range_151 rfl (lv_at hl 2 rfl) ?_
              refine k_iast (i := ch) (f1 := (fun j => nI ((va_up TS ch n) j))) hx hb hM 1 fts rfl (by omega) (by omega) updn_at dMD_range_152 (fun H locs hM => ?_)
              have hM : kS g (km_up ν ts (.inl (g.2.2.1 1, 4, .inl (fun j => nI ((va_up TS ch n) j))))) s H locs := hM
              refine lv_aload_n hx hb dMD_range_153 rfl (lv_at hl 1 rfl) ?_
              refine lv_dup hx hb dMD_range_154 rfl ?_
              refine k_get (own := RMD) (ref := RMR) (C := RMR) (T := TMR) (N := 4) (ci := 6) (v := .int (nI ch)) hx hb hW inMR hown hM ((km_n (km_apB fra fts)).trans fra) rfl 3 (by decide) (hW _ w_568) (fun _ h => h) rfl dMD_range_155 ?_
              refine lv_iconst (v := nI 1) hx hb dMD_range_158 (by decide) ?_
              refine lv_iadd hx hb dMD_range_159 ?_
              refine topi_eq (y := nI (ch + 1)) (nI_add ch 1) ?_
              refine k_put (own := RMD) (ref := RMR) (C := RMR) (T := TMR) (N := 4) (ci := 6) (v := .int (nI (ch + 1))) (ty := .int) (fs' := [.ref sg0, .ref ve, .ref ts, .int (nI (ch + 1))]) hx hb hW inMR tyMR tyokMR nmokMR hown hM ((km_n (km_apB fra fts)).trans fra) rfl 3 (by decide) (hW _ w_568) (fun _ h => h) rfl (by decide +kernel) rfl rfl (Nat.le_of_ble_eq_true rfl) dMD_range_160 rfl (fun H locs hM => ?_)
              have hM : kS g (km_up (km_up ν ts (.inl (g.2.2.1 1, 4, .inl (fun j => nI ((va_up TS ch n) j))))) ra (.inr (6, [.ref sg0, .ref ve, .ref ts, .int (nI (ch + 1))]))) s H locs := hM
              refine lv_aload_n hx hb dMD_range_163 rfl (lv_at hl 0 rfl) ?_
              refine kc_i (va_runV (C := RMD) (As := []) (b := ma) (rest := []) (Ts := Wd) ⟨hx, hb, hml, hown, hW⟩ (mMD_ends l g (km_up (km_up ν ts (.inl (g.2.2.1 1, 4, .inl (fun j => nI ((va_up TS ch n) j))))) ra (.inr (6, [.ref sg0, .ref ve, .ref ts, .int (nI (ch + 1))]))) ((km_n (km_apC fm fra (by decide))).trans ((km_n (km_apB fm fts)).trans fm)) ((km_n (km_apA (hO _ _ hwd trivial) fra)).trans ((km_n (km_apN (hO _ _ hwd trivial) fts (by decide))).trans (hO _ _ hwd trivial))) hiw hws ((km_n (km_apC hs9 fra (by decide))).trans ((km_n (km_apB hs9 fts)).trans hs9)) ((km_n (km_apA hv9 fra)).trans ((km_n (km_apF w3 hq3)).trans hv9)) w5 (by omega) w1) (cwV 0 hW (k_gV w_578 w_580 p_30 w_7 w_581) rfl rfl rfl (by decide +kernel) ⟨Nat.le_of_ble_eq_true rfl, Nat.le_of_ble_eq_true rfl⟩) (k_preV (q := (RMD, TMD, 7)) hM ((km_n (km_apC fm fra (by decide))).trans ((km_n (km_apB fm fts)).trans fm)) rfl) rfl rfl hl.1 rfl (lv_room (Nat.le_of_ble_eq_true rfl)) dMD_range_164 ⟨(show (4 + 19 * (4 * ch + n)) + 0 ≤ 308 by omega), (show (40 + 442 * (4 * ch + n)) + 0 ≤ 7112 by omega)⟩) hM (fun r μ1 H locs hp hM => ?_)
              obtain ⟨hmu, hcase⟩ := hp
              rw [hmu] at hM
              have hr9 := (hcase.resolve_left (fun z => hK9 z.1)).2
              subst hr9
              refine lv_if_ne (tgt := 174) hx hb dMD_range_167 (by decide) (fun h => absurd (by decide) h) (fun _ => ?_)
              refine lv_iconst (v := nI 1) hx hb dMD_range_170 (by decide) ?_
              refine lv_goto (tgt := 175) hx hb dMD_range_171 (by decide) ?_
              refine lv_istore_n (lv' := [(2, .int (nI 1)), (0, .ref ma), (1, .ref ra), (3, .int (nI n))]) hx hb dMD_range_175 rfl hl (by decide) rfl (fun ls hl => ?_)
              refine lv_iload_n hx hb dMD_range_176 rfl (lv_at hl 0 rfl) ?_
              refine lv_if_eq (tgt := 190) hx hb dMD_range_177 (by decide) (fun h => absurd h (by decide)) (fun _ => ?_)
              refine lv_aload_n hx hb dMD_range_180 rfl (lv_at hl 1 rfl) ?_
              refine lv_dup hx hb dMD_range_181 rfl ?_
              refine k_get (own := RMD) (ref := RMD) (C := RMD) (T := TMD) (N := 7) (ci := 4) (v := .int (nI i)) hx hb hW inMD hown hM ((km_n (km_apC fm fra (by decide))).trans ((km_n (km_apB fm fts)).trans fm)) rfl 4 (by decide) (hW _ w_295) (fun _ h => h) rfl dMD_range_182 ?_
              refine lv_iconst (v := nI 1) hx hb dMD_range_185 (by decide) ?_
              refine lv_iadd hx hb dMD_range_186 ?_
              refine topi_eq (y := nI (i + 1)) (nI_add i 1) ?_
              refine k_put (own := RMD) (ref := RMD) (C := RMD) (T := TMD) (N := 7) (ci := 4) (v := .int (nI (i + 1))) (ty := .int) (fs' := [.ref tp, .int (nI tl), .ref wd, .int (nI ws), .int (nI (i + 1)), .ref li, .int (nI cnt)]) hx hb hW inMD tyMD tyokMD nmokMD hown hM ((km_n (km_apC fm fra (by decide))).trans ((km_n (km_apB fm fts)).trans fm)) rfl 4 (by decide) (hW _ w_295) (fun _ h => h) rfl (by decide +kernel) rfl rfl (Nat.le_of_ble_eq_true rfl) dMD_range_187 rfl (fun H locs hM => ?_)
              have hM : kS g (km_up (km_up (km_up ν ts (.inl (g.2.2.1 1, 4, .inl (fun j => nI ((va_up TS ch n) j))))) ra (.inr (6, [.ref sg0, .ref ve, .ref ts, .int (nI (ch + 1))]))) ma (.inr (4, [.ref tp, .int (nI tl), .ref wd, .int (nI ws), .int (nI (i + 1)), .ref li, .int (nI cnt)]))) s H locs := hM
              refine lv_goto (tgt := 10) hx hb dMD_range_190 (by decide) ?_
              refine lv_iload_n hx hb dMD_range_10 rfl (lv_at hl 0 rfl) ?_
              refine lv_if_eq (tgt := 193) hx hb dMD_range_11 (by decide) (fun h => absurd h (by decide)) (fun _ => ?_)
              refine lv_aload_n hx hb dMD_range_14 rfl (lv_at hl 2 rfl) ?_
              refine k_get (own := RMD) (ref := RMR) (C := RMR) (T := TMR) (N := 4) (ci := 6) (v := .int (nI (ch + 1))) hx hb hW inMR hown hM ((km_n (km_apC fra fm (by decide))).trans (km_s _ _ _)) rfl 3 (by decide) (hW _ w_568) (fun _ h => h) rfl dMD_range_15 ?_
              refine lv_iconst (v := nI 4) hx hb dMD_range_18 (by decide) ?_
              refine lv_icmp_ne (tgt := 24) hx hb dMD_range_19 (by decide) (fun h19 => ?_) (fun h19 => ?_)
              · have h19 := (nJ_ne_t (a := ch + 1) (b := 4) (by omega) (by omega)).mp h19
                refine lv_iconst (v := nI 0) hx hb dMD_range_24 (by decide) ?_
                refine lv_istore_n (lv' := [(3, .int (nI 0)), (2, .int (nI 1)), (0, .ref ma), (1, .ref ra)]) hx hb dMD_range_25 rfl hl (by decide) rfl (fun ls hl => ?_)
                have ht := tokW_or (LF := LF) (cnt := cnt) (a := S1 i) w4 y4
                rw [hE9] at ht
                refine W.widen (k := 4 + 19 * (4 * (ch + 1) + 0)) (n := 40 + 442 * (4 * (ch + 1) + 0)) (by omega) (by omega) ?_
                exact ih 0 (ch + 1) (i + 1) (km_up (km_up (km_up ν ts (.inl (g.2.2.1 1, 4, .inl (fun j => nI ((va_up TS ch n) j))))) ra (.inr (6, [.ref sg0, .ref ve, .ref ts, .int (nI (ch + 1))]))) ma (.inr (4, [.ref tp, .int (nI tl), .ref wd, .int (nI ws), .int (nI (i + 1)), .ref li, .int (nI cnt)]))) ra sg0 ve ts SG VE (va_up TS ch n) T (by omega) (by first | assumption | omega | exact rfl) (by first | assumption | omega | exact rfl) (by first | assumption | omega | exact rfl) (by exact rI_or hR hcnt hiw h138 h19 ht) (by exact (kKp_up (kKp_fr (kKp_fr hO hq3) hq0) hma (fun z => z rfl))) (by exact hq0) (by exact hq1) (by exact hq2) (by exact hq3) (by exact up_le hT4 hn4) (by exact kRT_kp (kKp_up (kKp_up (kKp_up (kKp_r _) fts (mvC_ts hty)) fra (mvC_o (by decide))) fm (mvC_o (by decide))) (kRT_ch hE hn4)) (by exact (km_s _ _ _)) (by exact ((km_n (km_apC fra fm (by decide))).trans (km_s _ _ _))) (by exact ((km_n (km_apA fsg fm)).trans ((km_n (km_apA fsg fra)).trans ((km_n (km_apN fsg fts (by decide))).trans fsg)))) (by exact ((km_n (km_apA fve fm)).trans ((km_n (km_apA fve fra)).trans ((km_n (km_apN fve fts (by decide))).trans fve)))) (by exact ((km_n (km_apA fts fm)).trans ((km_n (km_apA fts fra)).trans (km_s _ _ _)))) ls H locs (lv_sub hl [2, 3, 0] rfl) hM
              · have h19 := (nJ_ne_f (a := ch + 1) (b := 4) (by omega) (by omega)).mp h19
                refine lv_null hx hb dMD_range_22 ?_
                refine W.widen (k := 308) (n := 7112) (by omega) (by omega) ?_
                have ht := tokW_or (LF := LF) (cnt := cnt) (a := S1 i) w4 y4
                rw [hE9] at ht
                exact kr_q (v := none) hx hb hr (Or.inl ⟨_, rfl⟩) hlocks hM dMD_range_23 (⟨(kKp_up (kKp_fr (kKp_fr hO hq3) hq0) hma (fun z => z rfl)), i + 1, by omega, (km_s _ _ _), Or.inl ⟨rfl, rI_or0 hR hiw ht (Or.inr h19)⟩⟩)
            · have h138 := (nJ_ne_f (a := n) (b := 0) (by omega) (by omega)).mp h138
              refine lv_null hx hb dMD_range_141 ?_
              refine W.widen (k := 308) (n := 7112) (by omega) (by omega) ?_
              have ht := tokW_or (LF := LF) (cnt := cnt) (a := S1 i) w4 y4
              rw [hE9] at ht
              exact kr_q (v := none) hx hb hr (Or.inl ⟨_, rfl⟩) hlocks hM dMD_range_142 (⟨hO, i, by omega, fm, Or.inl ⟨rfl, rI_or0 hR hiw ht (Or.inl h138)⟩⟩)
          · skip
            refine lv_if_ne (tgt := 137) hx hb dMD_range_42 (by decide) (fun h => absurd (by decide) h) (fun _ => ?_)
            refine lv_iload_n hx hb dMD_range_45 rfl (lv_at hl 2 rfl) ?_
            refine lv_iconst (v := nI 4) hx hb dMD_range_46 (by decide) ?_
            refine lv_icmp_ne (tgt := 52) hx hb dMD_range_47 (by decide) (fun h47 => ?_) (fun h47 => ?_)
            · have h47 := (nJ_ne_t (a := n) (b := 4) (by omega) (by omega)).mp h47
              refine lv_iconst (v := nI 4) hx hb dMD_range_52 (by decide) ?_
              refine lv_aload_n hx hb dMD_range_53 rfl (lv_at hl 1 rfl) ?_
              refine k_get (own := RMD) (ref := RMR) (C := RMR) (T := TMR) (N := 4) (ci := 6) (v := .int (nI ch)) hx hb hW inMR hown hM fra rfl 3 (by decide) (hW _ w_568) (fun _ h => h) rfl dMD_range_54 ?_
              refine lv_imul hx hb dMD_range_57 ?_
              refine topi_eq (y := nI (4 * ch)) (pk_mul 4 ch) ?_
              refine lv_iload_n hx hb dMD_range_58 rfl (lv_at hl 2 rfl) ?_
              refine lv_iadd hx hb dMD_range_59 ?_
              refine topi_eq (y := nI ((4 * ch) + n)) (nI_add (4 * ch) n) ?_
              refine lv_istore (lv' := [(4, .int (nI ((4 * ch) + n))), (0, .ref ma), (1, .ref ra), (3, .int (nI n))]) hx hb dMD_range_60 hl (by decide) rfl (fun ls hl => ?_)
              refine lv_aload_n hx hb dMD_range_62 rfl (lv_at hl 1 rfl) ?_
              refine kc_r (va_runV (C := RMD) (As := []) (b := ma) (rest := []) (Ts := Wd) ⟨hx, hb, hml, hown, hW⟩ (mMD_here l g ν fm (hO _ _ hwd trivial) hiw hws w1) (cwV 0 hW (k_gV w_582 w_584 p_31 w_7 w_585) rfl rfl rfl (by decide +kernel) ⟨Nat.le_of_ble_eq_true rfl, Nat.le_of_ble_eq_true rfl⟩) (k_preV (q := (RMD, TMD, 7)) hM fm rfl) rfl rfl hl.1 rfl (lv_room (Nat.le_of_ble_eq_true rfl)) dMD_range_63 ⟨(show (4 + 19 * (4 * ch + n)) + 0 ≤ 308 by omega), (show (40 + 442 * (4 * ch + n)) + 0 ≤ 7112 by omega)⟩) hM (fun r9 μ1 H locs hp hM => ?_)
              obtain ⟨hra, hmu⟩ := hp
              rw [hmu] at hM
              subst hra
              refine va_ldcS hx hb hown (hM.2.1.2.2.2.2.1 ("VersionRangesModel", 127, "*", 5) (by decide +kernel)) dMD_range_66 ?_
              refine kc_i (va_runV (C := RST) (As := [.ref (g.2.2.2.2.1 5)]) (b := sa i) (rest := []) (Ts := Wd) ⟨hx, hb, hml, hown, hW⟩ (mST_equals l g ν hs9 hv9 w5 (by omega) (i := 5) (by decide)) (cwV 1 hW (k_gV w_588 w_589 w_590 w_9 w_591) rfl rfl rfl (by decide +kernel) ⟨Nat.le_of_ble_eq_true rfl, Nat.le_of_ble_eq_true rfl⟩) (k_preV (q := (RST, TST, 4)) hM hs9 rfl) rfl rfl hl.1 rfl (lv_room (Nat.le_of_ble_eq_true rfl)) dMD_range_68 ⟨(show (4 + 19 * (4 * ch + n)) + 0 ≤ 308 by omega), (show (40 + 442 * (4 * ch + n)) + 0 ≤ 7112 by omega)⟩) hM (fun r μ1 H locs hp hM => ?_)
              obtain ⟨hmu, hcase⟩ := hp
              rw [hmu] at hM
              rcases hcase with ⟨y5, rfl⟩ | ⟨y5, rfl⟩
              · skip
                refine lv_if_ne (tgt := 121) hx hb dMD_range_71 (by decide) (fun _ => ?_) (fun h => absurd h (by decide))
                refine lv_iinc (v := nI (n + 1)) (lv' := [(3, .int (nI (n + 1))), (4, .int (nI ((4 * ch) + n))), (0, .ref ma), (1, .ref ra)]) (k := 3) hx hb dMD_range_121 hl rfl (ii1 n) (by decide) rfl (fun ls hl => ?_)
                refine lv_aload_n hx hb dMD_range_124 rfl (lv_at hl 2 rfl) ?_
                refine lv_dup hx hb dMD_range_125 rfl ?_
                refine k_get (own := RMD) (ref := RMD) (C := RMD) (T := TMD) (N := 7) (ci := 4) (v := .int (nI i)) hx hb hW inMD hown hM fm rfl 4 (by decide) (hW _ w_295) (fun _ h => h) rfl dMD_range_126 ?_
                refine lv_iconst (v := nI 1) hx hb dMD_range_129 (by decide) ?_
                refine lv_iadd hx hb dMD_range_130 ?_
                refine topi_eq (y := nI (i + 1)) (nI_add i 1) ?_
                refine k_put (own := RMD) (ref := RMD) (C := RMD) (T := TMD) (N := 7) (ci := 4) (v := .int (nI (i + 1))) (ty := .int) (fs' := [.ref tp, .int (nI tl), .ref wd, .int (nI ws), .int (nI (i + 1)), .ref li, .int (nI cnt)]) hx hb hW inMD tyMD tyokMD nmokMD hown hM fm rfl 4 (by decide) (hW _ w_295) (fun _ h => h) rfl (by decide +kernel) rfl rfl (Nat.le_of_ble_eq_true rfl) dMD_range_131 rfl (fun H locs hM => ?_)
                have hM : kS g (km_up ν ma (.inr (4, [.ref tp, .int (nI tl), .ref wd, .int (nI ws), .int (nI (i + 1)), .ref li, .int (nI cnt)]))) s H locs := hM
                refine lv_goto (tgt := 26) hx hb dMD_range_134 (by decide) ?_
                have ht := tokW_5 (LF := LF) (cnt := cnt) (a := S1 i) w4 y4 y5
                rw [hE9] at ht
                refine W.widen (k := 4 + 19 * (4 * ch + (n + 1))) (n := 40 + 442 * (4 * ch + (n + 1))) (by omega) (by omega) ?_
                exact ih (n + 1) ch (i + 1) (km_up ν ma (.inr (4, [.ref tp, .int (nI tl), .ref wd, .int (nI ws), .int (nI (i + 1)), .ref li, .int (nI cnt)]))) ra sg0 ve ts SG VE TS (va_up T (4 * ch + n) (0, (0, 0, 0, []))) (by omega) (by first | assumption | omega | exact rfl) (by first | assumption | omega | exact rfl) (by first | assumption | omega | exact rfl) (by exact rI_test hR hcnt hiw h47 hT4 ht) (by exact (kKp_up hO hma (fun z => z rfl))) (by first | assumption | omega | exact rfl) (by first | assumption | omega | exact rfl) (by first | assumption | omega | exact rfl) (by first | assumption | omega | exact rfl) (by exact hT4) (by exact kRT_star (kRT_kp (kKp_up (kKp_r _) fm (mvC_o (by decide))) hE) hT4) (by exact (km_s _ _ _)) (by exact ((km_n (km_apC fra fm (by decide))).trans fra)) (by exact ((km_n (km_apA fsg fm)).trans fsg)) (by exact ((km_n (km_apA fve fm)).trans fve)) (by exact ((km_n (km_apA fts fm)).trans fts)) ls H locs (lv_sub hl [2, 3, 0] rfl) hM
              · skip
                refine lv_if_ne (tgt := 121) hx hb dMD_range_71 (by decide) (fun h => absurd (by decide) h) (fun _ => ?_)
                refine lv_aload_n hx hb dMD_range_74 rfl (lv_at hl 2 rfl) ?_
                refine k_get (own := RMD) (ref := RMR) (C := RMR) (T := TMR) (N := 4) (ci := 6) (v := .ref sg0) hx hb hW inMR hown hM fra rfl 0 (by decide) (hW _ w_563) (fun _ h => h) rfl dMD_range_75 ?_
                refine lv_iload hx hb dMD_range_78 (lv_at hl 0 rfl) ?_
                refine lv_aload_n hx hb dMD_range_80 rfl (lv_at hl 1 rfl) ?_
                refine kc_r (va_runV (C := RMD) (As := []) (b := ma) (rest := [.int (nI ((4 * ch) + n)), .ref sg0]) (Ts := Wd) ⟨hx, hb, hml, hown, hW⟩ (mMD_here l g ν fm (hO _ _ hwd trivial) hiw hws w1) (cwV 0 hW (k_gV w_582 w_584 p_31 w_7 w_585) rfl rfl rfl (by decide +kernel) ⟨Nat.le_of_ble_eq_true rfl, Nat.le_of_ble_eq_true rfl⟩) (k_preV (q := (RMD, TMD, 7)) hM fm rfl) rfl rfl hl.1 rfl (lv_room (Nat.le_of_ble_eq_true rfl)) dMD_range_81 ⟨(show (4 + 19 * (4 * ch + n)) + 0 ≤ 308 by omega), (show (40 + 442 * (4 * ch + n)) + 0 ≤ 7112 by omega)⟩) hM (fun r9 μ1 H locs hp hM => ?_)
                obtain ⟨hra, hmu⟩ := hp
                rw [hmu] at hM
                subst hra
                refine kc_i (va_runS (As := [.ref (sa i)]) (rest := [.int (nI ((4 * ch) + n)), .ref sg0]) (Ts := Wd) ⟨hx, hb, hml, hown, hW⟩ (mMD_sign l g ν hs9 hv9 w5 (by omega)) (va_cwS 1 hW (k_gS w_600 w_601 w_7 w_602) rfl rfl rfl (by decide +kernel) ⟨Nat.le_of_ble_eq_true rfl, Nat.le_of_ble_eq_true rfl⟩) (k_preS hM) rfl rfl hl.1 rfl (lv_room (Nat.le_of_ble_eq_true rfl)) dMD_range_84 ⟨(show (4 + 19 * (4 * ch + n)) + 0 ≤ 308 by omega), (show (40 + 442 * (4 * ch + n)) + 0 ≤ 7112 by omega)⟩) hM (fun r μ1 H locs hp hM => ?_)
                obtain ⟨rfl, hmu⟩ := hp
                rw [hmu] at hM
                refine k_iast (i := (4 * ch) + n) (f1 := (fun j => nI ((va_up SG ((4 * ch) + n) (rsg (h i) (E1 i - S1 i))) j))) hx hb hM 1 fsg rfl (by omega) (by omega) updn_at dMD_range_87 (fun H locs hM => ?_)
                have hM : kS g (km_up ν sg0 (.inl (g.2.2.1 1, 16, .inl (fun j => nI ((va_up SG ((4 * ch) + n) (rsg (h i) (E1 i - S1 i))) j))))) s H locs := hM
                refine lv_aload_n hx hb dMD_range_88 rfl (lv_at hl 2 rfl) ?_
                refine k_get (own := RMD) (ref := RMR) (C := RMR) (T := TMR) (N := 4) (ci := 6) (v := .ref ve) hx hb hW inMR hown hM ((km_n (km_apB fra fsg)).trans fra) rfl 1 (by decide) (hW _ w_565) (fun _ h => h) rfl dMD_range_89 ?_
                refine lv_iload hx hb dMD_range_92 (lv_at hl 0 rfl) ?_
                refine lv_aload_n hx hb dMD_range_94 rfl (lv_at hl 1 rfl) ?_
                refine kc_r (va_runV (C := RMD) (As := []) (b := ma) (rest := [.int (nI ((4 * ch) + n)), .ref ve]) (Ts := Wd) ⟨hx, hb, hml, hown, hW⟩ (mMD_here l g (km_up ν sg0 (.inl (g.2.2.1 1, 16, .inl (fun j => nI ((va_up SG ((4 * ch) + n) (rsg (h i) (E1 i - S1 i))) j))))) ((km_n (km_apB fm fsg)).trans fm) ((km_n (km_apN (hO _ _ hwd trivial) fsg (by decide))).trans (hO _ _ hwd trivial)) hiw hws w1) (cwV 0 hW (k_gV w_582 w_584 p_31 w_7 w_585) rfl rfl rfl (by decide +kernel) ⟨Nat.le_of_ble_eq_true rfl, Nat.le_of_ble_eq_true rfl⟩) (k_preV (q := (RMD, TMD, 7)) hM ((km_n (km_apB fm fsg)).trans fm) rfl) rfl rfl hl.1 rfl (lv_room (Nat.le_of_ble_eq_true rfl)) dMD_range_95 ⟨(show (4 + 19 * (4 * ch + n)) + 0 ≤ 308 by omega), (show (40 + 442 * (4 * ch + n)) + 0 ≤ 7112 by omega)⟩) hM (fun r9 μ1 H locs hp hM => ?_)
                obtain ⟨hra, hmu⟩ := hp
                rw [hmu] at hM
                subst hra
                refine lv_aload_n hx hb dMD_range_98 rfl (lv_at hl 1 rfl) ?_
                refine kc_r (va_runV (C := RMD) (As := []) (b := ma) (rest := [.ref (sa i), .int (nI ((4 * ch) + n)), .ref ve]) (Ts := Wd) ⟨hx, hb, hml, hown, hW⟩ (mMD_here l g (km_up ν sg0 (.inl (g.2.2.1 1, 16, .inl (fun j => nI ((va_up SG ((4 * ch) + n) (rsg (h i) (E1 i - S1 i))) j))))) ((km_n (km_apB fm fsg)).trans fm) ((km_n (km_apN (hO _ _ hwd trivial) fsg (by decide))).trans (hO _ _ hwd trivial)) hiw hws w1) (cwV 0 hW (k_gV w_582 w_584 p_31 w_7 w_585) rfl rfl rfl (by decide +kernel) ⟨Nat.le_of_ble_eq_true rfl, Nat.le_of_ble_eq_true rfl⟩) (k_preV (q := (RMD, TMD, 7)) hM ((km_n (km_apB fm fsg)).trans fm) rfl) rfl rfl hl.1 rfl (lv_room (Nat.le_of_ble_eq_true rfl)) dMD_range_99 ⟨(show (4 + 19 * (4 * ch + n)) + 0 ≤ 308 by omega), (show (40 + 442 * (4 * ch + n)) + 0 ≤ 7112 by omega)⟩) hM (fun r9 μ1 H locs hp hM => ?_)
                obtain ⟨hra, hmu⟩ := hp
                rw [hmu] at hM
                subst hra
                refine kc_i (va_runS (As := [.ref (sa i)]) (rest := [.ref (sa i), .int (nI ((4 * ch) + n)), .ref ve]) (Ts := Wd) ⟨hx, hb, hml, hown, hW⟩ (mMD_signLength l g (km_up ν sg0 (.inl (g.2.2.1 1, 16, .inl (fun j => nI ((va_up SG ((4 * ch) + n) (rsg (h i) (E1 i - S1 i))) j))))) ((km_n (km_apB hs9 fsg)).trans hs9) ((km_n (km_apF w3 hq1)).trans hv9) w5 (by omega)) (va_cwS 1 hW (k_gS w_651 w_652 w_7 w_653) rfl rfl rfl (by decide +kernel) ⟨Nat.le_of_ble_eq_true rfl, Nat.le_of_ble_eq_true rfl⟩) (k_preS hM) rfl rfl hl.1 rfl (lv_room (Nat.le_of_ble_eq_true rfl)) dMD_range_102 ⟨(show (4 + 19 * (4 * ch + n)) + 0 ≤ 308 by omega), (show (40 + 442 * (4 * ch + n)) + 0 ≤ 7112 by omega)⟩) hM (fun r μ1 H locs hp hM => ?_)
                obtain ⟨rfl, hmu⟩ := hp
                rw [hmu] at hM
                refine kc_q (va_runS (As := [.ref (sa i), .int (nI (rsl (h i) (E1 i - S1 i)))]) (rest := [.int (nI ((4 * ch) + n)), .ref ve]) (Ts := Wd) ⟨hx, hb, hml, hown, hW⟩ (mMD_version l g (km_up ν sg0 (.inl (g.2.2.1 1, 16, .inl (fun j => nI ((va_up SG ((4 * ch) + n) (rsg (h i) (E1 i - S1 i))) j))))) ((km_n (km_apB hs9 fsg)).trans hs9) ((km_n (km_apF w3 hq1)).trans hv9) w5 (by omega) (i := rsl (h i) (E1 i - S1 i)) (rsl_le _ _)) (va_cwS 2 hW (k_gS w_409 w_410 w_7 w_411) rfl rfl rfl (by decide +kernel) ⟨Nat.le_of_ble_eq_true rfl, Nat.le_of_ble_eq_true rfl⟩) (k_preS hM) rfl rfl hl.1 rfl (lv_room (Nat.le_of_ble_eq_true rfl)) dMD_range_105 ⟨(show (4 + 19 * (4 * ch + n)) + 19 ≤ 308 by omega), (show (40 + 442 * (4 * ch + n)) + 442 ≤ 7112 by omega)⟩) hM (fun r μ1 H locs hp hM => ?_)
                obtain ⟨hOv, hcase⟩ := hp
                refine W.widen (k := (4 + 19 * (4 * ch + n)) + 19) (n := (40 + 442 * (4 * ch + n)) + 442) (by omega) (by omega) ?_
                rcases hcase with ⟨rfl, hvn⟩ | ⟨vq, vna, vka, vNN, vM, vsa, vsv, vF, vv, rfl, hvs, hmv⟩
                · skip
                  refine k_aastN (i := (4 * ch) + n) (f1 := va_up VE ((4 * ch) + n) none) hx hb hM 6 (hOv _ _ ((km_n (Ne.symm (km_ap fsg fve (fun z => by simp at z)))).trans fve)) rfl (by omega) (by omega) rfl dMD_range_108 (fun H locs hM => ?_)
                  have hM : kS g (km_up μ1 ve (.inl (g.2.2.1 6, 16, .inr (.inr (.inr (.inr (va_up VE ((4 * ch) + n) none))))))) s H locs := hM
                  refine lv_aload_n hx hb dMD_range_109 rfl (lv_at hl 2 rfl) ?_
                  refine k_get (own := RMD) (ref := RMR) (C := RMR) (T := TMR) (N := 4) (ci := 6) (v := .ref ve) hx hb hW inMR hown hM ((km_n (km_apB (hOv _ _ ((km_n (km_apB fra fsg)).trans fra)) (hOv _ _ ((km_n (Ne.symm (km_ap fsg fve (fun z => by simp at z)))).trans fve)))).trans (hOv _ _ ((km_n (km_apB fra fsg)).trans fra))) rfl 1 (by decide) (hW _ w_565) (fun _ h => h) rfl dMD_range_110 ?_
                  refine lv_iload hx hb dMD_range_113 (lv_at hl 0 rfl) ?_
                  refine k_aald (i := (4 * ch) + n) (r := none) hx hb hM 6 (km_s _ _ _) rfl (by omega) (by omega) (by rw [va_up_self]) dMD_range_115 ?_
                  refine lv_ifnonnullN hx hb dMD_range_116 ?_
                  refine lv_null hx hb dMD_range_119 ?_
                  refine W.widen (k := 308) (n := 7112) (by omega) (by omega) ?_
                  have ht := tokW_bad (LF := LF) (cnt := cnt) (a := S1 i) w4 y4 y5 hvn
                  rw [hE9] at ht
                  exact kr_q (v := none) hx hb hr (Or.inl ⟨_, rfl⟩) hlocks hM dMD_range_120 (⟨(kKp_fr (kKp_old (kKp_fr hO hq1) hOv) hq2), i, by omega, ((km_n (km_apB (hOv _ _ ((km_n (km_apB fm fsg)).trans fm)) (hOv _ _ ((km_n (Ne.symm (km_ap fsg fve (fun z => by simp at z)))).trans fve)))).trans (hOv _ _ ((km_n (km_apB fm fsg)).trans fm))), Or.inl ⟨rfl, rI_bad hR hiw ht⟩⟩)
                · skip
                  refine k_aast (i := (4 * ch) + n) (f1 := va_up VE ((4 * ch) + n) (some vq)) hx hb hM 6 5 (hOv _ _ ((km_n (Ne.symm (km_ap fsg fve (fun z => by simp at z)))).trans fve)) rfl hmv.1 rfl (by omega) (by omega) rfl dMD_range_108 (fun H locs hM => ?_)
                  have hM : kS g (km_up μ1 ve (.inl (g.2.2.1 6, 16, .inr (.inr (.inr (.inr (va_up VE ((4 * ch) + n) (some vq)))))))) s H locs := hM
                  refine lv_aload_n hx hb dMD_range_109 rfl (lv_at hl 2 rfl) ?_
                  refine k_get (own := RMD) (ref := RMR) (C := RMR) (T := TMR) (N := 4) (ci := 6) (v := .ref ve) hx hb hW inMR hown hM ((km_n (km_apB (hOv _ _ ((km_n (km_apB fra fsg)).trans fra)) (hOv _ _ ((km_n (Ne.symm (km_ap fsg fve (fun z => by simp at z)))).trans fve)))).trans (hOv _ _ ((km_n (km_apB fra fsg)).trans fra))) rfl 1 (by decide) (hW _ w_565) (fun _ h => h) rfl dMD_range_110 ?_
                  refine lv_iload hx hb dMD_range_113 (lv_at hl 0 rfl) ?_
                  refine k_aald (i := (4 * ch) + n) (r := some vq) hx hb hM 6 (km_s _ _ _) rfl (by omega) (by omega) (by rw [va_up_self]) dMD_range_115 ?_
                  refine lv_ifnonnull (tgt := 121) hx hb dMD_range_116 (by decide) ?_
                  refine lv_iinc (v := nI (n + 1)) (lv' := [(3, .int (nI (n + 1))), (4, .int (nI ((4 * ch) + n))), (0, .ref ma), (1, .ref ra)]) (k := 3) hx hb dMD_range_121 hl rfl (ii1 n) (by decide) rfl (fun ls hl => ?_)
                  refine lv_aload_n hx hb dMD_range_124 rfl (lv_at hl 2 rfl) ?_
                  refine lv_dup hx hb dMD_range_125 rfl ?_
                  refine k_get (own := RMD) (ref := RMD) (C := RMD) (T := TMD) (N := 7) (ci := 4) (v := .int (nI i)) hx hb hW inMD hown hM ((km_n (km_apB (hOv _ _ ((km_n (km_apB fm fsg)).trans fm)) (hOv _ _ ((km_n (Ne.symm (km_ap fsg fve (fun z => by simp at z)))).trans fve)))).trans (hOv _ _ ((km_n (km_apB fm fsg)).trans fm))) rfl 4 (by decide) (hW _ w_295) (fun _ h => h) rfl dMD_range_126 ?_
                  refine lv_iconst (v := nI 1) hx hb dMD_range_129 (by decide) ?_
                  refine lv_iadd hx hb dMD_range_130 ?_
                  refine topi_eq (y := nI (i + 1)) (nI_add i 1) ?_
                  refine k_put (own := RMD) (ref := RMD) (C := RMD) (T := TMD) (N := 7) (ci := 4) (v := .int (nI (i + 1))) (ty := .int) (fs' := [.ref tp, .int (nI tl), .ref wd, .int (nI ws), .int (nI (i + 1)), .ref li, .int (nI cnt)]) hx hb hW inMD tyMD tyokMD nmokMD hown hM ((km_n (km_apB (hOv _ _ ((km_n (km_apB fm fsg)).trans fm)) (hOv _ _ ((km_n (Ne.symm (km_ap fsg fve (fun z => by simp at z)))).trans fve)))).trans (hOv _ _ ((km_n (km_apB fm fsg)).trans fm))) rfl 4 (by decide) (hW _ w_295) (fun _ h => h) rfl (by decide +kernel) rfl rfl (Nat.le_of_ble_eq_true rfl) dMD_range_131 rfl (fun H locs hM => ?_)
                  have hM : kS g (km_up (km_up μ1 ve (.inl (g.2.2.1 6, 16, .inr (.inr (.inr (.inr (va_up VE ((4 * ch) + n) (some vq)))))))) ma (.inr (4, [.ref tp, .int (nI tl), .ref wd, .int (nI ws), .int (nI (i + 1)), .ref li, .int (nI cnt)]))) s H locs := hM
                  refine lv_goto (tgt := 26) hx hb dMD_range_134 (by decide) ?_
                  have ht := tokW_t (LF := LF) (cnt := cnt) (a := S1 i) w4 y4 y5 hvs
                  rw [hE9] at ht
                  refine W.widen (k := 4 + 19 * (4 * ch + (n + 1))) (n := 40 + 442 * (4 * ch + (n + 1))) (by omega) (by omega) ?_
                  exact ih (n + 1) ch (i + 1) (km_up (km_up μ1 ve (.inl (g.2.2.1 6, 16, .inr (.inr (.inr (.inr (va_up VE ((4 * ch) + n) (some vq)))))))) ma (.inr (4, [.ref tp, .int (nI tl), .ref wd, .int (nI ws), .int (nI (i + 1)), .ref li, .int (nI cnt)]))) ra sg0 ve ts (va_up SG (4 * ch + n) (rsg (h i) (E1 i - S1 i))) (va_up VE (4 * ch + n) (some vq)) TS (va_up T (4 * ch + n) (rsg (h i) (E1 i - S1 i), vv)) (by omega) (by first | assumption | omega | exact rfl) (by first | assumption | omega | exact rfl) (by first | assumption | omega | exact rfl) (by exact rI_test hR hcnt hiw h47 hT4 ht) (by exact (kKp_up (kKp_fr (kKp_old (kKp_fr hO hq1) hOv) hq2) hma (fun z => z rfl))) (by first | assumption | omega | exact rfl) (by first | assumption | omega | exact rfl) (by first | assumption | omega | exact rfl) (by first | assumption | omega | exact rfl) (by exact hT4) (by exact kRT_test (kRT_kp (kKp_up (kKp_up (kKp_old (kKp_up (kKp_r _) fsg (mvC_n (by decide))) hOv) fve (mvC_n (by decide))) fm (mvC_o (by decide))) hE) hT4 (rsg_b _ _) (kMX_kp (kKp_up (kKp_up (kKp_r _) (hOv _ _ ((km_n (Ne.symm (km_ap fsg fve (fun z => by simp at z)))).trans fve)) (mvC_n (by decide))) (hOv _ _ ((km_n (km_apB fm fsg)).trans fm)) (mvC_o (by decide))) ⟨_, _, _, _, _, _, _, hmv⟩)) (by exact (km_s _ _ _)) (by exact ((km_n (km_apC (hOv _ _ ((km_n (km_apB fra fsg)).trans fra)) (hOv _ _ ((km_n (km_apB fm fsg)).trans fm)) (by decide))).trans ((km_n (km_apB (hOv _ _ ((km_n (km_apB fra fsg)).trans fra)) (hOv _ _ ((km_n (Ne.symm (km_ap fsg fve (fun z => by simp at z)))).trans fve)))).trans (hOv _ _ ((km_n (km_apB fra fsg)).trans fra))))) (by exact ((km_n (km_apA (hOv _ _ (km_s _ _ _)) (hOv _ _ ((km_n (km_apB fm fsg)).trans fm)))).trans ((km_n (km_ap fsg fve (fun z => by simp at z))).trans (hOv _ _ (km_s _ _ _))))) (by exact ((km_n (km_apA (hOv _ _ ((km_n (Ne.symm (km_ap fsg fve (fun z => by simp at z)))).trans fve)) (hOv _ _ ((km_n (km_apB fm fsg)).trans fm)))).trans (km_s _ _ _))) (by exact ((km_n (km_apA (hOv _ _ ((km_n (km_apN fts fsg (by decide))).trans fts)) (hOv _ _ ((km_n (km_apB fm fsg)).trans fm)))).trans ((km_n (km_apN (hOv _ _ ((km_n (km_apN fts fsg (by decide))).trans fts)) (hOv _ _ ((km_n (Ne.symm (km_ap fsg fve (fun z => by simp at z)))).trans fve)) (by decide))).trans (hOv _ _ ((km_n (km_apN fts fsg (by decide))).trans fts))))) ls H locs (lv_sub hl [2, 3, 0] rfl) hM
            · have h47 := (nJ_ne_f (a := n) (b := 4) (by omega) (by omega)).mp h47
              refine lv_null hx hb dMD_range_50 ?_
              refine W.widen (k := 308) (n := 7112) (by omega) (by omega) ?_
              have ht := tokW_n (LF := LF) (cnt := cnt) (a := S1 i) w4 y4
              rw [hE9] at ht
              exact kr_q (v := none) hx hb hr (Or.inl ⟨_, rfl⟩) hlocks hM dMD_range_51 (⟨hO, i, by omega, fm, Or.inl ⟨rfl, rI_t4 hR hiw ht h47⟩⟩)
  refine k_new (own := RMD) (C := RMR) (T := TMR) (N := 4) (ci := 6) (fs := [.null, .null, .null, .int (nI 0)]) hx hb hW inMR tyMR tyokMR hown (hW _ w_555) (hW _ w_556) (hW _ w_16) hM rfl (fun j hj => by rcases (show j = 0 ∨ j = 1 ∨ j = 2 ∨ j = 3 by omega) with rfl | rfl | rfl | rfl <;> rfl) (show 0 + 1 ≤ 308 by omega) (show 0 + 4 ≤ 7112 by omega) dMD_range_0 (fun q0 H hnq0 hM => ?_)
  have ne_ma_q0 : ma ≠ q0 := km_apF hma hnq0
  have ne_wd_q0 : wd ≠ q0 := km_apF hwd hnq0
  have hM : kS g (km_up μ q0 (.inr (6, [.null, .null, .null, .int (nI 0)]))) s H locs := hM
  refine W.widen (k := 1) (n := 4) (by omega) (by omega) ?_
  refine lv_dup hx hb dMD_range_3 rfl ?_
  refine kc_v (va_runIN (As := []) (b := q0) (rest := [.ref q0]) (Ts := Wd) ⟨hx, hb, hml, hown, hW⟩ (mMR_init l g (km_up μ q0 (.inr (6, [.null, .null, .null, .int (nI 0)]))) (km_s _ _ _)) ⟨(va_cnB 0 hW (k_gC w_559) rfl rfl rfl (hM.2.1.2.1 _ n_557) (hW _ w_16) (by decide +kernel) ⟨Nat.le_of_ble_eq_true rfl, Nat.le_of_ble_eq_true rfl⟩), rfl, hW _ w_558⟩ (k_preS hM) rfl rfl hl.1 rfl (lv_room (Nat.le_of_ble_eq_true rfl)) dMD_range_4 ⟨(show 1 + 3 ≤ 308 by omega), (show 4 + 36 ≤ 7112 by omega)⟩) hM (fun μ1 H locs hp hM => ?_)
  obtain ⟨sg0, ve, ts, hw1, hw2, hw3, hn1, hn2, hn3, hmu⟩ := hp
  subst hmu
  refine W.widen (k := 4) (n := 40) (by omega) (by omega) ?_
  have ne_ma_sg0 : ma ≠ sg0 := km_apF ((km_n ne_ma_q0).trans hma) hw1
  have ne_wd_sg0 : wd ≠ sg0 := km_apF ((km_n ne_wd_q0).trans hwd) hw1
  have ne_q0_sg0 : q0 ≠ sg0 := km_apF (km_s _ _ _) hw1
  have ne_ma_ve : ma ≠ ve := km_apF ((km_n ne_ma_q0).trans hma) hw2
  have ne_wd_ve : wd ≠ ve := km_apF ((km_n ne_wd_q0).trans hwd) hw2
  have ne_q0_ve : q0 ≠ ve := km_apF (km_s _ _ _) hw2
  have ne_ma_ts : ma ≠ ts := km_apF ((km_n ne_ma_q0).trans hma) hw3
  have ne_wd_ts : wd ≠ ts := km_apF ((km_n ne_wd_q0).trans hwd) hw3
  have ne_q0_ts : q0 ≠ ts := km_apF (km_s _ _ _) hw3
  have hM : kS g (km_up (km_up (km_up (km_up (km_up μ q0 (.inr (6, [.null, .null, .null, .int (nI 0)]))) sg0 (.inl (g.2.2.1 1, 16, .inl (fun j => nI ((fun _ => 0) j))))) q0 (.inr (6, [.ref sg0, .ref ve, .ref ts, .int (nI 0)]))) ve (.inl (g.2.2.1 6, 16, .inr (.inr (.inr (.inr (fun _ => none))))))) ts (.inl (g.2.2.1 1, 4, .inl (fun j => nI ((fun _ => 0) j))))) s H locs := hM
  have hM : kS g (km_up (km_up (km_up (km_up μ q0 (.inr (6, [.ref sg0, .ref ve, .ref ts, .int (nI 0)]))) sg0 (.inl (g.2.2.1 1, 16, .inl (fun j => nI ((fun _ => 0) j))))) ve (.inl (g.2.2.1 6, 16, .inr (.inr (.inr (.inr (fun _ => none))))))) ts (.inl (g.2.2.1 1, 4, .inl (fun j => nI ((fun _ => 0) j))))) s H locs := kS_eq (congrArg (fun z => km_up z ts (.inl (g.2.2.1 1, 4, .inl (fun j => nI ((fun _ => 0) j))))) (congrArg (fun z => km_up z ve (.inl (g.2.2.1 6, 16, .inr (.inr (.inr (.inr (fun _ => none))))))) (km_u2 _ _ _ _ ne_q0_sg0))) hM
  refine lv_astore_n (lv' := [(1, .ref q0), (0, .ref ma)]) hx hb dMD_range_7 rfl hl (by decide) rfl (fun ls hl => ?_)
  refine lv_iconst (v := nI 1) hx hb dMD_range_8 (by decide) ?_
  refine lv_istore_n (lv' := [(2, .int (nI 1)), (1, .ref q0), (0, .ref ma)]) hx hb dMD_range_9 rfl hl (by decide) rfl (fun ls hl => ?_)
  refine lv_iload_n hx hb dMD_range_10 rfl (lv_at hl 0 rfl) ?_
  refine lv_if_eq (tgt := 193) hx hb dMD_range_11 (by decide) (fun h => absurd h (by decide)) (fun _ => ?_)
  refine lv_aload_n hx hb dMD_range_14 rfl (lv_at hl 1 rfl) ?_
  refine k_get (own := RMD) (ref := RMR) (C := RMR) (T := TMR) (N := 4) (ci := 6) (v := .int (nI 0)) hx hb hW inMR hown hM ((km_n ne_q0_ts).trans ((km_n ne_q0_ve).trans ((km_n ne_q0_sg0).trans (km_s _ _ _)))) rfl 3 (by decide) (hW _ w_568) (fun _ h => h) rfl dMD_range_15 ?_
  refine lv_iconst (v := nI 4) hx hb dMD_range_18 (by decide) ?_
  refine lv_icmp_ne (tgt := 24) hx hb dMD_range_19 (by decide) (fun _ => ?_) (fun h => absurd h (by decide))
  refine lv_iconst (v := nI 0) hx hb dMD_range_24 (by decide) ?_
  refine lv_istore_n (lv' := [(3, .int (nI 0)), (2, .int (nI 1)), (1, .ref q0), (0, .ref ma)]) hx hb dMD_range_25 rfl hl (by decide) rfl (fun ls hl => ?_)
  refine W.widen (k := 4 + 19 * (4 * 0 + 0)) (n := 40 + 442 * (4 * 0 + 0)) (by omega) (by omega) ?_
  exact cut26 _ 0 0 0 (km_up (km_up (km_up (km_up μ q0 (.inr (6, [.ref sg0, .ref ve, .ref ts, .int (nI 0)]))) sg0 (.inl (g.2.2.1 1, 16, .inl (fun j => nI ((fun _ => 0) j))))) ve (.inl (g.2.2.1 6, 16, .inr (.inr (.inr (.inr (fun _ => none))))))) ts (.inl (g.2.2.1 1, 4, .inl (fun j => nI ((fun _ => 0) j))))) q0 sg0 ve ts (fun _ => 0) (fun _ => none) (fun _ => 0) (fun _ => (0, (0, 0, 0, []))) (Nat.lt_succ_self _) (by first | assumption | omega | exact rfl) (by first | assumption | omega | exact rfl) (by first | assumption | omega | exact rfl) (by exact rI_0 hX) (by exact (kKp_fr (kKp_fr (kKp_fr (kKp_fr (kKp_r μ) hnq0) (km_none hw1).2) (km_none hw2).2) (km_none hw3).2)) (by exact hnq0) (by exact (km_none hw1).2) (by exact (km_none hw2).2) (by exact (km_none hw3).2) (by exact fun c hc => absurd hc (Nat.not_lt_zero _)) (by exact kRT_0) (by exact ((km_n ne_ma_ts).trans ((km_n ne_ma_ve).trans ((km_n ne_ma_sg0).trans ((km_n ne_ma_q0).trans hma))))) (by exact ((km_n ne_q0_ts).trans ((km_n ne_q0_ve).trans ((km_n ne_q0_sg0).trans (km_s _ _ _))))) (by exact ((km_n (Ne.symm hn2)).trans ((km_n (Ne.symm hn1)).trans (km_s _ _ _)))) (by exact ((km_n (Ne.symm hn3)).trans (km_s _ _ _))) (by exact (km_s _ _ _)) ls H locs (lv_sub hl [3, 2, 0] rfl) hM
