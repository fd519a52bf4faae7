set_option maxHeartbeats 2000000 in
set_option maxRecDepth 100000 in
theorem mMD_version (l : Launch) (g : kG) (μ : km_M) {a va n : Nat} {f : Nat → Nat} (hs : μ a = some (.inr (7, [.ref va, .int (nI 0), .int (nI 0), .int (nI 0)]))) (hv : μ va = some (.inl (g.2.2.1 0, n, .inl (fun j => sb (f j))))) (hf : ∀ k, f k < 256) (hn : n ≤ 400) {i : Nat} (hi : i ≤ n) : Met l yMD_version (Cond.code yMD_version cMD_version 6 (some (.object "VersionRangesModel$Version")) :: Wd) ({ frames := 6, cells := 19, slots := 442, locals := 132 } : Room) (kPre g μ [.ref a, .int (nI i)]) (kQq g (fun (r : Option Nat) (μ1 : km_M) => kOld μ μ1 ∧ ((r = none ∧ vVer f i n = none) ∨ ∃ (vq na ka : Nat) (NN : Nat → Nat) (M : Nat → Option Nat) (sa sv : Nat → Nat) (F : Nat → Nat → Nat) (v : kVer), r = some vq ∧ vVer f i n = some v ∧ kMV g μ1 vq na ka NN M sa sv F v))) 19 442 (kF g) := by
  refine k_met (by decide) (Nat.le_of_ble_eq_true rfl) ?_
  intro p e s m below meth c hx hb hr hlocks hml hown hnm hW ls hl H locs hM
  have hl : lv_has ls 6 [(0, .ref a), (1, .int (nI i))] := hl
  have cut143 : ∀ (fu : Nat), ∀ (pp : Nat) (ν : km_M) (vq : Nat) (na : Nat) (ka : Nat) (NN : Nat → Nat) (L : Nat) (ms : List (List Nat)) (M : Nat → Option Nat) (sa : Nat → Nat) (sv : Nat → Nat) (F : Nat → Nat → Nat), n - pp < fu → pp ≤ n → ms.length = L → L ≤ 4 → vMs f n i (NN 0) (NN 1) (NN 2) ms pp → (∀ j, j < 3 → NN j < 1000000000) → kOld μ ν → μ vq = none → μ na = none → μ ka = none → ν vq = some (.inr (5, [.ref na, .ref ka, .int (nI L)])) → ν na = some (.inl (g.2.2.1 1, 3, .inl (fun j => nI (NN j)))) → ν ka = some (.inl (g.2.2.1 5, 4, .inr (.inr (.inr (.inr M))))) → kMK g ν M sa sv F ms → ∀ (ls : Array Slot) (H : Heap) (locs : List Loc), lv_has ls 6 [(0, .ref a), (2, .ref vq), (3, .int (nI pp))] → kS g (ν) s H locs → W p l e ({ frames := 6, cells := 19, slots := 442, locals := 132 } : Room) s m [.ref a, .int (nI i)].toArray below meth c H locs (9 + 2 * L) (22 + 4 * L + pp) (MQ below (kQq g (fun (r : Option Nat) (μ1 : km_M) => kOld μ μ1 ∧ ((r = none ∧ vVer f i n = none) ∨ ∃ (vq na ka : Nat) (NN : Nat → Nat) (M : Nat → Option Nat) (sa sv : Nat → Nat) (F : Nat → Nat → Nat) (v : kVer), r = some vq ∧ vVer f i n = some v ∧ kMV g μ1 vq na ka NN M sa sv F v))) [.ref a, .int (nI i)].toArray s 19 442 (kF g)) (F0 m 143 ls []) := by
    intro fu
    induction fu with
    | zero => intro pp ν vq na ka NN L ms M sa sv F hlt; exact absurd hlt (Nat.not_lt_zero _)
    | succ fu ih =>
      intro pp ν vq na ka NN L ms M sa sv F hlt hp hL hL4 hV hNb hO hq0 hq1 hq2 fv fna fka hK ls H locs hl hM
      have cut207 : ∀ (q : Nat), pp < n → q ≤ n → q = (pp + 1) + nM f (pp + 1) (n - (pp + 1)) → ∀ (ls : Array Slot) (H : Heap) (locs : List Loc), lv_has ls 6 [(0, .ref a), (2, .ref vq), (3, .int (nI (pp + 1))), (4, .int (nI q))] → kS g (ν) s H locs → W p l e ({ frames := 6, cells := 19, slots := 442, locals := 132 } : Room) s m [.ref a, .int (nI i)].toArray below meth c H locs (9 + 2 * L) (22 + 4 * L + pp) (MQ below (kQq g (fun (r : Option Nat) (μ1 : km_M) => kOld μ μ1 ∧ ((r = none ∧ vVer f i n = none) ∨ ∃ (vq na ka : Nat) (NN : Nat → Nat) (M : Nat → Option Nat) (sa sv : Nat → Nat) (F : Nat → Nat → Nat) (v : kVer), r = some vq ∧ vVer f i n = some v ∧ kMV g μ1 vq na ka NN M sa sv F v))) [.ref a, .int (nI i)].toArray s 19 442 (kF g)) (F0 m 207 ls []) := by
        intro q hpn hqn hqd ls H locs hl hM
        refine lv_aload_n hx hb dMD_version_207 rfl (lv_at hl 0 rfl) ?_
        refine lv_iload_n hx hb dMD_version_208 rfl (lv_at hl 2 rfl) ?_
        refine lv_iload hx hb dMD_version_209 (lv_at hl 3 rfl) ?_
        refine kc_r (va_runV (C := RST) (As := [.int (nI (pp + 1)), .int (nI q)]) (b := a) (rest := []) (Ts := Wd) ⟨hx, hb, hml, hown, hW⟩ (mST_substring l g ν (hO _ _ hs) (hO _ _ hv) hf hn (i := pp + 1) (tt := q) (by omega) (by omega)) (cwV 2 hW (k_gV w_465 w_466 w_467 w_9 w_468) rfl rfl rfl (by decide +kernel) ⟨Nat.le_of_ble_eq_true rfl, Nat.le_of_ble_eq_true rfl⟩) (k_preV (q := (RST, TST, 4)) hM (hO _ _ hs) rfl) rfl rfl hl.1 rfl (lv_room (Nat.le_of_ble_eq_true rfl)) dMD_version_211 ⟨(show (9 + 2 * L) + 2 ≤ 19 by omega), (show (22 + 4 * L + pp) + (4 + (q - (pp + 1))) ≤ 442 by omega)⟩) hM (fun rs μ1 H locs hp hM => ?_)
        have hcs := hp
        clear hp
        replace hcs := hcs.resolve_left (fun z => absurd z.1 (by omega))
        refine W.widen (k := (9 + 2 * L) + 2) (n := (22 + 4 * L + pp) + (4 + (q - (pp + 1)))) (by omega) (by omega) ?_
        rcases hcs with ⟨zn, ze, hra, hmu⟩ | ⟨zn, zl, d1, hwa, hwb, hwn, hmu⟩
        · subst hra
          rw [hmu] at hM
          refine lv_astore (lv' := [(5, .ref (g.2.2.2.2.1 0)), (0, .ref a), (2, .ref vq), (3, .int (nI (pp + 1))), (4, .int (nI q))]) hx hb dMD_version_214 hl (by decide) rfl (fun ls hl => ?_)
          refine lv_aload hx hb dMD_version_216 (lv_at hl 0 rfl) ?_
          refine kc_i (va_runV (C := RST) (As := []) (b := g.2.2.2.2.1 0) (rest := []) (Ts := Wd) ⟨hx, hb, hml, hown, hW⟩ (mST_lengthL l g ν (i := 0) (by decide)) (cwV 0 hW (k_gV w_430 w_431 w_432 w_9 w_433) rfl rfl rfl (by decide +kernel) ⟨Nat.le_of_ble_eq_true rfl, Nat.le_of_ble_eq_true rfl⟩) (k_preL hM (by decide)) rfl rfl hl.1 rfl (lv_room (Nat.le_of_ble_eq_true rfl)) dMD_version_218 ⟨(show ((9 + 2 * L) + 2) + 0 ≤ 19 by omega), (show ((22 + 4 * L + pp) + (4 + (q - (pp + 1)))) + 0 ≤ 442 by omega)⟩) hM (fun r μ1 H locs hp hM => ?_)
          obtain ⟨rfl, hmu⟩ := hp
          rw [hmu] at hM
          refine topi_eq (y := nI 0) rfl ?_
          refine lv_iconst (v := nI 1) hx hb dMD_version_221 (by decide) ?_
          refine lv_icmp_lt (tgt := 261) hx hb dMD_version_222 (by decide) (fun _ => ?_) (fun h => absurd (by decide) h)
          refine lv_null hx hb dMD_version_261 ?_
          refine W.widen (k := 19) (n := 442) (by omega) (by omega) ?_
          exact kr_q (v := none) hx hb hr (Or.inl ⟨_, rfl⟩) hlocks hM dMD_version_262 (⟨hO, Or.inl ⟨rfl, vMs_no hV hpn (Or.inl (mkN hqd (Or.inl (by omega))))⟩⟩)
        · rw [hmu] at hM
          have ne_a_rs : a ≠ rs := km_apF (hO _ _ hs) hwa
          have ne_va_rs : va ≠ rs := km_apF (hO _ _ hv) hwa
          have ne_vq_rs : vq ≠ rs := km_apF fv hwa
          have ne_na_rs : na ≠ rs := km_apF fna hwa
          have ne_ka_rs : ka ≠ rs := km_apF fka hwa
          have ne_a_d1 : a ≠ d1 := km_apF (hO _ _ hs) hwb
          have ne_va_d1 : va ≠ d1 := km_apF (hO _ _ hv) hwb
          have ne_vq_d1 : vq ≠ d1 := km_apF fv hwb
          have ne_na_d1 : na ≠ d1 := km_apF fna hwb
          have ne_ka_d1 : ka ≠ d1 := km_apF fka hwb
          have hM : kS g (km_up (km_up ν rs (.inr (7, [.ref d1, .int (nI 0), .int (nI 0), .int (nI 0)]))) d1 (.inl (g.2.2.1 0, (q - (pp + 1)), .inl (fun j => sb ((sbs f (pp + 1) (q - (pp + 1))) j))))) s H locs := hM
          refine lv_astore (lv' := [(5, .ref rs), (0, .ref a), (2, .ref vq), (3, .int (nI (pp + 1))), (4, .int (nI q))]) hx hb dMD_version_214 hl (by decide) rfl (fun ls hl => ?_)
          refine lv_aload hx hb dMD_version_216 (lv_at hl 0 rfl) ?_
          refine kc_i (va_runV (C := RST) (As := []) (b := rs) (rest := []) (Ts := Wd) ⟨hx, hb, hml, hown, hW⟩ (mST_length l g (km_up (km_up ν rs (.inr (7, [.ref d1, .int (nI 0), .int (nI 0), .int (nI 0)]))) d1 (.inl (g.2.2.1 0, (q - (pp + 1)), .inl (fun j => sb ((sbs f (pp + 1) (q - (pp + 1))) j))))) ((km_n (Ne.symm hwn)).trans (km_s _ _ _)) (km_s _ _ _) (sbs_lt hf _ _) (by omega)) (cwV 0 hW (k_gV w_430 w_431 w_432 w_9 w_433) rfl rfl rfl (by decide +kernel) ⟨Nat.le_of_ble_eq_true rfl, Nat.le_of_ble_eq_true rfl⟩) (k_preV (q := (RST, TST, 4)) hM ((km_n (Ne.symm hwn)).trans (km_s _ _ _)) rfl) rfl rfl hl.1 rfl (lv_room (Nat.le_of_ble_eq_true rfl)) dMD_version_218 ⟨(show ((9 + 2 * L) + 2) + 0 ≤ 19 by omega), (show ((22 + 4 * L + pp) + (4 + (q - (pp + 1)))) + 0 ≤ 442 by omega)⟩) hM (fun r μ1 H locs hp hM => ?_)
          obtain ⟨rfl, hmu⟩ := hp
          rw [hmu] at hM
          refine lv_iconst (v := nI 1) hx hb dMD_version_221 (by decide) ?_
          refine lv_icmp_lt (tgt := 261) hx hb dMD_version_222 (by decide) (fun h222 => ?_) (fun h222 => ?_)
          · have h222 := (nJ_lt_t (a := (q - (pp + 1))) (b := 1) (by omega) (by omega)).mp h222
            refine lv_null hx hb dMD_version_261 ?_
            refine W.widen (k := 19) (n := 442) (by omega) (by omega) ?_
            exact kr_q (v := none) hx hb hr (Or.inl ⟨_, rfl⟩) hlocks hM dMD_version_262 (⟨(kOld_up (kOld_up hO (kOld_n hO hwa)) (kOld_n hO hwb)), Or.inl ⟨rfl, vMs_no hV hpn (by first | exact Or.inr (by omega) | exact Or.inl (mkN hqd (Or.inr (Or.inl (by omega)))) | exact Or.inl (mkN hqd (Or.inr (Or.inr ⟨h248.1, hzz⟩))))⟩⟩)
          · have h222 := (nJ_lt_f (a := (q - (pp + 1))) (b := 1) (by omega) (by omega)).mp h222
            refine lv_aload hx hb dMD_version_225 (lv_at hl 0 rfl) ?_
            refine kc_i (va_runV (C := RST) (As := []) (b := rs) (rest := []) (Ts := Wd) ⟨hx, hb, hml, hown, hW⟩ (mST_length l g (km_up (km_up ν rs (.inr (7, [.ref d1, .int (nI 0), .int (nI 0), .int (nI 0)]))) d1 (.inl (g.2.2.1 0, (q - (pp + 1)), .inl (fun j => sb ((sbs f (pp + 1) (q - (pp + 1))) j))))) ((km_n (Ne.symm hwn)).trans (km_s _ _ _)) (km_s _ _ _) (sbs_lt hf _ _) (by omega)) (cwV 0 hW (k_gV w_430 w_431 w_432 w_9 w_433) rfl rfl rfl (by decide +kernel) ⟨Nat.le_of_ble_eq_true rfl, Nat.le_of_ble_eq_true rfl⟩) (k_preV (q := (RST, TST, 4)) hM ((km_n (Ne.symm hwn)).trans (km_s _ _ _)) rfl) rfl rfl hl.1 rfl (lv_room (Nat.le_of_ble_eq_true rfl)) dMD_version_227 ⟨(show ((9 + 2 * L) + 2) + 0 ≤ 19 by omega), (show ((22 + 4 * L + pp) + (4 + (q - (pp + 1)))) + 0 ≤ 442 by omega)⟩) hM (fun r μ1 H locs hp hM => ?_)
            obtain ⟨rfl, hmu⟩ := hp
            rw [hmu] at hM
            refine lv_bipush (v := nI 8) hx hb dMD_version_230 (by decide) ?_
            refine lv_icmp_gt (tgt := 261) hx hb dMD_version_232 (by decide) (fun h232 => ?_) (fun h232 => ?_)
            · have h232 := (nJ_gt_t (a := (q - (pp + 1))) (b := 8) (by omega) (by omega)).mp h232
              refine lv_null hx hb dMD_version_261 ?_
              refine W.widen (k := 19) (n := 442) (by omega) (by omega) ?_
              exact kr_q (v := none) hx hb hr (Or.inl ⟨_, rfl⟩) hlocks hM dMD_version_262 (⟨(kOld_up (kOld_up hO (kOld_n hO hwa)) (kOld_n hO hwb)), Or.inl ⟨rfl, vMs_no hV hpn (by first | exact Or.inr (by omega) | exact Or.inl (mkN hqd (Or.inr (Or.inl (by omega)))) | exact Or.inl (mkN hqd (Or.inr (Or.inr ⟨h248.1, hzz⟩))))⟩⟩)
            · have h232 := (nJ_gt_f (a := (q - (pp + 1))) (b := 8) (by omega) (by omega)).mp h232
              refine lv_aload_n hx hb dMD_version_235 rfl (lv_at hl 2 rfl) ?_
              refine k_get (own := RMD) (ref := RMV) (C := RMV) (T := TMV) (N := 3) (ci := 5) (v := .int (nI L)) hx hb hW inMV hown hM ((km_n ne_vq_d1).trans ((km_n ne_vq_rs).trans fv)) rfl 2 (by decide) (hW _ w_422) (fun _ h => h) rfl dMD_version_236 ?_
              refine lv_iconst (v := nI 4) hx hb dMD_version_239 (by decide) ?_
              refine lv_icmp_eq (tgt := 261) hx hb dMD_version_240 (by decide) (fun h240 => ?_) (fun h240 => ?_)
              · have h240 := (nJ_eq_t (a := L) (b := 4) (by omega) (by omega)).mp h240
                refine lv_null hx hb dMD_version_261 ?_
                refine W.widen (k := 19) (n := 442) (by omega) (by omega) ?_
                exact kr_q (v := none) hx hb hr (Or.inl ⟨_, rfl⟩) hlocks hM dMD_version_262 (⟨(kOld_up (kOld_up hO (kOld_n hO hwa)) (kOld_n hO hwb)), Or.inl ⟨rfl, vMs_no hV hpn (by first | exact Or.inr (by omega) | exact Or.inl (mkN hqd (Or.inr (Or.inl (by omega)))) | exact Or.inl (mkN hqd (Or.inr (Or.inr ⟨h248.1, hzz⟩))))⟩⟩)
              · have h240 := (nJ_eq_f (a := L) (b := 4) (by omega) (by omega)).mp h240
                refine lv_aload hx hb dMD_version_243 (lv_at hl 0 rfl) ?_
                refine kc_i (va_runS (As := [.ref rs]) (rest := []) (Ts := Wd) ⟨hx, hb, hml, hown, hW⟩ (mMD_digits l g (km_up (km_up ν rs (.inr (7, [.ref d1, .int (nI 0), .int (nI 0), .int (nI 0)]))) d1 (.inl (g.2.2.1 0, (q - (pp + 1)), .inl (fun j => sb ((sbs f (pp + 1) (q - (pp + 1))) j))))) ((km_n (Ne.symm hwn)).trans (km_s _ _ _)) (km_s _ _ _) (sbs_lt hf _ _) (by omega)) (va_cwS 1 hW (k_gS w_519 w_520 w_7 w_521) rfl rfl rfl (by decide +kernel) ⟨Nat.le_of_ble_eq_true rfl, Nat.le_of_ble_eq_true rfl⟩) (k_preS hM) rfl rfl hl.1 rfl (lv_room (Nat.le_of_ble_eq_true rfl)) dMD_version_245 ⟨(show ((9 + 2 * L) + 2) + 0 ≤ 19 by omega), (show ((22 + 4 * L + pp) + (4 + (q - (pp + 1)))) + 0 ≤ 442 by omega)⟩) hM (fun r μ1 H locs hp hM => ?_)
                obtain ⟨rfl, hmu⟩ := hp
                rw [hmu] at hM
                refine lv_if_eq (tgt := 263) hx hb dMD_version_248 (by decide) (fun h248 => ?_) (fun h248 => ?_)
                · have h248 := bD_0.mp h248
                  have hnz : ¬ ((sg (sbs f (pp + 1) (q - (pp + 1))) 0 (q - (pp + 1))).all dD = true ∧ 1 < q - (pp + 1) ∧ f (pp + 1) = 48) := fun z => h248 ⟨z.1, by omega⟩
                  have hmk := mkA hqd (by omega) (by omega) (show ¬ ((sg (sbs f (pp + 1) (q - (pp + 1))) 0 (q - (pp + 1))).all dD = true ∧ 1 < q - (pp + 1) ∧ f (pp + 1) = 48) from hnz)
                  refine lv_aload_n hx hb dMD_version_263 rfl (lv_at hl 2 rfl) ?_
                  refine k_get (own := RMD) (ref := RMV) (C := RMV) (T := TMV) (N := 3) (ci := 5) (v := .ref ka) hx hb hW inMV hown hM ((km_n ne_vq_d1).trans ((km_n ne_vq_rs).trans fv)) rfl 1 (by decide) (hW _ w_421) (fun _ h => h) rfl dMD_version_264 ?_
                  refine lv_aload_n hx hb dMD_version_267 rfl (lv_at hl 2 rfl) ?_
                  refine k_get (own := RMD) (ref := RMV) (C := RMV) (T := TMV) (N := 3) (ci := 5) (v := .int (nI L)) hx hb hW inMV hown hM ((km_n ne_vq_d1).trans ((km_n ne_vq_rs).trans fv)) rfl 2 (by decide) (hW _ w_422) (fun _ h => h) rfl dMD_version_268 ?_
                  refine lv_aload hx hb dMD_version_271 (lv_at hl 0 rfl) ?_
                  refine k_aast (i := L) (f1 := va_up M L (some rs)) hx hb hM 5 7 ((km_n ne_ka_d1).trans ((km_n ne_ka_rs).trans fka)) rfl ((km_n (Ne.symm hwn)).trans (km_s _ _ _)) rfl (by omega) (by omega) rfl dMD_version_273 (fun H locs hM => ?_)
                  have hM : kS g (km_up (km_up (km_up ν rs (.inr (7, [.ref d1, .int (nI 0), .int (nI 0), .int (nI 0)]))) d1 (.inl (g.2.2.1 0, (q - (pp + 1)), .inl (fun j => sb ((sbs f (pp + 1) (q - (pp + 1))) j))))) ka (.inl (g.2.2.1 5, 4, .inr (.inr (.inr (.inr (va_up M L (some rs)))))))) s H locs := hM
                  refine lv_aload_n hx hb dMD_version_274 rfl (lv_at hl 2 rfl) ?_
                  refine lv_dup hx hb dMD_version_275 rfl ?_
                  refine k_get (own := RMD) (ref := RMV) (C := RMV) (T := TMV) (N := 3) (ci := 5) (v := .int (nI L)) hx hb hW inMV hown hM ((km_n (km_apB fv fka)).trans ((km_n ne_vq_d1).trans ((km_n ne_vq_rs).trans fv))) rfl 2 (by decide) (hW _ w_422) (fun _ h => h) rfl dMD_version_276 ?_
                  refine lv_iconst (v := nI 1) hx hb dMD_version_279 (by decide) ?_
                  refine lv_iadd hx hb dMD_version_280 ?_
                  refine topi_eq (y := nI (L + 1)) (nI_add L 1) ?_
                  refine k_put (own := RMD) (ref := RMV) (C := RMV) (T := TMV) (N := 3) (ci := 5) (v := .int (nI (L + 1))) (ty := .int) (fs' := [.ref na, .ref ka, .int (nI (L + 1))]) hx hb hW inMV tyMV tyokMV nmokMV hown hM ((km_n (km_apB fv fka)).trans ((km_n ne_vq_d1).trans ((km_n ne_vq_rs).trans fv))) rfl 2 (by decide) (hW _ w_422) (fun _ h => h) rfl (by decide +kernel) rfl rfl (Nat.le_of_ble_eq_true rfl) dMD_version_281 rfl (fun H locs hM => ?_)
                  have hM : kS g (km_up (km_up (km_up (km_up ν rs (.inr (7, [.ref d1, .int (nI 0), .int (nI 0), .int (nI 0)]))) d1 (.inl (g.2.2.1 0, (q - (pp + 1)), .inl (fun j => sb ((sbs f (pp + 1) (q - (pp + 1))) j))))) ka (.inl (g.2.2.1 5, 4, .inr (.inr (.inr (.inr (va_up M L (some rs)))))))) vq (.inr (5, [.ref na, .ref ka, .int (nI (L + 1))]))) s H locs := hM
                  refine lv_iload hx hb dMD_version_284 (lv_at hl 4 rfl) ?_
                  refine lv_istore_n (lv' := [(3, .int (nI q)), (5, .ref rs), (0, .ref a), (2, .ref vq), (4, .int (nI q))]) hx hb dMD_version_286 rfl hl (by decide) rfl (fun ls hl => ?_)
                  refine lv_iload_n hx hb dMD_version_287 rfl (lv_at hl 0 rfl) ?_
                  refine lv_aload_n hx hb dMD_version_288 rfl (lv_at hl 2 rfl) ?_
                  refine kc_i (va_runV (C := RST) (As := []) (b := a) (rest := [.int (nI q)]) (Ts := Wd) ⟨hx, hb, hml, hown, hW⟩ (mST_length l g (km_up (km_up (km_up (km_up ν rs (.inr (7, [.ref d1, .int (nI 0), .int (nI 0), .int (nI 0)]))) d1 (.inl (g.2.2.1 0, (q - (pp + 1)), .inl (fun j => sb ((sbs f (pp + 1) (q - (pp + 1))) j))))) ka (.inl (g.2.2.1 5, 4, .inr (.inr (.inr (.inr (va_up M L (some rs)))))))) vq (.inr (5, [.ref na, .ref ka, .int (nI (L + 1))]))) ((km_n (km_apC (hO _ _ hs) fv (by decide))).trans ((km_n (km_apB (hO _ _ hs) fka)).trans ((km_n ne_a_d1).trans ((km_n ne_a_rs).trans (hO _ _ hs))))) ((km_n (km_apA (hO _ _ hv) fv)).trans ((km_n (km_apF hv hq2)).trans ((km_n ne_va_d1).trans ((km_n ne_va_rs).trans (hO _ _ hv))))) hf (by omega)) (cwV 0 hW (k_gV w_430 w_431 w_432 w_9 w_433) rfl rfl rfl (by decide +kernel) ⟨Nat.le_of_ble_eq_true rfl, Nat.le_of_ble_eq_true rfl⟩) (k_preV (q := (RST, TST, 4)) hM ((km_n (km_apC (hO _ _ hs) fv (by decide))).trans ((km_n (km_apB (hO _ _ hs) fka)).trans ((km_n ne_a_d1).trans ((km_n ne_a_rs).trans (hO _ _ hs))))) rfl) rfl rfl hl.1 rfl (lv_room (Nat.le_of_ble_eq_true rfl)) dMD_version_289 ⟨(show ((9 + 2 * L) + 2) + 0 ≤ 19 by omega), (show ((22 + 4 * L + pp) + (4 + (q - (pp + 1)))) + 0 ≤ 442 by omega)⟩) hM (fun r μ1 H locs hp hM => ?_)
                  obtain ⟨rfl, hmu⟩ := hp
                  rw [hmu] at hM
                  refine lv_icmp_ge (tgt := 307) hx hb dMD_version_292 (by decide) (fun h292 => ?_) (fun h292 => ?_)
                  · have h292 := (nJ_ge_t (a := q) (b := n) (by omega) (by omega)).mp h292
                    refine lv_goto (tgt := 143) hx hb dMD_version_307 (by decide) ?_
                    refine W.widen (k := 9 + 2 * (L + 1)) (n := 22 + 4 * (L + 1) + q) (by omega) (by omega) ?_
                    exact ih q (km_up (km_up (km_up (km_up ν rs (.inr (7, [.ref d1, .int (nI 0), .int (nI 0), .int (nI 0)]))) d1 (.inl (g.2.2.1 0, (q - (pp + 1)), .inl (fun j => sb ((sbs f (pp + 1) (q - (pp + 1))) j))))) ka (.inl (g.2.2.1 5, 4, .inr (.inr (.inr (.inr (va_up M L (some rs)))))))) vq (.inr (5, [.ref na, .ref ka, .int (nI (L + 1))]))) vq na ka NN (L + 1) (ms ++ [sg f (pp + 1) (q - (pp + 1))]) (va_up M L (some rs)) (va_up sa L rs) (va_up sv L d1) (va_up F L (sbs f (pp + 1) (q - (pp + 1)))) (by omega) (by first | assumption | omega | exact rfl) (by rw [List.length_append, hL]; rfl) (by first | assumption | omega | exact rfl) (by exact vMs_s hV hpn (by omega) hmk.1 (by first | exact Or.inl (by omega) | exact Or.inr ⟨by omega, by assumption⟩)) (by first | assumption | omega | exact rfl) (by exact (kOld_up (kOld_up (kOld_up (kOld_up hO (kOld_n hO hwa)) (kOld_n hO hwb)) hq2) hq0)) (by first | assumption | omega | exact rfl) (by first | assumption | omega | exact rfl) (by first | assumption | omega | exact rfl) (by exact (km_s _ _ _)) (by exact ((km_n (km_apA fna fv)).trans ((km_n (km_apN fna fka (by decide))).trans ((km_n ne_na_d1).trans ((km_n ne_na_rs).trans fna))))) (by exact ((km_n (km_apA fka fv)).trans (km_s _ _ _))) (by exact kMK_step hK hL fv fka (fun x e hx n1 n2 => by rw [km_n n1, km_n n2, km_n (km_apF hx hwb), km_n (km_apF hx hwa)]; exact hx) ((km_n (Ne.symm ne_vq_rs)).trans ((km_n (Ne.symm ne_ka_rs)).trans ((km_n (Ne.symm hwn)).trans (km_s _ _ _)))) ((km_n (Ne.symm ne_vq_d1)).trans ((km_n (Ne.symm ne_ka_d1)).trans (km_s _ _ _))) (sbs_lt hf _ _) (sg_sbs _ _ _) hmk.2) ls H locs (lv_sub hl [2, 3, 0] rfl) hM
                  · have h292 := (nJ_ge_f (a := q) (b := n) (by omega) (by omega)).mp h292
                    refine lv_aload_n hx hb dMD_version_295 rfl (lv_at hl 2 rfl) ?_
                    refine lv_iload_n hx hb dMD_version_296 rfl (lv_at hl 0 rfl) ?_
                    refine kc_i (va_runV (C := RST) (As := [.int (nI q)]) (b := a) (rest := []) (Ts := Wd) ⟨hx, hb, hml, hown, hW⟩ (mST_charAt l g (km_up (km_up (km_up (km_up ν rs (.inr (7, [.ref d1, .int (nI 0), .int (nI 0), .int (nI 0)]))) d1 (.inl (g.2.2.1 0, (q - (pp + 1)), .inl (fun j => sb ((sbs f (pp + 1) (q - (pp + 1))) j))))) ka (.inl (g.2.2.1 5, 4, .inr (.inr (.inr (.inr (va_up M L (some rs)))))))) vq (.inr (5, [.ref na, .ref ka, .int (nI (L + 1))]))) ((km_n (km_apC (hO _ _ hs) fv (by decide))).trans ((km_n (km_apB (hO _ _ hs) fka)).trans ((km_n ne_a_d1).trans ((km_n ne_a_rs).trans (hO _ _ hs))))) ((km_n (km_apA (hO _ _ hv) fv)).trans ((km_n (km_apF hv hq2)).trans ((km_n ne_va_d1).trans ((km_n ne_va_rs).trans (hO _ _ hv))))) hf (by omega) (i := q) (by omega)) (cwV 1 hW (k_gV w_438 w_439 w_440 w_9 w_441) rfl rfl rfl (by decide +kernel) ⟨Nat.le_of_ble_eq_true rfl, Nat.le_of_ble_eq_true rfl⟩) (k_preV (q := (RST, TST, 4)) hM ((km_n (km_apC (hO _ _ hs) fv (by decide))).trans ((km_n (km_apB (hO _ _ hs) fka)).trans ((km_n ne_a_d1).trans ((km_n ne_a_rs).trans (hO _ _ hs))))) rfl) rfl rfl hl.1 rfl (lv_room (Nat.le_of_ble_eq_true rfl)) dMD_version_297 ⟨(show ((9 + 2 * L) + 2) + 0 ≤ 19 by omega), (show ((22 + 4 * L + pp) + (4 + (q - (pp + 1)))) + 0 ≤ 442 by omega)⟩) hM (fun r μ1 H locs hp hM => ?_)
                    obtain ⟨rfl, hmu⟩ := hp
                    rw [hmu] at hM
                    have hb9 := hf q
                    refine lv_bipush (v := nI 46) hx hb dMD_version_300 (by decide) ?_
                    refine lv_icmp_eq (tgt := 307) hx hb dMD_version_302 (by decide) (fun h302 => ?_) (fun h302 => ?_)
                    · have h302 := (nJ_eq_t (a := f q) (b := 46) (by omega) (by omega)).mp h302
                      refine lv_goto (tgt := 143) hx hb dMD_version_307 (by decide) ?_
                      refine W.widen (k := 9 + 2 * (L + 1)) (n := 22 + 4 * (L + 1) + q) (by omega) (by omega) ?_
                      exact ih q (km_up (km_up (km_up (km_up ν rs (.inr (7, [.ref d1, .int (nI 0), .int (nI 0), .int (nI 0)]))) d1 (.inl (g.2.2.1 0, (q - (pp + 1)), .inl (fun j => sb ((sbs f (pp + 1) (q - (pp + 1))) j))))) ka (.inl (g.2.2.1 5, 4, .inr (.inr (.inr (.inr (va_up M L (some rs)))))))) vq (.inr (5, [.ref na, .ref ka, .int (nI (L + 1))]))) vq na ka NN (L + 1) (ms ++ [sg f (pp + 1) (q - (pp + 1))]) (va_up M L (some rs)) (va_up sa L rs) (va_up sv L d1) (va_up F L (sbs f (pp + 1) (q - (pp + 1)))) (by omega) (by first | assumption | omega | exact rfl) (by rw [List.length_append, hL]; rfl) (by first | assumption | omega | exact rfl) (by exact vMs_s hV hpn (by omega) hmk.1 (by first | exact Or.inl (by omega) | exact Or.inr ⟨by omega, by assumption⟩)) (by first | assumption | omega | exact rfl) (by exact (kOld_up (kOld_up (kOld_up (kOld_up hO (kOld_n hO hwa)) (kOld_n hO hwb)) hq2) hq0)) (by first | assumption | omega | exact rfl) (by first | assumption | omega | exact rfl) (by first | assumption | omega | exact rfl) (by exact (km_s _ _ _)) (by exact ((km_n (km_apA fna fv)).trans ((km_n (km_apN fna fka (by decide))).trans ((km_n ne_na_d1).trans ((km_n ne_na_rs).trans fna))))) (by exact ((km_n (km_apA fka fv)).trans (km_s _ _ _))) (by exact kMK_step hK hL fv fka (fun x e hx n1 n2 => by rw [km_n n1, km_n n2, km_n (km_apF hx hwb), km_n (km_apF hx hwa)]; exact hx) ((km_n (Ne.symm ne_vq_rs)).trans ((km_n (Ne.symm ne_ka_rs)).trans ((km_n (Ne.symm hwn)).trans (km_s _ _ _)))) ((km_n (Ne.symm ne_vq_d1)).trans ((km_n (Ne.symm ne_ka_d1)).trans (km_s _ _ _))) (sbs_lt hf _ _) (sg_sbs _ _ _) hmk.2) ls H locs (lv_sub hl [2, 3, 0] rfl) hM
                    · have h302 := (nJ_eq_f (a := f q) (b := 46) (by omega) (by omega)).mp h302
                      refine lv_null hx hb dMD_version_305 ?_
                      refine W.widen (k := 19) (n := 442) (by omega) (by omega) ?_
                      exact kr_q (v := none) hx hb hr (Or.inl ⟨_, rfl⟩) hlocks hM dMD_version_306 (⟨(kOld_up (kOld_up (kOld_up (kOld_up hO (kOld_n hO hwa)) (kOld_n hO hwb)) hq2) hq0), Or.inl ⟨rfl, vMs_nd hV hpn (by omega) hmk.1 (by omega) h302⟩⟩)
                · have h248 := bD_n.mp h248
                  refine lv_aload hx hb dMD_version_251 (lv_at hl 0 rfl) ?_
                  refine lv_bipush (v := nI 8) hx hb dMD_version_253 (by decide) ?_
                  refine kc_i (va_runS (As := [.ref rs, .int (nI 8)]) (rest := []) (Ts := Wd) ⟨hx, hb, hml, hown, hW⟩ (mMD_number l g (km_up (km_up ν rs (.inr (7, [.ref d1, .int (nI 0), .int (nI 0), .int (nI 0)]))) d1 (.inl (g.2.2.1 0, (q - (pp + 1)), .inl (fun j => sb ((sbs f (pp + 1) (q - (pp + 1))) j))))) ((km_n (Ne.symm hwn)).trans (km_s _ _ _)) (km_s _ _ _) (sbs_lt hf _ _) (by omega) (mo := 8) (by omega)) (va_cwS 2 hW (k_gS w_516 w_517 w_7 w_518) rfl rfl rfl (by decide +kernel) ⟨Nat.le_of_ble_eq_true rfl, Nat.le_of_ble_eq_true rfl⟩) (k_preS hM) rfl rfl hl.1 rfl (lv_room (Nat.le_of_ble_eq_true rfl)) dMD_version_255 ⟨(show ((9 + 2 * L) + 2) + 0 ≤ 19 by omega), (show ((22 + 4 * L + pp) + (4 + (q - (pp + 1)))) + 0 ≤ 442 by omega)⟩) hM (fun r μ1 H locs hp hM => ?_)
                  obtain ⟨rfl, hmu⟩ := hp
                  rw [hmu] at hM
                  refine lv_if_ge (tgt := 263) hx hb dMD_version_258 (by decide) (fun h258 => ?_) (fun h258 => ?_)
                  · have hnz : ¬ ((sg (sbs f (pp + 1) (q - (pp + 1))) 0 (q - (pp + 1))).all dD = true ∧ 1 < q - (pp + 1) ∧ f (pp + 1) = 48) := fun z => (nRm8 h248.1 (by omega) (by omega)).mp h258 ⟨z.2.1, (sbs_0 (by omega)).trans z.2.2⟩
                    have hmk := mkA hqd (by omega) (by omega) (show ¬ ((sg (sbs f (pp + 1) (q - (pp + 1))) 0 (q - (pp + 1))).all dD = true ∧ 1 < q - (pp + 1) ∧ f (pp + 1) = 48) from hnz)
                    refine lv_aload_n hx hb dMD_version_263 rfl (lv_at hl 2 rfl) ?_
                    refine k_get (own := RMD) (ref := RMV) (C := RMV) (T := TMV) (N := 3) (ci := 5) (v := .ref ka) hx hb hW inMV hown hM ((km_n ne_vq_d1).trans ((km_n ne_vq_rs).trans fv)) rfl 1 (by decide) (hW _ w_421) (fun _ h => h) rfl dMD_version_264 ?_
                    refine lv_aload_n hx hb dMD_version_267 rfl (lv_at hl 2 rfl) ?_
                    refine k_get (own := RMD) (ref := RMV) (C := RMV) (T := TMV) (N := 3) (ci := 5) (v := .int (nI L)) hx hb hW inMV hown hM ((km_n ne_vq_d1).trans ((km_n ne_vq_rs).trans fv)) rfl 2 (by decide) (hW _ w_422) (fun _ h => h) rfl dMD_version_268 ?_
                    refine lv_aload hx hb dMD_version_271 (lv_at hl 0 rfl) ?_
                    refine k_aast (i := L) (f1 := va_up M L (some rs)) hx hb hM 5 7 ((km_n ne_ka_d1).trans ((km_n ne_ka_rs).trans fka)) rfl ((km_n (Ne.symm hwn)).trans (km_s _ _ _)) rfl (by omega) (by omega) rfl dMD_version_273 (fun H locs hM => ?_)
                    have hM : kS g (km_up (km_up (km_up ν rs (.inr (7, [.ref d1, .int (nI 0), .int (nI 0), .int (nI 0)]))) d1 (.inl (g.2.2.1 0, (q - (pp + 1)), .inl (fun j => sb ((sbs f (pp + 1) (q - (pp + 1))) j))))) ka (.inl (g.2.2.1 5, 4, .inr (.inr (.inr (.inr (va_up M L (some rs)))))))) s H locs := hM
                    refine lv_aload_n hx hb dMD_version_274 rfl (lv_at hl 2 rfl) ?_
                    refine lv_dup hx hb dMD_version_275 rfl ?_
                    refine k_get (own := RMD) (ref := RMV) (C := RMV) (T := TMV) (N := 3) (ci := 5) (v := .int (nI L)) hx hb hW inMV hown hM ((km_n (km_apB fv fka)).trans ((km_n ne_vq_d1).trans ((km_n ne_vq_rs).trans fv))) rfl 2 (by decide) (hW _ w_422) (fun _ h => h) rfl dMD_version_276 ?_
                    refine lv_iconst (v := nI 1) hx hb dMD_version_279 (by decide) ?_
                    refine lv_iadd hx hb dMD_version_280 ?_
                    refine topi_eq (y := nI (L + 1)) (nI_add L 1) ?_
                    refine k_put (own := RMD) (ref := RMV) (C := RMV) (T := TMV) (N := 3) (ci := 5) (v := .int (nI (L + 1))) (ty := .int) (fs' := [.ref na, .ref ka, .int (nI (L + 1))]) hx hb hW inMV tyMV tyokMV nmokMV hown hM ((km_n (km_apB fv fka)).trans ((km_n ne_vq_d1).trans ((km_n ne_vq_rs).trans fv))) rfl 2 (by decide) (hW _ w_422) (fun _ h => h) rfl (by decide +kernel) rfl rfl (Nat.le_of_ble_eq_true rfl) dMD_version_281 rfl (fun H locs hM => ?_)
                    have hM : kS g (km_up (km_up (km_up (km_up ν rs (.inr (7, [.ref d1, .int (nI 0), .int (nI 0), .int (nI 0)]))) d1 (.inl (g.2.2.1 0, (q - (pp + 1)), .inl (fun j => sb ((sbs f (pp + 1) (q - (pp + 1))) j))))) ka (.inl (g.2.2.1 5, 4, .inr (.inr (.inr (.inr (va_up M L (some rs)))))))) vq (.inr (5, [.ref na, .ref ka, .int (nI (L + 1))]))) s H locs := hM
                    refine lv_iload hx hb dMD_version_284 (lv_at hl 4 rfl) ?_
                    refine lv_istore_n (lv' := [(3, .int (nI q)), (5, .ref rs), (0, .ref a), (2, .ref vq), (4, .int (nI q))]) hx hb dMD_version_286 rfl hl (by decide) rfl (fun ls hl => ?_)
                    refine lv_iload_n hx hb dMD_version_287 rfl (lv_at hl 0 rfl) ?_
                    refine lv_aload_n hx hb dMD_version_288 rfl (lv_at hl 2 rfl) ?_
                    refine kc_i (va_runV (C := RST) (As := []) (b := a) (rest := [.int (nI q)]) (Ts := Wd) ⟨hx, hb, hml, hown, hW⟩ (mST_length l g (km_up (km_up (km_up (km_up ν rs (.inr (7, [.ref d1, .int (nI 0), .int (nI 0), .int (nI 0)]))) d1 (.inl (g.2.2.1 0, (q - (pp + 1)), .inl (fun j => sb ((sbs f (pp + 1) (q - (pp + 1))) j))))) ka (.inl (g.2.2.1 5, 4, .inr (.inr (.inr (.inr (va_up M L (some rs)))))))) vq (.inr (5, [.ref na, .ref ka, .int (nI (L + 1))]))) ((km_n (km_apC (hO _ _ hs) fv (by decide))).trans ((km_n (km_apB (hO _ _ hs) fka)).trans ((km_n ne_a_d1).trans ((km_n ne_a_rs).trans (hO _ _ hs))))) ((km_n (km_apA (hO _ _ hv) fv)).trans ((km_n (km_apF hv hq2)).trans ((km_n ne_va_d1).trans ((km_n ne_va_rs).trans (hO _ _ hv))))) hf (by omega)) (cwV 0 hW (k_gV w_430 w_431 w_432 w_9 w_433) rfl rfl rfl (by decide +kernel) ⟨Nat.le_of_ble_eq_true rfl, Nat.le_of_ble_eq_true rfl⟩) (k_preV (q := (RST, TST, 4)) hM ((km_n (km_apC (hO _ _ hs) fv (by decide))).trans ((km_n (km_apB (hO _ _ hs) fka)).trans ((km_n ne_a_d1).trans ((km_n ne_a_rs).trans (hO _ _ hs))))) rfl) rfl rfl hl.1 rfl (lv_room (Nat.le_of_ble_eq_true rfl)) dMD_version_289 ⟨(show ((9 + 2 * L) + 2) + 0 ≤ 19 by omega), (show ((22 + 4 * L + pp) + (4 + (q - (pp + 1)))) + 0 ≤ 442 by omega)⟩) hM (fun r μ1 H locs hp hM => ?_)
                    obtain ⟨rfl, hmu⟩ := hp
                    rw [hmu] at hM
                    refine lv_icmp_ge (tgt := 307) hx hb dMD_version_292 (by decide) (fun h292 => ?_) (fun h292 => ?_)
                    · have h292 := (nJ_ge_t (a := q) (b := n) (by omega) (by omega)).mp h292
                      refine lv_goto (tgt := 143) hx hb dMD_version_307 (by decide) ?_
                      refine W.widen (k := 9 + 2 * (L + 1)) (n := 22 + 4 * (L + 1) + q) (by omega) (by omega) ?_
                      exact ih q (km_up (km_up (km_up (km_up ν rs (.inr (7, [.ref d1, .int (nI 0), .int (nI 0), .int (nI 0)]))) d1 (.inl (g.2.2.1 0, (q - (pp + 1)), .inl (fun j => sb ((sbs f (pp + 1) (q - (pp + 1))) j))))) ka (.inl (g.2.2.1 5, 4, .inr (.inr (.inr (.inr (va_up M L (some rs)))))))) vq (.inr (5, [.ref na, .ref ka, .int (nI (L + 1))]))) vq na ka NN (L + 1) (ms ++ [sg f (pp + 1) (q - (pp + 1))]) (va_up M L (some rs)) (va_up sa L rs) (va_up sv L d1) (va_up F L (sbs f (pp + 1) (q - (pp + 1)))) (by omega) (by first | assumption | omega | exact rfl) (by rw [List.length_append, hL]; rfl) (by first | assumption | omega | exact rfl) (by exact vMs_s hV hpn (by omega) hmk.1 (by first | exact Or.inl (by omega) | exact Or.inr ⟨by omega, by assumption⟩)) (by first | assumption | omega | exact rfl) (by exact (kOld_up (kOld_up (kOld_up (kOld_up hO (kOld_n hO hwa)) (kOld_n hO hwb)) hq2) hq0)) (by first | assumption | omega | exact rfl) (by first | assumption | omega | exact rfl) (by first | assumption | omega | exact rfl) (by exact (km_s _ _ _)) (by exact ((km_n (km_apA fna fv)).trans ((km_n (km_apN fna fka (by decide))).trans ((km_n ne_na_d1).trans ((km_n ne_na_rs).trans fna))))) (by exact ((km_n (km_apA fka fv)).trans (km_s _ _ _))) (by exact kMK_step hK hL fv fka (fun x e hx n1 n2 => by rw [km_n n1, km_n n2, km_n (km_apF hx hwb), km_n (km_apF hx hwa)]; exact hx) ((km_n (Ne.symm ne_vq_rs)).trans ((km_n (Ne.symm ne_ka_rs)).trans ((km_n (Ne.symm hwn)).trans (km_s _ _ _)))) ((km_n (Ne.symm ne_vq_d1)).trans ((km_n (Ne.symm ne_ka_d1)).trans (km_s _ _ _))) (sbs_lt hf _ _) (sg_sbs _ _ _) hmk.2) ls H locs (lv_sub hl [2, 3, 0] rfl) hM
                    · have h292 := (nJ_ge_f (a := q) (b := n) (by omega) (by omega)).mp h292
                      refine lv_aload_n hx hb dMD_version_295 rfl (lv_at hl 2 rfl) ?_
                      refine lv_iload_n hx hb dMD_version_296 rfl (lv_at hl 0 rfl) ?_
                      refine kc_i (va_runV (C := RST) (As := [.int (nI q)]) (b := a) (rest := []) (Ts := Wd) ⟨hx, hb, hml, hown, hW⟩ (mST_charAt l g (km_up (km_up (km_up (km_up ν rs (.inr (7, [.ref d1, .int (nI 0), .int (nI 0), .int (nI 0)]))) d1 (.inl (g.2.2.1 0, (q - (pp + 1)), .inl (fun j => sb ((sbs f (pp + 1) (q - (pp + 1))) j))))) ka (.inl (g.2.2.1 5, 4, .inr (.inr (.inr (.inr (va_up M L (some rs)))))))) vq (.inr (5, [.ref na, .ref ka, .int (nI (L + 1))]))) ((km_n (km_apC (hO _ _ hs) fv (by decide))).trans ((km_n (km_apB (hO _ _ hs) fka)).trans ((km_n ne_a_d1).trans ((km_n ne_a_rs).trans (hO _ _ hs))))) ((km_n (km_apA (hO _ _ hv) fv)).trans ((km_n (km_apF hv hq2)).trans ((km_n ne_va_d1).trans ((km_n ne_va_rs).trans (hO _ _ hv))))) hf (by omega) (i := q) (by omega)) (cwV 1 hW (k_gV w_438 w_439 w_440 w_9 w_441) rfl rfl rfl (by decide +kernel) ⟨Nat.le_of_ble_eq_true rfl, Nat.le_of_ble_eq_true rfl⟩) (k_preV (q := (RST, TST, 4)) hM ((km_n (km_apC (hO _ _ hs) fv (by decide))).trans ((km_n (km_apB (hO _ _ hs) fka)).trans ((km_n ne_a_d1).trans ((km_n ne_a_rs).trans (hO _ _ hs))))) rfl) rfl rfl hl.1 rfl (lv_room (Nat.le_of_ble_eq_true rfl)) dMD_version_297 ⟨(show ((9 + 2 * L) + 2) + 0 ≤ 19 by omega), (show ((22 + 4 * L + pp) + (4 + (q - (pp + 1)))) + 0 ≤ 442 by omega)⟩) hM (fun r μ1 H locs hp hM => ?_)
                      obtain ⟨rfl, hmu⟩ := hp
                      rw [hmu] at hM
                      have hb9 := hf q
                      refine lv_bipush (v := nI 46) hx hb dMD_version_300 (by decide) ?_
                      refine lv_icmp_eq (tgt := 307) hx hb dMD_version_302 (by decide) (fun h302 => ?_) (fun h302 => ?_)
                      · have h302 := (nJ_eq_t (a := f q) (b := 46) (by omega) (by omega)).mp h302
                        refine lv_goto (tgt := 143) hx hb dMD_version_307 (by decide) ?_
                        refine W.widen (k := 9 + 2 * (L + 1)) (n := 22 + 4 * (L + 1) + q) (by omega) (by omega) ?_
                        exact ih q (km_up (km_up (km_up (km_up ν rs (.inr (7, [.ref d1, .int (nI 0), .int (nI 0), .int (nI 0)]))) d1 (.inl (g.2.2.1 0, (q - (pp + 1)), .inl (fun j => sb ((sbs f (pp + 1) (q - (pp + 1))) j))))) ka (.inl (g.2.2.1 5, 4, .inr (.inr (.inr (.inr (va_up M L (some rs)))))))) vq (.inr (5, [.ref na, .ref ka, .int (nI (L + 1))]))) vq na ka NN (L + 1) (ms ++ [sg f (pp + 1) (q - (pp + 1))]) (va_up M L (some rs)) (va_up sa L rs) (va_up sv L d1) (va_up F L (sbs f (pp + 1) (q - (pp + 1)))) (by omega) (by first | assumption | omega | exact rfl) (by rw [List.length_append, hL]; rfl) (by first | assumption | omega | exact rfl) (by exact vMs_s hV hpn (by omega) hmk.1 (by first | exact Or.inl (by omega) | exact Or.inr ⟨by omega, by assumption⟩)) (by first | assumption | omega | exact rfl) (by exact (kOld_up (kOld_up (kOld_up (kOld_up hO (kOld_n hO hwa)) (kOld_n hO hwb)) hq2) hq0)) (by first | assumption | omega | exact rfl) (by first | assumption | omega | exact rfl) (by first | assumption | omega | exact rfl) (by exact (km_s _ _ _)) (by exact ((km_n (km_apA fna fv)).trans ((km_n (km_apN fna fka (by decide))).trans ((km_n ne_na_d1).trans ((km_n ne_na_rs).trans fna))))) (by exact ((km_n (km_apA fka fv)).trans (km_s _ _ _))) (by exact kMK_step hK hL fv fka (fun x e hx n1 n2 => by rw [km_n n1, km_n n2, km_n (km_apF hx hwb), km_n (km_apF hx hwa)]; exact hx) ((km_n (Ne.symm ne_vq_rs)).trans ((km_n (Ne.symm ne_ka_rs)).trans ((km_n (Ne.symm hwn)).trans (km_s _ _ _)))) ((km_n (Ne.symm ne_vq_d1)).trans ((km_n (Ne.symm ne_ka_d1)).trans (km_s _ _ _))) (sbs_lt hf _ _) (sg_sbs _ _ _) hmk.2) ls H locs (lv_sub hl [2, 3, 0] rfl) hM
                      · have h302 := (nJ_eq_f (a := f q) (b := 46) (by omega) (by omega)).mp h302
                        refine lv_null hx hb dMD_version_305 ?_
                        refine W.widen (k := 19) (n := 442) (by omega) (by omega) ?_
                        exact kr_q (v := none) hx hb hr (Or.inl ⟨_, rfl⟩) hlocks hM dMD_version_306 (⟨(kOld_up (kOld_up (kOld_up (kOld_up hO (kOld_n hO hwa)) (kOld_n hO hwb)) hq2) hq0), Or.inl ⟨rfl, vMs_nd hV hpn (by omega) hmk.1 (by omega) h302⟩⟩)
                  · have hzz : 1 < q - (pp + 1) ∧ f (pp + 1) = 48 := Decidable.not_not.mp (fun z => h258 ((nRm8 h248.1 (by omega) (by omega)).mpr (fun y => z ⟨y.1, (sbs_0 (f := f) (by omega)).symm.trans y.2⟩)))
                    refine lv_null hx hb dMD_version_261 ?_
                    refine W.widen (k := 19) (n := 442) (by omega) (by omega) ?_
                    exact kr_q (v := none) hx hb hr (Or.inl ⟨_, rfl⟩) hlocks hM dMD_version_262 (⟨(kOld_up (kOld_up hO (kOld_n hO hwa)) (kOld_n hO hwb)), Or.inl ⟨rfl, vMs_no hV hpn (by first | exact Or.inr (by omega) | exact Or.inl (mkN hqd (Or.inr (Or.inl (by omega)))) | exact Or.inl (mkN hqd (Or.inr (Or.inr ⟨h248.1, hzz⟩))))⟩⟩)
      have cut157 : ∀ (fu : Nat), ∀ (q : Nat), n - q < fu → pp < n → pp + 1 ≤ q → q ≤ n → nM f (pp + 1) (n - (pp + 1)) = (q - (pp + 1)) + nM f q (n - q) → ∀ (ls : Array Slot) (H : Heap) (locs : List Loc), lv_has ls 6 [(0, .ref a), (2, .ref vq), (3, .int (nI (pp + 1))), (4, .int (nI q))] → kS g (ν) s H locs → W p l e ({ frames := 6, cells := 19, slots := 442, locals := 132 } : Room) s m [.ref a, .int (nI i)].toArray below meth c H locs (9 + 2 * L) (22 + 4 * L + pp) (MQ below (kQq g (fun (r : Option Nat) (μ1 : km_M) => kOld μ μ1 ∧ ((r = none ∧ vVer f i n = none) ∨ ∃ (vq na ka : Nat) (NN : Nat → Nat) (M : Nat → Option Nat) (sa sv : Nat → Nat) (F : Nat → Nat → Nat) (v : kVer), r = some vq ∧ vVer f i n = some v ∧ kMV g μ1 vq na ka NN M sa sv F v))) [.ref a, .int (nI i)].toArray s 19 442 (kF g)) (F0 m 157 ls []) := by
        intro fu
        induction fu with
        | zero => intro q hlt; exact absurd hlt (Nat.not_lt_zero _)
        | succ fu ih_157 =>
          intro q hlt hpn hpq hqn hqd ls H locs hl hM
          refine lv_iload hx hb dMD_version_157 (lv_at hl 3 rfl) ?_
          refine lv_aload_n hx hb dMD_version_159 rfl (lv_at hl 0 rfl) ?_
          refine kc_i (va_runV (C := RST) (As := []) (b := a) (rest := [.int (nI q)]) (Ts := Wd) ⟨hx, hb, hml, hown, hW⟩ (mST_length l g ν (hO _ _ hs) (hO _ _ hv) hf (by omega)) (cwV 0 hW (k_gV w_430 w_431 w_432 w_9 w_433) rfl rfl rfl (by decide +kernel) ⟨Nat.le_of_ble_eq_true rfl, Nat.le_of_ble_eq_true rfl⟩) (k_preV (q := (RST, TST, 4)) hM (hO _ _ hs) rfl) rfl rfl hl.1 rfl (lv_room (Nat.le_of_ble_eq_true rfl)) dMD_version_160 ⟨(show (9 + 2 * L) + 0 ≤ 19 by omega), (show (22 + 4 * L + pp) + 0 ≤ 442 by omega)⟩) hM (fun r μ1 H locs hp hM => ?_)
          obtain ⟨rfl, hmu⟩ := hp
          rw [hmu] at hM
          refine lv_icmp_ge (tgt := 207) hx hb dMD_version_163 (by decide) (fun h163 => ?_) (fun h163 => ?_)
          · have h163 := (nJ_ge_t (a := q) (b := n) (by omega) (by omega)).mp h163
            exact cut207 q  (by first | assumption | omega | exact rfl) (by first | assumption | omega | exact rfl) (by have z := nM_end (B := f) (i := q) (z := n) (by omega); omega) ls H locs (lv_sub hl [0, 1, 2, 3] rfl) hM
          · have h163 := (nJ_ge_f (a := q) (b := n) (by omega) (by omega)).mp h163
            refine lv_aload_n hx hb dMD_version_166 rfl (lv_at hl 0 rfl) ?_
            refine lv_iload hx hb dMD_version_167 (lv_at hl 3 rfl) ?_
            refine kc_i (va_runV (C := RST) (As := [.int (nI q)]) (b := a) (rest := []) (Ts := Wd) ⟨hx, hb, hml, hown, hW⟩ (mST_charAt l g ν (hO _ _ hs) (hO _ _ hv) hf (by omega) (i := q) (by omega)) (cwV 1 hW (k_gV w_438 w_439 w_440 w_9 w_441) rfl rfl rfl (by decide +kernel) ⟨Nat.le_of_ble_eq_true rfl, Nat.le_of_ble_eq_true rfl⟩) (k_preV (q := (RST, TST, 4)) hM (hO _ _ hs) rfl) rfl rfl hl.1 rfl (lv_room (Nat.le_of_ble_eq_true rfl)) dMD_version_169 ⟨(show (9 + 2 * L) + 0 ≤ 19 by omega), (show (22 + 4 * L + pp) + 0 ≤ 442 by omega)⟩) hM (fun r μ1 H locs hp hM => ?_)
            obtain ⟨rfl, hmu⟩ := hp
            rw [hmu] at hM
            refine kc_i (va_runS (As := [.int (nI (f q))]) (rest := []) (Ts := Wd) ⟨hx, hb, hml, hown, hW⟩ (mMD_letter l g ν (x := f q) (hf _)) (va_cwS 1 hW (k_gS w_522 w_523 w_7 w_524) rfl rfl rfl (by decide +kernel) ⟨Nat.le_of_ble_eq_true rfl, Nat.le_of_ble_eq_true rfl⟩) (k_preS hM) rfl rfl hl.1 rfl (lv_room (Nat.le_of_ble_eq_true rfl)) dMD_version_172 ⟨(show (9 + 2 * L) + 0 ≤ 19 by omega), (show (22 + 4 * L + pp) + 0 ≤ 442 by omega)⟩) hM (fun r μ1 H locs hp hM => ?_)
            obtain ⟨rfl, hmu⟩ := hp
            rw [hmu] at hM
            refine lv_if_ne (tgt := 201) hx hb dMD_version_175 (by decide) (fun h175 => ?_) (fun h175 => ?_)
            · have h175 := bD_n.mp h175
              refine lv_iinc (v := nI (q + 1)) (lv' := [(4, .int (nI (q + 1))), (0, .ref a), (2, .ref vq), (3, .int (nI (pp + 1)))]) (k := 3) hx hb dMD_version_201 hl rfl (ii1 q) (by decide) rfl (fun ls hl => ?_)
              refine lv_goto (tgt := 157) hx hb dMD_version_204 (by decide) ?_
              exact ih_157 (q + 1) (by omega) (by first | assumption | omega | exact rfl) (by first | assumption | omega | exact rfl) (by first | assumption | omega | exact rfl) (by have z := nM_step (B := f) (i := q) (z := n) h163 (decide_eq_true (by omega)); omega) ls H locs (lv_sub hl [1, 2, 3, 0] rfl) hM
            · have h175 := bD_0.mp h175
              refine lv_aload_n hx hb dMD_version_178 rfl (lv_at hl 0 rfl) ?_
              refine lv_iload hx hb dMD_version_179 (lv_at hl 3 rfl) ?_
              refine kc_i (va_runV (C := RST) (As := [.int (nI q)]) (b := a) (rest := []) (Ts := Wd) ⟨hx, hb, hml, hown, hW⟩ (mST_charAt l g ν (hO _ _ hs) (hO _ _ hv) hf (by omega) (i := q) (by omega)) (cwV 1 hW (k_gV w_438 w_439 w_440 w_9 w_441) rfl rfl rfl (by decide +kernel) ⟨Nat.le_of_ble_eq_true rfl, Nat.le_of_ble_eq_true rfl⟩) (k_preV (q := (RST, TST, 4)) hM (hO _ _ hs) rfl) rfl rfl hl.1 rfl (lv_room (Nat.le_of_ble_eq_true rfl)) dMD_version_181 ⟨(show (9 + 2 * L) + 0 ≤ 19 by omega), (show (22 + 4 * L + pp) + 0 ≤ 442 by omega)⟩) hM (fun r μ1 H locs hp hM => ?_)
              obtain ⟨rfl, hmu⟩ := hp
              rw [hmu] at hM
              refine kc_i (va_runS (As := [.int (nI (f q))]) (rest := []) (Ts := Wd) ⟨hx, hb, hml, hown, hW⟩ (mMD_digit l g ν (x := f q) (hf _)) (va_cwS 1 hW (k_gS w_462 w_463 w_7 w_464) rfl rfl rfl (by decide +kernel) ⟨Nat.le_of_ble_eq_true rfl, Nat.le_of_ble_eq_true rfl⟩) (k_preS hM) rfl rfl hl.1 rfl (lv_room (Nat.le_of_ble_eq_true rfl)) dMD_version_184 ⟨(show (9 + 2 * L) + 0 ≤ 19 by omega), (show (22 + 4 * L + pp) + 0 ≤ 442 by omega)⟩) hM (fun r μ1 H locs hp hM => ?_)
              obtain ⟨rfl, hmu⟩ := hp
              rw [hmu] at hM
              refine lv_if_ne (tgt := 201) hx hb dMD_version_187 (by decide) (fun h187 => ?_) (fun h187 => ?_)
              · have h187 := bD_n.mp h187
                refine lv_iinc (v := nI (q + 1)) (lv' := [(4, .int (nI (q + 1))), (0, .ref a), (2, .ref vq), (3, .int (nI (pp + 1)))]) (k := 3) hx hb dMD_version_201 hl rfl (ii1 q) (by decide) rfl (fun ls hl => ?_)
                refine lv_goto (tgt := 157) hx hb dMD_version_204 (by decide) ?_
                exact ih_157 (q + 1) (by omega) (by first | assumption | omega | exact rfl) (by first | assumption | omega | exact rfl) (by first | assumption | omega | exact rfl) (by have z := nM_step (B := f) (i := q) (z := n) h163 (decide_eq_true (by omega)); omega) ls H locs (lv_sub hl [1, 2, 3, 0] rfl) hM
              · have h187 := bD_0.mp h187
                refine lv_aload_n hx hb dMD_version_190 rfl (lv_at hl 0 rfl) ?_
                refine lv_iload hx hb dMD_version_191 (lv_at hl 3 rfl) ?_
                refine kc_i (va_runV (C := RST) (As := [.int (nI q)]) (b := a) (rest := []) (Ts := Wd) ⟨hx, hb, hml, hown, hW⟩ (mST_charAt l g ν (hO _ _ hs) (hO _ _ hv) hf (by omega) (i := q) (by omega)) (cwV 1 hW (k_gV w_438 w_439 w_440 w_9 w_441) rfl rfl rfl (by decide +kernel) ⟨Nat.le_of_ble_eq_true rfl, Nat.le_of_ble_eq_true rfl⟩) (k_preV (q := (RST, TST, 4)) hM (hO _ _ hs) rfl) rfl rfl hl.1 rfl (lv_room (Nat.le_of_ble_eq_true rfl)) dMD_version_193 ⟨(show (9 + 2 * L) + 0 ≤ 19 by omega), (show (22 + 4 * L + pp) + 0 ≤ 442 by omega)⟩) hM (fun r μ1 H locs hp hM => ?_)
                obtain ⟨rfl, hmu⟩ := hp
                rw [hmu] at hM
                have hb9 := hf q
                refine lv_bipush (v := nI 45) hx hb dMD_version_196 (by decide) ?_
                refine lv_icmp_ne (tgt := 207) hx hb dMD_version_198 (by decide) (fun h198 => ?_) (fun h198 => ?_)
                · have h198 := (nJ_ne_t (a := f q) (b := 45) (by omega) (by omega)).mp h198
                  exact cut207 q  (by first | assumption | omega | exact rfl) (by first | assumption | omega | exact rfl) (by have z := nM_stop (B := f) (i := q) (z := n) h163 (decide_eq_false (by omega)); omega) ls H locs (lv_sub hl [0, 1, 2, 3] rfl) hM
                · have h198 := (nJ_ne_f (a := f q) (b := 45) (by omega) (by omega)).mp h198
                  refine lv_iinc (v := nI (q + 1)) (lv' := [(4, .int (nI (q + 1))), (0, .ref a), (2, .ref vq), (3, .int (nI (pp + 1)))]) (k := 3) hx hb dMD_version_201 hl rfl (ii1 q) (by decide) rfl (fun ls hl => ?_)
                  refine lv_goto (tgt := 157) hx hb dMD_version_204 (by decide) ?_
                  exact ih_157 (q + 1) (by omega) (by first | assumption | omega | exact rfl) (by first | assumption | omega | exact rfl) (by first | assumption | omega | exact rfl) (by have z := nM_step (B := f) (i := q) (z := n) h163 (decide_eq_true (by omega)); omega) ls H locs (lv_sub hl [1, 2, 3, 0] rfl) hM
      refine lv_iload_n hx hb dMD_version_143 rfl (lv_at hl 2 rfl) ?_
      refine lv_aload_n hx hb dMD_version_144 rfl (lv_at hl 0 rfl) ?_
      refine kc_i (va_runV (C := RST) (As := []) (b := a) (rest := [.int (nI pp)]) (Ts := Wd) ⟨hx, hb, hml, hown, hW⟩ (mST_length l g ν (hO _ _ hs) (hO _ _ hv) hf (by omega)) (cwV 0 hW (k_gV w_430 w_431 w_432 w_9 w_433) rfl rfl rfl (by decide +kernel) ⟨Nat.le_of_ble_eq_true rfl, Nat.le_of_ble_eq_true rfl⟩) (k_preV (q := (RST, TST, 4)) hM (hO _ _ hs) rfl) rfl rfl hl.1 rfl (lv_room (Nat.le_of_ble_eq_true rfl)) dMD_version_145 ⟨(show (9 + 2 * L) + 0 ≤ 19 by omega), (show (22 + 4 * L + pp) + 0 ≤ 442 by omega)⟩) hM (fun r μ1 H locs hp hM => ?_)
      obtain ⟨rfl, hmu⟩ := hp
      rw [hmu] at hM
      refine lv_icmp_ge (tgt := 310) hx hb dMD_version_148 (by decide) (fun h148 => ?_) (fun h148 => ?_)
      · have h148 := (nJ_ge_t (a := pp) (b := n) (by omega) (by omega)).mp h148
        refine lv_aload_n hx hb dMD_version_310 rfl (lv_at hl 1 rfl) ?_
        refine W.widen (k := 19) (n := 442) (by omega) (by omega) ?_
        exact kr_q (v := some vq) hx hb hr (Or.inl ⟨_, rfl⟩) hlocks hM dMD_version_311 (⟨hO, Or.inr ⟨vq, na, ka, NN, M, sa, sv, F, (NN 0, NN 1, NN 2, ms), rfl, vMs_e hV (by omega), by (show ν vq = some (.inr (5, [.ref na, .ref ka, .int (nI ms.length)])); rw [hL]; exact fv), fna, rfl, rfl, rfl, hNb 0 (by decide), hNb 1 (by decide), hNb 2 (by decide), fka, (by show ms.length ≤ 4; rw [hL]; exact hL4), hK⟩⟩)
      · have h148 := (nJ_ge_f (a := pp) (b := n) (by omega) (by omega)).mp h148
        refine lv_iinc (v := nI (pp + 1)) (lv' := [(3, .int (nI (pp + 1))), (0, .ref a), (2, .ref vq)]) (k := 2) hx hb dMD_version_151 hl rfl (ii1 pp) (by decide) rfl (fun ls hl => ?_)
        refine lv_iload_n hx hb dMD_version_154 rfl (lv_at hl 0 rfl) ?_
        refine lv_istore (lv' := [(4, .int (nI (pp + 1))), (3, .int (nI (pp + 1))), (0, .ref a), (2, .ref vq)]) hx hb dMD_version_155 hl (by decide) rfl (fun ls hl => ?_)
        exact cut157 _ (pp + 1) (Nat.lt_succ_self _) (by first | assumption | omega | exact rfl) (by first | assumption | omega | exact rfl) (by first | assumption | omega | exact rfl) (by first | assumption | omega | exact rfl) ls H locs (lv_sub hl [2, 3, 1, 0] rfl) hM
  have cut121 : ∀ (pp : Nat) (ν : km_M) (vq : Nat) (na : Nat) (ka : Nat) (NN : Nat → Nat), pp ≤ n → vVer f i n = vFin f n (NN 0) (NN 1) (NN 2) pp → (∀ j, j < 3 → NN j < 1000000000) → kOld μ ν → μ vq = none → μ na = none → μ ka = none → ν vq = some (.inr (5, [.ref na, .ref ka, .int (nI 0)])) → ν na = some (.inl (g.2.2.1 1, 3, .inl (fun j => nI (NN j)))) → ν ka = some (.inl (g.2.2.1 5, 4, .inr (.inr (.inr (.inr (fun _ => none)))))) → ∀ (ls : Array Slot) (H : Heap) (locs : List Loc), lv_has ls 6 [(0, .ref a), (2, .ref vq), (3, .int (nI pp))] → kS g (ν) s H locs → W p l e ({ frames := 6, cells := 19, slots := 442, locals := 132 } : Room) s m [.ref a, .int (nI i)].toArray below meth c H locs 9 (22 + pp) (MQ below (kQq g (fun (r : Option Nat) (μ1 : km_M) => kOld μ μ1 ∧ ((r = none ∧ vVer f i n = none) ∨ ∃ (vq na ka : Nat) (NN : Nat → Nat) (M : Nat → Option Nat) (sa sv : Nat → Nat) (F : Nat → Nat → Nat) (v : kVer), r = some vq ∧ vVer f i n = some v ∧ kMV g μ1 vq na ka NN M sa sv F v))) [.ref a, .int (nI i)].toArray s 19 442 (kF g)) (F0 m 121 ls []) := by
    intro pp ν vq na ka NN hp hV hNb hO hq0 hq1 hq2 fv fna fka ls H locs hl hM
    refine lv_iload_n hx hb dMD_version_121 rfl (lv_at hl 2 rfl) ?_
    refine lv_aload_n hx hb dMD_version_122 rfl (lv_at hl 0 rfl) ?_
    refine kc_i (va_runV (C := RST) (As := []) (b := a) (rest := [.int (nI pp)]) (Ts := Wd) ⟨hx, hb, hml, hown, hW⟩ (mST_length l g ν (hO _ _ hs) (hO _ _ hv) hf (by omega)) (cwV 0 hW (k_gV w_430 w_431 w_432 w_9 w_433) rfl rfl rfl (by decide +kernel) ⟨Nat.le_of_ble_eq_true rfl, Nat.le_of_ble_eq_true rfl⟩) (k_preV (q := (RST, TST, 4)) hM (hO _ _ hs) rfl) rfl rfl hl.1 rfl (lv_room (Nat.le_of_ble_eq_true rfl)) dMD_version_123 ⟨(show 9 + 0 ≤ 19 by omega), (show (22 + pp) + 0 ≤ 442 by omega)⟩) hM (fun r μ1 H locs hp hM => ?_)
    obtain ⟨rfl, hmu⟩ := hp
    rw [hmu] at hM
    refine lv_icmp_ne (tgt := 131) hx hb dMD_version_126 (by decide) (fun h126 => ?_) (fun h126 => ?_)
    · have h126 := (nJ_ne_t (a := pp) (b := n) (by omega) (by omega)).mp h126
      refine lv_aload_n hx hb dMD_version_131 rfl (lv_at hl 0 rfl) ?_
      refine lv_iload_n hx hb dMD_version_132 rfl (lv_at hl 2 rfl) ?_
      refine kc_i (va_runV (C := RST) (As := [.int (nI pp)]) (b := a) (rest := []) (Ts := Wd) ⟨hx, hb, hml, hown, hW⟩ (mST_charAt l g ν (hO _ _ hs) (hO _ _ hv) hf (by omega) (i := pp) (by omega)) (cwV 1 hW (k_gV w_438 w_439 w_440 w_9 w_441) rfl rfl rfl (by decide +kernel) ⟨Nat.le_of_ble_eq_true rfl, Nat.le_of_ble_eq_true rfl⟩) (k_preV (q := (RST, TST, 4)) hM (hO _ _ hs) rfl) rfl rfl hl.1 rfl (lv_room (Nat.le_of_ble_eq_true rfl)) dMD_version_133 ⟨(show 9 + 0 ≤ 19 by omega), (show (22 + pp) + 0 ≤ 442 by omega)⟩) hM (fun r μ1 H locs hp hM => ?_)
      obtain ⟨rfl, hmu⟩ := hp
      rw [hmu] at hM
      have hb9 := hf pp
      refine lv_bipush (v := nI 45) hx hb dMD_version_136 (by decide) ?_
      refine lv_icmp_eq (tgt := 143) hx hb dMD_version_138 (by decide) (fun h138 => ?_) (fun h138 => ?_)
      · have h138 := (nJ_eq_t (a := f pp) (b := 45) (by omega) (by omega)).mp h138
        refine W.widen (k := 9 + 2 * 0) (n := 22 + 4 * 0 + pp) (by omega) (by omega) ?_
        exact cut143 _ pp ν vq na ka NN 0 [] (fun _ => none) (fun _ => 0) (fun _ => 0) (fun _ _ => 0) (Nat.lt_succ_self _) (by first | assumption | omega | exact rfl) (by rfl) (by first | assumption | omega | exact rfl) (by exact vMs_0 (by omega) h138 hV) (by first | assumption | omega | exact rfl) (by first | assumption | omega | exact rfl) (by first | assumption | omega | exact rfl) (by first | assumption | omega | exact rfl) (by first | assumption | omega | exact rfl) (by exact fv) (by exact fna) (by exact fka) (by exact kMK_0) ls H locs (lv_sub hl [0, 1, 2] rfl) hM
      · have h138 := (nJ_eq_f (a := f pp) (b := 45) (by omega) (by omega)).mp h138
        refine lv_null hx hb dMD_version_141 ?_
        refine W.widen (k := 19) (n := 442) (by omega) (by omega) ?_
        exact kr_q (v := none) hx hb hr (Or.inl ⟨_, rfl⟩) hlocks hM dMD_version_142 (⟨hO, Or.inl ⟨rfl, hV.trans (vFin_d h126 h138)⟩⟩)
    · have h126 := (nJ_ne_f (a := pp) (b := n) (by omega) (by omega)).mp h126
      refine lv_aload_n hx hb dMD_version_129 rfl (lv_at hl 1 rfl) ?_
      refine W.widen (k := 19) (n := 442) (by omega) (by omega) ?_
      exact kr_q (v := some vq) hx hb hr (Or.inl ⟨_, rfl⟩) hlocks hM dMD_version_130 (⟨hO, Or.inr ⟨vq, na, ka, NN, (fun _ => none), (fun _ => 0), (fun _ => 0), (fun _ _ => 0), (NN 0, NN 1, NN 2, []), rfl, hV.trans (vFin_s h126), by exact fv, fna, rfl, rfl, rfl, hNb 0 (by decide), hNb 1 (by decide), hNb 2 (by decide), fka, (Nat.zero_le _), kMK_0⟩⟩)
  have cut13 : ∀ (fu : Nat), ∀ (k : Nat) (pp : Nat) (ν : km_M) (vq : Nat) (na : Nat) (ka : Nat) (NN : Nat → Nat), 3 - k < fu → k < 3 → pp ≤ n → vVer f i n = vRem f n k NN pp → (∀ j, j < k → NN j < 1000000000) → kOld μ ν → μ vq = none → μ na = none → μ ka = none → ν vq = some (.inr (5, [.ref na, .ref ka, .int (nI 0)])) → ν na = some (.inl (g.2.2.1 1, 3, .inl (fun j => nI (NN j)))) → ν ka = some (.inl (g.2.2.1 5, 4, .inr (.inr (.inr (.inr (fun _ => none)))))) → ∀ (ls : Array Slot) (H : Heap) (locs : List Loc), lv_has ls 6 [(0, .ref a), (2, .ref vq), (3, .int (nI pp)), (4, .int (nI k))] → kS g (ν) s H locs → W p l e ({ frames := 6, cells := 19, slots := 442, locals := 132 } : Room) s m [.ref a, .int (nI i)].toArray below meth c H locs (3 + 2 * k) (10 + 4 * k + pp) (MQ below (kQq g (fun (r : Option Nat) (μ1 : km_M) => kOld μ μ1 ∧ ((r = none ∧ vVer f i n = none) ∨ ∃ (vq na ka : Nat) (NN : Nat → Nat) (M : Nat → Option Nat) (sa sv : Nat → Nat) (F : Nat → Nat → Nat) (v : kVer), r = some vq ∧ vVer f i n = some v ∧ kMV g μ1 vq na ka NN M sa sv F v))) [.ref a, .int (nI i)].toArray s 19 442 (kF g)) (F0 m 13 ls []) := by
    intro fu
    induction fu with
    | zero => intro k pp ν vq na ka NN hlt; exact absurd hlt (Nat.not_lt_zero _)
    | succ fu ih =>
      intro k pp ν vq na ka NN hlt hk hp hV hNb hO hq0 hq1 hq2 fv fna fka ls H locs hl hM
      have cut49 : ∀ (q : Nat), q ≤ n → q = pp + nD f pp (n - pp) → ∀ (ls : Array Slot) (H : Heap) (locs : List Loc), lv_has ls 6 [(0, .ref a), (2, .ref vq), (3, .int (nI pp)), (4, .int (nI k)), (5, .int (nI q))] → kS g (ν) s H locs → W p l e ({ frames := 6, cells := 19, slots := 442, locals := 132 } : Room) s m [.ref a, .int (nI i)].toArray below meth c H locs (3 + 2 * k) (10 + 4 * k + pp) (MQ below (kQq g (fun (r : Option Nat) (μ1 : km_M) => kOld μ μ1 ∧ ((r = none ∧ vVer f i n = none) ∨ ∃ (vq na ka : Nat) (NN : Nat → Nat) (M : Nat → Option Nat) (sa sv : Nat → Nat) (F : Nat → Nat → Nat) (v : kVer), r = some vq ∧ vVer f i n = some v ∧ kMV g μ1 vq na ka NN M sa sv F v))) [.ref a, .int (nI i)].toArray s 19 442 (kF g)) (F0 m 49 ls []) := by
        intro q hqn hqd ls H locs hl hM
        refine lv_aload_n hx hb dMD_version_49 rfl (lv_at hl 1 rfl) ?_
        refine k_get (own := RMD) (ref := RMV) (C := RMV) (T := TMV) (N := 3) (ci := 5) (v := .ref na) hx hb hW inMV hown hM fv rfl 0 (by decide) (hW _ w_419) (fun _ h => h) rfl dMD_version_50 ?_
        refine lv_iload hx hb dMD_version_53 (lv_at hl 3 rfl) ?_
        refine lv_aload_n hx hb dMD_version_55 rfl (lv_at hl 0 rfl) ?_
        refine lv_iload_n hx hb dMD_version_56 rfl (lv_at hl 2 rfl) ?_
        refine lv_iload hx hb dMD_version_57 (lv_at hl 4 rfl) ?_
        refine kc_r (va_runV (C := RST) (As := [.int (nI pp), .int (nI q)]) (b := a) (rest := [.int (nI k), .ref na]) (Ts := Wd) ⟨hx, hb, hml, hown, hW⟩ (mST_substring l g ν (hO _ _ hs) (hO _ _ hv) hf hn (i := pp) (tt := q) (by omega) (by omega)) (cwV 2 hW (k_gV w_465 w_466 w_467 w_9 w_468) rfl rfl rfl (by decide +kernel) ⟨Nat.le_of_ble_eq_true rfl, Nat.le_of_ble_eq_true rfl⟩) (k_preV (q := (RST, TST, 4)) hM (hO _ _ hs) rfl) rfl rfl hl.1 rfl (lv_room (Nat.le_of_ble_eq_true rfl)) dMD_version_59 ⟨(show (3 + 2 * k) + 2 ≤ 19 by omega), (show (10 + 4 * k + pp) + (4 + (q - pp)) ≤ 442 by omega)⟩) hM (fun rs μ1 H locs hp hM => ?_)
        have hcs := hp
        clear hp
        refine W.widen (k := (3 + 2 * k) + 2) (n := (10 + 4 * k + pp) + (4 + (q - pp))) (by omega) (by omega) ?_
        rcases hcs with ⟨z0, zt, hra, hmu⟩ | ⟨zn, ze, hra, hmu⟩ | ⟨zn, zl, d1, hwa, hwb, hwn, hmu⟩
        · have hra := hra.symm
          subst hra
          rw [hmu] at hM
          refine lv_bipush (v := nI 9) hx hb dMD_version_62 (by decide) ?_
          refine kc_i (va_runS (As := [.ref a, .int (nI 9)]) (rest := [.int (nI k), .ref na]) (Ts := Wd) ⟨hx, hb, hml, hown, hW⟩ (mMD_number l g ν (hO _ _ hs) (hO _ _ hv) hf hn (mo := 9) (by omega)) (va_cwS 2 hW (k_gS w_516 w_517 w_7 w_518) rfl rfl rfl (by decide +kernel) ⟨Nat.le_of_ble_eq_true rfl, Nat.le_of_ble_eq_true rfl⟩) (k_preS hM) rfl rfl hl.1 rfl (lv_room (Nat.le_of_ble_eq_true rfl)) dMD_version_64 ⟨(show ((3 + 2 * k) + 2) + 0 ≤ 19 by omega), (show ((10 + 4 * k + pp) + (4 + (q - pp))) + 0 ≤ 442 by omega)⟩) hM (fun r μ1 H locs hp hM => ?_)
          obtain ⟨rfl, hmu⟩ := hp
          rw [hmu] at hM
          rcases vNum_cases f (a := pp) (z := n) (by omega) with ⟨hvn, hnr⟩ | ⟨v, a1, hvs, hnr, hvb, ha1, ha2⟩
          · refine topi_eq (y := (-1)) ((numA hqd z0 zt).trans hnr) ?_
            refine k_iast (i := k) (f1 := (upd (fun j => nI (NN j)) k (-1))) hx hb hM 1 fna rfl (by omega) (by omega) rfl dMD_version_67 (fun H locs hM => ?_)
            have hM : kS g (km_up ν na (.inl (g.2.2.1 1, 3, .inl (upd (fun j => nI (NN j)) k (-1))))) s H locs := hM
            refine lv_aload_n hx hb dMD_version_68 rfl (lv_at hl 1 rfl) ?_
            refine k_get (own := RMD) (ref := RMV) (C := RMV) (T := TMV) (N := 3) (ci := 5) (v := .ref na) hx hb hW inMV hown hM ((km_n (km_apB fv fna)).trans fv) rfl 0 (by decide) (hW _ w_419) (fun _ h => h) rfl dMD_version_69 ?_
            refine lv_iload hx hb dMD_version_72 (lv_at hl 3 rfl) ?_
            refine k_iald (i := k) hx hb hM 1 (km_s _ _ _) rfl (by omega) (by omega) dMD_version_74 ?_
            refine topi_eq (y := (-1)) (by simp [upd]) ?_
            refine lv_if_ge (tgt := 80) hx hb dMD_version_75 (by decide) (fun h => absurd h (by decide)) (fun _ => ?_)
            refine lv_null hx hb dMD_version_78 ?_
            refine W.widen (k := 19) (n := 442) (by omega) (by omega) ?_
            exact kr_q (v := none) hx hb hr (Or.inl ⟨_, rfl⟩) hlocks hM dMD_version_79 (⟨(kOld_up hO hq1), Or.inl ⟨rfl, hV.trans (vRem_no hvn)⟩⟩)
          · refine topi_eq (y := nI v) ((numA hqd z0 zt).trans hnr) ?_
            have hvs : vNum f pp n = some (v, q) := by rw [hvs, show a1 = q by omega]
            refine k_iast (i := k) (f1 := (fun j => nI ((va_up NN k v) j))) hx hb hM 1 fna rfl (by omega) (by omega) updn_at dMD_version_67 (fun H locs hM => ?_)
            have hM : kS g (km_up ν na (.inl (g.2.2.1 1, 3, .inl (fun j => nI ((va_up NN k v) j))))) s H locs := hM
            refine lv_aload_n hx hb dMD_version_68 rfl (lv_at hl 1 rfl) ?_
            refine k_get (own := RMD) (ref := RMV) (C := RMV) (T := TMV) (N := 3) (ci := 5) (v := .ref na) hx hb hW inMV hown hM ((km_n (km_apB fv fna)).trans fv) rfl 0 (by decide) (hW _ w_419) (fun _ h => h) rfl dMD_version_69 ?_
            refine lv_iload hx hb dMD_version_72 (lv_at hl 3 rfl) ?_
            refine k_iald (i := k) hx hb hM 1 (km_s _ _ _) rfl (by omega) (by omega) dMD_version_74 ?_
            refine topi_eq (y := nI v) (by rw [va_up_self]) ?_
            refine lv_if_ge (tgt := 80) hx hb dMD_version_75 (by decide) (fun h75 => ?_) (fun h75 => ?_)
            · have h75 := (nJ_ge_t (a := v) (b := 0) (by omega) (by omega)).mp h75
              refine lv_iload hx hb dMD_version_80 (lv_at hl 4 rfl) ?_
              refine lv_istore_n (lv' := [(3, .int (nI q)), (0, .ref a), (2, .ref vq), (4, .int (nI k)), (5, .int (nI q))]) hx hb dMD_version_82 rfl hl (by decide) rfl (fun ls hl => ?_)
              refine lv_iload hx hb dMD_version_83 (lv_at hl 3 rfl) ?_
              refine lv_iconst (v := nI 2) hx hb dMD_version_85 (by decide) ?_
              refine lv_icmp_ne (tgt := 92) hx hb dMD_version_86 (by decide) (fun h86 => ?_) (fun h86 => ?_)
              · have h86 := (nJ_ne_t (a := k) (b := 2) (by omega) (by omega)).mp h86
                refine lv_iload_n hx hb dMD_version_92 rfl (lv_at hl 0 rfl) ?_
                refine lv_aload_n hx hb dMD_version_93 rfl (lv_at hl 1 rfl) ?_
                refine kc_i (va_runV (C := RST) (As := []) (b := a) (rest := [.int (nI q)]) (Ts := Wd) ⟨hx, hb, hml, hown, hW⟩ (mST_length l g (km_up ν na (.inl (g.2.2.1 1, 3, .inl (fun j => nI ((va_up NN k v) j))))) ((km_n (km_apB (hO _ _ hs) fna)).trans (hO _ _ hs)) ((km_n (km_apF hv hq1)).trans (hO _ _ hv)) hf (by omega)) (cwV 0 hW (k_gV w_430 w_431 w_432 w_9 w_433) rfl rfl rfl (by decide +kernel) ⟨Nat.le_of_ble_eq_true rfl, Nat.le_of_ble_eq_true rfl⟩) (k_preV (q := (RST, TST, 4)) hM ((km_n (km_apB (hO _ _ hs) fna)).trans (hO _ _ hs)) rfl) rfl rfl hl.1 rfl (lv_room (Nat.le_of_ble_eq_true rfl)) dMD_version_94 ⟨(show ((3 + 2 * k) + 2) + 0 ≤ 19 by omega), (show ((10 + 4 * k + pp) + (4 + (q - pp))) + 0 ≤ 442 by omega)⟩) hM (fun r μ1 H locs hp hM => ?_)
                obtain ⟨rfl, hmu⟩ := hp
                rw [hmu] at hM
                refine lv_icmp_ge (tgt := 110) hx hb dMD_version_97 (by decide) (fun h97 => ?_) (fun h97 => ?_)
                · have h97 := (nJ_ge_t (a := q) (b := n) (by omega) (by omega)).mp h97
                  refine lv_null hx hb dMD_version_110 ?_
                  refine W.widen (k := 19) (n := 442) (by omega) (by omega) ?_
                  exact kr_q (v := none) hx hb hr (Or.inl ⟨_, rfl⟩) hlocks hM dMD_version_111 (⟨(kOld_up hO hq1), Or.inl ⟨rfl, hV.trans (vRem_nodot (by omega) hvs (vDot_f (by first | (intro z; omega) | (intro z; exact h107 z.2))))⟩⟩)
                · have h97 := (nJ_ge_f (a := q) (b := n) (by omega) (by omega)).mp h97
                  refine lv_aload_n hx hb dMD_version_100 rfl (lv_at hl 1 rfl) ?_
                  refine lv_iload_n hx hb dMD_version_101 rfl (lv_at hl 0 rfl) ?_
                  refine kc_i (va_runV (C := RST) (As := [.int (nI q)]) (b := a) (rest := []) (Ts := Wd) ⟨hx, hb, hml, hown, hW⟩ (mST_charAt l g (km_up ν na (.inl (g.2.2.1 1, 3, .inl (fun j => nI ((va_up NN k v) j))))) ((km_n (km_apB (hO _ _ hs) fna)).trans (hO _ _ hs)) ((km_n (km_apF hv hq1)).trans (hO _ _ hv)) hf (by omega) (i := q) (by omega)) (cwV 1 hW (k_gV w_438 w_439 w_440 w_9 w_441) rfl rfl rfl (by decide +kernel) ⟨Nat.le_of_ble_eq_true rfl, Nat.le_of_ble_eq_true rfl⟩) (k_preV (q := (RST, TST, 4)) hM ((km_n (km_apB (hO _ _ hs) fna)).trans (hO _ _ hs)) rfl) rfl rfl hl.1 rfl (lv_room (Nat.le_of_ble_eq_true rfl)) dMD_version_102 ⟨(show ((3 + 2 * k) + 2) + 0 ≤ 19 by omega), (show ((10 + 4 * k + pp) + (4 + (q - pp))) + 0 ≤ 442 by omega)⟩) hM (fun r μ1 H locs hp hM => ?_)
                  obtain ⟨rfl, hmu⟩ := hp
                  rw [hmu] at hM
                  have hb9 := hf q
                  refine lv_bipush (v := nI 46) hx hb dMD_version_105 (by decide) ?_
                  refine lv_icmp_eq (tgt := 112) hx hb dMD_version_107 (by decide) (fun h107 => ?_) (fun h107 => ?_)
                  · have h107 := (nJ_eq_t (a := f q) (b := 46) (by omega) (by omega)).mp h107
                    refine lv_iinc (v := nI (q + 1)) (lv' := [(3, .int (nI (q + 1))), (0, .ref a), (2, .ref vq), (4, .int (nI k)), (5, .int (nI q))]) (k := 0) hx hb dMD_version_112 hl rfl (ii1 q) (by decide) rfl (fun ls hl => ?_)
                    refine lv_iinc (v := nI (k + 1)) (lv' := [(4, .int (nI (k + 1))), (3, .int (nI (q + 1))), (0, .ref a), (2, .ref vq), (5, .int (nI q))]) (k := 3) hx hb dMD_version_115 hl rfl (ii1 k) (by decide) rfl (fun ls hl => ?_)
                    refine lv_goto (tgt := 13) hx hb dMD_version_118 (by decide) ?_
                    refine W.widen (k := 3 + 2 * (k + 1)) (n := 10 + 4 * (k + 1) + (q + 1)) (by omega) (by omega) ?_
                    exact ih (k + 1) (q + 1) (km_up ν na (.inl (g.2.2.1 1, 3, .inl (fun j => nI ((va_up NN k v) j))))) vq na ka (va_up NN k v) (by omega) (by first | assumption | omega | exact rfl) (by first | assumption | omega | exact rfl) (by exact hV.trans (vRem_dot (by omega) hvs (vDot_t ⟨by omega, h107⟩))) (by exact up_b hNb hvb) (by exact (kOld_up hO hq1)) (by first | assumption | omega | exact rfl) (by first | assumption | omega | exact rfl) (by first | assumption | omega | exact rfl) (by exact ((km_n (km_apB fv fna)).trans fv)) (by exact (km_s _ _ _)) (by exact ((km_n (km_apN fka fna (by decide))).trans fka)) ls H locs (lv_sub hl [2, 3, 1, 0] rfl) hM
                  · have h107 := (nJ_eq_f (a := f q) (b := 46) (by omega) (by omega)).mp h107
                    refine lv_null hx hb dMD_version_110 ?_
                    refine W.widen (k := 19) (n := 442) (by omega) (by omega) ?_
                    exact kr_q (v := none) hx hb hr (Or.inl ⟨_, rfl⟩) hlocks hM dMD_version_111 (⟨(kOld_up hO hq1), Or.inl ⟨rfl, hV.trans (vRem_nodot (by omega) hvs (vDot_f (by first | (intro z; omega) | (intro z; exact h107 z.2))))⟩⟩)
              · have h86 := (nJ_ne_f (a := k) (b := 2) (by omega) (by omega)).mp h86
                refine lv_goto (tgt := 121) hx hb dMD_version_89 (by decide) ?_
                refine W.widen (k := 9) (n := 22 + q) (by omega) (by omega) ?_
                exact cut121 q (km_up ν na (.inl (g.2.2.1 1, 3, .inl (fun j => nI ((va_up NN k v) j))))) vq na ka (va_up NN k v)  (by first | assumption | omega | exact rfl) (by exact hV.trans (vRem_fin2 h86 hvs)) (by have z := up_b hNb hvb; rw [h86] at z ⊢; exact z) (by exact (kOld_up hO hq1)) (by first | assumption | omega | exact rfl) (by first | assumption | omega | exact rfl) (by first | assumption | omega | exact rfl) (by exact ((km_n (km_apB fv fna)).trans fv)) (by exact (km_s _ _ _)) (by exact ((km_n (km_apN fka fna (by decide))).trans fka)) ls H locs (lv_sub hl [1, 2, 0] rfl) hM
            · have h75 := (nJ_ge_f (a := v) (b := 0) (by omega) (by omega)).mp h75
              exact absurd h75 (Nat.not_lt_zero _)
        · subst hra
          rw [hmu] at hM
          refine lv_bipush (v := nI 9) hx hb dMD_version_62 (by decide) ?_
          refine kc_i (va_runS (As := [.ref (g.2.2.2.2.1 0), .int (nI 9)]) (rest := [.int (nI k), .ref na]) (Ts := Wd) ⟨hx, hb, hml, hown, hW⟩ (mMD_numberL l g ν (mo := 9)) (va_cwS 2 hW (k_gS w_516 w_517 w_7 w_518) rfl rfl rfl (by decide +kernel) ⟨Nat.le_of_ble_eq_true rfl, Nat.le_of_ble_eq_true rfl⟩) (k_preS hM) rfl rfl hl.1 rfl (lv_room (Nat.le_of_ble_eq_true rfl)) dMD_version_64 ⟨(show ((3 + 2 * k) + 2) + 0 ≤ 19 by omega), (show ((10 + 4 * k + pp) + (4 + (q - pp))) + 0 ≤ 442 by omega)⟩) hM (fun r μ1 H locs hp hM => ?_)
          obtain ⟨rfl, hmu⟩ := hp
          rw [hmu] at hM
          have hvn : vNum f pp n = none := vNum_z (by omega)
          refine k_iast (i := k) (f1 := (upd (fun j => nI (NN j)) k (-1))) hx hb hM 1 fna rfl (by omega) (by omega) rfl dMD_version_67 (fun H locs hM => ?_)
          have hM : kS g (km_up ν na (.inl (g.2.2.1 1, 3, .inl (upd (fun j => nI (NN j)) k (-1))))) s H locs := hM
          refine lv_aload_n hx hb dMD_version_68 rfl (lv_at hl 1 rfl) ?_
          refine k_get (own := RMD) (ref := RMV) (C := RMV) (T := TMV) (N := 3) (ci := 5) (v := .ref na) hx hb hW inMV hown hM ((km_n (km_apB fv fna)).trans fv) rfl 0 (by decide) (hW _ w_419) (fun _ h => h) rfl dMD_version_69 ?_
          refine lv_iload hx hb dMD_version_72 (lv_at hl 3 rfl) ?_
          refine k_iald (i := k) hx hb hM 1 (km_s _ _ _) rfl (by omega) (by omega) dMD_version_74 ?_
          refine topi_eq (y := (-1)) (by simp [upd]) ?_
          refine lv_if_ge (tgt := 80) hx hb dMD_version_75 (by decide) (fun h => absurd h (by decide)) (fun _ => ?_)
          refine lv_null hx hb dMD_version_78 ?_
          refine W.widen (k := 19) (n := 442) (by omega) (by omega) ?_
          exact kr_q (v := none) hx hb hr (Or.inl ⟨_, rfl⟩) hlocks hM dMD_version_79 (⟨(kOld_up hO hq1), Or.inl ⟨rfl, hV.trans (vRem_no hvn)⟩⟩)
        · rw [hmu] at hM
          have ne_a_rs : a ≠ rs := km_apF (hO _ _ hs) hwa
          have ne_va_rs : va ≠ rs := km_apF (hO _ _ hv) hwa
          have ne_vq_rs : vq ≠ rs := km_apF fv hwa
          have ne_na_rs : na ≠ rs := km_apF fna hwa
          have ne_ka_rs : ka ≠ rs := km_apF fka hwa
          have ne_a_d1 : a ≠ d1 := km_apF (hO _ _ hs) hwb
          have ne_va_d1 : va ≠ d1 := km_apF (hO _ _ hv) hwb
          have ne_vq_d1 : vq ≠ d1 := km_apF fv hwb
          have ne_na_d1 : na ≠ d1 := km_apF fna hwb
          have ne_ka_d1 : ka ≠ d1 := km_apF fka hwb
          have hM : kS g (km_up (km_up ν rs (.inr (7, [.ref d1, .int (nI 0), .int (nI 0), .int (nI 0)]))) d1 (.inl (g.2.2.1 0, (q - pp), .inl (fun j => sb ((sbs f pp (q - pp)) j))))) s H locs := hM
          refine lv_bipush (v := nI 9) hx hb dMD_version_62 (by decide) ?_
          refine kc_i (va_runS (As := [.ref rs, .int (nI 9)]) (rest := [.int (nI k), .ref na]) (Ts := Wd) ⟨hx, hb, hml, hown, hW⟩ (mMD_number l g (km_up (km_up ν rs (.inr (7, [.ref d1, .int (nI 0), .int (nI 0), .int (nI 0)]))) d1 (.inl (g.2.2.1 0, (q - pp), .inl (fun j => sb ((sbs f pp (q - pp)) j))))) ((km_n (Ne.symm hwn)).trans (km_s _ _ _)) (km_s _ _ _) (sbs_lt hf _ _) (by omega) (mo := 9) (by omega)) (va_cwS 2 hW (k_gS w_516 w_517 w_7 w_518) rfl rfl rfl (by decide +kernel) ⟨Nat.le_of_ble_eq_true rfl, Nat.le_of_ble_eq_true rfl⟩) (k_preS hM) rfl rfl hl.1 rfl (lv_room (Nat.le_of_ble_eq_true rfl)) dMD_version_64 ⟨(show ((3 + 2 * k) + 2) + 0 ≤ 19 by omega), (show ((10 + 4 * k + pp) + (4 + (q - pp))) + 0 ≤ 442 by omega)⟩) hM (fun r μ1 H locs hp hM => ?_)
          obtain ⟨rfl, hmu⟩ := hp
          rw [hmu] at hM
          rcases vNum_cases f (a := pp) (z := n) (by omega) with ⟨hvn, hnr⟩ | ⟨v, a1, hvs, hnr, hvb, ha1, ha2⟩
          · refine topi_eq (y := (-1)) ((numB hqd).trans hnr) ?_
            refine k_iast (i := k) (f1 := (upd (fun j => nI (NN j)) k (-1))) hx hb hM 1 ((km_n ne_na_d1).trans ((km_n ne_na_rs).trans fna)) rfl (by omega) (by omega) rfl dMD_version_67 (fun H locs hM => ?_)
            have hM : kS g (km_up (km_up (km_up ν rs (.inr (7, [.ref d1, .int (nI 0), .int (nI 0), .int (nI 0)]))) d1 (.inl (g.2.2.1 0, (q - pp), .inl (fun j => sb ((sbs f pp (q - pp)) j))))) na (.inl (g.2.2.1 1, 3, .inl (upd (fun j => nI (NN j)) k (-1))))) s H locs := hM
            refine lv_aload_n hx hb dMD_version_68 rfl (lv_at hl 1 rfl) ?_
            refine k_get (own := RMD) (ref := RMV) (C := RMV) (T := TMV) (N := 3) (ci := 5) (v := .ref na) hx hb hW inMV hown hM ((km_n (km_apB fv fna)).trans ((km_n ne_vq_d1).trans ((km_n ne_vq_rs).trans fv))) rfl 0 (by decide) (hW _ w_419) (fun _ h => h) rfl dMD_version_69 ?_
            refine lv_iload hx hb dMD_version_72 (lv_at hl 3 rfl) ?_
            refine k_iald (i := k) hx hb hM 1 (km_s _ _ _) rfl (by omega) (by omega) dMD_version_74 ?_
            refine topi_eq (y := (-1)) (by simp [upd]) ?_
            refine lv_if_ge (tgt := 80) hx hb dMD_version_75 (by decide) (fun h => absurd h (by decide)) (fun _ => ?_)
            refine lv_null hx hb dMD_version_78 ?_
            refine W.widen (k := 19) (n := 442) (by omega) (by omega) ?_
            exact kr_q (v := none) hx hb hr (Or.inl ⟨_, rfl⟩) hlocks hM dMD_version_79 (⟨(kOld_up (kOld_up (kOld_up hO (kOld_n hO hwa)) (kOld_n hO hwb)) hq1), Or.inl ⟨rfl, hV.trans (vRem_no hvn)⟩⟩)
          · refine topi_eq (y := nI v) ((numB hqd).trans hnr) ?_
            have hvs : vNum f pp n = some (v, q) := by rw [hvs, show a1 = q by omega]
            refine k_iast (i := k) (f1 := (fun j => nI ((va_up NN k v) j))) hx hb hM 1 ((km_n ne_na_d1).trans ((km_n ne_na_rs).trans fna)) rfl (by omega) (by omega) updn_at dMD_version_67 (fun H locs hM => ?_)
            have hM : kS g (km_up (km_up (km_up ν rs (.inr (7, [.ref d1, .int (nI 0), .int (nI 0), .int (nI 0)]))) d1 (.inl (g.2.2.1 0, (q - pp), .inl (fun j => sb ((sbs f pp (q - pp)) j))))) na (.inl (g.2.2.1 1, 3, .inl (fun j => nI ((va_up NN k v) j))))) s H locs := hM
            refine lv_aload_n hx hb dMD_version_68 rfl (lv_at hl 1 rfl) ?_
            refine k_get (own := RMD) (ref := RMV) (C := RMV) (T := TMV) (N := 3) (ci := 5) (v := .ref na) hx hb hW inMV hown hM ((km_n (km_apB fv fna)).trans ((km_n ne_vq_d1).trans ((km_n ne_vq_rs).trans fv))) rfl 0 (by decide) (hW _ w_419) (fun _ h => h) rfl dMD_version_69 ?_
            refine lv_iload hx hb dMD_version_72 (lv_at hl 3 rfl) ?_
            refine k_iald (i := k) hx hb hM 1 (km_s _ _ _) rfl (by omega) (by omega) dMD_version_74 ?_
            refine topi_eq (y := nI v) (by rw [va_up_self]) ?_
            refine lv_if_ge (tgt := 80) hx hb dMD_version_75 (by decide) (fun h75 => ?_) (fun h75 => ?_)
            · have h75 := (nJ_ge_t (a := v) (b := 0) (by omega) (by omega)).mp h75
              refine lv_iload hx hb dMD_version_80 (lv_at hl 4 rfl) ?_
              refine lv_istore_n (lv' := [(3, .int (nI q)), (0, .ref a), (2, .ref vq), (4, .int (nI k)), (5, .int (nI q))]) hx hb dMD_version_82 rfl hl (by decide) rfl (fun ls hl => ?_)
              refine lv_iload hx hb dMD_version_83 (lv_at hl 3 rfl) ?_
              refine lv_iconst (v := nI 2) hx hb dMD_version_85 (by decide) ?_
              refine lv_icmp_ne (tgt := 92) hx hb dMD_version_86 (by decide) (fun h86 => ?_) (fun h86 => ?_)
              · have h86 := (nJ_ne_t (a := k) (b := 2) (by omega) (by omega)).mp h86
                refine lv_iload_n hx hb dMD_version_92 rfl (lv_at hl 0 rfl) ?_
                refine lv_aload_n hx hb dMD_version_93 rfl (lv_at hl 1 rfl) ?_
                refine kc_i (va_runV (C := RST) (As := []) (b := a) (rest := [.int (nI q)]) (Ts := Wd) ⟨hx, hb, hml, hown, hW⟩ (mST_length l g (km_up (km_up (km_up ν rs (.inr (7, [.ref d1, .int (nI 0), .int (nI 0), .int (nI 0)]))) d1 (.inl (g.2.2.1 0, (q - pp), .inl (fun j => sb ((sbs f pp (q - pp)) j))))) na (.inl (g.2.2.1 1, 3, .inl (fun j => nI ((va_up NN k v) j))))) ((km_n (km_apB (hO _ _ hs) fna)).trans ((km_n ne_a_d1).trans ((km_n ne_a_rs).trans (hO _ _ hs)))) ((km_n (km_apF hv hq1)).trans ((km_n ne_va_d1).trans ((km_n ne_va_rs).trans (hO _ _ hv)))) hf (by omega)) (cwV 0 hW (k_gV w_430 w_431 w_432 w_9 w_433) rfl rfl rfl (by decide +kernel) ⟨Nat.le_of_ble_eq_true rfl, Nat.le_of_ble_eq_true rfl⟩) (k_preV (q := (RST, TST, 4)) hM ((km_n (km_apB (hO _ _ hs) fna)).trans ((km_n ne_a_d1).trans ((km_n ne_a_rs).trans (hO _ _ hs)))) rfl) rfl rfl hl.1 rfl (lv_room (Nat.le_of_ble_eq_true rfl)) dMD_version_94 ⟨(show ((3 + 2 * k) + 2) + 0 ≤ 19 by omega), (show ((10 + 4 * k + pp) + (4 + (q - pp))) + 0 ≤ 442 by omega)⟩) hM (fun r μ1 H locs hp hM => ?_)
                obtain ⟨rfl, hmu⟩ := hp
                rw [hmu] at hM
                refine lv_icmp_ge (tgt := 110) hx hb dMD_version_97 (by decide) (fun h97 => ?_) (fun h97 => ?_)
                · have h97 := (nJ_ge_t (a := q) (b := n) (by omega) (by omega)).mp h97
                  refine lv_null hx hb dMD_version_110 ?_
                  refine W.widen (k := 19) (n := 442) (by omega) (by omega) ?_
                  exact kr_q (v := none) hx hb hr (Or.inl ⟨_, rfl⟩) hlocks hM dMD_version_111 (⟨(kOld_up (kOld_up (kOld_up hO (kOld_n hO hwa)) (kOld_n hO hwb)) hq1), Or.inl ⟨rfl, hV.trans (vRem_nodot (by omega) hvs (vDot_f (by first | (intro z; omega) | (intro z; exact h107 z.2))))⟩⟩)
                · have h97 := (nJ_ge_f (a := q) (b := n) (by omega) (by omega)).mp h97
                  refine lv_aload_n hx hb dMD_version_100 rfl (lv_at hl 1 rfl) ?_
                  refine lv_iload_n hx hb dMD_version_101 rfl (lv_at hl 0 rfl) ?_
                  refine kc_i (va_runV (C := RST) (As := [.int (nI q)]) (b := a) (rest := []) (Ts := Wd) ⟨hx, hb, hml, hown, hW⟩ (mST_charAt l g (km_up (km_up (km_up ν rs (.inr (7, [.ref d1, .int (nI 0), .int (nI 0), .int (nI 0)]))) d1 (.inl (g.2.2.1 0, (q - pp), .inl (fun j => sb ((sbs f pp (q - pp)) j))))) na (.inl (g.2.2.1 1, 3, .inl (fun j => nI ((va_up NN k v) j))))) ((km_n (km_apB (hO _ _ hs) fna)).trans ((km_n ne_a_d1).trans ((km_n ne_a_rs).trans (hO _ _ hs)))) ((km_n (km_apF hv hq1)).trans ((km_n ne_va_d1).trans ((km_n ne_va_rs).trans (hO _ _ hv)))) hf (by omega) (i := q) (by omega)) (cwV 1 hW (k_gV w_438 w_439 w_440 w_9 w_441) rfl rfl rfl (by decide +kernel) ⟨Nat.le_of_ble_eq_true rfl, Nat.le_of_ble_eq_true rfl⟩) (k_preV (q := (RST, TST, 4)) hM ((km_n (km_apB (hO _ _ hs) fna)).trans ((km_n ne_a_d1).trans ((km_n ne_a_rs).trans (hO _ _ hs)))) rfl) rfl rfl hl.1 rfl (lv_room (Nat.le_of_ble_eq_true rfl)) dMD_version_102 ⟨(show ((3 + 2 * k) + 2) + 0 ≤ 19 by omega), (show ((10 + 4 * k + pp) + (4 + (q - pp))) + 0 ≤ 442 by omega)⟩) hM (fun r μ1 H locs hp hM => ?_)
                  obtain ⟨rfl, hmu⟩ := hp
                  rw [hmu] at hM
                  have hb9 := hf q
                  refine lv_bipush (v := nI 46) hx hb dMD_version_105 (by decide) ?_
                  refine lv_icmp_eq (tgt := 112) hx hb dMD_version_107 (by decide) (fun h107 => ?_) (fun h107 => ?_)
                  · have h107 := (nJ_eq_t (a := f q) (b := 46) (by omega) (by omega)).mp h107
                    refine lv_iinc (v := nI (q + 1)) (lv' := [(3, .int (nI (q + 1))), (0, .ref a), (2, .ref vq), (4, .int (nI k)), (5, .int (nI q))]) (k := 0) hx hb dMD_version_112 hl rfl (ii1 q) (by decide) rfl (fun ls hl => ?_)
                    refine lv_iinc (v := nI (k + 1)) (lv' := [(4, .int (nI (k + 1))), (3, .int (nI (q + 1))), (0, .ref a), (2, .ref vq), (5, .int (nI q))]) (k := 3) hx hb dMD_version_115 hl rfl (ii1 k) (by decide) rfl (fun ls hl => ?_)
                    refine lv_goto (tgt := 13) hx hb dMD_version_118 (by decide) ?_
                    refine W.widen (k := 3 + 2 * (k + 1)) (n := 10 + 4 * (k + 1) + (q + 1)) (by omega) (by omega) ?_
                    exact ih (k + 1) (q + 1) (km_up (km_up (km_up ν rs (.inr (7, [.ref d1, .int (nI 0), .int (nI 0), .int (nI 0)]))) d1 (.inl (g.2.2.1 0, (q - pp), .inl (fun j => sb ((sbs f pp (q - pp)) j))))) na (.inl (g.2.2.1 1, 3, .inl (fun j => nI ((va_up NN k v) j))))) vq na ka (va_up NN k v) (by omega) (by first | assumption | omega | exact rfl) (by first | assumption | omega | exact rfl) (by exact hV.trans (vRem_dot (by omega) hvs (vDot_t ⟨by omega, h107⟩))) (by exact up_b hNb hvb) (by exact (kOld_up (kOld_up (kOld_up hO (kOld_n hO hwa)) (kOld_n hO hwb)) hq1)) (by first | assumption | omega | exact rfl) (by first | assumption | omega | exact rfl) (by first | assumption | omega | exact rfl) (by exact ((km_n (km_apB fv fna)).trans ((km_n ne_vq_d1).trans ((km_n ne_vq_rs).trans fv)))) (by exact (km_s _ _ _)) (by exact ((km_n (km_apN fka fna (by decide))).trans ((km_n ne_ka_d1).trans ((km_n ne_ka_rs).trans fka)))) ls H locs (lv_sub hl [2, 3, 1, 0] rfl) hM
                  · have h107 := (nJ_eq_f (a := f q) (b := 46) (by omega) (by omega)).mp h107
                    refine lv_null hx hb dMD_version_110 ?_
                    refine W.widen (k := 19) (n := 442) (by omega) (by omega) ?_
                    exact kr_q (v := none) hx hb hr (Or.inl ⟨_, rfl⟩) hlocks hM dMD_version_111 (⟨(kOld_up (kOld_up (kOld_up hO (kOld_n hO hwa)) (kOld_n hO hwb)) hq1), Or.inl ⟨rfl, hV.trans (vRem_nodot (by omega) hvs (vDot_f (by first | (intro z; omega) | (intro z; exact h107 z.2))))⟩⟩)
              · have h86 := (nJ_ne_f (a := k) (b := 2) (by omega) (by omega)).mp h86
                refine lv_goto (tgt := 121) hx hb dMD_version_89 (by decide) ?_
                refine W.widen (k := 9) (n := 22 + q) (by omega) (by omega) ?_
                exact cut121 q (km_up (km_up (km_up ν rs (.inr (7, [.ref d1, .int (nI 0), .int (nI 0), .int (nI 0)]))) d1 (.inl (g.2.2.1 0, (q - pp), .inl (fun j => sb ((sbs f pp (q - pp)) j))))) na (.inl (g.2.2.1 1, 3, .inl (fun j => nI ((va_up NN k v) j))))) vq na ka (va_up NN k v)  (by first | assumption | omega | exact rfl) (by exact hV.trans (vRem_fin2 h86 hvs)) (by have z := up_b hNb hvb; rw [h86] at z ⊢; exact z) (by exact (kOld_up (kOld_up (kOld_up hO (kOld_n hO hwa)) (kOld_n hO hwb)) hq1)) (by first | assumption | omega | exact rfl) (by first | assumption | omega | exact rfl) (by first | assumption | omega | exact rfl) (by exact ((km_n (km_apB fv fna)).trans ((km_n ne_vq_d1).trans ((km_n ne_vq_rs).trans fv)))) (by exact (km_s _ _ _)) (by exact ((km_n (km_apN fka fna (by decide))).trans ((km_n ne_ka_d1).trans ((km_n ne_ka_rs).trans fka)))) ls H locs (lv_sub hl [1, 2, 0] rfl) hM
            · have h75 := (nJ_ge_f (a := v) (b := 0) (by omega) (by omega)).mp h75
              exact absurd h75 (Nat.not_lt_zero _)
      have cut22 : ∀ (fu : Nat), ∀ (q : Nat), n - q < fu → pp ≤ q → q ≤ n → nD f pp (n - pp) = (q - pp) + nD f q (n - q) → ∀ (ls : Array Slot) (H : Heap) (locs : List Loc), lv_has ls 6 [(0, .ref a), (2, .ref vq), (3, .int (nI pp)), (4, .int (nI k)), (5, .int (nI q))] → kS g (ν) s H locs → W p l e ({ frames := 6, cells := 19, slots := 442, locals := 132 } : Room) s m [.ref a, .int (nI i)].toArray below meth c H locs (3 + 2 * k) (10 + 4 * k + pp) (MQ below (kQq g (fun (r : Option Nat) (μ1 : km_M) => kOld μ μ1 ∧ ((r = none ∧ vVer f i n = none) ∨ ∃ (vq na ka : Nat) (NN : Nat → Nat) (M : Nat → Option Nat) (sa sv : Nat → Nat) (F : Nat → Nat → Nat) (v : kVer), r = some vq ∧ vVer f i n = some v ∧ kMV g μ1 vq na ka NN M sa sv F v))) [.ref a, .int (nI i)].toArray s 19 442 (kF g)) (F0 m 22 ls []) := by
        intro fu
        induction fu with
        | zero => intro q hlt; exact absurd hlt (Nat.not_lt_zero _)
        | succ fu ih_22 =>
          intro q hlt hpq hqn hqd ls H locs hl hM
          refine lv_iload hx hb dMD_version_22 (lv_at hl 4 rfl) ?_
          refine lv_aload_n hx hb dMD_version_24 rfl (lv_at hl 0 rfl) ?_
          refine kc_i (va_runV (C := RST) (As := []) (b := a) (rest := [.int (nI q)]) (Ts := Wd) ⟨hx, hb, hml, hown, hW⟩ (mST_length l g ν (hO _ _ hs) (hO _ _ hv) hf (by omega)) (cwV 0 hW (k_gV w_430 w_431 w_432 w_9 w_433) rfl rfl rfl (by decide +kernel) ⟨Nat.le_of_ble_eq_true rfl, Nat.le_of_ble_eq_true rfl⟩) (k_preV (q := (RST, TST, 4)) hM (hO _ _ hs) rfl) rfl rfl hl.1 rfl (lv_room (Nat.le_of_ble_eq_true rfl)) dMD_version_25 ⟨(show (3 + 2 * k) + 0 ≤ 19 by omega), (show (10 + 4 * k + pp) + 0 ≤ 442 by omega)⟩) hM (fun r μ1 H locs hp hM => ?_)
          obtain ⟨rfl, hmu⟩ := hp
          rw [hmu] at hM
          refine lv_icmp_ge (tgt := 49) hx hb dMD_version_28 (by decide) (fun h28 => ?_) (fun h28 => ?_)
          · have h28 := (nJ_ge_t (a := q) (b := n) (by omega) (by omega)).mp h28
            exact cut49 q  (by first | assumption | omega | exact rfl) (by have z := nD_end (B := f) (i := q) (z := n) (by omega); omega) ls H locs (lv_sub hl [0, 1, 2, 3, 4] rfl) hM
          · have h28 := (nJ_ge_f (a := q) (b := n) (by omega) (by omega)).mp h28
            refine lv_aload_n hx hb dMD_version_31 rfl (lv_at hl 0 rfl) ?_
            refine lv_iload hx hb dMD_version_32 (lv_at hl 4 rfl) ?_
            refine kc_i (va_runV (C := RST) (As := [.int (nI q)]) (b := a) (rest := []) (Ts := Wd) ⟨hx, hb, hml, hown, hW⟩ (mST_charAt l g ν (hO _ _ hs) (hO _ _ hv) hf (by omega) (i := q) (by omega)) (cwV 1 hW (k_gV w_438 w_439 w_440 w_9 w_441) rfl rfl rfl (by decide +kernel) ⟨Nat.le_of_ble_eq_true rfl, Nat.le_of_ble_eq_true rfl⟩) (k_preV (q := (RST, TST, 4)) hM (hO _ _ hs) rfl) rfl rfl hl.1 rfl (lv_room (Nat.le_of_ble_eq_true rfl)) dMD_version_34 ⟨(show (3 + 2 * k) + 0 ≤ 19 by omega), (show (10 + 4 * k + pp) + 0 ≤ 442 by omega)⟩) hM (fun r μ1 H locs hp hM => ?_)
            obtain ⟨rfl, hmu⟩ := hp
            rw [hmu] at hM
            refine kc_i (va_runS (As := [.int (nI (f q))]) (rest := []) (Ts := Wd) ⟨hx, hb, hml, hown, hW⟩ (mMD_digit l g ν (x := f q) (hf _)) (va_cwS 1 hW (k_gS w_462 w_463 w_7 w_464) rfl rfl rfl (by decide +kernel) ⟨Nat.le_of_ble_eq_true rfl, Nat.le_of_ble_eq_true rfl⟩) (k_preS hM) rfl rfl hl.1 rfl (lv_room (Nat.le_of_ble_eq_true rfl)) dMD_version_37 ⟨(show (3 + 2 * k) + 0 ≤ 19 by omega), (show (10 + 4 * k + pp) + 0 ≤ 442 by omega)⟩) hM (fun r μ1 H locs hp hM => ?_)
            obtain ⟨rfl, hmu⟩ := hp
            rw [hmu] at hM
            refine lv_if_eq (tgt := 49) hx hb dMD_version_40 (by decide) (fun h40 => ?_) (fun h40 => ?_)
            · have h40 := bD_0.mp h40
              exact cut49 q  (by first | assumption | omega | exact rfl) (by have z := nD_stop (z := n) h28 h40; omega) ls H locs (lv_sub hl [0, 1, 2, 3, 4] rfl) hM
            · have h40 := bD_n.mp h40
              refine lv_iinc (v := nI (q + 1)) (lv' := [(5, .int (nI (q + 1))), (0, .ref a), (2, .ref vq), (3, .int (nI pp)), (4, .int (nI k))]) (k := 4) hx hb dMD_version_43 hl rfl (ii1 q) (by decide) rfl (fun ls hl => ?_)
              refine lv_goto (tgt := 22) hx hb dMD_version_46 (by decide) ?_
              exact ih_22 (q + 1) (by omega) (by first | assumption | omega | exact rfl) (by first | assumption | omega | exact rfl) (by have z := nD_step (z := n) h28 h40; omega) ls H locs (lv_sub hl [1, 2, 3, 4, 0] rfl) hM
      refine lv_iload hx hb dMD_version_13 (lv_at hl 3 rfl) ?_
      refine lv_iconst (v := nI 3) hx hb dMD_version_15 (by decide) ?_
      refine lv_icmp_ge (tgt := 121) hx hb dMD_version_16 (by decide) (fun h16 => ?_) (fun h16 => ?_)
      · have h16 := (nJ_ge_t (a := k) (b := 3) (by omega) (by omega)).mp h16
        exact absurd h16 (by omega)
      · have h16 := (nJ_ge_f (a := k) (b := 3) (by omega) (by omega)).mp h16
        refine lv_iload_n hx hb dMD_version_19 rfl (lv_at hl 2 rfl) ?_
        refine lv_istore (lv' := [(5, .int (nI pp)), (0, .ref a), (2, .ref vq), (3, .int (nI pp)), (4, .int (nI k))]) hx hb dMD_version_20 hl (by decide) rfl (fun ls hl => ?_)
        exact cut22 _ pp (Nat.lt_succ_self _) (by first | assumption | omega | exact rfl) (by first | assumption | omega | exact rfl) (by first | assumption | omega | exact rfl) ls H locs (lv_sub hl [1, 2, 3, 4, 0] rfl) hM
  refine k_new (own := RMD) (C := RMV) (T := TMV) (N := 3) (ci := 5) (fs := [.null, .null, .int (nI 0)]) hx hb hW inMV tyMV tyokMV hown (hW _ w_289) (hW _ w_412) (hW _ w_12) hM rfl (fun j hj => by rcases (show j = 0 ∨ j = 1 ∨ j = 2 by omega) with rfl | rfl | rfl <;> rfl) (show 0 + 1 ≤ 19 by omega) (show 0 + 3 ≤ 442 by omega) dMD_version_0 (fun q0 H hnq0 hM => ?_)
  have ne_a_q0 : a ≠ q0 := km_apF hs hnq0
  have ne_va_q0 : va ≠ q0 := km_apF hv hnq0
  have hM : kS g (km_up μ q0 (.inr (5, [.null, .null, .int (nI 0)]))) s H locs := hM
  refine W.widen (k := 1) (n := 3) (by omega) (by omega) ?_
  refine lv_dup hx hb dMD_version_3 rfl ?_
  refine kc_v (va_runIN (As := []) (b := q0) (rest := [.ref q0]) (Ts := Wd) ⟨hx, hb, hml, hown, hW⟩ (mMV_init l g (km_up μ q0 (.inr (5, [.null, .null, .int (nI 0)]))) (km_s _ _ _)) ⟨(va_cnB 0 hW (k_gC w_415) rfl rfl rfl (hM.2.1.2.1 _ n_413) (hW _ w_12) (by decide +kernel) ⟨Nat.le_of_ble_eq_true rfl, Nat.le_of_ble_eq_true rfl⟩), rfl, hW _ w_414⟩ (k_preS hM) rfl rfl hl.1 rfl (lv_room (Nat.le_of_ble_eq_true rfl)) dMD_version_4 ⟨(show 1 + 2 ≤ 19 by omega), (show 3 + 7 ≤ 442 by omega)⟩) hM (fun μ1 H locs hp hM => ?_)
  obtain ⟨na, ka, hwn, hwk, hkn, hmu⟩ := hp
  subst hmu
  refine W.widen (k := 3) (n := 10) (by omega) (by omega) ?_
  have ne_a_na : a ≠ na := km_apF ((km_n ne_a_q0).trans hs) hwn
  have ne_va_na : va ≠ na := km_apF ((km_n ne_va_q0).trans hv) hwn
  have ne_q0_na : q0 ≠ na := km_apF (km_s _ _ _) hwn
  have ne_a_ka : a ≠ ka := km_apF ((km_n ne_a_q0).trans hs) hwk
  have ne_va_ka : va ≠ ka := km_apF ((km_n ne_va_q0).trans hv) hwk
  have ne_q0_ka : q0 ≠ ka := km_apF (km_s _ _ _) hwk
  have hM : kS g (km_up (km_up (km_up (km_up μ q0 (.inr (5, [.null, .null, .int (nI 0)]))) na (.inl (g.2.2.1 1, 3, .inl (fun j => nI ((fun _ => 0) j))))) q0 (.inr (5, [.ref na, .ref ka, .int (nI 0)]))) ka (.inl (g.2.2.1 5, 4, .inr (.inr (.inr (.inr (fun _ => none))))))) s H locs := hM
  have hM : kS g (km_up (km_up (km_up μ q0 (.inr (5, [.ref na, .ref ka, .int (nI 0)]))) na (.inl (g.2.2.1 1, 3, .inl (fun j => nI ((fun _ => 0) j))))) ka (.inl (g.2.2.1 5, 4, .inr (.inr (.inr (.inr (fun _ => none))))))) s H locs := kS_eq (congrArg (fun z => km_up z ka (.inl (g.2.2.1 5, 4, .inr (.inr (.inr (.inr (fun _ => none))))))) (km_u2 _ _ _ _ ne_q0_na)) hM
  refine lv_astore_n (lv' := [(2, .ref q0), (0, .ref a), (1, .int (nI i))]) hx hb dMD_version_7 rfl hl (by decide) rfl (fun ls hl => ?_)
  refine lv_iload_n hx hb dMD_version_8 rfl (lv_at hl 2 rfl) ?_
  refine lv_istore_n (lv' := [(3, .int (nI i)), (2, .ref q0), (0, .ref a), (1, .int (nI i))]) hx hb dMD_version_9 rfl hl (by decide) rfl (fun ls hl => ?_)
  refine lv_iconst (v := nI 0) hx hb dMD_version_10 (by decide) ?_
  refine lv_istore (lv' := [(4, .int (nI 0)), (3, .int (nI i)), (2, .ref q0), (0, .ref a), (1, .int (nI i))]) hx hb dMD_version_11 hl (by decide) rfl (fun ls hl => ?_)
  refine W.widen (k := 3 + 2 * 0) (n := 10 + 4 * 0 + i) (by omega) (by omega) ?_
  exact cut13 _ 0 i (km_up (km_up (km_up μ q0 (.inr (5, [.ref na, .ref ka, .int (nI 0)]))) na (.inl (g.2.2.1 1, 3, .inl (fun j => nI ((fun _ => 0) j))))) ka (.inl (g.2.2.1 5, 4, .inr (.inr (.inr (.inr (fun _ => none))))))) q0 na ka (fun _ => 0) (Nat.lt_succ_self _) (by first | assumption | omega | exact rfl) (by first | assumption | omega | exact rfl) (by exact vVer_R0 f i n) (by exact fun j hj => absurd hj (Nat.not_lt_zero _)) (by exact (kOld_up (kOld_up (kOld_up (kOld_r μ) hnq0) (km_none hwn).2) (km_none hwk).2)) (by exact hnq0) (by exact (km_none hwn).2) (by exact (km_none hwk).2) (by exact ((km_n ne_q0_ka).trans ((km_n ne_q0_na).trans (km_s _ _ _)))) (by exact ((km_n (Ne.symm hkn)).trans (km_s _ _ _))) (by exact (km_s _ _ _)) ls H locs (lv_sub hl [3, 2, 1, 0] rfl) hM
