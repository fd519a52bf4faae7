set_option maxHeartbeats 800000 in
set_option maxRecDepth 100000 in
theorem mMD_readWords (l : Launch) (g : kG) (μ : km_M) {ma tp wd li tl ws at0 cnt : Nat} (hma : μ ma = some (.inr (4, [.ref tp, .int (nI tl), .ref wd, .int (nI ws), .int (nI at0), .ref li, .int (nI cnt)]))) {B : Nat → Nat} (hB : ∀ k, B k < 256) (htp : μ tp = some (.inl (g.2.2.1 3, 400, .inl (fun j => nI (B j))))) {M0 : Nat → Option Nat} (hwd : μ wd = some (.inl (g.2.2.1 5, 400, .inr (.inr (.inr (.inr M0)))))) (htl : tl ≤ 400) : Met l yMD_readWords (Cond.code yMD_readWords cMD_readWords 3 none :: Wd) ({ frames := 4, cells := 400, slots := 1200, locals := 99 } : Room) (kPre g μ [.ref ma]) (kQv g (fun (μ1 : km_M) => ∃ (w : Nat) (S1 E1 sa va : Nat → Nat) (M : Nat → Option Nat) (h : Nat → Nat → Nat), spl B (fun _ => 0) (fun _ => 0) tl = (w, S1, E1) ∧ μ1 ma = some (.inr (4, [.ref tp, .int (nI 0), .ref wd, .int (nI w), .int (nI 0), .ref li, .int (nI cnt)])) ∧ μ1 wd = some (.inl (g.2.2.1 5, 400, .inr (.inr (.inr (.inr M))))) ∧ kWD g μ μ1 ma wd M sa va h B S1 E1 w)) 400 1200 (kF g) := by
  refine k_met (by decide) (Nat.le_of_ble_eq_true rfl) ?_
  intro p e s m below meth c hx hb hr hlocks hml hown hnm hW ls hl H locs hM
  have hl : lv_has ls 3 [(0, .ref ma)] := hl
  have ntw : tp ≠ wd := km_ap htp hwd (fun z => by simp at z)
  have cut12 : ∀ (fu : Nat), ∀ (pp : Nat) (w : Nat) (S1 : Nat → Nat) (E1 : Nat → Nat) (ν : km_M) (M : Nat → Option Nat) (sa : Nat → Nat) (va : Nat → Nat) (h : Nat → Nat → Nat), tl - pp < fu → pp ≤ tl → spl B (fun _ => 0) (fun _ => 0) pp = (w, S1, E1) → pp = 0 ∨ B (pp - 1) = 32 ∨ pp = tl ∨ B pp = 32 → 2 * w ≤ pp + 1 → ν ma = some (.inr (4, [.ref tp, .int (nI tl), .ref wd, .int (nI w), .int (nI 0), .ref li, .int (nI cnt)])) → ν tp = some (.inl (g.2.2.1 3, 400, .inl (fun j => nI (B j)))) → ν wd = some (.inl (g.2.2.1 5, 400, .inr (.inr (.inr (.inr M))))) → kWD g μ ν ma wd M sa va h B S1 E1 w → ∀ (ls : Array Slot) (H : Heap) (locs : List Loc), lv_has ls 3 [(0, .ref ma), (1, .int (nI pp))] → kS g (ν) s H locs → W p l e ({ frames := 4, cells := 400, slots := 1200, locals := 99 } : Room) s m [.ref ma].toArray below meth c H locs (2 * w) (4 * w + pp) (MQ below (kQv g (fun (μ1 : km_M) => ∃ (w : Nat) (S1 E1 sa va : Nat → Nat) (M : Nat → Option Nat) (h : Nat → Nat → Nat), spl B (fun _ => 0) (fun _ => 0) tl = (w, S1, E1) ∧ μ1 ma = some (.inr (4, [.ref tp, .int (nI 0), .ref wd, .int (nI w), .int (nI 0), .ref li, .int (nI cnt)])) ∧ μ1 wd = some (.inl (g.2.2.1 5, 400, .inr (.inr (.inr (.inr M))))) ∧ kWD g μ μ1 ma wd M sa va h B S1 E1 w)) [.ref ma].toArray s 400 1200 (kF g)) (F0 m 12 ls []) := by
    intro fu
    induction fu with
    | zero => intro pp w S1 E1 ν M sa va h hlt; exact absurd hlt (Nat.not_lt_zero _)
    | succ fu ih =>
      intro pp w S1 E1 ν M sa va h hlt hp he hst hw fm ft fw hI ls H locs hl hM
      have cut39 : ∀ (fu : Nat), ∀ (q : Nat), tl - q < fu → pp ≤ q → q ≤ tl → pp < tl → B pp ≠ 32 → pp = 0 ∨ B (pp - 1) = 32 → 2 * w ≤ pp → (∀ j, pp + j < q → B (pp + j) ≠ 32) → ∀ (ls : Array Slot) (H : Heap) (locs : List Loc), lv_has ls 3 [(0, .ref ma), (1, .int (nI q)), (2, .int (nI pp))] → kS g (ν) s H locs → W p l e ({ frames := 4, cells := 400, slots := 1200, locals := 99 } : Room) s m [.ref ma].toArray below meth c H locs (2 * w) (4 * w + pp) (MQ below (kQv g (fun (μ1 : km_M) => ∃ (w : Nat) (S1 E1 sa va : Nat → Nat) (M : Nat → Option Nat) (h : Nat → Nat → Nat), spl B (fun _ => 0) (fun _ => 0) tl = (w, S1, E1) ∧ μ1 ma = some (.inr (4, [.ref tp, .int (nI 0), .ref wd, .int (nI w), .int (nI 0), .ref li, .int (nI cnt)])) ∧ μ1 wd = some (.inl (g.2.2.1 5, 400, .inr (.inr (.inr (.inr M))))) ∧ kWD g μ μ1 ma wd M sa va h B S1 E1 w)) [.ref ma].toArray s 400 1200 (kF g)) (F0 m 39 ls []) := by
        intro fu
        induction fu with
        | zero => intro q hlt; exact absurd hlt (Nat.not_lt_zero _)
        | succ fu ih_39 =>
          intro q hlt hq hq2 hpl hb32 hst2 hw2 hns ls H locs hl hM
          refine lv_iload_n hx hb dMD_readWords_39 rfl (lv_at hl 1 rfl) ?_
          refine lv_aload_n hx hb dMD_readWords_40 rfl (lv_at hl 0 rfl) ?_
          refine k_get (own := RMD) (ref := RMD) (C := RMD) (T := TMD) (N := 7) (ci := 4) (v := .int (nI tl)) hx hb hW inMD hown hM fm rfl 1 (by decide) (hW _ w_292) (fun _ h => h) rfl dMD_readWords_41 ?_
          refine lv_icmp_ge (tgt := 64) hx hb dMD_readWords_44 (by decide) (fun h44 => ?_) (fun h44 => ?_)
          · have h44 := (nJ_ge_t (a := q) (b := tl) (by omega) (by omega)).mp h44
            refine lv_aload_n hx hb dMD_readWords_64 rfl (lv_at hl 0 rfl) ?_
            refine k_get (own := RMD) (ref := RMD) (C := RMD) (T := TMD) (N := 7) (ci := 4) (v := .ref wd) hx hb hW inMD hown hM fm rfl 2 (by decide) (hW _ w_293) (fun _ h => h) rfl dMD_readWords_65 ?_
            refine lv_aload_n hx hb dMD_readWords_68 rfl (lv_at hl 0 rfl) ?_
            refine k_get (own := RMD) (ref := RMD) (C := RMD) (T := TMD) (N := 7) (ci := 4) (v := .int (nI w)) hx hb hW inMD hown hM fm rfl 3 (by decide) (hW _ w_294) (fun _ h => h) rfl dMD_readWords_69 ?_
            refine k_new (own := RMD) (C := RST) (T := TST) (N := 4) (ci := 7) (fs := [.null, .int (nI 0), .int (nI 0), .int (nI 0)]) hx hb hW inST tyST tyokST hown (hW _ w_287) (hW _ w_334) (hW _ w_9) hM rfl (fun j hj => by rcases (show j = 0 ∨ j = 1 ∨ j = 2 ∨ j = 3 by omega) with rfl | rfl | rfl | rfl <;> rfl) (show (2 * w) + 1 ≤ 400 by omega) (show (4 * w + pp) + 4 ≤ 1200 by omega) dMD_readWords_72 (fun q72 H hnq72 hM => ?_)
            have ne_ma_q72 : ma ≠ q72 := km_apF fm hnq72
            have ne_tp_q72 : tp ≠ q72 := km_apF ft hnq72
            have ne_wd_q72 : wd ≠ q72 := km_apF fw hnq72
            have hM : kS g (km_up ν q72 (.inr (7, [.null, .int (nI 0), .int (nI 0), .int (nI 0)]))) s H locs := hM
            refine W.widen (k := (2 * w) + 1) (n := (4 * w + pp) + 4) (by omega) (by omega) ?_
            refine lv_dup hx hb dMD_readWords_75 rfl ?_
            refine lv_aload_n hx hb dMD_readWords_76 rfl (lv_at hl 0 rfl) ?_
            refine k_get (own := RMD) (ref := RMD) (C := RMD) (T := TMD) (N := 7) (ci := 4) (v := .ref tp) hx hb hW inMD hown hM ((km_n ne_ma_q72).trans fm) rfl 0 (by decide) (hW _ w_291) (fun _ h => h) rfl dMD_readWords_77 ?_
            refine lv_iload_n hx hb dMD_readWords_80 rfl (lv_at hl 2 rfl) ?_
            refine lv_iload_n hx hb dMD_readWords_81 rfl (lv_at hl 1 rfl) ?_
            refine lv_iload_n hx hb dMD_readWords_82 rfl (lv_at hl 2 rfl) ?_
            refine lv_isub hx hb dMD_readWords_83 ?_
            refine topi_eq (y := nI (q - pp)) (pk_sub (a := q) (b := pp) (by omega)) ?_
            refine kc_v (va_runI (As := [.ref tp, .int (nI pp), .int (nI (q - pp))]) (b := q72) (rest := [.ref q72, .int (nI w), .ref wd]) (Ts := Wd) ⟨hx, hb, hml, hown, hW⟩ (mST_init l g (km_up ν q72 (.inr (7, [.null, .int (nI 0), .int (nI 0), .int (nI 0)]))) ((km_n ne_tp_q72).trans ft) hB (by omega) (i := pp) (k := q - pp) (by omega) (by omega) (km_s _ _ _)) (cwI 3 hW (k_gC w_337) rfl rfl rfl (hW _ w_9) (hW _ w_335) (hW _ w_336) rfl (by decide +kernel) ⟨Nat.le_of_ble_eq_true rfl, Nat.le_of_ble_eq_true rfl⟩) (k_preS hM) rfl rfl hl.1 rfl (lv_room (Nat.le_of_ble_eq_true rfl)) dMD_readWords_84 ⟨(show ((2 * w) + 1) + 1 ≤ 400 by omega), (show ((4 * w + pp) + 4) + (q - pp) ≤ 1200 by omega)⟩) hM (fun μ1 H locs hp hM => ?_)
            obtain ⟨vb, hh, hwv, hmu, hhe, hhl⟩ := hp
            rw [hmu] at hM
            refine W.widen (k := (2 * w) + 2) (n := ((4 * w + pp) + 4) + (q - pp)) (by omega) (by omega) ?_
            have ne_ma_vb : ma ≠ vb := km_apF ((km_n ne_ma_q72).trans fm) hwv
            have ne_tp_vb : tp ≠ vb := km_apF ((km_n ne_tp_q72).trans ft) hwv
            have ne_wd_vb : wd ≠ vb := km_apF ((km_n ne_wd_q72).trans fw) hwv
            have ne_q72_vb : q72 ≠ vb := km_apF (km_s _ _ _) hwv
            have hM : kS g (km_up (km_up (km_up ν q72 (.inr (7, [.null, .int (nI 0), .int (nI 0), .int (nI 0)]))) vb (.inl (g.2.2.1 0, (q - pp), .inl (fun j => sb (hh j))))) q72 (.inr (7, [.ref vb, .int (nI 0), .int (nI 0), .int (nI 0)]))) s H locs := hM
            have hM : kS g (km_up (km_up ν q72 (.inr (7, [.ref vb, .int (nI 0), .int (nI 0), .int (nI 0)]))) vb (.inl (g.2.2.1 0, (q - pp), .inl (fun j => sb (hh j))))) s H locs := kS_eq (km_u2 _ _ _ _ ne_q72_vb) hM
            refine k_aast (i := w) (f1 := va_up M w (some q72)) hx hb hM 5 7 ((km_n ne_wd_vb).trans ((km_n ne_wd_q72).trans fw)) rfl ((km_n ne_q72_vb).trans (km_s _ _ _)) rfl (by omega) (by omega) rfl dMD_readWords_87 (fun H locs hM => ?_)
            have hM : kS g (km_up (km_up (km_up ν q72 (.inr (7, [.ref vb, .int (nI 0), .int (nI 0), .int (nI 0)]))) vb (.inl (g.2.2.1 0, (q - pp), .inl (fun j => sb (hh j))))) wd (.inl (g.2.2.1 5, 400, .inr (.inr (.inr (.inr (va_up M w (some q72)))))))) s H locs := hM
            refine lv_aload_n hx hb dMD_readWords_88 rfl (lv_at hl 0 rfl) ?_
            refine lv_dup hx hb dMD_readWords_89 rfl ?_
            refine k_get (own := RMD) (ref := RMD) (C := RMD) (T := TMD) (N := 7) (ci := 4) (v := .int (nI w)) hx hb hW inMD hown hM ((km_n (km_apB fm fw)).trans ((km_n ne_ma_vb).trans ((km_n ne_ma_q72).trans fm))) rfl 3 (by decide) (hW _ w_294) (fun _ h => h) rfl dMD_readWords_90 ?_
            refine lv_iconst (v := nI 1) hx hb dMD_readWords_93 (by decide) ?_
            refine lv_iadd hx hb dMD_readWords_94 ?_
            refine topi_eq (y := nI (w + 1)) (nI_add w 1) ?_
            refine k_put (own := RMD) (ref := RMD) (C := RMD) (T := TMD) (N := 7) (ci := 4) (v := .int (nI (w + 1))) (ty := .int) (fs' := [.ref tp, .int (nI tl), .ref wd, .int (nI (w + 1)), .int (nI 0), .ref li, .int (nI cnt)]) hx hb hW inMD tyMD tyokMD nmokMD hown hM ((km_n (km_apB fm fw)).trans ((km_n ne_ma_vb).trans ((km_n ne_ma_q72).trans fm))) rfl 3 (by decide) (hW _ w_294) (fun _ h => h) rfl (by decide +kernel) rfl rfl (Nat.le_of_ble_eq_true rfl) dMD_readWords_95 rfl (fun H locs hM => ?_)
            have hM : kS g (km_up (km_up (km_up (km_up ν q72 (.inr (7, [.ref vb, .int (nI 0), .int (nI 0), .int (nI 0)]))) vb (.inl (g.2.2.1 0, (q - pp), .inl (fun j => sb (hh j))))) wd (.inl (g.2.2.1 5, 400, .inr (.inr (.inr (.inr (va_up M w (some q72)))))))) ma (.inr (4, [.ref tp, .int (nI tl), .ref wd, .int (nI (w + 1)), .int (nI 0), .ref li, .int (nI cnt)]))) s H locs := hM
            refine lv_goto (tgt := 12) hx hb dMD_readWords_98 (by decide) ?_
            refine W.widen (k := 2 * (w + 1)) (n := 4 * (w + 1) + q) (by omega) (by omega) ?_
            exact ih q (w + 1) (va_up S1 w pp) (va_up E1 w q) (km_up (km_up (km_up (km_up ν q72 (.inr (7, [.ref vb, .int (nI 0), .int (nI 0), .int (nI 0)]))) vb (.inl (g.2.2.1 0, (q - pp), .inl (fun j => sb (hh j))))) wd (.inl (g.2.2.1 5, 400, .inr (.inr (.inr (.inr (va_up M w (some q72)))))))) ma (.inr (4, [.ref tp, .int (nI tl), .ref wd, .int (nI (w + 1)), .int (nI 0), .ref li, .int (nI cnt)]))) (va_up M w (some q72)) (va_up sa w q72) (va_up va w vb) (va_up h w hh) (by omega) (by first | assumption | omega | exact rfl) (by exact spl_run2 he hst2 hns (by omega)) (by first | exact Or.inr (Or.inr (Or.inl (by omega))) | exact Or.inr (Or.inr (Or.inr h55))) (by first | assumption | omega | exact rfl) (by exact (km_s _ _ _)) (by exact ((km_n (km_apA ft fm)).trans ((km_n ntw).trans ((km_n ne_tp_vb).trans ((km_n ne_tp_q72).trans ft))))) (by exact ((km_n (km_apA fw fm)).trans (km_s _ _ _))) (by exact kWD_step hI hma hwd (km_s _ _ _) ((km_n (km_apA fw fm)).trans (km_s _ _ _)) hnq72 (km_none hwv).2 (fun x n1 n2 n3 n4 => by simp only [km_n n1, km_n n2, km_n n3, km_n n4]) ((km_n (Ne.symm ne_ma_q72)).trans ((km_n (Ne.symm ne_wd_q72)).trans ((km_n ne_q72_vb).trans (km_s _ _ _)))) ((km_n (Ne.symm ne_ma_vb)).trans ((km_n (Ne.symm ne_wd_vb)).trans (km_s _ _ _))) hhe hhl) ls H locs (lv_sub hl [0, 1] rfl) hM
          · have h44 := (nJ_ge_f (a := q) (b := tl) (by omega) (by omega)).mp h44
            refine lv_aload_n hx hb dMD_readWords_47 rfl (lv_at hl 0 rfl) ?_
            refine k_get (own := RMD) (ref := RMD) (C := RMD) (T := TMD) (N := 7) (ci := 4) (v := .ref tp) hx hb hW inMD hown hM fm rfl 0 (by decide) (hW _ w_291) (fun _ h => h) rfl dMD_readWords_48 ?_
            refine lv_iload_n hx hb dMD_readWords_51 rfl (lv_at hl 1 rfl) ?_
            have hc9 := hB q
            refine k_cald (i := q) hx hb hM 3 ft rfl (by omega) (by omega) dMD_readWords_52 ?_
            refine lv_bipush (v := nI 32) hx hb dMD_readWords_53 (by decide) ?_
            refine lv_icmp_eq (tgt := 64) hx hb dMD_readWords_55 (by decide) (fun h55 => ?_) (fun h55 => ?_)
            · have h55 := (nJ_eq_t (a := B q) (b := 32) (by omega) (by omega)).mp h55
              have hqp : q ≠ pp := fun z => hb32 (by rw [← z]; exact h55)
              refine lv_aload_n hx hb dMD_readWords_64 rfl (lv_at hl 0 rfl) ?_
              refine k_get (own := RMD) (ref := RMD) (C := RMD) (T := TMD) (N := 7) (ci := 4) (v := .ref wd) hx hb hW inMD hown hM fm rfl 2 (by decide) (hW _ w_293) (fun _ h => h) rfl dMD_readWords_65 ?_
              refine lv_aload_n hx hb dMD_readWords_68 rfl (lv_at hl 0 rfl) ?_
              refine k_get (own := RMD) (ref := RMD) (C := RMD) (T := TMD) (N := 7) (ci := 4) (v := .int (nI w)) hx hb hW inMD hown hM fm rfl 3 (by decide) (hW _ w_294) (fun _ h => h) rfl dMD_readWords_69 ?_
              refine k_new (own := RMD) (C := RST) (T := TST) (N := 4) (ci := 7) (fs := [.null, .int (nI 0), .int (nI 0), .int (nI 0)]) hx hb hW inST tyST tyokST hown (hW _ w_287) (hW _ w_334) (hW _ w_9) hM rfl (fun j hj => by rcases (show j = 0 ∨ j = 1 ∨ j = 2 ∨ j = 3 by omega) with rfl | rfl | rfl | rfl <;> rfl) (show (2 * w) + 1 ≤ 400 by omega) (show (4 * w + pp) + 4 ≤ 1200 by omega) dMD_readWords_72 (fun q72 H hnq72 hM => ?_)
              have ne_ma_q72 : ma ≠ q72 := km_apF fm hnq72
              have ne_tp_q72 : tp ≠ q72 := km_apF ft hnq72
              have ne_wd_q72 : wd ≠ q72 := km_apF fw hnq72
              have hM : kS g (km_up ν q72 (.inr (7, [.null, .int (nI 0), .int (nI 0), .int (nI 0)]))) s H locs := hM
              refine W.widen (k := (2 * w) + 1) (n := (4 * w + pp) + 4) (by omega) (by omega) ?_
              refine lv_dup hx hb dMD_readWords_75 rfl ?_
              refine lv_aload_n hx hb dMD_readWords_76 rfl (lv_at hl 0 rfl) ?_
              refine k_get (own := RMD) (ref := RMD) (C := RMD) (T := TMD) (N := 7) (ci := 4) (v := .ref tp) hx hb hW inMD hown hM ((km_n ne_ma_q72).trans fm) rfl 0 (by decide) (hW _ w_291) (fun _ h => h) rfl dMD_readWords_77 ?_
              refine lv_iload_n hx hb dMD_readWords_80 rfl (lv_at hl 2 rfl) ?_
              refine lv_iload_n hx hb dMD_readWords_81 rfl (lv_at hl 1 rfl) ?_
              refine lv_iload_n hx hb dMD_readWords_82 rfl (lv_at hl 2 rfl) ?_
              refine lv_isub hx hb dMD_readWords_83 ?_
              refine topi_eq (y := nI (q - pp)) (pk_sub (a := q) (b := pp) (by omega)) ?_
              refine kc_v (va_runI (As := [.ref tp, .int (nI pp), .int (nI (q - pp))]) (b := q72) (rest := [.ref q72, .int (nI w), .ref wd]) (Ts := Wd) ⟨hx, hb, hml, hown, hW⟩ (mST_init l g (km_up ν q72 (.inr (7, [.null, .int (nI 0), .int (nI 0), .int (nI 0)]))) ((km_n ne_tp_q72).trans ft) hB (by omega) (i := pp) (k := q - pp) (by omega) (by omega) (km_s _ _ _)) (cwI 3 hW (k_gC w_337) rfl rfl rfl (hW _ w_9) (hW _ w_335) (hW _ w_336) rfl (by decide +kernel) ⟨Nat.le_of_ble_eq_true rfl, Nat.le_of_ble_eq_true rfl⟩) (k_preS hM) rfl rfl hl.1 rfl (lv_room (Nat.le_of_ble_eq_true rfl)) dMD_readWords_84 ⟨(show ((2 * w) + 1) + 1 ≤ 400 by omega), (show ((4 * w + pp) + 4) + (q - pp) ≤ 1200 by omega)⟩) hM (fun μ1 H locs hp hM => ?_)
              obtain ⟨vb, hh, hwv, hmu, hhe, hhl⟩ := hp
              rw [hmu] at hM
              refine W.widen (k := (2 * w) + 2) (n := ((4 * w + pp) + 4) + (q - pp)) (by omega) (by omega) ?_
              have ne_ma_vb : ma ≠ vb := km_apF ((km_n ne_ma_q72).trans fm) hwv
              have ne_tp_vb : tp ≠ vb := km_apF ((km_n ne_tp_q72).trans ft) hwv
              have ne_wd_vb : wd ≠ vb := km_apF ((km_n ne_wd_q72).trans fw) hwv
              have ne_q72_vb : q72 ≠ vb := km_apF (km_s _ _ _) hwv
              have hM : kS g (km_up (km_up (km_up ν q72 (.inr (7, [.null, .int (nI 0), .int (nI 0), .int (nI 0)]))) vb (.inl (g.2.2.1 0, (q - pp), .inl (fun j => sb (hh j))))) q72 (.inr (7, [.ref vb, .int (nI 0), .int (nI 0), .int (nI 0)]))) s H locs := hM
              have hM : kS g (km_up (km_up ν q72 (.inr (7, [.ref vb, .int (nI 0), .int (nI 0), .int (nI 0)]))) vb (.inl (g.2.2.1 0, (q - pp), .inl (fun j => sb (hh j))))) s H locs := kS_eq (km_u2 _ _ _ _ ne_q72_vb) hM
              refine k_aast (i := w) (f1 := va_up M w (some q72)) hx hb hM 5 7 ((km_n ne_wd_vb).trans ((km_n ne_wd_q72).trans fw)) rfl ((km_n ne_q72_vb).trans (km_s _ _ _)) rfl (by omega) (by omega) rfl dMD_readWords_87 (fun H locs hM => ?_)
              have hM : kS g (km_up (km_up (km_up ν q72 (.inr (7, [.ref vb, .int (nI 0), .int (nI 0), .int (nI 0)]))) vb (.inl (g.2.2.1 0, (q - pp), .inl (fun j => sb (hh j))))) wd (.inl (g.2.2.1 5, 400, .inr (.inr (.inr (.inr (va_up M w (some q72)))))))) s H locs := hM
              refine lv_aload_n hx hb dMD_readWords_88 rfl (lv_at hl 0 rfl) ?_
              refine lv_dup hx hb dMD_readWords_89 rfl ?_
              refine k_get (own := RMD) (ref := RMD) (C := RMD) (T := TMD) (N := 7) (ci := 4) (v := .int (nI w)) hx hb hW inMD hown hM ((km_n (km_apB fm fw)).trans ((km_n ne_ma_vb).trans ((km_n ne_ma_q72).trans fm))) rfl 3 (by decide) (hW _ w_294) (fun _ h => h) rfl dMD_readWords_90 ?_
              refine lv_iconst (v := nI 1) hx hb dMD_readWords_93 (by decide) ?_
              refine lv_iadd hx hb dMD_readWords_94 ?_
              refine topi_eq (y := nI (w + 1)) (nI_add w 1) ?_
              refine k_put (own := RMD) (ref := RMD) (C := RMD) (T := TMD) (N := 7) (ci := 4) (v := .int (nI (w + 1))) (ty := .int) (fs' := [.ref tp, .int (nI tl), .ref wd, .int (nI (w + 1)), .int (nI 0), .ref li, .int (nI cnt)]) hx hb hW inMD tyMD tyokMD nmokMD hown hM ((km_n (km_apB fm fw)).trans ((km_n ne_ma_vb).trans ((km_n ne_ma_q72).trans fm))) rfl 3 (by decide) (hW _ w_294) (fun _ h => h) rfl (by decide +kernel) rfl rfl (Nat.le_of_ble_eq_true rfl) dMD_readWords_95 rfl (fun H locs hM => ?_)
              have hM : kS g (km_up (km_up (km_up (km_up ν q72 (.inr (7, [.ref vb, .int (nI 0), .int (nI 0), .int (nI 0)]))) vb (.inl (g.2.2.1 0, (q - pp), .inl (fun j => sb (hh j))))) wd (.inl (g.2.2.1 5, 400, .inr (.inr (.inr (.inr (va_up M w (some q72)))))))) ma (.inr (4, [.ref tp, .int (nI tl), .ref wd, .int (nI (w + 1)), .int (nI 0), .ref li, .int (nI cnt)]))) s H locs := hM
              refine lv_goto (tgt := 12) hx hb dMD_readWords_98 (by decide) ?_
              refine W.widen (k := 2 * (w + 1)) (n := 4 * (w + 1) + q) (by omega) (by omega) ?_
              exact ih q (w + 1) (va_up S1 w pp) (va_up E1 w q) (km_up (km_up (km_up (km_up ν q72 (.inr (7, [.ref vb, .int (nI 0), .int (nI 0), .int (nI 0)]))) vb (.inl (g.2.2.1 0, (q - pp), .inl (fun j => sb (hh j))))) wd (.inl (g.2.2.1 5, 400, .inr (.inr (.inr (.inr (va_up M w (some q72)))))))) ma (.inr (4, [.ref tp, .int (nI tl), .ref wd, .int (nI (w + 1)), .int (nI 0), .ref li, .int (nI cnt)]))) (va_up M w (some q72)) (va_up sa w q72) (va_up va w vb) (va_up h w hh) (by omega) (by first | assumption | omega | exact rfl) (by exact spl_run2 he hst2 hns (by omega)) (by first | exact Or.inr (Or.inr (Or.inl (by omega))) | exact Or.inr (Or.inr (Or.inr h55))) (by first | assumption | omega | exact rfl) (by exact (km_s _ _ _)) (by exact ((km_n (km_apA ft fm)).trans ((km_n ntw).trans ((km_n ne_tp_vb).trans ((km_n ne_tp_q72).trans ft))))) (by exact ((km_n (km_apA fw fm)).trans (km_s _ _ _))) (by exact kWD_step hI hma hwd (km_s _ _ _) ((km_n (km_apA fw fm)).trans (km_s _ _ _)) hnq72 (km_none hwv).2 (fun x n1 n2 n3 n4 => by simp only [km_n n1, km_n n2, km_n n3, km_n n4]) ((km_n (Ne.symm ne_ma_q72)).trans ((km_n (Ne.symm ne_wd_q72)).trans ((km_n ne_q72_vb).trans (km_s _ _ _)))) ((km_n (Ne.symm ne_ma_vb)).trans ((km_n (Ne.symm ne_wd_vb)).trans (km_s _ _ _))) hhe hhl) ls H locs (lv_sub hl [0, 1] rfl) hM
            · have h55 := (nJ_eq_f (a := B q) (b := 32) (by omega) (by omega)).mp h55
              refine lv_iinc (v := nI (q + 1)) (lv' := [(1, .int (nI (q + 1))), (0, .ref ma), (2, .int (nI pp))]) (k := 1) hx hb dMD_readWords_58 hl rfl (ii1 q) (by decide) rfl (fun ls hl => ?_)
              refine lv_goto (tgt := 39) hx hb dMD_readWords_61 (by decide) ?_
              exact ih_39 (q + 1) (by omega) (by first | assumption | omega | exact rfl) (by first | assumption | omega | exact rfl) (by first | assumption | omega | exact rfl) (by first | assumption | omega | exact rfl) (by first | assumption | omega | exact rfl) (by first | assumption | omega | exact rfl) (by exact ns_up hns h55) ls H locs (lv_sub hl [1, 0, 2] rfl) hM
      refine lv_iload_n hx hb dMD_readWords_12 rfl (lv_at hl 1 rfl) ?_
      refine lv_aload_n hx hb dMD_readWords_13 rfl (lv_at hl 0 rfl) ?_
      refine k_get (own := RMD) (ref := RMD) (C := RMD) (T := TMD) (N := 7) (ci := 4) (v := .int (nI tl)) hx hb hW inMD hown hM fm rfl 1 (by decide) (hW _ w_292) (fun _ h => h) rfl dMD_readWords_14 ?_
      refine lv_icmp_ge (tgt := 101) hx hb dMD_readWords_17 (by decide) (fun h17 => ?_) (fun h17 => ?_)
      · have h17 := (nJ_ge_t (a := pp) (b := tl) (by omega) (by omega)).mp h17
        refine lv_aload_n hx hb dMD_readWords_101 rfl (lv_at hl 0 rfl) ?_
        refine lv_iconst (v := nI 0) hx hb dMD_readWords_102 (by decide) ?_
        refine k_put (own := RMD) (ref := RMD) (C := RMD) (T := TMD) (N := 7) (ci := 4) (v := .int (nI 0)) (ty := .int) (fs' := [.ref tp, .int (nI 0), .ref wd, .int (nI w), .int (nI 0), .ref li, .int (nI cnt)]) hx hb hW inMD tyMD tyokMD nmokMD hown hM fm rfl 1 (by decide) (hW _ w_292) (fun _ h => h) rfl (by decide +kernel) rfl rfl (Nat.le_of_ble_eq_true rfl) dMD_readWords_103 rfl (fun H locs hM => ?_)
        have hM : kS g (km_up ν ma (.inr (4, [.ref tp, .int (nI 0), .ref wd, .int (nI w), .int (nI 0), .ref li, .int (nI cnt)]))) s H locs := hM
        refine W.widen (k := 400) (n := 1200) (by omega) (by omega) ?_
        exact kr_v hx hb hr hlocks hM dMD_readWords_106 (⟨w, S1, E1, sa, va, M, h, by rw [show tl = pp by omega]; exact he, (km_s _ _ _), ((km_n (km_apA fw fm)).trans fw), kWD_ma hI hma⟩)
      · have h17 := (nJ_ge_f (a := pp) (b := tl) (by omega) (by omega)).mp h17
        refine lv_aload_n hx hb dMD_readWords_20 rfl (lv_at hl 0 rfl) ?_
        refine k_get (own := RMD) (ref := RMD) (C := RMD) (T := TMD) (N := 7) (ci := 4) (v := .ref tp) hx hb hW inMD hown hM fm rfl 0 (by decide) (hW _ w_291) (fun _ h => h) rfl dMD_readWords_21 ?_
        refine lv_iload_n hx hb dMD_readWords_24 rfl (lv_at hl 1 rfl) ?_
        have hc9 := hB pp
        refine k_cald (i := pp) hx hb hM 3 ft rfl (by omega) (by omega) dMD_readWords_25 ?_
        refine lv_bipush (v := nI 32) hx hb dMD_readWords_26 (by decide) ?_
        refine lv_icmp_ne (tgt := 37) hx hb dMD_readWords_28 (by decide) (fun h28 => ?_) (fun h28 => ?_)
        · have h28 := (nJ_ne_t (a := B pp) (b := 32) (by omega) (by omega)).mp h28
          refine lv_iload_n hx hb dMD_readWords_37 rfl (lv_at hl 1 rfl) ?_
          refine lv_istore_n (lv' := [(2, .int (nI pp)), (0, .ref ma), (1, .int (nI pp))]) hx hb dMD_readWords_38 rfl hl (by decide) rfl (fun ls hl => ?_)
          exact cut39 _ pp (Nat.lt_succ_self _) (by first | assumption | omega | exact rfl) (by first | assumption | omega | exact rfl) (by first | assumption | omega | exact rfl) (by first | assumption | omega | exact rfl) (by omega) (by have z := (spl_b B (fun _ => 0) (fun _ => 0) pp).2.1 (by omega); rw [he] at z; exact z) (by exact fun j hj => absurd hj (by omega)) ls H locs (lv_sub hl [1, 2, 0] rfl) hM
        · have h28 := (nJ_ne_f (a := B pp) (b := 32) (by omega) (by omega)).mp h28
          refine lv_iinc (v := nI (pp + 1)) (lv' := [(1, .int (nI (pp + 1))), (0, .ref ma)]) (k := 1) hx hb dMD_readWords_31 hl rfl (ii1 pp) (by decide) rfl (fun ls hl => ?_)
          refine lv_goto (tgt := 12) hx hb dMD_readWords_34 (by decide) ?_
          refine W.widen (k := 2 * w) (n := 4 * w + (pp + 1)) (by omega) (by omega) ?_
          exact ih (pp + 1) w S1 E1 ν M sa va h (by omega) (by first | assumption | omega | exact rfl) (by exact (spl_sp h28).trans he) (by exact Or.inr (Or.inl (by rw [Nat.add_sub_cancel]; exact h28))) (by first | assumption | omega | exact rfl) (by exact fm) (by exact ft) (by exact fw) (by exact hI) ls H locs (lv_sub hl [1, 0] rfl) hM
  refine lv_aload_n hx hb dMD_readWords_0 rfl (lv_at hl 0 rfl) ?_
  refine lv_iconst (v := nI 0) hx hb dMD_readWords_1 (by decide) ?_
  refine k_put (own := RMD) (ref := RMD) (C := RMD) (T := TMD) (N := 7) (ci := 4) (v := .int (nI 0)) (ty := .int) (fs' := [.ref tp, .int (nI tl), .ref wd, .int (nI 0), .int (nI at0), .ref li, .int (nI cnt)]) hx hb hW inMD tyMD tyokMD nmokMD hown hM hma rfl 3 (by decide) (hW _ w_294) (fun _ h => h) rfl (by decide +kernel) rfl rfl (Nat.le_of_ble_eq_true rfl) dMD_readWords_2 rfl (fun H locs hM => ?_)
  have hM : kS g (km_up μ ma (.inr (4, [.ref tp, .int (nI tl), .ref wd, .int (nI 0), .int (nI at0), .ref li, .int (nI cnt)]))) s H locs := hM
  refine lv_aload_n hx hb dMD_readWords_5 rfl (lv_at hl 0 rfl) ?_
  refine lv_iconst (v := nI 0) hx hb dMD_readWords_6 (by decide) ?_
  refine k_put (own := RMD) (ref := RMD) (C := RMD) (T := TMD) (N := 7) (ci := 4) (v := .int (nI 0)) (ty := .int) (fs' := [.ref tp, .int (nI tl), .ref wd, .int (nI 0), .int (nI 0), .ref li, .int (nI cnt)]) hx hb hW inMD tyMD tyokMD nmokMD hown hM (km_s _ _ _) rfl 4 (by decide) (hW _ w_295) (fun _ h => h) rfl (by decide +kernel) rfl rfl (Nat.le_of_ble_eq_true rfl) dMD_readWords_7 rfl (fun H locs hM => ?_)
  have hM : kS g (km_up μ ma (.inr (4, [.ref tp, .int (nI tl), .ref wd, .int (nI 0), .int (nI 0), .ref li, .int (nI cnt)]))) s H locs := kS_eq (km_u1 _ _ _ _) hM
  refine lv_iconst (v := nI 0) hx hb dMD_readWords_10 (by decide) ?_
  refine lv_istore_n (lv' := [(1, .int (nI 0)), (0, .ref ma)]) hx hb dMD_readWords_11 rfl hl (by decide) rfl (fun ls hl => ?_)
  refine W.widen (k := 2 * 0) (n := 4 * 0 + 0) (by omega) (by omega) ?_
  exact cut12 _ 0 0 (fun _ => 0) (fun _ => 0) (km_up μ ma (.inr (4, [.ref tp, .int (nI tl), .ref wd, .int (nI 0), .int (nI 0), .ref li, .int (nI cnt)]))) M0 (fun _ => 0) (fun _ => 0) (fun _ _ => 0) (Nat.lt_succ_self _) (by first | assumption | omega | exact rfl) (by exact spl_0 _ _ _) (by exact Or.inl rfl) (by first | assumption | omega | exact rfl) (by exact (km_s _ _ _)) (by exact ((km_n (km_apA htp hma)).trans htp)) (by exact ((km_n (km_apA hwd hma)).trans hwd)) (by exact kWD_0 hma (fun x n1 => by simp only [km_n n1]) (km_s _ _ _)) ls H locs (lv_sub hl [1, 0] rfl) hM
