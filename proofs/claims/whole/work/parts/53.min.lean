theorem bI_b0 {b : Bool} : bI b = 0 ↔ b = false := by cases b <;> decide
theorem bI_b1 {b : Bool} : ¬ bI b = 0 ↔ b = true := by cases b <;> decide
theorem all_q {P : Nat → Prop} {q : Nat} (h : ∀ z, z < q → P z) (hq : P q) : ∀ z, z < q + 1 → P z := fun z hz => by
  rcases (show z = q ∨ z < q by omega) with e | e
  · rw [e]; exact hq
  · exact h z e
set_option maxHeartbeats 800000 in
set_option maxRecDepth 100000 in
theorem mMD_test_0 (l : Launch) (g : kG) (μ : km_M) {a : Nat} : Met l yMD_test (Cond.code yMD_test cMD_test 5 (some .boolean) :: Wd) ({ frames := 8, cells := 0, slots := 0, locals := 176 } : Room) (kPre g μ [.int (nI 0), .ref a, .null]) (kQi g (fun (r : Int32) (μ1 : km_M) => r = nI 1 ∧ μ1 = μ)) 0 0 (kF g) := by
  refine k_met (by decide) (Nat.le_of_ble_eq_true rfl) ?_
  intro p e s m below meth c hx hb hr hlocks hml hown hnm hW ls hl H locs hM
  have hl : lv_has ls 5 [(0, .int (nI 0)), (1, .ref a), (2, .null)] := hl
  refine lv_iload_n hx hb dMD_test_0 rfl (lv_at hl 0 rfl) ?_
  refine lv_if_ne (tgt := 6) hx hb dMD_test_1 (by decide) (fun h => absurd (by decide) h) (fun _ => ?_)
  refine lv_iconst (v := nI 1) hx hb dMD_test_4 (by decide) ?_
  exact kr_z hx hb hr (by decide) hlocks hM dMD_test_5 (⟨rfl, rfl⟩)
theorem mMD_test (l : Launch) (g : kG) (μ : km_M) {k : Nat} (hk : k < 8) (hk0 : ¬ k = 0) {a na_a ka_a : Nat} {NN_a : Nat → Nat} {M_a : Nat → Option Nat} {sa_a sv_a : Nat → Nat} {F_a : Nat → Nat → Nat} {v : kVer} (hb_a : kMV g μ a na_a ka_a NN_a M_a sa_a sv_a F_a v) {b na_b ka_b : Nat} {NN_b : Nat → Nat} {M_b : Nat → Option Nat} {sa_b sv_b : Nat → Nat} {F_b : Nat → Nat → Nat} {u : kVer} (hb_b : kMV g μ b na_b ka_b NN_b M_b sa_b sv_b F_b u) : Met l yMD_test (Cond.code yMD_test cMD_test 5 (some .boolean) :: Wd) ({ frames := 8, cells := 0, slots := 0, locals := 176 } : Room) (kPre g μ [.int (nI k), .ref a, .ref b]) (kQi g (fun (r : Int32) (μ1 : km_M) => r = bI (hldV (k, u) (rowOf v)) ∧ μ1 = μ)) 0 0 (kF g) := by
  rcases (show k = 1 ∨ k = 2 ∨ k = 3 ∨ k = 4 ∨ k = 5 ∨ k = 6 ∨ k = 7 by omega) with rfl | rfl | rfl | rfl | rfl | rfl | rfl
  · exact mMD_test_1 l g μ hb_a hb_b
  · exact mMD_test_2 l g μ hb_a hb_b
  · exact mMD_test_3 l g μ hb_a hb_b
  · exact mMD_test_4 l g μ hb_a hb_b
  · exact mMD_test_5 l g μ hb_a hb_b
  · exact mMD_test_6 l g μ hb_a hb_b
  · exact mMD_test_7 l g μ hb_a hb_b
set_option maxHeartbeats 800000 in
set_option maxRecDepth 100000 in
theorem mMD_in (l : Launch) (g : kG) (μ : km_M) {a na_a ka_a : Nat} {NN_a : Nat → Nat} {M_a : Nat → Option Nat} {sa_a sv_a : Nat → Nat} {F_a : Nat → Nat → Nat} {v : kVer} (hb_a : kMV g μ a na_a ka_a NN_a M_a sa_a sv_a F_a v) {ra sg0 ve ts ch : Nat} (hra : μ ra = some (.inr (6, [.ref sg0, .ref ve, .ref ts, .int (nI ch)]))) {SG TS : Nat → Nat} {VE : Nat → Option Nat} (hsg : μ sg0 = some (.inl (g.2.2.1 1, 16, .inl (fun j => nI (SG j))))) (hve : μ ve = some (.inl (g.2.2.1 6, 16, .inr (.inr (.inr (.inr VE)))))) (hts : μ ts = some (.inl (g.2.2.1 1, 4, .inl (fun j => nI (TS j))))) (hch : ch ≤ 4) (hTS : ∀ c, c < ch → TS c ≤ 4) {T : Nat → Nat × kVer} {tw tna tka : Nat → Nat} {tNN : Nat → Nat → Nat} {tM : Nat → Nat → Option Nat} {tsa tsv : Nat → Nat → Nat} {tF : Nat → Nat → Nat → Nat} (hT : ∀ c q, c < ch → q < TS c → SG (4 * c + q) = (T (4 * c + q)).1 ∧ (T (4 * c + q)).1 < 8 ∧ (((T (4 * c + q)).1 = 0 ∧ VE (4 * c + q) = none) ∨ (¬ (T (4 * c + q)).1 = 0 ∧ VE (4 * c + q) = some (tw (4 * c + q)) ∧ kMV g μ (tw (4 * c + q)) (tna (4 * c + q)) (tka (4 * c + q)) (tNN (4 * c + q)) (tM (4 * c + q)) (tsa (4 * c + q)) (tsv (4 * c + q)) (tF (4 * c + q)) (T (4 * c + q)).2))) : Met l yMD_in (Cond.code yMD_in cMD_in 5 (some .boolean) :: Wd) ({ frames := 9, cells := 0, slots := 0, locals := 200 } : Room) (kPre g μ [.ref a, .ref ra]) (kQi g (fun (r : Int32) (μ1 : km_M) => μ1 = μ ∧ ((r = nI 1 ∧ ∃ c, c < ch ∧ ∀ z, z < TS c → hldV (T (4 * c + z)) (rowOf v) = true) ∨ (r = nI 0 ∧ ¬ ∃ c, c < ch ∧ ∀ z, z < TS c → hldV (T (4 * c + z)) (rowOf v) = true)))) 0 0 (kF g) := by
  refine k_met (by decide) (Nat.le_of_ble_eq_true rfl) ?_
  intro p e s m below meth c hx hb hr hlocks hml hown hnm hW ls hl H locs hM
  have hl : lv_has ls 5 [(0, .ref a), (1, .ref ra)] := hl
  have cut2 : ∀ (fu : Nat), ∀ (ci : Nat), ch - ci < fu → ci ≤ ch → (∀ c, c < ci → ¬ ∀ z, z < TS c → hldV (T (4 * c + z)) (rowOf v) = true) → ∀ (ls : Array Slot) (H : Heap) (locs : List Loc), lv_has ls 5 [(0, .ref a), (1, .ref ra), (2, .int (nI ci))] → kS g (μ) s H locs → W p l e ({ frames := 9, cells := 0, slots := 0, locals := 200 } : Room) s m [.ref a, .ref ra].toArray below meth c H locs 0 0 (MQ below (kQi g (fun (r : Int32) (μ1 : km_M) => μ1 = μ ∧ ((r = nI 1 ∧ ∃ c, c < ch ∧ ∀ z, z < TS c → hldV (T (4 * c + z)) (rowOf v) = true) ∨ (r = nI 0 ∧ ¬ ∃ c, c < ch ∧ ∀ z, z < TS c → hldV (T (4 * c + z)) (rowOf v) = true)))) [.ref a, .ref ra].toArray s 0 0 (kF g)) (F0 m 2 ls []) := by
    intro fu
    induction fu with
    | zero => intro ci hlt; exact absurd hlt (Nat.not_lt_zero _)
    | succ fu ih =>
      intro ci hlt hci hno ls H locs hl hM
      have cut17 : ∀ (fu : Nat), ∀ (q : Nat) (al : Int32), TS ci - q < fu → ci < ch → q ≤ TS ci → al = bI (decide (∀ z, z < q → hldV (T (4 * ci + z)) (rowOf v) = true)) → ∀ (ls : Array Slot) (H : Heap) (locs : List Loc), lv_has ls 5 [(0, .ref a), (1, .ref ra), (2, .int (nI ci)), (3, .int al), (4, .int (nI (4 * ci + q)))] → kS g (μ) s H locs → W p l e ({ frames := 9, cells := 0, slots := 0, locals := 200 } : Room) s m [.ref a, .ref ra].toArray below meth c H locs 0 0 (MQ below (kQi g (fun (r : Int32) (μ1 : km_M) => μ1 = μ ∧ ((r = nI 1 ∧ ∃ c, c < ch ∧ ∀ z, z < TS c → hldV (T (4 * c + z)) (rowOf v) = true) ∨ (r = nI 0 ∧ ¬ ∃ c, c < ch ∧ ∀ z, z < TS c → hldV (T (4 * c + z)) (rowOf v) = true)))) [.ref a, .ref ra].toArray s 0 0 (kF g)) (F0 m 17 ls []) := by
        intro fu
        induction fu with
        | zero => intro q al hlt; exact absurd hlt (Nat.not_lt_zero _)
        | succ fu ih_17 =>
          intro q al hlt h7 hq hal ls H locs hl hM
          have hts4 := hTS ci h7
          refine lv_iload hx hb dMD_in_17 (lv_at hl 4 rfl) ?_
          refine lv_iconst (v := nI 4) hx hb dMD_in_19 (by decide) ?_
          refine lv_iload_n hx hb dMD_in_20 rfl (lv_at hl 2 rfl) ?_
          refine lv_imul hx hb dMD_in_21 ?_
          refine topi_eq (y := nI (4 * ci)) (pk_mul 4 ci) ?_
          refine lv_aload_n hx hb dMD_in_22 rfl (lv_at hl 1 rfl) ?_
          refine k_get (own := RMD) (ref := RMR) (C := RMR) (T := TMR) (N := 4) (ci := 6) (v := .ref ts) hx hb hW inMR hown hM hra rfl 2 (by decide) (hW _ w_567) (fun _ h => h) rfl dMD_in_23 ?_
          refine lv_iload_n hx hb dMD_in_26 rfl (lv_at hl 2 rfl) ?_
          refine k_iald (i := ci) hx hb hM 1 hts rfl (by omega) (by omega) dMD_in_27 ?_
          refine lv_iadd hx hb dMD_in_28 ?_
          refine topi_eq (y := nI ((4 * ci) + (TS ci))) (nI_add (4 * ci) (TS ci)) ?_
          refine lv_icmp_ge (tgt := 69) hx hb dMD_in_29 (by decide) (fun h29 => ?_) (fun h29 => ?_)
          · have h29 := (nJ_ge_t (a := 4 * ci + q) (b := (4 * ci) + (TS ci)) (by omega) (by omega)).mp h29
            refine lv_iload_n hx hb dMD_in_69 rfl (lv_at hl 3 rfl) ?_
            refine lv_if_eq (tgt := 75) hx hb dMD_in_70 (by decide) (fun h70 => ?_) (fun h70 => ?_)
            · rw [hal] at h70
              have h70 := bD_0.mp h70
              refine lv_iinc (v := nI (ci + 1)) (lv' := [(2, .int (nI (ci + 1))), (0, .ref a), (1, .ref ra), (3, .int al), (4, .int (nI (4 * ci + q)))]) (k := 2) hx hb dMD_in_75 hl rfl (ii1 ci) (by decide) rfl (fun ls hl => ?_)
              refine lv_goto (tgt := 2) hx hb dMD_in_78 (by decide) ?_
              exact ih (ci + 1) (by omega) (by first | assumption | omega | exact rfl) (by exact fun c hc => by rcases (show c = ci ∨ c < ci by omega) with e | e; rw [e, show TS ci = q by omega]; exact h70; exact hno c e) ls H locs (lv_sub hl [1, 2, 0] rfl) hM
            · rw [hal] at h70
              have h70 := bD_n.mp h70
              refine lv_iconst (v := nI 1) hx hb dMD_in_73 (by decide) ?_
              exact kr_z hx hb hr (by decide) hlocks hM dMD_in_74 (⟨rfl, Or.inl ⟨rfl, ci, h7, by rw [show TS ci = q by omega]; exact h70⟩⟩)
          · have h29 := (nJ_ge_f (a := 4 * ci + q) (b := (4 * ci) + (TS ci)) (by omega) (by omega)).mp h29
            refine lv_iload_n hx hb dMD_in_32 rfl (lv_at hl 3 rfl) ?_
            refine lv_if_eq (tgt := 61) hx hb dMD_in_33 (by decide) (fun h33 => ?_) (fun h33 => ?_)
            · rw [hal] at h33
              have h33 := bD_0.mp h33
              refine lv_iconst (v := nI 0) hx hb dMD_in_61 (by decide) ?_
              refine lv_istore_n (lv' := [(3, .int (nI 0)), (0, .ref a), (1, .ref ra), (2, .int (nI ci)), (4, .int (nI (4 * ci + q)))]) hx hb dMD_in_62 rfl hl (by decide) rfl (fun ls hl => ?_)
              refine lv_iinc (v := nI ((4 * ci + q) + 1)) (lv' := [(4, .int (nI ((4 * ci + q) + 1))), (3, .int (nI 0)), (0, .ref a), (1, .ref ra), (2, .int (nI ci))]) (k := 4) hx hb dMD_in_63 hl rfl (ii1 (4 * ci + q)) (by decide) rfl (fun ls hl => ?_)
              refine lv_goto (tgt := 17) hx hb dMD_in_66 (by decide) ?_
              exact ih_17 (q + 1) (nI 0) (by omega) (by first | assumption | omega | exact rfl) (by first | assumption | omega | exact rfl) (by first | exact bI_f (fun z => h33 (fun y hy => z y (by omega))) | exact bI_f (fun z => absurd (z q (by omega)) (by rw [h54]; decide))) ls H locs (lv_sub hl [2, 3, 4, 1, 0] rfl) hM
            · rw [hal] at h33
              have h33 := bD_n.mp h33
              rcases (hT ci q h7 (by omega)).2.2 with ⟨hz0, hzn⟩ | ⟨hz0, hzs, hzm⟩
              · have hsx := (hT ci q h7 (by omega)).1
                refine lv_aload_n hx hb dMD_in_36 rfl (lv_at hl 1 rfl) ?_
                refine k_get (own := RMD) (ref := RMR) (C := RMR) (T := TMR) (N := 4) (ci := 6) (v := .ref sg0) hx hb hW inMR hown hM hra rfl 0 (by decide) (hW _ w_563) (fun _ h => h) rfl dMD_in_37 ?_
                refine lv_iload hx hb dMD_in_40 (lv_at hl 4 rfl) ?_
                refine k_iald (i := 4 * ci + q) hx hb hM 1 hsg rfl (by omega) (by omega) dMD_in_42 ?_
                refine topi_eq (y := nI 0) (congrArg nI (hsx.trans hz0)) ?_
                refine lv_aload_n hx hb dMD_in_43 rfl (lv_at hl 0 rfl) ?_
                refine lv_aload_n hx hb dMD_in_44 rfl (lv_at hl 1 rfl) ?_
                refine k_get (own := RMD) (ref := RMR) (C := RMR) (T := TMR) (N := 4) (ci := 6) (v := .ref ve) hx hb hW inMR hown hM hra rfl 1 (by decide) (hW _ w_565) (fun _ h => h) rfl dMD_in_45 ?_
                refine lv_iload hx hb dMD_in_48 (lv_at hl 4 rfl) ?_
                refine k_aald (i := 4 * ci + q) (r := none) hx hb hM 6 hve rfl (by omega) (by omega) hzn dMD_in_50 ?_
                refine kc_i (va_runS (As := [.int (nI 0), .ref a, .null]) (rest := []) (Ts := Wd) ⟨hx, hb, hml, hown, hW⟩ (mMD_test_0 l g μ (a := a)) (va_cwS 3 hW (k_gS w_658 w_659 w_7 w_660) rfl rfl rfl (by decide +kernel) ⟨Nat.le_of_ble_eq_true rfl, Nat.le_of_ble_eq_true rfl⟩) (k_preS hM) rfl rfl hl.1 rfl (lv_room (Nat.le_of_ble_eq_true rfl)) dMD_in_51 ⟨Nat.zero_le _, Nat.zero_le _⟩) hM (fun r μ1 H locs hp hM => ?_)
                obtain ⟨rfl, hmu⟩ := hp
                rw [hmu] at hM
                refine lv_if_eq (tgt := 61) hx hb dMD_in_54 (by decide) (fun h => absurd h (by decide)) (fun _ => ?_)
                refine lv_iconst (v := nI 1) hx hb dMD_in_57 (by decide) ?_
                refine lv_goto (tgt := 62) hx hb dMD_in_58 (by decide) ?_
                refine lv_istore_n (lv' := [(3, .int (nI 1)), (0, .ref a), (1, .ref ra), (2, .int (nI ci)), (4, .int (nI (4 * ci + q)))]) hx hb dMD_in_62 rfl hl (by decide) rfl (fun ls hl => ?_)
                refine lv_iinc (v := nI ((4 * ci + q) + 1)) (lv' := [(4, .int (nI ((4 * ci + q) + 1))), (3, .int (nI 1)), (0, .ref a), (1, .ref ra), (2, .int (nI ci))]) (k := 4) hx hb dMD_in_63 hl rfl (ii1 (4 * ci + q)) (by decide) rfl (fun ls hl => ?_)
                refine lv_goto (tgt := 17) hx hb dMD_in_66 (by decide) ?_
                exact ih_17 (q + 1) (nI 1) (by omega) (by first | assumption | omega | exact rfl) (by first | assumption | omega | exact rfl) (by exact bI_t (all_q h33 (by show hldR (T (4 * ci + q)).1 _ _ _ = true; rw [hz0]; exact hldR_0 _ _ _))) ls H locs (lv_sub hl [2, 3, 4, 1, 0] rfl) hM
              · have hsx := (hT ci q h7 (by omega)).1
                refine lv_aload_n hx hb dMD_in_36 rfl (lv_at hl 1 rfl) ?_
                refine k_get (own := RMD) (ref := RMR) (C := RMR) (T := TMR) (N := 4) (ci := 6) (v := .ref sg0) hx hb hW inMR hown hM hra rfl 0 (by decide) (hW _ w_563) (fun _ h => h) rfl dMD_in_37 ?_
                refine lv_iload hx hb dMD_in_40 (lv_at hl 4 rfl) ?_
                refine k_iald (i := 4 * ci + q) hx hb hM 1 hsg rfl (by omega) (by omega) dMD_in_42 ?_
                refine topi_eq (y := nI ((T (4 * ci + q)).1)) (congrArg nI hsx) ?_
                refine lv_aload_n hx hb dMD_in_43 rfl (lv_at hl 0 rfl) ?_
                refine lv_aload_n hx hb dMD_in_44 rfl (lv_at hl 1 rfl) ?_
                refine k_get (own := RMD) (ref := RMR) (C := RMR) (T := TMR) (N := 4) (ci := 6) (v := .ref ve) hx hb hW inMR hown hM hra rfl 1 (by decide) (hW _ w_565) (fun _ h => h) rfl dMD_in_45 ?_
                refine lv_iload hx hb dMD_in_48 (lv_at hl 4 rfl) ?_
                refine k_aald (i := 4 * ci + q) (r := some (tw (4 * ci + q))) hx hb hM 6 hve rfl (by omega) (by omega) hzs dMD_in_50 ?_
                refine kc_i (va_runS (As := [.int (nI ((T (4 * ci + q)).1)), .ref a, .ref (tw (4 * ci + q))]) (rest := []) (Ts := Wd) ⟨hx, hb, hml, hown, hW⟩ (mMD_test l g μ (k := (T (4 * ci + q)).1) (hT ci q h7 (by omega)).2.1 hz0 hb_a hzm) (va_cwS 3 hW (k_gS w_658 w_659 w_7 w_660) rfl rfl rfl (by decide +kernel) ⟨Nat.le_of_ble_eq_true rfl, Nat.le_of_ble_eq_true rfl⟩) (k_preS hM) rfl rfl hl.1 rfl (lv_room (Nat.le_of_ble_eq_true rfl)) dMD_in_51 ⟨Nat.zero_le _, Nat.zero_le _⟩) hM (fun r μ1 H locs hp hM => ?_)
                obtain ⟨rfl, hmu⟩ := hp
                rw [hmu] at hM
                refine lv_if_eq (tgt := 61) hx hb dMD_in_54 (by decide) (fun h54 => ?_) (fun h54 => ?_)
                · have h54 := bI_b0.mp h54
                  refine lv_iconst (v := nI 0) hx hb dMD_in_61 (by decide) ?_
                  refine lv_istore_n (lv' := [(3, .int (nI 0)), (0, .ref a), (1, .ref ra), (2, .int (nI ci)), (4, .int (nI (4 * ci + q)))]) hx hb dMD_in_62 rfl hl (by decide) rfl (fun ls hl => ?_)
                  refine lv_iinc (v := nI ((4 * ci + q) + 1)) (lv' := [(4, .int (nI ((4 * ci + q) + 1))), (3, .int (nI 0)), (0, .ref a), (1, .ref ra), (2, .int (nI ci))]) (k := 4) hx hb dMD_in_63 hl rfl (ii1 (4 * ci + q)) (by decide) rfl (fun ls hl => ?_)
                  refine lv_goto (tgt := 17) hx hb dMD_in_66 (by decide) ?_
                  exact ih_17 (q + 1) (nI 0) (by omega) (by first | assumption | omega | exact rfl) (by first | assumption | omega | exact rfl) (by first | exact bI_f (fun z => h33 (fun y hy => z y (by omega))) | exact bI_f (fun z => absurd (z q (by omega)) (by rw [h54]; decide))) ls H locs (lv_sub hl [2, 3, 4, 1, 0] rfl) hM
                · have h54 := bI_b1.mp h54
                  refine lv_iconst (v := nI 1) hx hb dMD_in_57 (by decide) ?_
                  refine lv_goto (tgt := 62) hx hb dMD_in_58 (by decide) ?_
                  refine lv_istore_n (lv' := [(3, .int (nI 1)), (0, .ref a), (1, .ref ra), (2, .int (nI ci)), (4, .int (nI (4 * ci + q)))]) hx hb dMD_in_62 rfl hl (by decide) rfl (fun ls hl => ?_)
                  refine lv_iinc (v := nI ((4 * ci + q) + 1)) (lv' := [(4, .int (nI ((4 * ci + q) + 1))), (3, .int (nI 1)), (0, .ref a), (1, .ref ra), (2, .int (nI ci))]) (k := 4) hx hb dMD_in_63 hl rfl (ii1 (4 * ci + q)) (by decide) rfl (fun ls hl => ?_)
                  refine lv_goto (tgt := 17) hx hb dMD_in_66 (by decide) ?_
                  exact ih_17 (q + 1) (nI 1) (by omega) (by first | assumption | omega | exact rfl) (by first | assumption | omega | exact rfl) (by exact bI_t (all_q h33 (by exact h54))) ls H locs (lv_sub hl [2, 3, 4, 1, 0] rfl) hM
      refine lv_iload_n hx hb dMD_in_2 rfl (lv_at hl 2 rfl) ?_
      refine lv_aload_n hx hb dMD_in_3 rfl (lv_at hl 1 rfl) ?_
      refine k_get (own := RMD) (ref := RMR) (C := RMR) (T := TMR) (N := 4) (ci := 6) (v := .int (nI ch)) hx hb hW inMR hown hM hra rfl 3 (by decide) (hW _ w_568) (fun _ h => h) rfl dMD_in_4 ?_
      refine lv_icmp_ge (tgt := 81) hx hb dMD_in_7 (by decide) (fun h7 => ?_) (fun h7 => ?_)
      · have h7 := (nJ_ge_t (a := ci) (b := ch) (by omega) (by omega)).mp h7
        refine lv_iconst (v := nI 0) hx hb dMD_in_81 (by decide) ?_
        exact kr_z hx hb hr (by decide) hlocks hM dMD_in_82 (⟨rfl, Or.inr ⟨rfl, fun z => by obtain ⟨c, hc, hz⟩ := z; exact hno c (by omega) hz⟩⟩)
      · have h7 := (nJ_ge_f (a := ci) (b := ch) (by omega) (by omega)).mp h7
        refine lv_iconst (v := nI 1) hx hb dMD_in_10 (by decide) ?_
        refine lv_istore_n (lv' := [(3, .int (nI 1)), (0, .ref a), (1, .ref ra), (2, .int (nI ci))]) hx hb dMD_in_11 rfl hl (by decide) rfl (fun ls hl => ?_)
        have hts4 := hTS ci h7
        refine lv_iconst (v := nI 4) hx hb dMD_in_12 (by decide) ?_
        refine lv_iload_n hx hb dMD_in_13 rfl (lv_at hl 3 rfl) ?_
        refine lv_imul hx hb dMD_in_14 ?_
        refine topi_eq (y := nI (4 * ci)) (pk_mul 4 ci) ?_
        refine lv_istore (lv' := [(4, .int (nI (4 * ci))), (3, .int (nI 1)), (0, .ref a), (1, .ref ra), (2, .int (nI ci))]) hx hb dMD_in_15 hl (by decide) rfl (fun ls hl => ?_)
        exact cut17 _ 0 (nI 1) (Nat.lt_succ_self _) (by first | assumption | omega | exact rfl) (by first | assumption | omega | exact rfl) (by exact bI_t (fun z hz => absurd hz (Nat.not_lt_zero _))) ls H locs (lv_sub hl [2, 3, 4, 1, 0] rfl) hM
  refine lv_iconst (v := nI 0) hx hb dMD_in_0 (by decide) ?_
  refine lv_istore_n (lv' := [(2, .int (nI 0)), (0, .ref a), (1, .ref ra)]) hx hb dMD_in_1 rfl hl (by decide) rfl (fun ls hl => ?_)
  exact cut2 _ 0 (Nat.lt_succ_self _) (by first | assumption | omega | exact rfl) (by exact fun c hc => absurd hc (Nat.not_lt_zero _)) ls H locs (lv_sub hl [1, 2, 0] rfl) hM
