/-- a text is a literal -/
def eqP (f : Nat → Nat) (n i : Nat) : Prop := n = kLen.getD i 0 ∧ ∀ q, q < n → f q = kb i q
set_option maxHeartbeats 800000 in
set_option maxRecDepth 100000 in
theorem mSL_equals (l : Launch) (g : kG) (μ : km_M) {va n : Nat} {f : Nat → Nat} (hv : μ va = some (.inl (g.2.2.1 0, n, .inl (fun j => sb (f j))))) (hf : ∀ k, f k < 256) (hn : n ≤ 400) {i : Nat} (hi : i < 13) : Met l ySL_equals (Cond.code ySL_equals cSL_equals 3 (some .boolean) :: Wd) ({ frames := 0, cells := 0, slots := 0, locals := 0 } : Room) (kPre g μ [.ref va, .ref (g.2.2.2.2.2 i)]) (kQi g (fun (r : Int32) (μ1 : km_M) => μ1 = μ ∧ ((eqP f n i ∧ r = nI 1) ∨ (¬ eqP f n i ∧ r = nI 0)))) 0 0 (kF g) := by
  refine k_met (by decide) (Nat.le_of_ble_eq_true rfl) ?_
  intro p e s m below meth c hx hb hr hlocks hml hown hnm hW ls hl H locs hM
  have hl : lv_has ls 3 [(0, .ref va), (1, .ref (g.2.2.2.2.2 i))] := hl
  have hkl := kLen_le i hi
  have cut9 : ∀ (fu : Nat), ∀ (q : Nat), n - q < fu → q ≤ n → n = kLen.getD i 0 → (∀ y, y < q → f y = kb i y) → ∀ (ls : Array Slot) (H : Heap) (locs : List Loc), lv_has ls 3 [(0, .ref va), (1, .ref (g.2.2.2.2.2 i)), (2, .int (nI q))] → kS g (μ) s H locs → W p l e ({ frames := 0, cells := 0, slots := 0, locals := 0 } : Room) s m [.ref va, .ref (g.2.2.2.2.2 i)].toArray below meth c H locs 0 0 (MQ below (kQi g (fun (r : Int32) (μ1 : km_M) => μ1 = μ ∧ ((eqP f n i ∧ r = nI 1) ∨ (¬ eqP f n i ∧ r = nI 0)))) [.ref va, .ref (g.2.2.2.2.2 i)].toArray s 0 0 (kF g)) (F0 m 9 ls []) := by
    intro fu
    induction fu with
    | zero => intro q hlt; exact absurd hlt (Nat.not_lt_zero _)
    | succ fu ih =>
      intro q hlt hq hnk he ls H locs hl hM
      refine lv_iload_n hx hb dSL_equals_9 rfl (lv_at hl 2 rfl) ?_
      refine lv_aload_n hx hb dSL_equals_10 rfl (lv_at hl 0 rfl) ?_
      refine k_alen hx hb hM 0 hv rfl dSL_equals_11 ?_
      refine lv_icmp_ge (tgt := 32) hx hb dSL_equals_12 (by decide) (fun h12 => ?_) (fun h12 => ?_)
      · have h12 := (nJ_ge_t (a := q) (b := n) (by omega) (by omega)).mp h12
        refine lv_iconst (v := nI 1) hx hb dSL_equals_32 (by decide) ?_
        exact kr_z hx hb hr (by decide) hlocks hM dSL_equals_33 (⟨rfl, Or.inl ⟨⟨hnk, by rw [show n = q by omega]; exact he⟩, rfl⟩⟩)
      · have h12 := (nJ_ge_f (a := q) (b := n) (by omega) (by omega)).mp h12
        refine lv_aload_n hx hb dSL_equals_15 rfl (lv_at hl 0 rfl) ?_
        refine lv_iload_n hx hb dSL_equals_16 rfl (lv_at hl 2 rfl) ?_
        refine k_bald (i := q) hx hb hM 0 hv rfl (by omega) (by omega) dSL_equals_17 ?_
        refine lv_aload_n hx hb dSL_equals_18 rfl (lv_at hl 1 rfl) ?_
        refine lv_iload_n hx hb dSL_equals_19 rfl (lv_at hl 2 rfl) ?_
        refine va_tb (v := .int (sb (kb i q))) hx hb (hM.2.1.2.2.2.1.1 i (hi)).2.2.2 hM.2.2.2 (vp_in_nI (by omega) (by omega)) (by rw [nI_clamp (by omega)]; exact congrArg Value.int (kb_sb i (hi) q (by omega))) dSL_equals_20 ?_
        refine lv_icmp_eq (tgt := 26) hx hb dSL_equals_21 (by decide) (fun h21 => ?_) (fun h21 => ?_)
        · have h21 := (sb_inj (hf q) (kb_lt i hi q (by omega))).mp h21
          refine lv_iinc (v := nI (q + 1)) (lv' := [(2, .int (nI (q + 1))), (0, .ref va), (1, .ref (g.2.2.2.2.2 i))]) (k := 2) hx hb dSL_equals_26 hl rfl (ii1 q) (by decide) rfl (fun ls hl => ?_)
          refine lv_goto (tgt := 9) hx hb dSL_equals_29 (by decide) ?_
          exact ih (q + 1) (by omega) (by first | assumption | omega | exact rfl) (by first | assumption | omega | exact rfl) (by exact all_q he h21) ls H locs (lv_sub hl [1, 2, 0] rfl) hM
        · have h21 := (not_congr (sb_inj (hf q) (kb_lt i hi q (by omega)))).mp h21
          refine lv_iconst (v := nI 0) hx hb dSL_equals_24 (by decide) ?_
          exact kr_z hx hb hr (by decide) hlocks hM dSL_equals_25 (⟨rfl, Or.inr ⟨fun z => h21 (z.2 q (by omega)), rfl⟩⟩)
  refine lv_aload_n hx hb dSL_equals_0 rfl (lv_at hl 0 rfl) ?_
  refine k_alen hx hb hM 0 hv rfl dSL_equals_1 ?_
  refine lv_aload_n hx hb dSL_equals_2 rfl (lv_at hl 1 rfl) ?_
  refine va_tlen (v := nI (kLen.getD i 0)) hx hb (hM.2.1.2.2.2.1.1 i (hi)).2.2.2 hM.2.2.2 rfl dSL_equals_3 ?_
  refine lv_icmp_ne (tgt := 34) hx hb dSL_equals_4 (by decide) (fun h4 => ?_) (fun h4 => ?_)
  · have h4 := (nJ_ne_t (a := n) (b := kLen.getD i 0) (by omega) (by omega)).mp h4
    refine lv_iconst (v := nI 0) hx hb dSL_equals_34 (by decide) ?_
    exact kr_z hx hb hr (by decide) hlocks hM dSL_equals_35 (⟨rfl, Or.inr ⟨fun z => absurd z.1 (by omega), rfl⟩⟩)
  · have h4 := (nJ_ne_f (a := n) (b := kLen.getD i 0) (by omega) (by omega)).mp h4
    refine lv_iconst (v := nI 0) hx hb dSL_equals_7 (by decide) ?_
    refine lv_istore_n (lv' := [(2, .int (nI 0)), (0, .ref va), (1, .ref (g.2.2.2.2.2 i))]) hx hb dSL_equals_8 rfl hl (by decide) rfl (fun ls hl => ?_)
    exact cut9 _ 0 (Nat.lt_succ_self _) (by first | assumption | omega | exact rfl) (by first | assumption | omega | exact rfl) (by exact fun y hy => absurd hy (Nat.not_lt_zero _)) ls H locs (lv_sub hl [1, 2, 0] rfl) hM
set_option maxHeartbeats 800000 in
set_option maxRecDepth 100000 in
theorem mST_equals (l : Launch) (g : kG) (μ : km_M) {a va n : Nat} {f : Nat → Nat} (hs : μ a = some (.inr (7, [.ref va, .int (nI 0), .int (nI 0), .int (nI 0)]))) (hv : μ va = some (.inl (g.2.2.1 0, n, .inl (fun j => sb (f j))))) (hf : ∀ k, f k < 256) (hn : n ≤ 400) {i : Nat} (hi : i < 13) : Met l yST_equals (Cond.code yST_equals cST_equals 3 (some .boolean) :: Wd) ({ frames := 1, cells := 0, slots := 0, locals := 22 } : Room) (kPre g μ [.ref a, .ref (g.2.2.2.2.1 i)]) (kQi g (fun (r : Int32) (μ1 : km_M) => μ1 = μ ∧ ((eqP f n i ∧ r = nI 1) ∨ (¬ eqP f n i ∧ r = nI 0)))) 0 0 (kF g) := by
  refine k_met (by decide) (Nat.le_of_ble_eq_true rfl) ?_
  intro p e s m below meth c hx hb hr hlocks hml hown hnm hW ls hl H locs hM
  have hl : lv_has ls 3 [(0, .ref a), (1, .ref (g.2.2.2.2.1 i))] := hl
  refine lv_aload_n hx hb dST_equals_0 rfl (lv_at hl 0 rfl) ?_
  refine lv_aload_n hx hb dST_equals_1 rfl (lv_at hl 1 rfl) ?_
  refine lv_acmp_ne (rx := some a) (ry := some (g.2.2.2.2.1 i)) (tgt := 7) hx hb dST_equals_2 (by decide) (fun h2 => ?_) (fun h2 => ?_)
  · skip
    refine lv_aload_n hx hb dST_equals_7 rfl (lv_at hl 1 rfl) ?_
    refine va_instE (nm := "java/lang/String") hx hb hown (hW _ w_592) (vk_recv hM.2.1.2.2.2.1 (hi) hM.2.2.2) dST_equals_8 ?_
    refine lv_if_eq (tgt := 54) hx hb dST_equals_11 (by decide) (fun h => absurd h (by decide)) (fun _ => ?_)
    refine lv_aload_n hx hb dST_equals_14 rfl (lv_at hl 1 rfl) ?_
    refine va_castE (nm := "java/lang/String") hx hb hown (hW _ w_592) (vk_recv hM.2.1.2.2.2.1 (hi) hM.2.2.2) dST_equals_15 ?_
    refine lv_astore_n (lv' := [(2, .ref (g.2.2.2.2.1 i)), (0, .ref a), (1, .ref (g.2.2.2.2.1 i))]) hx hb dST_equals_18 rfl hl (by decide) rfl (fun ls hl => ?_)
    refine va_gets (C := "java/lang/String") (n := "COMPACT_STRINGS") (d := "Z") (v := .int (nI 1)) hx hb (hM.2.1.2.2.2.2.2.1 ("java/lang/String", "COMPACT_STRINGS", "Z", 1) (by decide +kernel)) hM.2.2.2 hown (hW _ w_354) (fun _ h => h) dST_equals_19 ?_
    refine lv_if_eq (tgt := 36) hx hb dST_equals_22 (by decide) (fun h => absurd h (by decide)) (fun _ => ?_)
    refine lv_aload_n hx hb dST_equals_25 rfl (lv_at hl 1 rfl) ?_
    refine k_get (own := RST) (ref := RST) (C := RST) (T := TST) (N := 4) (ci := 7) (v := .int (nI 0)) hx hb hW inST hown hM hs rfl 1 (by decide) (hW _ w_399) (fun _ h => h) rfl dST_equals_26 ?_
    refine lv_aload_n hx hb dST_equals_29 rfl (lv_at hl 0 rfl) ?_
    refine vk_getf (o := "java/lang/String") (n := "coder") (d := "B") (q := g.2.2.2.2.1 i) (v := .int (nI 0)) hx hb (hM.2.1.2.2.2.1.1 i (hi)).2.1 hM.2.2.2 hown (hW _ w_399) (fun _ h => h) dST_equals_30 ?_
    refine lv_icmp_ne (tgt := 54) hx hb dST_equals_33 (by decide) (fun h => absurd (by decide) h) (fun _ => ?_)
    refine lv_aload_n hx hb dST_equals_36 rfl (lv_at hl 1 rfl) ?_
    refine k_get (own := RST) (ref := RST) (C := RST) (T := TST) (N := 4) (ci := 7) (v := .ref va) hx hb hW inST hown hM hs rfl 0 (by decide) (hW _ w_398) (fun _ h => h) rfl dST_equals_37 ?_
    refine lv_aload_n hx hb dST_equals_40 rfl (lv_at hl 0 rfl) ?_
    refine vk_getf (o := "java/lang/String") (n := "value") (d := "[B") (q := g.2.2.2.2.1 i) (v := .ref (g.2.2.2.2.2 i)) hx hb (hM.2.1.2.2.2.1.1 i (hi)).2.2.1 hM.2.2.2 hown (hW _ w_398) (fun _ h => h) dST_equals_41 ?_
    refine kc_i (va_runS (As := [.ref va, .ref (g.2.2.2.2.2 i)]) (rest := []) (Ts := Wd) ⟨hx, hb, hml, hown, hW⟩ (mSL_equals l g μ hv hf hn hi) (va_cwS 2 hW (k_gS w_593 w_594 w_13 w_595) rfl rfl rfl (by decide +kernel) ⟨Nat.le_of_ble_eq_true rfl, Nat.le_of_ble_eq_true rfl⟩) (k_preS hM) rfl rfl hl.1 rfl (lv_room (Nat.le_of_ble_eq_true rfl)) dST_equals_44 ⟨Nat.zero_le _, Nat.zero_le _⟩) hM (fun r μ1 H locs hp hM => ?_)
    obtain ⟨hmu, hcase⟩ := hp
    rw [hmu] at hM
    rcases hcase with ⟨hsw, rfl⟩ | ⟨hsw, rfl⟩
    · skip
      refine lv_if_eq (tgt := 54) hx hb dST_equals_47 (by decide) (fun h => absurd h (by decide)) (fun _ => ?_)
      refine lv_iconst (v := nI 1) hx hb dST_equals_50 (by decide) ?_
      refine lv_goto (tgt := 55) hx hb dST_equals_51 (by decide) ?_
      exact kr_z hx hb hr (by decide) hlocks hM dST_equals_55 (⟨rfl, Or.inl ⟨hsw, rfl⟩⟩)
    · skip
      refine lv_if_eq (tgt := 54) hx hb dST_equals_47 (by decide) (fun _ => ?_) (fun h => absurd (by decide) h)
      refine lv_iconst (v := nI 0) hx hb dST_equals_54 (by decide) ?_
      exact kr_z hx hb hr (by decide) hlocks hM dST_equals_55 (⟨rfl, Or.inr ⟨hsw, rfl⟩⟩)
  · exact absurd (by simpa using h2) (k_litne hM hi hs)
