theorem sb_inj {a b : Nat} (ha : a < 256) (hb : b < 128) : sb a = sb b ↔ a = b := by
  rw [sb_small hb]
  exact sJ_eq_t ha hb
theorem kb_lt : ∀ i, i < 13 → ∀ j, j < 6 → kb i j < 128 := by decide +kernel
/-- a text begins with a literal -/
def swP (f : Nat → Nat) (n i : Nat) : Prop := kLen.getD i 0 ≤ n ∧ ∀ q, q < kLen.getD i 0 → f q = kb i q
theorem dAS_mismatch_0 : decode cAS_mismatch 0 = .ok (.iconst 0, 1) := by decide +kernel
theorem dAS_mismatch_1 : decode cAS_mismatch 1 = .ok (.istore 5, 2) := by decide +kernel
theorem dAS_mismatch_3 : decode cAS_mismatch 3 = .ok (.iload 4, 2) := by decide +kernel
theorem dAS_mismatch_5 : decode cAS_mismatch 5 = .ok (.bipush 7, 2) := by decide +kernel
theorem dAS_mismatch_7 : decode cAS_mismatch 7 = .ok (.if_icmp .le 63, 3) := by decide +kernel
theorem dAS_mismatch_10 : decode cAS_mismatch 10 = .ok (.aload_n 0, 1) := by decide +kernel
theorem dAS_mismatch_11 : decode cAS_mismatch 11 = .ok (.iload_n 1, 1) := by decide +kernel
theorem dAS_mismatch_12 : decode cAS_mismatch 12 = .ok (.baload, 1) := by decide +kernel
theorem dAS_mismatch_13 : decode cAS_mismatch 13 = .ok (.aload_n 2, 1) := by decide +kernel
theorem dAS_mismatch_14 : decode cAS_mismatch 14 = .ok (.iload_n 3, 1) := by decide +kernel
theorem dAS_mismatch_15 : decode cAS_mismatch 15 = .ok (.baload, 1) := by decide +kernel
theorem dAS_mismatch_16 : decode cAS_mismatch 16 = .ok (.if_icmp .eq 5, 3) := by decide +kernel
theorem dAS_mismatch_19 : decode cAS_mismatch 19 = .ok (.iconst 0, 1) := by decide +kernel
theorem dAS_mismatch_20 : decode cAS_mismatch 20 = .ok (.ireturn, 1) := by decide +kernel
theorem dAS_mismatch_21 : decode cAS_mismatch 21 = .ok (.getstatic 126, 3) := by decide +kernel
theorem dAS_mismatch_24 : decode cAS_mismatch 24 = .ok (.iload_n 1, 1) := by decide +kernel
theorem dAS_mismatch_25 : decode cAS_mismatch 25 = .ok (.iadd, 1) := by decide +kernel
theorem dAS_mismatch_26 : decode cAS_mismatch 26 = .ok (.istore 6, 2) := by decide +kernel
theorem dAS_mismatch_28 : decode cAS_mismatch 28 = .ok (.getstatic 126, 3) := by decide +kernel
theorem dAS_mismatch_31 : decode cAS_mismatch 31 = .ok (.iload_n 3, 1) := by decide +kernel
theorem dAS_mismatch_32 : decode cAS_mismatch 32 = .ok (.iadd, 1) := by decide +kernel
theorem dAS_mismatch_33 : decode cAS_mismatch 33 = .ok (.istore 7, 2) := by decide +kernel
theorem dAS_mismatch_35 : decode cAS_mismatch 35 = .ok (.aload_n 0, 1) := by decide +kernel
theorem dAS_mismatch_36 : decode cAS_mismatch 36 = .ok (.iload 6, 2) := by decide +kernel
theorem dAS_mismatch_38 : decode cAS_mismatch 38 = .ok (.i2l, 1) := by decide +kernel
theorem dAS_mismatch_39 : decode cAS_mismatch 39 = .ok (.aload_n 2, 1) := by decide +kernel
theorem dAS_mismatch_40 : decode cAS_mismatch 40 = .ok (.iload 7, 2) := by decide +kernel
theorem dAS_mismatch_42 : decode cAS_mismatch 42 = .ok (.i2l, 1) := by decide +kernel
theorem dAS_mismatch_43 : decode cAS_mismatch 43 = .ok (.iload 4, 2) := by decide +kernel
theorem dAS_mismatch_45 : decode cAS_mismatch 45 = .ok (.getstatic 129, 3) := by decide +kernel
theorem dAS_mismatch_48 : decode cAS_mismatch 48 = .ok (.invokestatic 122, 3) := by decide +kernel
theorem dAS_mismatch_51 : decode cAS_mismatch 51 = .ok (.istore 5, 2) := by decide +kernel
theorem dAS_mismatch_53 : decode cAS_mismatch 53 = .ok (.iload 5, 2) := by decide +kernel
theorem dAS_mismatch_55 : decode cAS_mismatch 55 = .ok (.ifCond .lt 6, 3) := by decide +kernel
theorem dAS_mismatch_58 : decode cAS_mismatch 58 = .ok (.iload 5, 2) := by decide +kernel
theorem dAS_mismatch_60 : decode cAS_mismatch 60 = .ok (.ireturn, 1) := by decide +kernel
theorem dAS_mismatch_61 : decode cAS_mismatch 61 = .ok (.iload 4, 2) := by decide +kernel
theorem dAS_mismatch_63 : decode cAS_mismatch 63 = .ok (.iload 5, 2) := by decide +kernel
theorem dAS_mismatch_65 : decode cAS_mismatch 65 = .ok (.iconst (-1), 1) := by decide +kernel
theorem dAS_mismatch_66 : decode cAS_mismatch 66 = .ok (.ixor, 1) := by decide +kernel
theorem dAS_mismatch_67 : decode cAS_mismatch 67 = .ok (.isub, 1) := by decide +kernel
theorem dAS_mismatch_68 : decode cAS_mismatch 68 = .ok (.istore 5, 2) := by decide +kernel
theorem dAS_mismatch_70 : decode cAS_mismatch 70 = .ok (.iload 5, 2) := by decide +kernel
theorem dAS_mismatch_72 : decode cAS_mismatch 72 = .ok (.iload 4, 2) := by decide +kernel
theorem dAS_mismatch_74 : decode cAS_mismatch 74 = .ok (.if_icmp .ge 27, 3) := by decide +kernel
theorem dAS_mismatch_77 : decode cAS_mismatch 77 = .ok (.aload_n 0, 1) := by decide +kernel
theorem dAS_mismatch_78 : decode cAS_mismatch 78 = .ok (.iload_n 1, 1) := by decide +kernel
theorem dAS_mismatch_79 : decode cAS_mismatch 79 = .ok (.iload 5, 2) := by decide +kernel
theorem dAS_mismatch_81 : decode cAS_mismatch 81 = .ok (.iadd, 1) := by decide +kernel
theorem dAS_mismatch_82 : decode cAS_mismatch 82 = .ok (.baload, 1) := by decide +kernel
theorem dAS_mismatch_83 : decode cAS_mismatch 83 = .ok (.aload_n 2, 1) := by decide +kernel
theorem dAS_mismatch_84 : decode cAS_mismatch 84 = .ok (.iload_n 3, 1) := by decide +kernel
theorem dAS_mismatch_85 : decode cAS_mismatch 85 = .ok (.iload 5, 2) := by decide +kernel
theorem dAS_mismatch_87 : decode cAS_mismatch 87 = .ok (.iadd, 1) := by decide +kernel
theorem dAS_mismatch_88 : decode cAS_mismatch 88 = .ok (.baload, 1) := by decide +kernel
theorem dAS_mismatch_89 : decode cAS_mismatch 89 = .ok (.if_icmp .eq 6, 3) := by decide +kernel
theorem dAS_mismatch_92 : decode cAS_mismatch 92 = .ok (.iload 5, 2) := by decide +kernel
theorem dAS_mismatch_94 : decode cAS_mismatch 94 = .ok (.ireturn, 1) := by decide +kernel
theorem dAS_mismatch_95 : decode cAS_mismatch 95 = .ok (.iinc 5 1, 3) := by decide +kernel
theorem dAS_mismatch_98 : decode cAS_mismatch 98 = .ok (.goto (-28), 3) := by decide +kernel
theorem dAS_mismatch_101 : decode cAS_mismatch 101 = .ok (.iconst (-1), 1) := by decide +kernel
theorem dAS_mismatch_102 : decode cAS_mismatch 102 = .ok (.ireturn, 1) := by decide +kernel
set_option maxHeartbeats 800000 in
set_option maxRecDepth 100000 in
theorem mAS_mismatch (l : Launch) (g : kG) (μ : km_M) {va n : Nat} {f : Nat → Nat} (hv : μ va = some (.inl (g.2.2.1 0, n, .inl (fun j => sb (f j))))) (hf : ∀ k, f k < 256) (hn : n ≤ 400) {i : Nat} (hi : i < 13) (hle : kLen.getD i 0 ≤ n) : Met l yAS_mismatch (Cond.code yAS_mismatch cAS_mismatch 8 (some .int) :: Wd) ({ frames := 0, cells := 0, slots := 0, locals := 0 } : Room) (kPre g μ [.ref va, .int (nI 0), .ref (g.2.2.2.2.2 i), .int (nI 0), .int (nI (kLen.getD i 0))]) (kQi g (fun (r : Int32) (μ1 : km_M) => μ1 = μ ∧ ((r = (-1) ∧ (∀ y, y < kLen.getD i 0 → f y = kb i y)) ∨ (∃ q, q < kLen.getD i 0 ∧ r = nI q ∧ ¬ f q = kb i q)))) 0 0 (kF g) := by
  refine k_met (by decide) (Nat.le_of_ble_eq_true rfl) ?_
  intro p e s m below meth c hx hb hr hlocks hml hown hnm hW ls hl H locs hM
  have hl : lv_has ls 8 [(0, .ref va), (1, .int (nI 0)), (2, .ref (g.2.2.2.2.2 i)), (3, .int (nI 0)), (4, .int (nI (kLen.getD i 0)))] := hl
  have hkl := kLen_le i hi
  have cut70 : ∀ (fu : Nat), ∀ (q : Nat), kLen.getD i 0 - q < fu → q ≤ kLen.getD i 0 → (∀ y, y < q → f y = kb i y) → ∀ (ls : Array Slot) (H : Heap) (locs : List Loc), lv_has ls 8 [(0, .ref va), (1, .int (nI 0)), (2, .ref (g.2.2.2.2.2 i)), (3, .int (nI 0)), (4, .int (nI (kLen.getD i 0))), (5, .int (nI q))] → kS g (μ) s H locs → W p l e ({ frames := 0, cells := 0, slots := 0, locals := 0 } : Room) s m [.ref va, .int (nI 0), .ref (g.2.2.2.2.2 i), .int (nI 0), .int (nI (kLen.getD i 0))].toArray below meth c H locs 0 0 (MQ below (kQi g (fun (r : Int32) (μ1 : km_M) => μ1 = μ ∧ ((r = (-1) ∧ (∀ y, y < kLen.getD i 0 → f y = kb i y)) ∨ (∃ q, q < kLen.getD i 0 ∧ r = nI q ∧ ¬ f q = kb i q)))) [.ref va, .int (nI 0), .ref (g.2.2.2.2.2 i), .int (nI 0), .int (nI (kLen.getD i 0))].toArray s 0 0 (kF g)) (F0 m 70 ls []) := by
    intro fu
    induction fu with
    | zero => intro q hlt; exact absurd hlt (Nat.not_lt_zero _)
    | succ fu ih =>
      intro q hlt hq he ls H locs hl hM
      refine lv_iload hx hb dAS_mismatch_70 (lv_at hl 5 rfl) ?_
      refine lv_iload hx hb dAS_mismatch_72 (lv_at hl 4 rfl) ?_
      refine lv_icmp_ge (tgt := 101) hx hb dAS_mismatch_74 (by decide) (fun h74 => ?_) (fun h74 => ?_)
      · have h74 := (nJ_ge_t (a := q) (b := kLen.getD i 0) (by omega) (by omega)).mp h74
        refine lv_iconst (v := (-1)) hx hb dAS_mismatch_101 (by decide) ?_
        exact kr_i hx hb hr hlocks hM dAS_mismatch_102 (⟨rfl, Or.inl ⟨rfl, by rw [show kLen.getD i 0 = q by omega]; exact he⟩⟩)
      · have h74 := (nJ_ge_f (a := q) (b := kLen.getD i 0) (by omega) (by omega)).mp h74
        refine lv_aload_n hx hb dAS_mismatch_77 rfl (lv_at hl 0 rfl) ?_
        refine lv_iload_n hx hb dAS_mismatch_78 rfl (lv_at hl 1 rfl) ?_
        refine lv_iload hx hb dAS_mismatch_79 (lv_at hl 5 rfl) ?_
        refine lv_iadd hx hb dAS_mismatch_81 ?_
        refine topi_eq (y := nI q) ((nI_add _ _).trans (congrArg nI (Nat.zero_add _))) ?_
        refine k_bald (i := q) hx hb hM 0 hv rfl (by omega) (by omega) dAS_mismatch_82 ?_
        refine lv_aload_n hx hb dAS_mismatch_83 rfl (lv_at hl 2 rfl) ?_
        refine lv_iload_n hx hb dAS_mismatch_84 rfl (lv_at hl 3 rfl) ?_
        refine lv_iload hx hb dAS_mismatch_85 (lv_at hl 5 rfl) ?_
        refine lv_iadd hx hb dAS_mismatch_87 ?_
        refine topi_eq (y := nI q) ((nI_add _ _).trans (congrArg nI (Nat.zero_add _))) ?_
        refine va_tb (v := .int (sb (kb i q))) hx hb (hM.2.1.2.2.2.1.1 i (hi)).2.2.2 hM.2.2.2 (vp_in_nI (by omega) (by omega)) (by rw [nI_clamp (by omega)]; exact congrArg Value.int (kb_sb i (hi) q (by omega))) dAS_mismatch_88 ?_
        refine lv_icmp_eq (tgt := 95) hx hb dAS_mismatch_89 (by decide) (fun h89 => ?_) (fun h89 => ?_)
        · have h89 := (sb_inj (hf q) (kb_lt i hi q (by omega))).mp h89
          refine lv_iinc (v := nI (q + 1)) (lv' := [(5, .int (nI (q + 1))), (0, .ref va), (1, .int (nI 0)), (2, .ref (g.2.2.2.2.2 i)), (3, .int (nI 0)), (4, .int (nI (kLen.getD i 0)))]) (k := 5) hx hb dAS_mismatch_95 hl rfl (ii1 q) (by decide) rfl (fun ls hl => ?_)
          refine lv_goto (tgt := 70) hx hb dAS_mismatch_98 (by decide) ?_
          exact ih (q + 1) (by omega) (by first | assumption | omega | exact rfl) (by exact all_q he h89) ls H locs (lv_sub hl [1, 2, 3, 4, 5, 0] rfl) hM
        · have h89 := (not_congr (sb_inj (hf q) (kb_lt i hi q (by omega)))).mp h89
          refine lv_iload hx hb dAS_mismatch_92 (lv_at hl 5 rfl) ?_
          exact kr_i hx hb hr hlocks hM dAS_mismatch_94 (⟨rfl, Or.inr ⟨q, by omega, rfl, h89⟩⟩)
  refine lv_iconst (v := nI 0) hx hb dAS_mismatch_0 (by decide) ?_
  refine lv_istore (lv' := [(5, .int (nI 0)), (0, .ref va), (1, .int (nI 0)), (2, .ref (g.2.2.2.2.2 i)), (3, .int (nI 0)), (4, .int (nI (kLen.getD i 0)))]) hx hb dAS_mismatch_1 hl (by decide) rfl (fun ls hl => ?_)
  refine lv_iload hx hb dAS_mismatch_3 (lv_at hl 5 rfl) ?_
  refine lv_bipush (v := nI 7) hx hb dAS_mismatch_5 (by decide) ?_
  refine lv_icmp_le (tgt := 70) hx hb dAS_mismatch_7 (by decide) (fun h7 => ?_) (fun h7 => ?_)
  · skip
    exact cut70 _ 0 (Nat.lt_succ_self _) (by first | assumption | omega | exact rfl) (by exact fun y hy => absurd hy (Nat.not_lt_zero _)) ls H locs (lv_sub hl [1, 2, 3, 4, 5, 0] rfl) hM
  · have h7 := (nJ_le_f (a := kLen.getD i 0) (b := 7) (by omega) (by omega)).mp h7
    exact absurd h7 (by omega)
set_option maxHeartbeats 800000 in
set_option maxRecDepth 100000 in
theorem mST_startsWith2 (l : Launch) (g : kG) (μ : km_M) {a va n : Nat} {f : Nat → Nat} (hs : μ a = some (.inr (7, [.ref va, .int (nI 0), .int (nI 0), .int (nI 0)]))) (hv : μ va = some (.inl (g.2.2.1 0, n, .inl (fun j => sb (f j))))) (hf : ∀ k, f k < 256) (hn : n ≤ 400) {i : Nat} (hi : i < 13) : Met l yST_startsWith2 (Cond.code yST_startsWith2 cST_startsWith2 8 (some .boolean) :: Wd) ({ frames := 2, cells := 0, slots := 0, locals := 40 } : Room) (kPre g μ [.ref a, .ref (g.2.2.2.2.1 i), .int (nI 0)]) (kQi g (fun (r : Int32) (μ1 : km_M) => μ1 = μ ∧ ((swP f n i ∧ r = nI 1) ∨ (¬ swP f n i ∧ r = nI 0)))) 0 0 (kF g) := by
  refine k_met (by decide) (Nat.le_of_ble_eq_true rfl) ?_
  intro p e s m below meth c hx hb hr hlocks hml hown hnm hW ls hl H locs hM
  have hl : lv_has ls 8 [(0, .ref a), (1, .ref (g.2.2.2.2.1 i)), (2, .int (nI 0))] := hl
  have hkl := kLen_le i hi
  refine lv_iload_n hx hb dST_startsWith2_0 rfl (lv_at hl 2 rfl) ?_
  refine lv_if_lt (tgt := 17) hx hb dST_startsWith2_1 (by decide) (fun h => absurd h (by decide)) (fun _ => ?_)
  refine lv_iload_n hx hb dST_startsWith2_4 rfl (lv_at hl 2 rfl) ?_
  refine lv_aload_n hx hb dST_startsWith2_5 rfl (lv_at hl 0 rfl) ?_
  refine kc_i (va_runV (C := RST) (As := []) (b := a) (rest := [.int (nI 0)]) (Ts := Wd) ⟨hx, hb, hml, hown, hW⟩ (mST_length l g μ hs hv hf hn) (cwV 0 hW (k_gV w_469 w_431 w_432 w_9 w_433) rfl rfl rfl (by decide +kernel) ⟨Nat.le_of_ble_eq_true rfl, Nat.le_of_ble_eq_true rfl⟩) (k_preV (q := (RST, TST, 4)) hM hs rfl) rfl rfl hl.1 rfl (lv_room (Nat.le_of_ble_eq_true rfl)) dST_startsWith2_6 ⟨Nat.zero_le _, Nat.zero_le _⟩) hM (fun r μ1 H locs hp hM => ?_)
  obtain ⟨rfl, hmu⟩ := hp
  rw [hmu] at hM
  refine lv_aload_n hx hb dST_startsWith2_9 rfl (lv_at hl 1 rfl) ?_
  refine kc_i (va_runV (C := RST) (As := []) (b := g.2.2.2.2.1 i) (rest := [.int (nI n), .int (nI 0)]) (Ts := Wd) ⟨hx, hb, hml, hown, hW⟩ (mST_lengthL l g μ hi) (cwV 0 hW (k_gV w_469 w_431 w_432 w_9 w_433) rfl rfl rfl (by decide +kernel) ⟨Nat.le_of_ble_eq_true rfl, Nat.le_of_ble_eq_true rfl⟩) (k_preL hM (hi)) rfl rfl hl.1 rfl (lv_room (Nat.le_of_ble_eq_true rfl)) dST_startsWith2_10 ⟨Nat.zero_le _, Nat.zero_le _⟩) hM (fun r μ1 H locs hp hM => ?_)
  obtain ⟨rfl, hmu⟩ := hp
  rw [hmu] at hM
  refine lv_isub hx hb dST_startsWith2_13 ?_
  refine topi_eq (y := nI n - nI (kLen.getD i 0)) rfl ?_
  refine lv_icmp_le (tgt := 19) hx hb dST_startsWith2_14 (by decide) (fun h14 => ?_) (fun h14 => ?_)
  · have h14 : kLen.getD i 0 ≤ n := by rw [Int32.le_iff_toInt_le, pk_sub_toInt (by omega) (by omega), nI_toInt (by omega)] at h14; omega
    refine lv_aload_n hx hb dST_startsWith2_19 rfl (lv_at hl 0 rfl) ?_
    refine k_get (own := RST) (ref := RST) (C := RST) (T := TST) (N := 4) (ci := 7) (v := .ref va) hx hb hW inST hown hM hs rfl 0 (by decide) (hW _ w_398) (fun _ h => h) rfl dST_startsWith2_20 ?_
    refine lv_astore_n (lv' := [(3, .ref va), (0, .ref a), (1, .ref (g.2.2.2.2.1 i)), (2, .int (nI 0))]) hx hb dST_startsWith2_23 rfl hl (by decide) rfl (fun ls hl => ?_)
    refine lv_aload_n hx hb dST_startsWith2_24 rfl (lv_at hl 2 rfl) ?_
    refine vk_getf (o := "java/lang/String") (n := "value") (d := "[B") (q := g.2.2.2.2.1 i) (v := .ref (g.2.2.2.2.2 i)) hx hb (hM.2.1.2.2.2.1.1 i (hi)).2.2.1 hM.2.2.2 hown (hW _ w_398) (fun _ h => h) dST_startsWith2_25 ?_
    refine lv_astore (lv' := [(4, .ref (g.2.2.2.2.2 i)), (3, .ref va), (0, .ref a), (1, .ref (g.2.2.2.2.1 i)), (2, .int (nI 0))]) hx hb dST_startsWith2_28 hl (by decide) rfl (fun ls hl => ?_)
    refine lv_iconst (v := nI 0) hx hb dST_startsWith2_30 (by decide) ?_
    refine lv_istore (lv' := [(5, .int (nI 0)), (4, .ref (g.2.2.2.2.2 i)), (3, .ref va), (0, .ref a), (1, .ref (g.2.2.2.2.1 i)), (2, .int (nI 0))]) hx hb dST_startsWith2_31 hl (by decide) rfl (fun ls hl => ?_)
    refine lv_aload hx hb dST_startsWith2_33 (lv_at hl 1 rfl) ?_
    refine va_tlen (v := nI (kLen.getD i 0)) hx hb (hM.2.1.2.2.2.1.1 i (hi)).2.2.2 hM.2.2.2 rfl dST_startsWith2_35 ?_
    refine lv_istore (lv' := [(6, .int (nI (kLen.getD i 0))), (5, .int (nI 0)), (4, .ref (g.2.2.2.2.2 i)), (3, .ref va), (0, .ref a), (1, .ref (g.2.2.2.2.1 i)), (2, .int (nI 0))]) hx hb dST_startsWith2_36 hl (by decide) rfl (fun ls hl => ?_)
    refine lv_aload_n hx hb dST_startsWith2_38 rfl (lv_at hl 4 rfl) ?_
    refine kc_i (va_runV (C := RST) (As := []) (b := a) (rest := []) (Ts := Wd) ⟨hx, hb, hml, hown, hW⟩ (mST_coder l g μ hs) (cwV 0 hW (k_gV w_434 w_435 w_436 w_9 w_437) rfl rfl rfl (by decide +kernel) ⟨Nat.le_of_ble_eq_true rfl, Nat.le_of_ble_eq_true rfl⟩) (k_preV (q := (RST, TST, 4)) hM hs rfl) rfl rfl hl.1 rfl (lv_room (Nat.le_of_ble_eq_true rfl)) dST_startsWith2_39 ⟨Nat.zero_le _, Nat.zero_le _⟩) hM (fun r μ1 H locs hp hM => ?_)
    obtain ⟨rfl, hmu⟩ := hp
    rw [hmu] at hM
    refine lv_istore (lv' := [(7, .int (nI 0)), (6, .int (nI (kLen.getD i 0))), (5, .int (nI 0)), (4, .ref (g.2.2.2.2.2 i)), (3, .ref va), (0, .ref a), (1, .ref (g.2.2.2.2.1 i)), (2, .int (nI 0))]) hx hb dST_startsWith2_42 hl (by decide) rfl (fun ls hl => ?_)
    refine lv_iload hx hb dST_startsWith2_44 (lv_at hl 0 rfl) ?_
    refine lv_aload_n hx hb dST_startsWith2_46 rfl (lv_at hl 6 rfl) ?_
    refine kc_i (va_runV (C := RST) (As := []) (b := g.2.2.2.2.1 i) (rest := [.int (nI 0)]) (Ts := Wd) ⟨hx, hb, hml, hown, hW⟩ (mST_coderL l g μ hi) (cwV 0 hW (k_gV w_434 w_435 w_436 w_9 w_437) rfl rfl rfl (by decide +kernel) ⟨Nat.le_of_ble_eq_true rfl, Nat.le_of_ble_eq_true rfl⟩) (k_preL hM (hi)) rfl rfl hl.1 rfl (lv_room (Nat.le_of_ble_eq_true rfl)) dST_startsWith2_47 ⟨Nat.zero_le _, Nat.zero_le _⟩) hM (fun r μ1 H locs hp hM => ?_)
    obtain ⟨rfl, hmu⟩ := hp
    rw [hmu] at hM
    refine lv_icmp_ne (tgt := 82) hx hb dST_startsWith2_50 (by decide) (fun h => absurd (by decide) h) (fun _ => ?_)
    refine lv_iload hx hb dST_startsWith2_53 (lv_at hl 0 rfl) ?_
    refine lv_iconst (v := nI 1) hx hb dST_startsWith2_55 (by decide) ?_
    refine lv_icmp_ne (tgt := 63) hx hb dST_startsWith2_56 (by decide) (fun _ => ?_) (fun h => absurd h (by decide))
    refine lv_aload_n hx hb dST_startsWith2_63 rfl (lv_at hl 4 rfl) ?_
    refine lv_iload_n hx hb dST_startsWith2_64 rfl (lv_at hl 7 rfl) ?_
    refine lv_aload hx hb dST_startsWith2_65 (lv_at hl 3 rfl) ?_
    refine lv_iconst (v := nI 0) hx hb dST_startsWith2_67 (by decide) ?_
    refine lv_iload hx hb dST_startsWith2_68 (lv_at hl 1 rfl) ?_
    refine kc_i (va_runS (As := [.ref va, .int (nI 0), .ref (g.2.2.2.2.2 i), .int (nI 0), .int (nI (kLen.getD i 0))]) (rest := []) (Ts := Wd) ⟨hx, hb, hml, hown, hW⟩ (mAS_mismatch l g μ hv hf hn hi (by omega)) (va_cwS 5 hW (k_gS w_612 w_613 w_17 w_614) rfl rfl rfl (by decide +kernel) ⟨Nat.le_of_ble_eq_true rfl, Nat.le_of_ble_eq_true rfl⟩) (k_preS hM) rfl rfl hl.1 rfl (lv_room (Nat.le_of_ble_eq_true rfl)) dST_startsWith2_70 ⟨Nat.zero_le _, Nat.zero_le _⟩) hM (fun r μ1 H locs hp hM => ?_)
    obtain ⟨hmu, hcase⟩ := hp
    rw [hmu] at hM
    rcases hcase with ⟨rfl, hall⟩ | ⟨q, hq, rfl, hne⟩
    · skip
      refine lv_if_ge (tgt := 80) hx hb dST_startsWith2_73 (by decide) (fun h => absurd h (by decide)) (fun _ => ?_)
      refine lv_iconst (v := nI 1) hx hb dST_startsWith2_76 (by decide) ?_
      refine lv_goto (tgt := 81) hx hb dST_startsWith2_77 (by decide) ?_
      exact kr_z hx hb hr (by decide) hlocks hM dST_startsWith2_81 (⟨rfl, Or.inl ⟨⟨h14, hall⟩, rfl⟩⟩)
    · skip
      refine lv_if_ge (tgt := 80) hx hb dST_startsWith2_73 (by decide) (fun h73 => ?_) (fun h73 => ?_)
      · skip
        refine lv_iconst (v := nI 0) hx hb dST_startsWith2_80 (by decide) ?_
        exact kr_z hx hb hr (by decide) hlocks hM dST_startsWith2_81 (⟨rfl, Or.inr ⟨fun z => hne (z.2 q hq), rfl⟩⟩)
      · exact absurd (nI_pos' (by omega)) h73
  · have h14 : ¬ kLen.getD i 0 ≤ n := fun z => h14 (by rw [Int32.le_iff_toInt_le, pk_sub_toInt (by omega) (by omega), nI_toInt (by omega)]; omega)
    refine lv_iconst (v := nI 0) hx hb dST_startsWith2_17 (by decide) ?_
    exact kr_z hx hb hr (by decide) hlocks hM dST_startsWith2_18 (⟨rfl, Or.inr ⟨fun z => h14 z.1, rfl⟩⟩)
set_option maxHeartbeats 800000 in
set_option maxRecDepth 100000 in
theorem mST_startsWith (l : Launch) (g : kG) (μ : km_M) {a va n : Nat} {f : Nat → Nat} (hs : μ a = some (.inr (7, [.ref va, .int (nI 0), .int (nI 0), .int (nI 0)]))) (hv : μ va = some (.inl (g.2.2.1 0, n, .inl (fun j => sb (f j))))) (hf : ∀ k, f k < 256) (hn : n ≤ 400) {i : Nat} (hi : i < 13) : Met l yST_startsWith (Cond.code yST_startsWith cST_startsWith 2 (some .boolean) :: Wd) ({ frames := 3, cells := 0, slots := 0, locals := 67 } : Room) (kPre g μ [.ref a, .ref (g.2.2.2.2.1 i)]) (kQi g (fun (r : Int32) (μ1 : km_M) => μ1 = μ ∧ ((swP f n i ∧ r = nI 1) ∨ (¬ swP f n i ∧ r = nI 0)))) 0 0 (kF g) := by
  refine k_met (by decide) (Nat.le_of_ble_eq_true rfl) ?_
  intro p e s m below meth c hx hb hr hlocks hml hown hnm hW ls hl H locs hM
  have hl : lv_has ls 2 [(0, .ref a), (1, .ref (g.2.2.2.2.1 i))] := hl
  refine lv_aload_n hx hb dST_startsWith_0 rfl (lv_at hl 0 rfl) ?_
  refine lv_aload_n hx hb dST_startsWith_1 rfl (lv_at hl 1 rfl) ?_
  refine lv_iconst (v := nI 0) hx hb dST_startsWith_2 (by decide) ?_
  refine kc_i (va_runV (C := RST) (As := [.ref (g.2.2.2.2.1 i), .int (nI 0)]) (b := a) (rest := []) (Ts := Wd) ⟨hx, hb, hml, hown, hW⟩ (mST_startsWith2 l g μ hs hv hf hn hi) (cwV 2 hW (k_gV w_608 w_609 w_610 w_9 w_611) rfl rfl rfl (by decide +kernel) ⟨Nat.le_of_ble_eq_true rfl, Nat.le_of_ble_eq_true rfl⟩) (k_preV (q := (RST, TST, 4)) hM hs rfl) rfl rfl hl.1 rfl (lv_room (Nat.le_of_ble_eq_true rfl)) dST_startsWith_3 ⟨Nat.zero_le _, Nat.zero_le _⟩) hM (fun r μ1 H locs hp hM => ?_)
  obtain ⟨hmu, hcase⟩ := hp
  rw [hmu] at hM
  rcases hcase with ⟨hsw, rfl⟩ | ⟨hsw, rfl⟩
  · skip
    exact kr_z hx hb hr (by decide) hlocks hM dST_startsWith_6 (⟨rfl, Or.inl ⟨hsw, rfl⟩⟩)
  · skip
    exact kr_z hx hb hr (by decide) hlocks hM dST_startsWith_6 (⟨rfl, Or.inr ⟨hsw, rfl⟩⟩)
