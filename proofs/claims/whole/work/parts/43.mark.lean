theorem bI_eqv {P Q : Prop} [Decidable P] [Decidable Q] : bI (decide P) = bI (decide Q) ↔ (P ↔ Q) := by
  by_cases hp : P <;> by_cases hq : Q
  · simp [hp, hq]
  · rw [decide_eq_true hp, decide_eq_false hq]
    exact ⟨fun z => absurd z (by decide), fun z => absurd (z.mp hp) hq⟩
  · rw [decide_eq_false hp, decide_eq_true hq]
    exact ⟨fun z => absurd z (by decide), fun z => absurd (z.mpr hq) hp⟩
  · simp [hp, hq]
theorem mV_dt {f h : Nat → Nat} {n m : Nat} (hn : okM f n) (hm : okM h m) (hx : (sg f 0 n).all dD = true) (hy : ¬ (sg h 0 m).all dD = true) : mV (sg f 0 n) < mV (sg h 0 m) := by
  rw [mV_dig hx, mV_txt hy hm.2.1]
  have h1 := vN_small hx hn.2.1
  have h2 := mKp_big hm
  omega
theorem mk_diff {f h : Nat → Nat} {n m k : Nat} (hf : ∀ k, f k < 256) (hh : ∀ k, h k < 256) (hn : okM f n) (hm : okM h m) (hx : ¬ (sg f 0 n).all dD = true) (hy : ¬ (sg h 0 m).all dD = true) (h1 : k < n) (h2 : k < m) (he : ∀ j, j < k → f j = h j) (hne : f k ≠ h k) :
    (f k = h k ↔ mV (sg f 0 n) = mV (sg h 0 m)) ∧ (f k < h k ↔ mV (sg f 0 n) < mV (sg h 0 m)) := by
  rw [mV_txt hx hn.2.1, mV_txt hy hm.2.1]
  rcases Nat.lt_or_gt_of_ne hne with hlt | hlt
  · have hA := mKp_A hf hh k 8 0 n m hn.2.1 hm.2.1 h1 h2 (fun j hj => by rw [Nat.zero_add]; exact he j hj) (by rw [Nat.zero_add]; exact hlt)
    exact ⟨⟨fun z => absurd z hne, fun z => by omega⟩, ⟨fun _ => hA, fun _ => hlt⟩⟩
  · have hA := mKp_A hh hf k 8 0 m n hm.2.1 hn.2.1 h2 h1 (fun j hj => by rw [Nat.zero_add]; exact (he j hj).symm) (by rw [Nat.zero_add]; exact hlt)
    exact ⟨⟨fun z => absurd z hne, fun z => by omega⟩, ⟨fun z => by omega, fun z => by omega⟩⟩
theorem mk_len {f h : Nat → Nat} {n m k : Nat} (hn : okM f n) (hm : okM h m) (hx : ¬ (sg f 0 n).all dD = true) (hy : ¬ (sg h 0 m).all dD = true) (hk : n ≤ k ∨ m ≤ k) (h1 : k ≤ n) (h2 : k ≤ m) (he : ∀ j, j < k → f j = h j) :
    (n = m ↔ mV (sg f 0 n) = mV (sg h 0 m)) ∧ (n < m ↔ mV (sg f 0 n) < mV (sg h 0 m)) := by
  rw [mV_txt hx hn.2.1, mV_txt hy hm.2.1]
  rcases Nat.lt_trichotomy n m with hlt | heq | hlt
  · have hA := mKp_B (f := f) (h := h) n 8 0 m hm.2.1 hlt (fun j hj => by rw [Nat.zero_add]; exact he j (by omega)) (by rw [Nat.zero_add]; have := okM_b hm hlt; omega)
    exact ⟨⟨fun z => by omega, fun z => by omega⟩, ⟨fun _ => hA, fun _ => hlt⟩⟩
  · have e : sg f 0 n = sg h 0 n := sg_eq n 0 (fun j hj => by rw [Nat.zero_add]; exact he j (by omega))
    rw [e, heq]
    exact ⟨⟨fun _ => rfl, fun _ => rfl⟩, ⟨fun z => by omega, fun z => by omega⟩⟩
  · have hA := mKp_B (f := h) (h := f) m 8 0 n hn.2.1 hlt (fun j hj => by rw [Nat.zero_add]; exact (he j (by omega)).symm) (by rw [Nat.zero_add]; have := okM_b hn hlt; omega)
    exact ⟨⟨fun z => by omega, fun z => by omega⟩, ⟨fun z => by omega, fun z => by omega⟩⟩
theorem m_neg {a b : Nat} (h : a < b) : ((-1 : Int32) = 0 ↔ a = b) ∧ ((-1 : Int32) < 0 ↔ a < b) := ⟨⟨fun z => absurd z (by decide), fun z => by omega⟩, ⟨fun _ => h, fun _ => by decide⟩⟩
theorem m_pos {a b : Nat} (h : b < a) : (nI 1 = 0 ↔ a = b) ∧ (nI 1 < 0 ↔ a < b) := ⟨⟨fun z => absurd z (by decide), fun z => by omega⟩, ⟨fun z => absurd z (by decide), fun z => by omega⟩⟩
set_option maxHeartbeats 800000 in
set_option maxRecDepth 100000 in
theorem mMD_mark (l : Launch) (g : kG) (μ : km_M) {a va n : Nat} {f : Nat → Nat} (hs : μ a = some (.inr (7, [.ref va, .int (nI 0), .int (nI 0), .int (nI 0)]))) (hv : μ va = some (.inl (g.2.2.1 0, n, .inl (fun j => sb (f j))))) (hf : ∀ k, f k < 256) (hn : okM f n) {b vb mm : Nat} {h : Nat → Nat} (hs2 : μ b = some (.inr (7, [.ref vb, .int (nI 0), .int (nI 0), .int (nI 0)]))) (hv2 : μ vb = some (.inl (g.2.2.1 0, mm, .inl (fun j => sb (h j))))) (hf2 : ∀ k, h k < 256) (hmm : okM h mm) : Met l yMD_mark (Cond.code yMD_mark cMD_mark 5 (some .int) :: Wd) ({ frames := 6, cells := 0, slots := 0, locals := 129 } : Room) (kPre g μ [.ref a, .ref b]) (kQi g (fun (r : Int32) (μ1 : km_M) => μ1 = μ ∧ (r = 0 ↔ mV (sg f 0 n) = mV (sg h 0 mm)) ∧ (r < 0 ↔ mV (sg f 0 n) < mV (sg h 0 mm)))) 0 0 (kF g) := by
  refine k_met (by decide) (Nat.le_of_ble_eq_true rfl) ?_
  intro p e s m below meth c hx hb hr hlocks hml hown hnm hW ls hl H locs hM
  have hl : lv_has ls 5 [(0, .ref a), (1, .ref b)] := hl
  have n1 := hn.1
  have n8 := hn.2.1
  have m1 := hmm.1
  have m8 := hmm.2.1
  have cut50 : ∀ (fu : Nat), ∀ (k : Nat), n - k < fu → k ≤ n → k ≤ mm → ¬ (sg f 0 n).all dD = true → ¬ (sg h 0 mm).all dD = true → (∀ j, j < k → f j = h j) → ∀ (ls : Array Slot) (H : Heap) (locs : List Loc), lv_has ls 5 [(0, .ref a), (1, .ref b), (4, .int (nI k))] → kS g (μ) s H locs → W p l e ({ frames := 6, cells := 0, slots := 0, locals := 129 } : Room) s m [.ref a, .ref b].toArray below meth c H locs 0 0 (MQ below (kQi g (fun (r : Int32) (μ1 : km_M) => μ1 = μ ∧ (r = 0 ↔ mV (sg f 0 n) = mV (sg h 0 mm)) ∧ (r < 0 ↔ mV (sg f 0 n) < mV (sg h 0 mm)))) [.ref a, .ref b].toArray s 0 0 (kF g)) (F0 m 50 ls []) := by
    intro fu
    induction fu with
    | zero => intro k hlt; exact absurd hlt (Nat.not_lt_zero _)
    | succ fu ih =>
      intro k hlt hk hk2 hdx hdy he ls H locs hl hM
      refine lv_iload hx hb dMD_mark_50 (lv_at hl 2 rfl) ?_
      refine lv_aload_n hx hb dMD_mark_52 rfl (lv_at hl 0 rfl) ?_
      refine kc_i (va_runV (C := RST) (As := []) (b := a) (rest := [.int (nI k)]) (Ts := Wd) ⟨hx, hb, hml, hown, hW⟩ (mST_length l g μ hs hv hf (by omega)) (cwV 0 hW (k_gV w_430 w_431 w_432 w_9 w_433) rfl rfl rfl (by decide +kernel) ⟨Nat.le_of_ble_eq_true rfl, Nat.le_of_ble_eq_true rfl⟩) (k_preV (q := (RST, TST, 4)) hM hs rfl) rfl rfl hl.1 rfl (lv_room (Nat.le_of_ble_eq_true rfl)) dMD_mark_53 ⟨Nat.zero_le _, Nat.zero_le _⟩) hM (fun r μ1 H locs hp hM => ?_)
      obtain ⟨rfl, hmu⟩ := hp
      rw [hmu] at hM
      refine lv_icmp_ge (tgt := 103) hx hb dMD_mark_56 (by decide) (fun h56 => ?_) (fun h56 => ?_)
      · have h56 := (nJ_ge_t (a := k) (b := n) (by omega) (by omega)).mp h56
        refine lv_aload_n hx hb dMD_mark_103 rfl (lv_at hl 0 rfl) ?_
        refine kc_i (va_runV (C := RST) (As := []) (b := a) (rest := []) (Ts := Wd) ⟨hx, hb, hml, hown, hW⟩ (mST_length l g μ hs hv hf (by omega)) (cwV 0 hW (k_gV w_430 w_431 w_432 w_9 w_433) rfl rfl rfl (by decide +kernel) ⟨Nat.le_of_ble_eq_true rfl, Nat.le_of_ble_eq_true rfl⟩) (k_preV (q := (RST, TST, 4)) hM hs rfl) rfl rfl hl.1 rfl (lv_room (Nat.le_of_ble_eq_true rfl)) dMD_mark_104 ⟨Nat.zero_le _, Nat.zero_le _⟩) hM (fun r μ1 H locs hp hM => ?_)
        obtain ⟨rfl, hmu⟩ := hp
        rw [hmu] at hM
        refine lv_aload_n hx hb dMD_mark_107 rfl (lv_at hl 1 rfl) ?_
        refine kc_i (va_runV (C := RST) (As := []) (b := b) (rest := [.int (nI n)]) (Ts := Wd) ⟨hx, hb, hml, hown, hW⟩ (mST_length l g μ hs2 hv2 hf2 (by omega)) (cwV 0 hW (k_gV w_430 w_431 w_432 w_9 w_433) rfl rfl rfl (by decide +kernel) ⟨Nat.le_of_ble_eq_true rfl, Nat.le_of_ble_eq_true rfl⟩) (k_preV (q := (RST, TST, 4)) hM hs2 rfl) rfl rfl hl.1 rfl (lv_room (Nat.le_of_ble_eq_true rfl)) dMD_mark_108 ⟨Nat.zero_le _, Nat.zero_le _⟩) hM (fun r μ1 H locs hp hM => ?_)
        obtain ⟨rfl, hmu⟩ := hp
        rw [hmu] at hM
        refine lv_isub hx hb dMD_mark_111 ?_
        refine topi_eq (y := nI n - nI mm) rfl ?_
        exact kr_i hx hb hr hlocks hM dMD_mark_112 (⟨rfl, (subS (by omega) (by omega)).1.trans (mk_len hn hmm hdx hdy (by omega) hk hk2 he).1, (subS (by omega) (by omega)).2.trans (mk_len hn hmm hdx hdy (by omega) hk hk2 he).2⟩)
      · have h56 := (nJ_ge_f (a := k) (b := n) (by omega) (by omega)).mp h56
        refine lv_iload hx hb dMD_mark_59 (lv_at hl 2 rfl) ?_
        refine lv_aload_n hx hb dMD_mark_61 rfl (lv_at hl 1 rfl) ?_
        refine kc_i (va_runV (C := RST) (As := []) (b := b) (rest := [.int (nI k)]) (Ts := Wd) ⟨hx, hb, hml, hown, hW⟩ (mST_length l g μ hs2 hv2 hf2 (by omega)) (cwV 0 hW (k_gV w_430 w_431 w_432 w_9 w_433) rfl rfl rfl (by decide +kernel) ⟨Nat.le_of_ble_eq_true rfl, Nat.le_of_ble_eq_true rfl⟩) (k_preV (q := (RST, TST, 4)) hM hs2 rfl) rfl rfl hl.1 rfl (lv_room (Nat.le_of_ble_eq_true rfl)) dMD_mark_62 ⟨Nat.zero_le _, Nat.zero_le _⟩) hM (fun r μ1 H locs hp hM => ?_)
        obtain ⟨rfl, hmu⟩ := hp
        rw [hmu] at hM
        refine lv_icmp_ge (tgt := 103) hx hb dMD_mark_65 (by decide) (fun h65 => ?_) (fun h65 => ?_)
        · have h65 := (nJ_ge_t (a := k) (b := mm) (by omega) (by omega)).mp h65
          refine lv_aload_n hx hb dMD_mark_103 rfl (lv_at hl 0 rfl) ?_
          refine kc_i (va_runV (C := RST) (As := []) (b := a) (rest := []) (Ts := Wd) ⟨hx, hb, hml, hown, hW⟩ (mST_length l g μ hs hv hf (by omega)) (cwV 0 hW (k_gV w_430 w_431 w_432 w_9 w_433) rfl rfl rfl (by decide +kernel) ⟨Nat.le_of_ble_eq_true rfl, Nat.le_of_ble_eq_true rfl⟩) (k_preV (q := (RST, TST, 4)) hM hs rfl) rfl rfl hl.1 rfl (lv_room (Nat.le_of_ble_eq_true rfl)) dMD_mark_104 ⟨Nat.zero_le _, Nat.zero_le _⟩) hM (fun r μ1 H locs hp hM => ?_)
          obtain ⟨rfl, hmu⟩ := hp
          rw [hmu] at hM
          refine lv_aload_n hx hb dMD_mark_107 rfl (lv_at hl 1 rfl) ?_
          refine kc_i (va_runV (C := RST) (As := []) (b := b) (rest := [.int (nI n)]) (Ts := Wd) ⟨hx, hb, hml, hown, hW⟩ (mST_length l g μ hs2 hv2 hf2 (by omega)) (cwV 0 hW (k_gV w_430 w_431 w_432 w_9 w_433) rfl rfl rfl (by decide +kernel) ⟨Nat.le_of_ble_eq_true rfl, Nat.le_of_ble_eq_true rfl⟩) (k_preV (q := (RST, TST, 4)) hM hs2 rfl) rfl rfl hl.1 rfl (lv_room (Nat.le_of_ble_eq_true rfl)) dMD_mark_108 ⟨Nat.zero_le _, Nat.zero_le _⟩) hM (fun r μ1 H locs hp hM => ?_)
          obtain ⟨rfl, hmu⟩ := hp
          rw [hmu] at hM
          refine lv_isub hx hb dMD_mark_111 ?_
          refine topi_eq (y := nI n - nI mm) rfl ?_
          exact kr_i hx hb hr hlocks hM dMD_mark_112 (⟨rfl, (subS (by omega) (by omega)).1.trans (mk_len hn hmm hdx hdy (by omega) hk hk2 he).1, (subS (by omega) (by omega)).2.trans (mk_len hn hmm hdx hdy (by omega) hk hk2 he).2⟩)
        · have h65 := (nJ_ge_f (a := k) (b := mm) (by omega) (by omega)).mp h65
          refine lv_aload_n hx hb dMD_mark_68 rfl (lv_at hl 0 rfl) ?_
          refine lv_iload hx hb dMD_mark_69 (lv_at hl 2 rfl) ?_
          refine kc_i (va_runV (C := RST) (As := [.int (nI k)]) (b := a) (rest := []) (Ts := Wd) ⟨hx, hb, hml, hown, hW⟩ (mST_charAt l g μ hs hv hf (by omega) (i := k) (by omega)) (cwV 1 hW (k_gV w_438 w_439 w_440 w_9 w_441) rfl rfl rfl (by decide +kernel) ⟨Nat.le_of_ble_eq_true rfl, Nat.le_of_ble_eq_true rfl⟩) (k_preV (q := (RST, TST, 4)) hM hs rfl) rfl rfl hl.1 rfl (lv_room (Nat.le_of_ble_eq_true rfl)) dMD_mark_71 ⟨Nat.zero_le _, Nat.zero_le _⟩) hM (fun r μ1 H locs hp hM => ?_)
          obtain ⟨rfl, hmu⟩ := hp
          rw [hmu] at hM
          refine lv_aload_n hx hb dMD_mark_74 rfl (lv_at hl 1 rfl) ?_
          refine lv_iload hx hb dMD_mark_75 (lv_at hl 2 rfl) ?_
          refine kc_i (va_runV (C := RST) (As := [.int (nI k)]) (b := b) (rest := [.int (nI (f k))]) (Ts := Wd) ⟨hx, hb, hml, hown, hW⟩ (mST_charAt l g μ hs2 hv2 hf2 (by omega) (i := k) (by omega)) (cwV 1 hW (k_gV w_438 w_439 w_440 w_9 w_441) rfl rfl rfl (by decide +kernel) ⟨Nat.le_of_ble_eq_true rfl, Nat.le_of_ble_eq_true rfl⟩) (k_preV (q := (RST, TST, 4)) hM hs2 rfl) rfl rfl hl.1 rfl (lv_room (Nat.le_of_ble_eq_true rfl)) dMD_mark_77 ⟨Nat.zero_le _, Nat.zero_le _⟩) hM (fun r μ1 H locs hp hM => ?_)
          obtain ⟨rfl, hmu⟩ := hp
          rw [hmu] at hM
          have b1 := hf k
          have b2 := hf2 k
          refine lv_icmp_eq (tgt := 97) hx hb dMD_mark_80 (by decide) (fun h80 => ?_) (fun h80 => ?_)
          · have h80 := (nJ_eq_t (a := f k) (b := h k) (by omega) (by omega)).mp h80
            refine lv_iinc (v := nI (k + 1)) (lv' := [(4, .int (nI (k + 1))), (0, .ref a), (1, .ref b)]) (k := 2) hx hb dMD_mark_97 hl rfl (ii1 k) (by decide) rfl (fun ls hl => ?_)
            refine lv_goto (tgt := 50) hx hb dMD_mark_100 (by decide) ?_
            exact ih (k + 1) (by omega) (by first | assumption | omega | exact rfl) (by first | assumption | omega | exact rfl) (by first | assumption | omega | exact rfl) (by first | assumption | omega | exact rfl) (by exact fun j hj => by rcases (show j = k ∨ j < k by omega) with z | z; rw [z]; exact h80; exact he j z) ls H locs (lv_sub hl [1, 2, 0] rfl) hM
          · have h80 := (nJ_eq_f (a := f k) (b := h k) (by omega) (by omega)).mp h80
            refine lv_aload_n hx hb dMD_mark_83 rfl (lv_at hl 0 rfl) ?_
            refine lv_iload hx hb dMD_mark_84 (lv_at hl 2 rfl) ?_
            refine kc_i (va_runV (C := RST) (As := [.int (nI k)]) (b := a) (rest := []) (Ts := Wd) ⟨hx, hb, hml, hown, hW⟩ (mST_charAt l g μ hs hv hf (by omega) (i := k) (by omega)) (cwV 1 hW (k_gV w_438 w_439 w_440 w_9 w_441) rfl rfl rfl (by decide +kernel) ⟨Nat.le_of_ble_eq_true rfl, Nat.le_of_ble_eq_true rfl⟩) (k_preV (q := (RST, TST, 4)) hM hs rfl) rfl rfl hl.1 rfl (lv_room (Nat.le_of_ble_eq_true rfl)) dMD_mark_86 ⟨Nat.zero_le _, Nat.zero_le _⟩) hM (fun r μ1 H locs hp hM => ?_)
            obtain ⟨rfl, hmu⟩ := hp
            rw [hmu] at hM
            refine lv_aload_n hx hb dMD_mark_89 rfl (lv_at hl 1 rfl) ?_
            refine lv_iload hx hb dMD_mark_90 (lv_at hl 2 rfl) ?_
            refine kc_i (va_runV (C := RST) (As := [.int (nI k)]) (b := b) (rest := [.int (nI (f k))]) (Ts := Wd) ⟨hx, hb, hml, hown, hW⟩ (mST_charAt l g μ hs2 hv2 hf2 (by omega) (i := k) (by omega)) (cwV 1 hW (k_gV w_438 w_439 w_440 w_9 w_441) rfl rfl rfl (by decide +kernel) ⟨Nat.le_of_ble_eq_true rfl, Nat.le_of_ble_eq_true rfl⟩) (k_preV (q := (RST, TST, 4)) hM hs2 rfl) rfl rfl hl.1 rfl (lv_room (Nat.le_of_ble_eq_true rfl)) dMD_mark_92 ⟨Nat.zero_le _, Nat.zero_le _⟩) hM (fun r μ1 H locs hp hM => ?_)
            obtain ⟨rfl, hmu⟩ := hp
            rw [hmu] at hM
            have b1 := hf k
            have b2 := hf2 k
            refine lv_isub hx hb dMD_mark_95 ?_
            refine topi_eq (y := nI (f k) - nI (h k)) rfl ?_
            exact kr_i hx hb hr hlocks hM dMD_mark_96 (⟨rfl, (subS (by omega) (by omega)).1.trans (mk_diff hf hf2 hn hmm hdx hdy h56 h65 he h80).1, (subS (by omega) (by omega)).2.trans (mk_diff hf hf2 hn hmm hdx hdy h56 h65 he h80).2⟩)
  refine lv_aload_n hx hb dMD_mark_0 rfl (lv_at hl 0 rfl) ?_
  refine kc_i (va_runS (As := [.ref a]) (rest := []) (Ts := Wd) ⟨hx, hb, hml, hown, hW⟩ (mMD_digits l g μ hs hv hf (by omega)) (va_cwS 1 hW (k_gS w_519 w_520 w_7 w_521) rfl rfl rfl (by decide +kernel) ⟨Nat.le_of_ble_eq_true rfl, Nat.le_of_ble_eq_true rfl⟩) (k_preS hM) rfl rfl hl.1 rfl (lv_room (Nat.le_of_ble_eq_true rfl)) dMD_mark_1 ⟨Nat.zero_le _, Nat.zero_le _⟩) hM (fun r μ1 H locs hp hM => ?_)
  obtain ⟨rfl, hmu⟩ := hp
  rw [hmu] at hM
  refine lv_istore_n (lv' := [(2, .int (bI (decide ((sg f 0 n).all dD = true ∧ 0 < n)))), (0, .ref a), (1, .ref b)]) hx hb dMD_mark_4 rfl hl (by decide) rfl (fun ls hl => ?_)
  refine lv_aload_n hx hb dMD_mark_5 rfl (lv_at hl 2 rfl) ?_
  refine kc_i (va_runS (As := [.ref b]) (rest := []) (Ts := Wd) ⟨hx, hb, hml, hown, hW⟩ (mMD_digits l g μ hs2 hv2 hf2 (by omega)) (va_cwS 1 hW (k_gS w_519 w_520 w_7 w_521) rfl rfl rfl (by decide +kernel) ⟨Nat.le_of_ble_eq_true rfl, Nat.le_of_ble_eq_true rfl⟩) (k_preS hM) rfl rfl hl.1 rfl (lv_room (Nat.le_of_ble_eq_true rfl)) dMD_mark_6 ⟨Nat.zero_le _, Nat.zero_le _⟩) hM (fun r μ1 H locs hp hM => ?_)
  obtain ⟨rfl, hmu⟩ := hp
  rw [hmu] at hM
  refine lv_istore_n (lv' := [(3, .int (bI (decide ((sg h 0 mm).all dD = true ∧ 0 < mm)))), (2, .int (bI (decide ((sg f 0 n).all dD = true ∧ 0 < n)))), (0, .ref a), (1, .ref b)]) hx hb dMD_mark_9 rfl hl (by decide) rfl (fun ls hl => ?_)
  refine lv_iload_n hx hb dMD_mark_10 rfl (lv_at hl 1 rfl) ?_
  refine lv_if_eq (tgt := 32) hx hb dMD_mark_11 (by decide) (fun h11 => ?_) (fun h11 => ?_)
  · have h11 := bD_0.mp h11
    refine lv_iload_n hx hb dMD_mark_32 rfl (lv_at hl 1 rfl) ?_
    refine lv_iload_n hx hb dMD_mark_33 rfl (lv_at hl 0 rfl) ?_
    refine lv_icmp_eq (tgt := 47) hx hb dMD_mark_34 (by decide) (fun h34 => ?_) (fun h34 => ?_)
    · have h34 := bI_eqv.mp h34
      refine lv_iconst (v := nI 0) hx hb dMD_mark_47 (by decide) ?_
      refine lv_istore (lv' := [(4, .int (nI 0)), (3, .int (bI (decide ((sg h 0 mm).all dD = true ∧ 0 < mm)))), (2, .int (bI (decide ((sg f 0 n).all dD = true ∧ 0 < n)))), (0, .ref a), (1, .ref b)]) hx hb dMD_mark_48 hl (by decide) rfl (fun ls hl => ?_)
      exact cut50 _ 0 (Nat.lt_succ_self _) (by first | assumption | omega | exact rfl) (by first | assumption | omega | exact rfl) (by exact fun z => h11 ⟨z, by omega⟩) (by exact fun z => h11 (h34.mpr ⟨z, by omega⟩)) (by exact fun j hj => absurd hj (Nat.not_lt_zero _)) ls H locs (lv_sub hl [3, 4, 0] rfl) hM
    · have h34 := (not_congr bI_eqv).mp h34
      refine lv_iload_n hx hb dMD_mark_37 rfl (lv_at hl 1 rfl) ?_
      refine lv_if_eq (tgt := 45) hx hb dMD_mark_38 (by decide) (fun h38 => ?_) (fun h38 => ?_)
      · have h38 := bD_0.mp h38
        refine lv_iconst (v := nI 1) hx hb dMD_mark_45 (by decide) ?_
        exact kr_i hx hb hr hlocks hM dMD_mark_46 (⟨rfl, m_pos (mV_dt hmm hn (Decidable.not_not.mp (fun z => h34 ⟨fun q => absurd q h11, fun q => absurd q.1 z⟩)) (fun z => h11 ⟨z, by omega⟩))⟩)
      · have h38 := bD_n.mp h38
        exact absurd h38 h11
  · have h11 := bD_n.mp h11
    refine lv_iload_n hx hb dMD_mark_14 rfl (lv_at hl 0 rfl) ?_
    refine lv_if_eq (tgt := 32) hx hb dMD_mark_15 (by decide) (fun h15 => ?_) (fun h15 => ?_)
    · have h15 := bD_0.mp h15
      refine lv_iload_n hx hb dMD_mark_32 rfl (lv_at hl 1 rfl) ?_
      refine lv_iload_n hx hb dMD_mark_33 rfl (lv_at hl 0 rfl) ?_
      refine lv_icmp_eq (tgt := 47) hx hb dMD_mark_34 (by decide) (fun h34 => ?_) (fun h34 => ?_)
      · have h34 := bI_eqv.mp h34
        exact absurd (h34.mp h11) h15
      · have h34 := (not_congr bI_eqv).mp h34
        refine lv_iload_n hx hb dMD_mark_37 rfl (lv_at hl 1 rfl) ?_
        refine lv_if_eq (tgt := 45) hx hb dMD_mark_38 (by decide) (fun h38 => ?_) (fun h38 => ?_)
        · have h38 := bD_0.mp h38
          exact absurd h11 h38
        · have h38 := bD_n.mp h38
          refine lv_iconst (v := (-1)) hx hb dMD_mark_41 (by decide) ?_
          refine lv_goto (tgt := 46) hx hb dMD_mark_42 (by decide) ?_
          exact kr_i hx hb hr hlocks hM dMD_mark_46 (⟨rfl, m_neg (mV_dt hn hmm h11.1 (fun z => h15 ⟨z, by omega⟩))⟩)
    · have h15 := bD_n.mp h15
      refine lv_aload_n hx hb dMD_mark_18 rfl (lv_at hl 2 rfl) ?_
      refine lv_bipush (v := nI 8) hx hb dMD_mark_19 (by decide) ?_
      refine kc_i (va_runS (As := [.ref a, .int (nI 8)]) (rest := []) (Ts := Wd) ⟨hx, hb, hml, hown, hW⟩ (mMD_number l g μ hs hv hf (by omega) (mo := 8) (by omega)) (va_cwS 2 hW (k_gS w_516 w_517 w_7 w_518) rfl rfl rfl (by decide +kernel) ⟨Nat.le_of_ble_eq_true rfl, Nat.le_of_ble_eq_true rfl⟩) (k_preS hM) rfl rfl hl.1 rfl (lv_room (Nat.le_of_ble_eq_true rfl)) dMD_mark_21 ⟨Nat.zero_le _, Nat.zero_le _⟩) hM (fun r μ1 H locs hp hM => ?_)
      obtain ⟨rfl, hmu⟩ := hp
      rw [hmu] at hM
      refine topi_eq (y := nI (vN 0 (sg f 0 n))) (nRm_ok h11.1 hn.1 hn.2.1 (fun z => hn.2.2.2 ⟨h11.1, z⟩)) ?_
      refine lv_aload_n hx hb dMD_mark_24 rfl (lv_at hl 3 rfl) ?_
      refine lv_bipush (v := nI 8) hx hb dMD_mark_25 (by decide) ?_
      refine kc_i (va_runS (As := [.ref b, .int (nI 8)]) (rest := [.int (nI (vN 0 (sg f 0 n)))]) (Ts := Wd) ⟨hx, hb, hml, hown, hW⟩ (mMD_number l g μ hs2 hv2 hf2 (by omega) (mo := 8) (by omega)) (va_cwS 2 hW (k_gS w_516 w_517 w_7 w_518) rfl rfl rfl (by decide +kernel) ⟨Nat.le_of_ble_eq_true rfl, Nat.le_of_ble_eq_true rfl⟩) (k_preS hM) rfl rfl hl.1 rfl (lv_room (Nat.le_of_ble_eq_true rfl)) dMD_mark_27 ⟨Nat.zero_le _, Nat.zero_le _⟩) hM (fun r μ1 H locs hp hM => ?_)
      obtain ⟨rfl, hmu⟩ := hp
      rw [hmu] at hM
      refine topi_eq (y := nI (vN 0 (sg h 0 mm))) (nRm_ok h15.1 hmm.1 hmm.2.1 (fun z => hmm.2.2.2 ⟨h15.1, z⟩)) ?_
      refine lv_isub hx hb dMD_mark_30 ?_
      refine topi_eq (y := (nI (vN 0 (sg f 0 n))) - (nI (vN 0 (sg h 0 mm)))) rfl ?_
      exact kr_i hx hb hr hlocks hM dMD_mark_31 (⟨rfl, by rw [mV_dig h11.1, mV_dig h15.1]; exact subS (Nat.lt_trans (vN_small h11.1 n8) (by decide)) (Nat.lt_trans (vN_small h15.1 m8) (by decide))⟩)
