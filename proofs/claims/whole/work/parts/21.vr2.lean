set_option maxHeartbeats 800000 in
set_option maxRecDepth 100000 in
theorem mVR_rank (l : Launch) (g : kG) (μ : km_M) {xa ta la cd te cnt : Nat} (hxa : μ xa = some (.inr (3, [.ref ta, .ref la, .ref cd, .ref te, .int (nI cnt)]))) (hcnt : cnt ≤ 12) {V : Nat → Option Nat} {lv lr lp : Nat → Nat} {LF : Nat → Nat → Int64} (hla : μ la = some (.inl (g.2.2.1 4, 12, .inr (.inr (.inr (.inr V)))))) (hV : ∀ k, k < 12 → V k = some (lv k)) (hL : ∀ k, k < 12 → μ (lv k) = some (.inr (2, [.ref (lr k), .int (nI (lp k))])) ∧ μ (lr k) = some (.inl (g.2.2.1 2, 7, .inr (.inl (LF k))))) {k : Int32} : Met l yVR_rank (Cond.code yVR_rank cVR_rank 4 (some .int) :: Wd) ({ frames := 1, cells := 0, slots := 0, locals := 22 } : Room) (kPre g μ [.ref xa, .int k]) (kQi g (fun (r : Int32) (μ1 : km_M) => μ1 = μ ∧ ((¬ (0 ≤ k.toInt ∧ k.toInt < (cnt : Int)) ∧ r = (-2)) ∨ (∃ i, i < cnt ∧ k = nI i ∧ r = nI (rkN (fun j => oF (LF j) (LF i) 0 7) cnt))))) 0 0 (kF g) := by
  refine k_met (by decide) (Nat.le_of_ble_eq_true rfl) ?_
  intro p e s m below meth c hx hb hr hlocks hml hown hnm hW ls hl H locs hM
  have hl : lv_has ls 4 [(0, .ref xa), (1, .int k)] := hl
  have cut15 : ∀ (n : Nat), ∀ (i : Nat) (j : Nat), cnt - j < n → k = nI i → i < cnt → j ≤ cnt → ∀ (ls : Array Slot) (H : Heap) (locs : List Loc), lv_has ls 4 [(0, .ref xa), (1, .int k), (2, .int (nI (rkN (fun j => oF (LF j) (LF i) 0 7) j))), (3, .int (nI j))] → kS g (μ) s H locs → W p l e ({ frames := 1, cells := 0, slots := 0, locals := 22 } : Room) s m [.ref xa, .int k].toArray below meth c H locs 0 0 (MQ below (kQi g (fun (r : Int32) (μ1 : km_M) => μ1 = μ ∧ ((¬ (0 ≤ k.toInt ∧ k.toInt < (cnt : Int)) ∧ r = (-2)) ∨ (∃ i, i < cnt ∧ k = nI i ∧ r = nI (rkN (fun j => oF (LF j) (LF i) 0 7) cnt))))) [.ref xa, .int k].toArray s 0 0 (kF g)) (F0 m 15 ls []) := by
    intro n
    induction n with
    | zero => intro i j hlt; exact absurd hlt (Nat.not_lt_zero _)
    | succ n ih =>
      intro i j hlt hk hi hj ls H locs hl hM
      refine lv_iload_n hx hb dVR_rank_15 rfl (lv_at hl 3 rfl) ?_
      refine lv_aload_n hx hb dVR_rank_16 rfl (lv_at hl 0 rfl) ?_
      refine k_get (own := RVR) (ref := RVR) (C := RVR) (T := TVR) (N := 5) (ci := 3) (v := .int (nI cnt)) hx hb hW inVR hown hM hxa rfl 4 (by decide) (hW _ w_98) (fun _ h => h) rfl dVR_rank_17 ?_
      refine lv_icmp_ge (tgt := 50) hx hb dVR_rank_20 (by decide) (fun h20 => ?_) (fun h20 => ?_)
      · have h20 := (nJ_ge_t (a := j) (b := cnt) (by omega) (by omega)).mp h20
        refine lv_iload_n hx hb dVR_rank_50 rfl (lv_at hl 2 rfl) ?_
        exact kr_i hx hb hr hlocks hM dVR_rank_51 (⟨rfl, Or.inr ⟨i, by omega, hk, by rw [show cnt = j by omega]⟩⟩)
      · have h20 := (nJ_ge_f (a := j) (b := cnt) (by omega) (by omega)).mp h20
        refine lv_aload_n hx hb dVR_rank_23 rfl (lv_at hl 0 rfl) ?_
        refine k_get (own := RVR) (ref := RVR) (C := RVR) (T := TVR) (N := 5) (ci := 3) (v := .ref la) hx hb hW inVR hown hM hxa rfl 1 (by decide) (hW _ w_95) (fun _ h => h) rfl dVR_rank_24 ?_
        refine lv_iload_n hx hb dVR_rank_27 rfl (lv_at hl 3 rfl) ?_
        refine k_aald (i := j) (r := some (lv j)) hx hb hM 4 hla rfl (by omega) (by omega) (hV _ (by omega)) dVR_rank_28 ?_
        refine lv_aload_n hx hb dVR_rank_29 rfl (lv_at hl 0 rfl) ?_
        refine k_get (own := RVR) (ref := RVR) (C := RVR) (T := TVR) (N := 5) (ci := 3) (v := .ref la) hx hb hW inVR hown hM hxa rfl 1 (by decide) (hW _ w_95) (fun _ h => h) rfl dVR_rank_30 ?_
        refine lv_iload_n hx hb dVR_rank_33 rfl (lv_at hl 1 rfl) ?_
        refine topi_eq (y := nI i) hk ?_
        refine k_aald (i := i) (r := some (lv i)) hx hb hM 4 hla rfl (by omega) (by omega) (hV _ (by omega)) dVR_rank_34 ?_
        refine kc_i (va_runVN (C := RVE) (As := [.ref (lv i)]) (b := lv j) (rest := []) (Ts := Wd) ⟨hx, hb, hml, hown, hW⟩ (mVE_orderTo l g μ (hL j (by omega)).1 (hL j (by omega)).2 (hL i (by omega)).1 (hL i (by omega)).2) ⟨(va_cnB 1 hW (k_gC w_201) rfl rfl rfl (hM.2.1.2.1 _ n_198) (hW _ w_3) (by decide +kernel) ⟨Nat.le_of_ble_eq_true rfl, Nat.le_of_ble_eq_true rfl⟩), hW _ w_200, hW _ p_15⟩ (k_preV (q := (RVE, TVE, 2)) hM (hL j (by omega)).1 rfl) rfl rfl hl.1 rfl (lv_room (Nat.le_of_ble_eq_true rfl)) dVR_rank_35 ⟨Nat.zero_le _, Nat.zero_le _⟩) hM (fun r μ1 H locs hp hM => ?_)
        obtain ⟨rfl, hmu⟩ := hp
        rw [hmu] at hM
        refine lv_if_ge (tgt := 44) hx hb dVR_rank_38 (by decide) (fun h38 => ?_) (fun h38 => ?_)
        · skip
          refine lv_iinc (v := nI (j + 1)) (lv' := [(3, .int (nI (j + 1))), (0, .ref xa), (1, .int k), (2, .int (nI (rkN (fun j => oF (LF j) (LF i) 0 7) j)))]) (k := 3) hx hb dVR_rank_44 hl rfl (ii1 j) (by decide) rfl (fun ls hl => ?_)
          refine lv_goto (tgt := 15) hx hb dVR_rank_47 (by decide) ?_
          try rw [← rkN_f (f := fun j => oF (LF j) (LF i) 0 7) h38] at hl
          exact ih i (j + 1) (by omega) (by first | assumption | omega | exact rfl) (by first | assumption | omega | exact rfl) (by first | assumption | omega | exact rfl) ls H locs (lv_sub hl [1, 2, 3, 0] rfl) hM
        · skip
          refine lv_iinc (v := nI (rkN (fun j => oF (LF j) (LF i) 0 7) (j + 1))) (lv' := [(2, .int (nI (rkN (fun j => oF (LF j) (LF i) 0 7) (j + 1)))), (0, .ref xa), (1, .int k), (3, .int (nI j))]) (k := 2) hx hb dVR_rank_41 hl rfl ((ii1 _).trans (congrArg nI (rkN_t (f := fun j => oF (LF j) (LF i) 0 7) h38).symm)) (by decide) rfl (fun ls hl => ?_)
          refine lv_iinc (v := nI (j + 1)) (lv' := [(3, .int (nI (j + 1))), (2, .int (nI (rkN (fun j => oF (LF j) (LF i) 0 7) (j + 1)))), (0, .ref xa), (1, .int k)]) (k := 3) hx hb dVR_rank_44 hl rfl (ii1 j) (by decide) rfl (fun ls hl => ?_)
          refine lv_goto (tgt := 15) hx hb dVR_rank_47 (by decide) ?_
          try rw [← rkN_f (f := fun j => oF (LF j) (LF i) 0 7) h38] at hl
          exact ih i (j + 1) (by omega) (by first | assumption | omega | exact rfl) (by first | assumption | omega | exact rfl) (by first | assumption | omega | exact rfl) ls H locs (lv_sub hl [2, 3, 1, 0] rfl) hM
  refine lv_aload_n hx hb dVR_rank_0 rfl (lv_at hl 0 rfl) ?_
  refine lv_iload_n hx hb dVR_rank_1 rfl (lv_at hl 1 rfl) ?_
  refine kc_i (va_runV (C := RVR) (As := [.int k]) (b := xa) (rest := []) (Ts := Wd) ⟨hx, hb, hml, hown, hW⟩ (mVR_isListed l g μ hxa hcnt (k := k)) (cwV 1 hW (k_gV w_194 w_196 p_14 w_1 w_197) rfl rfl rfl (by decide +kernel) ⟨Nat.le_of_ble_eq_true rfl, Nat.le_of_ble_eq_true rfl⟩) (k_preV (q := (RVR, TVR, 5)) hM hxa rfl) rfl rfl hl.1 rfl (lv_room (Nat.le_of_ble_eq_true rfl)) dVR_rank_2 ⟨Nat.zero_le _, Nat.zero_le _⟩) hM (fun r μ1 H locs hp hM => ?_)
  obtain ⟨rfl, hmu⟩ := hp
  rw [hmu] at hM
  rcases Decidable.em (0 ≤ k.toInt ∧ k.toInt < (cnt : Int)) with hl_i | hl_i
  · refine topi_eq (y := nI 1) (bI_t hl_i).symm ?_
    obtain ⟨i, hl_i, rfl⟩ := iN_of (by omega) hl_i
    refine lv_if_ne (tgt := 11) hx hb dVR_rank_5 (by decide) (fun _ => ?_) (fun h => absurd h (by decide))
    refine lv_iconst (v := nI 0) hx hb dVR_rank_11 (by decide) ?_
    refine lv_istore_n (lv' := [(2, .int (nI 0)), (0, .ref xa), (1, .int (nI i))]) hx hb dVR_rank_12 rfl hl (by decide) rfl (fun ls hl => ?_)
    refine lv_iconst (v := nI 0) hx hb dVR_rank_13 (by decide) ?_
    refine lv_istore_n (lv' := [(3, .int (nI 0)), (2, .int (nI 0)), (0, .ref xa), (1, .int (nI i))]) hx hb dVR_rank_14 rfl hl (by decide) rfl (fun ls hl => ?_)
    exact cut15 _ i 0 (Nat.lt_succ_self _) (by first | assumption | omega | exact rfl) (by first | assumption | omega | exact rfl) (by first | assumption | omega | exact rfl) ls H locs (lv_sub hl [2, 3, 1, 0] rfl) hM
  · refine topi_eq (y := nI 0) (bI_f hl_i).symm ?_
    refine lv_if_ne (tgt := 11) hx hb dVR_rank_5 (by decide) (fun h => absurd (by decide) h) (fun _ => ?_)
    refine lv_bipush (v := (-2)) hx hb dVR_rank_8 (by decide) ?_
    exact kr_i hx hb hr hlocks hM dVR_rank_10 (⟨rfl, Or.inl ⟨hl_i, rfl⟩⟩)
