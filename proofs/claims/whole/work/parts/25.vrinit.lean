-- the list while it is being made
def LI0 (g : kG) (ν : km_M) (V : Nat → Option Nat) (lv lr : Nat → Nat) (k : Nat) : Prop :=
  (∀ j, j < k → V j = some (lv j) ∧ ν (lv j) = some (.inr (2, [.ref (lr j), .int (nI 0)])) ∧ ν (lr j) = some (.inl (g.2.2.1 2, 7, .inr (.inl (fun _ => 0))))) ∧ ∀ i j, i < k → j < k → i ≠ j → lv i ≠ lv j ∧ lr i ≠ lr j
theorem LI0_0 {g : kG} {ν : km_M} {V : Nat → Option Nat} {lv lr : Nat → Nat} : LI0 g ν V lv lr 0 := ⟨fun j h => absurd h (Nat.not_lt_zero _), fun i j h => absurd h (Nat.not_lt_zero _)⟩
theorem LI0_step {g : kG} {ν : km_M} {V : Nat → Option Nat} {lv lr : Nat → Nat} {k q w la : Nat} {e0 e2 : va_E} {x : (Nat → Int32) ⊕ (Nat → Int64) ⊕ (Nat → UInt32) ⊕ (Nat → UInt64) ⊕ (Nat → Option Nat)} (h : LI0 g ν V lv lr k) (hla : ν la = some (.inl (g.2.2.1 4, 12, x))) (hq : ν q = none) (hw : km_up ν q e0 w = none) :
    LI0 g (km_up (km_up (km_up ν q (.inr (2, [.ref w, .int (nI 0)]))) w (.inl (g.2.2.1 2, 7, .inr (.inl (fun _ => 0))))) la e2) (va_up V k (some q)) (va_up lv k q) (va_up lr k w) (k + 1) := by
  obtain ⟨h1, h2⟩ := h
  obtain ⟨hwq, hwn⟩ := km_none hw
  have hlq : la ≠ q := km_apF hla hq
  have hlw : la ≠ w := km_apF hla hwn
  constructor
  · intro j hj
    by_cases hk : j = k
    · rw [hk, va_up_self, va_up_self, va_up_self]
      exact ⟨rfl, (km_n (Ne.symm hlq)).trans ((km_n (Ne.symm hwq)).trans (km_s _ _ _)), (km_n (Ne.symm hlw)).trans (km_s _ _ _)⟩
    · obtain ⟨a1, a2, a3⟩ := h1 j (by omega)
      rw [va_up_ne _ _ hk, va_up_ne _ _ hk, va_up_ne _ _ hk]
      exact ⟨a1, (km_n (km_apB a2 hla)).trans ((km_n (km_apF a2 hwn)).trans ((km_n (km_apF a2 hq)).trans a2)), (km_n (km_apN a3 hla (by decide))).trans ((km_n (km_apF a3 hwn)).trans ((km_n (km_apF a3 hq)).trans a3))⟩
  · intro i j hi hj hij
    by_cases hik : i = k
    · have hjk : ¬ j = k := fun z => hij (hik.trans z.symm)
      obtain ⟨a1, a2, a3⟩ := h1 j (by omega)
      rw [hik, va_up_self, va_up_self, va_up_ne _ _ hjk, va_up_ne _ _ hjk]
      exact ⟨Ne.symm (km_apF a2 hq), Ne.symm (km_apF a3 hwn)⟩
    · by_cases hjk : j = k
      · obtain ⟨a1, a2, a3⟩ := h1 i (by omega)
        rw [hjk, va_up_self, va_up_self, va_up_ne _ _ hik, va_up_ne _ _ hik]
        exact ⟨km_apF a2 hq, km_apF a3 hwn⟩
      · rw [va_up_ne _ _ hik, va_up_ne _ _ hik, va_up_ne _ _ hjk, va_up_ne _ _ hjk]
        exact h2 i j (by omega) (by omega) hij
/-- what a VersionRanges is in memory: its tape's bytes B, ln of them, its list vs -/
def kCI (g : kG) (μ : km_M) (xa ta ba sa oa la cd cr te bo br co er : Nat) (lv lr : Nat → Nat) (B : Nat → Nat) (ln : Nat) (vs : List kVer) : Prop :=
  (∀ k, B k < 256) ∧ ln ≤ 400 ∧ vs.length ≤ 12 ∧ μ xa = some (.inr (3, [.ref ta, .ref la, .ref cd, .ref te, .int (nI vs.length)])) ∧
  (∃ (ai zi : Nat) (S E : Nat → Nat), μ ta = some (.inr (1, [.ref ba, .ref sa, .ref oa, .int (nI ln), .int (nI ai), .int (nI zi)])) ∧ μ sa = some (.inl (g.2.2.1 1, 200, .inl (fun j => nI (S j)))) ∧ μ oa = some (.inl (g.2.2.1 1, 200, .inl (fun j => nI (E j))))) ∧
  μ ba = some (.inl (g.2.2.1 0, 400, .inl (fun j => sb (B j)))) ∧
  (∃ V, μ la = some (.inl (g.2.2.1 4, 12, .inr (.inr (.inr (.inr V))))) ∧ ∀ k, k < 12 → V k = some (lv k)) ∧
  (∃ (lp : Nat → Nat) (LF : Nat → Nat → Int64), (∀ k, k < 12 → μ (lv k) = some (.inr (2, [.ref (lr k), .int (nI (lp k))])) ∧ μ (lr k) = some (.inl (g.2.2.1 2, 7, .inr (.inl (LF k))))) ∧ ∀ k v, vs[k]? = some v → lp k = mLen v.2.2.2 ∧ ∀ j, j < 7 → LF k j = rowOf v j) ∧
  (∃ (cp : Nat) (CF : Nat → Int64), μ cd = some (.inr (2, [.ref cr, .int (nI cp)])) ∧ μ cr = some (.inl (g.2.2.1 2, 7, .inr (.inl CF)))) ∧
  (∃ (k bp : Nat) (Fb : Nat → Int64) (ep : Nat) (Fc : Nat → Int64), k < 8 ∧ μ te = some (.inr (0, [.ref bo, .ref co, .ref (g.2.2.2.1 k)])) ∧ μ bo = some (.inr (2, [.ref br, .int (nI bp)])) ∧ μ br = some (.inl (g.2.2.1 2, 7, .inr (.inl Fb))) ∧ μ co = some (.inr (2, [.ref er, .int (nI ep)])) ∧ μ er = some (.inl (g.2.2.1 2, 7, .inr (.inl Fc))))
def kCD (sa oa cd cr bo br co er : Nat) (lv lr : Nat → Nat) : Prop :=
  sa ≠ oa ∧ cd ≠ bo ∧ cd ≠ co ∧ bo ≠ co ∧ cr ≠ br ∧ cr ≠ er ∧ br ≠ er ∧ (∀ k, k < 12 → lv k ≠ cd ∧ lv k ≠ bo ∧ lv k ≠ co ∧ lr k ≠ cr ∧ lr k ≠ br ∧ lr k ≠ er) ∧ ∀ i j, i < 12 → j < 12 → i ≠ j → lv i ≠ lv j ∧ lr i ≠ lr j
set_option maxHeartbeats 2000000 in
set_option maxRecDepth 100000 in
theorem mVR_init (l : Launch) (g : kG) (μ : km_M) {xa : Nat} (hxa : μ xa = some (.inr (3, [.null, .null, .null, .null, .int (nI 0)]))) : Met l yVR_init (Cond.code yVR_init cVR_init 2 none :: Wd) ({ frames := 3, cells := 36, slots := 956, locals := 80 } : Room) (kPre g μ [.ref xa]) (kQv g (fun (μ1 : km_M) => ∃ (ta ba sa oa la cd cr te bo br co er : Nat) (lv lr : Nat → Nat), kCD sa oa cd cr bo br co er lv lr ∧ kCI g μ1 xa ta ba sa oa la cd cr te bo br co er lv lr (fun _ => 0) 0 [])) 36 956 (kF g) := by
  refine k_met (by decide) (Nat.le_of_ble_eq_true rfl) ?_
  intro p e s m below meth c hx hb hr hlocks hml hown hnm hW ls hl H locs hM
  have hl : lv_has ls 2 [(0, .ref xa)] := hl
  have cut26 : ∀ (n : Nat), ∀ (k : Nat) (ν : km_M) (V : Nat → Option Nat) (lv : Nat → Nat) (lr : Nat → Nat) (ta : Nat) (ba : Nat) (sa : Nat) (oa : Nat) (la : Nat), 12 - k < n → k ≤ 12 → ν xa = some (.inr (3, [.ref ta, .ref la, .null, .null, .int (nI 0)])) → ν ta = some (.inr (1, [.ref ba, .ref sa, .ref oa, .int (nI 0), .int (nI 0), .int (nI 0)])) → ν ba = some (.inl (g.2.2.1 0, 400, .inl (fun j => sb ((fun _ => 0) j)))) → ν sa = some (.inl (g.2.2.1 1, 200, .inl (fun j => nI ((fun _ => 0) j)))) → ν oa = some (.inl (g.2.2.1 1, 200, .inl (fun j => nI ((fun _ => 0) j)))) → sa ≠ oa → ν la = some (.inl (g.2.2.1 4, 12, .inr (.inr (.inr (.inr V))))) → LI0 g ν V lv lr k → ∀ (ls : Array Slot) (H : Heap) (locs : List Loc), lv_has ls 2 [(0, .ref xa), (1, .int (nI k))] → kS g (ν) s H locs → W p l e ({ frames := 3, cells := 36, slots := 956, locals := 80 } : Room) s m [.ref xa].toArray below meth c H locs (5 + 2 * k) (818 + 9 * k) (MQ below (kQv g (fun (μ1 : km_M) => ∃ (ta ba sa oa la cd cr te bo br co er : Nat) (lv lr : Nat → Nat), kCD sa oa cd cr bo br co er lv lr ∧ kCI g μ1 xa ta ba sa oa la cd cr te bo br co er lv lr (fun _ => 0) 0 [])) [.ref xa].toArray s 36 956 (kF g)) (F0 m 26 ls []) := by
    intro n
    induction n with
    | zero => intro k ν V lv lr ta ba sa oa la hlt; exact absurd hlt (Nat.not_lt_zero _)
    | succ n ih =>
      intro k ν V lv lr ta ba sa oa la hlt hk fx ft fb fs fo fso fl hLI ls H locs hl hM
      refine lv_iload_n hx hb dVR_init_26 rfl (lv_at hl 1 rfl) ?_
      refine lv_bipush (v := nI 12) hx hb dVR_init_27 (by decide) ?_
      refine lv_icmp_ge (tgt := 51) hx hb dVR_init_29 (by decide) (fun h29 => ?_) (fun h29 => ?_)
      · have h29 := (nJ_ge_t (a := k) (b := 12) (by omega) (by omega)).mp h29
        refine lv_aload_n hx hb dVR_init_51 rfl (lv_at hl 0 rfl) ?_
        refine k_new (own := RVR) (C := RVE) (T := TVE) (N := 2) (ci := 2) (fs := [.null, .int (nI 0)]) hx hb hW inVE tyVE tyokVE hown (hW _ w_58) (hW _ w_60) (hW _ w_3) hM rfl (fun j hj => by rcases (show j = 0 ∨ j = 1 by omega) with rfl | rfl <;> rfl) (show (5 + 2 * k) + 1 ≤ 36 by omega) (show (818 + 9 * k) + 2 ≤ 956 by omega) dVR_init_52 (fun q52 H hnq52 hM => ?_)
        have ne_xa_q52 : xa ≠ q52 := km_apF fx hnq52
        have ne_ta_q52 : ta ≠ q52 := km_apF ft hnq52
        have ne_ba_q52 : ba ≠ q52 := km_apF fb hnq52
        have ne_sa_q52 : sa ≠ q52 := km_apF fs hnq52
        have ne_oa_q52 : oa ≠ q52 := km_apF fo hnq52
        have ne_la_q52 : la ≠ q52 := km_apF fl hnq52
        have ne_lv_q52 : ∀ q, q < 12 → lv q ≠ q52 := fun q hq9 => km_apF (hLI.1 q (by omega)).2.1 hnq52
        have ne_lr_q52 : ∀ q, q < 12 → lr q ≠ q52 := fun q hq9 => km_apF (hLI.1 q (by omega)).2.2 hnq52
        have hM : kS g (km_up ν q52 (.inr (2, [.null, .int (nI 0)]))) s H locs := hM
        refine W.widen (k := (5 + 2 * k) + 1) (n := (818 + 9 * k) + 2) (by omega) (by omega) ?_
        refine lv_dup hx hb dVR_init_55 rfl ?_
        refine kc_v (va_runIN (As := []) (b := q52) (rest := [.ref q52, .ref xa]) (Ts := Wd) ⟨hx, hb, hml, hown, hW⟩ (mVE_init l g (km_up ν q52 (.inr (2, [.null, .int (nI 0)]))) (km_s _ _ _)) ⟨(va_cnB 0 hW (k_gC w_63) rfl rfl rfl (hM.2.1.2.1 _ n_61) (hW _ w_3) (by decide +kernel) ⟨Nat.le_of_ble_eq_true rfl, Nat.le_of_ble_eq_true rfl⟩), rfl, hW _ w_62⟩ (k_preS hM) rfl rfl hl.1 rfl (lv_room (Nat.le_of_ble_eq_true rfl)) dVR_init_56 ⟨(show ((5 + 2 * k) + 1) + 1 ≤ 36 by omega), (show ((818 + 9 * k) + 2) + 7 ≤ 956 by omega)⟩) hM (fun μ1 H locs hp hM => ?_)
        obtain ⟨w1, hw1, hmu⟩ := hp
        subst hmu
        refine W.widen (k := (5 + 2 * k) + 2) (n := (818 + 9 * k) + 9) (by omega) (by omega) ?_
        have ne_xa_w1 : xa ≠ w1 := km_apF ((km_n ne_xa_q52).trans fx) hw1
        have ne_ta_w1 : ta ≠ w1 := km_apF ((km_n ne_ta_q52).trans ft) hw1
        have ne_ba_w1 : ba ≠ w1 := km_apF ((km_n ne_ba_q52).trans fb) hw1
        have ne_sa_w1 : sa ≠ w1 := km_apF ((km_n ne_sa_q52).trans fs) hw1
        have ne_oa_w1 : oa ≠ w1 := km_apF ((km_n ne_oa_q52).trans fo) hw1
        have ne_la_w1 : la ≠ w1 := km_apF ((km_n ne_la_q52).trans fl) hw1
        have ne_q52_w1 : q52 ≠ w1 := km_apF (km_s _ _ _) hw1
        have ne_lv_w1 : ∀ q, q < 12 → lv q ≠ w1 := fun q hq9 => km_apF ((km_n (ne_lv_q52 q hq9)).trans (hLI.1 q (by omega)).2.1) hw1
        have ne_lr_w1 : ∀ q, q < 12 → lr q ≠ w1 := fun q hq9 => km_apF ((km_n (ne_lr_q52 q hq9)).trans (hLI.1 q (by omega)).2.2) hw1
        have hM : kS g (km_up (km_up (km_up ν q52 (.inr (2, [.null, .int (nI 0)]))) w1 (.inl (g.2.2.1 2, 7, .inr (.inl (fun _ => 0))))) q52 (.inr (2, [.ref w1, .int (nI 0)]))) s H locs := hM
        have hM : kS g (km_up (km_up ν q52 (.inr (2, [.ref w1, .int (nI 0)]))) w1 (.inl (g.2.2.1 2, 7, .inr (.inl (fun _ => 0))))) s H locs := kS_eq (km_u2 _ _ _ _ ne_q52_w1) hM
        refine k_putF (own := RVR) (ref := RVR) (C := RVR) (T := TVR) (N := 5) (ci := 3) (v := .ref q52) (ty := .object "VersionRanges$Version") (fs' := [.ref ta, .ref la, .ref q52, .null, .int (nI 0)]) hx hb hW inVR tyVR tyokVR nmokVR hown hM ((km_n ne_xa_w1).trans ((km_n ne_xa_q52).trans fx)) rfl 2 (by decide) (hW _ w_96) (fun _ h => h) rfl hnm rfl (by decide +kernel) rfl rfl (Nat.le_of_ble_eq_true rfl) dVR_init_59 rfl (fun H locs hM => ?_)
        have hM : kS g (km_up (km_up (km_up ν q52 (.inr (2, [.ref w1, .int (nI 0)]))) w1 (.inl (g.2.2.1 2, 7, .inr (.inl (fun _ => 0))))) xa (.inr (3, [.ref ta, .ref la, .ref q52, .null, .int (nI 0)]))) s H locs := hM
        refine lv_aload_n hx hb dVR_init_62 rfl (lv_at hl 0 rfl) ?_
        refine k_new (own := RVR) (C := RRT) (T := TRT) (N := 3) (ci := 0) (fs := [.null, .null, .null]) hx hb hW inRT tyRT tyokRT hown (hW _ w_74) (hW _ w_75) (hW _ w_4) hM rfl (fun j hj => by rcases (show j = 0 ∨ j = 1 ∨ j = 2 by omega) with rfl | rfl | rfl <;> rfl) (show ((5 + 2 * k) + 2) + 1 ≤ 36 by omega) (show ((818 + 9 * k) + 9) + 3 ≤ 956 by omega) dVR_init_63 (fun q63 H hnq63 hM => ?_)
        have ne_xa_q63 : xa ≠ q63 := km_apF (km_s _ _ _) hnq63
        have ne_ta_q63 : ta ≠ q63 := km_apF ((km_n (km_apC ft fx (by decide))).trans ((km_n ne_ta_w1).trans ((km_n ne_ta_q52).trans ft))) hnq63
        have ne_ba_q63 : ba ≠ q63 := km_apF ((km_n (km_apA fb fx)).trans ((km_n ne_ba_w1).trans ((km_n ne_ba_q52).trans fb))) hnq63
        have ne_sa_q63 : sa ≠ q63 := km_apF ((km_n (km_apA fs fx)).trans ((km_n ne_sa_w1).trans ((km_n ne_sa_q52).trans fs))) hnq63
        have ne_oa_q63 : oa ≠ q63 := km_apF ((km_n (km_apA fo fx)).trans ((km_n ne_oa_w1).trans ((km_n ne_oa_q52).trans fo))) hnq63
        have ne_la_q63 : la ≠ q63 := km_apF ((km_n (km_apA fl fx)).trans ((km_n ne_la_w1).trans ((km_n ne_la_q52).trans fl))) hnq63
        have ne_q52_q63 : q52 ≠ q63 := km_apF ((km_n (Ne.symm ne_xa_q52)).trans ((km_n ne_q52_w1).trans (km_s _ _ _))) hnq63
        have ne_w1_q63 : w1 ≠ q63 := km_apF ((km_n (Ne.symm ne_xa_w1)).trans (km_s _ _ _)) hnq63
        have ne_lv_q63 : ∀ q, q < 12 → lv q ≠ q63 := fun q hq9 => km_apF ((km_n (km_apC (hLI.1 q (by omega)).2.1 fx (by decide))).trans ((km_n (ne_lv_w1 q hq9)).trans ((km_n (ne_lv_q52 q hq9)).trans (hLI.1 q (by omega)).2.1))) hnq63
        have ne_lr_q63 : ∀ q, q < 12 → lr q ≠ q63 := fun q hq9 => km_apF ((km_n (km_apA (hLI.1 q (by omega)).2.2 fx)).trans ((km_n (ne_lr_w1 q hq9)).trans ((km_n (ne_lr_q52 q hq9)).trans (hLI.1 q (by omega)).2.2))) hnq63
        have hM : kS g (km_up (km_up (km_up (km_up ν q52 (.inr (2, [.ref w1, .int (nI 0)]))) w1 (.inl (g.2.2.1 2, 7, .inr (.inl (fun _ => 0))))) xa (.inr (3, [.ref ta, .ref la, .ref q52, .null, .int (nI 0)]))) q63 (.inr (0, [.null, .null, .null]))) s H locs := hM
        refine W.widen (k := (5 + 2 * k) + 3) (n := (818 + 9 * k) + 12) (by omega) (by omega) ?_
        refine lv_dup hx hb dVR_init_66 rfl ?_
        refine kc_v (va_runIN (As := []) (b := q63) (rest := [.ref q63, .ref xa]) (Ts := Wd) ⟨hx, hb, hml, hown, hW⟩ (mRT_init l g (km_up (km_up (km_up (km_up ν q52 (.inr (2, [.ref w1, .int (nI 0)]))) w1 (.inl (g.2.2.1 2, 7, .inr (.inl (fun _ => 0))))) xa (.inr (3, [.ref ta, .ref la, .ref q52, .null, .int (nI 0)]))) q63 (.inr (0, [.null, .null, .null]))) (km_s _ _ _)) ⟨(va_cnB 0 hW (k_gC w_78) rfl rfl rfl (hM.2.1.2.1 _ n_76) (hW _ w_4) (by decide +kernel) ⟨Nat.le_of_ble_eq_true rfl, Nat.le_of_ble_eq_true rfl⟩), rfl, hW _ w_77⟩ (k_preS hM) rfl rfl hl.1 rfl (lv_room (Nat.le_of_ble_eq_true rfl)) dVR_init_67 ⟨(show ((5 + 2 * k) + 3) + 4 ≤ 36 by omega), (show ((818 + 9 * k) + 12) + 18 ≤ 956 by omega)⟩) hM (fun μ1 H locs hp hM => ?_)
        obtain ⟨bo, br, co, er, hwo1, hwo2, hwo3, hwo4, hm1, hm2, hm3, hm4, hm5, hm6, hmu⟩ := hp
        subst hmu
        refine W.widen (k := (5 + 2 * k) + 7) (n := (818 + 9 * k) + 30) (by omega) (by omega) ?_
        have ne_xa_bo : xa ≠ bo := km_apF ((km_n ne_xa_q63).trans (km_s _ _ _)) hwo1
        have ne_ta_bo : ta ≠ bo := km_apF ((km_n ne_ta_q63).trans ((km_n (km_apC ft fx (by decide))).trans ((km_n ne_ta_w1).trans ((km_n ne_ta_q52).trans ft)))) hwo1
        have ne_ba_bo : ba ≠ bo := km_apF ((km_n ne_ba_q63).trans ((km_n (km_apA fb fx)).trans ((km_n ne_ba_w1).trans ((km_n ne_ba_q52).trans fb)))) hwo1
        have ne_sa_bo : sa ≠ bo := km_apF ((km_n ne_sa_q63).trans ((km_n (km_apA fs fx)).trans ((km_n ne_sa_w1).trans ((km_n ne_sa_q52).trans fs)))) hwo1
        have ne_oa_bo : oa ≠ bo := km_apF ((km_n ne_oa_q63).trans ((km_n (km_apA fo fx)).trans ((km_n ne_oa_w1).trans ((km_n ne_oa_q52).trans fo)))) hwo1
        have ne_la_bo : la ≠ bo := km_apF ((km_n ne_la_q63).trans ((km_n (km_apA fl fx)).trans ((km_n ne_la_w1).trans ((km_n ne_la_q52).trans fl)))) hwo1
        have ne_q52_bo : q52 ≠ bo := km_apF ((km_n ne_q52_q63).trans ((km_n (Ne.symm ne_xa_q52)).trans ((km_n ne_q52_w1).trans (km_s _ _ _)))) hwo1
        have ne_w1_bo : w1 ≠ bo := km_apF ((km_n ne_w1_q63).trans ((km_n (Ne.symm ne_xa_w1)).trans (km_s _ _ _))) hwo1
        have ne_q63_bo : q63 ≠ bo := km_apF (km_s _ _ _) hwo1
        have ne_lv_bo : ∀ q, q < 12 → lv q ≠ bo := fun q hq9 => km_apF ((km_n (ne_lv_q63 q hq9)).trans ((km_n (km_apC (hLI.1 q (by omega)).2.1 fx (by decide))).trans ((km_n (ne_lv_w1 q hq9)).trans ((km_n (ne_lv_q52 q hq9)).trans (hLI.1 q (by omega)).2.1)))) hwo1
        have ne_lr_bo : ∀ q, q < 12 → lr q ≠ bo := fun q hq9 => km_apF ((km_n (ne_lr_q63 q hq9)).trans ((km_n (km_apA (hLI.1 q (by omega)).2.2 fx)).trans ((km_n (ne_lr_w1 q hq9)).trans ((km_n (ne_lr_q52 q hq9)).trans (hLI.1 q (by omega)).2.2)))) hwo1
        have ne_xa_br : xa ≠ br := km_apF ((km_n ne_xa_q63).trans (km_s _ _ _)) hwo2
        have ne_ta_br : ta ≠ br := km_apF ((km_n ne_ta_q63).trans ((km_n (km_apC ft fx (by decide))).trans ((km_n ne_ta_w1).trans ((km_n ne_ta_q52).trans ft)))) hwo2
        have ne_ba_br : ba ≠ br := km_apF ((km_n ne_ba_q63).trans ((km_n (km_apA fb fx)).trans ((km_n ne_ba_w1).trans ((km_n ne_ba_q52).trans fb)))) hwo2
        have ne_sa_br : sa ≠ br := km_apF ((km_n ne_sa_q63).trans ((km_n (km_apA fs fx)).trans ((km_n ne_sa_w1).trans ((km_n ne_sa_q52).trans fs)))) hwo2
        have ne_oa_br : oa ≠ br := km_apF ((km_n ne_oa_q63).trans ((km_n (km_apA fo fx)).trans ((km_n ne_oa_w1).trans ((km_n ne_oa_q52).trans fo)))) hwo2
        have ne_la_br : la ≠ br := km_apF ((km_n ne_la_q63).trans ((km_n (km_apA fl fx)).trans ((km_n ne_la_w1).trans ((km_n ne_la_q52).trans fl)))) hwo2
        have ne_q52_br : q52 ≠ br := km_apF ((km_n ne_q52_q63).trans ((km_n (Ne.symm ne_xa_q52)).trans ((km_n ne_q52_w1).trans (km_s _ _ _)))) hwo2
        have ne_w1_br : w1 ≠ br := km_apF ((km_n ne_w1_q63).trans ((km_n (Ne.symm ne_xa_w1)).trans (km_s _ _ _))) hwo2
        have ne_q63_br : q63 ≠ br := km_apF (km_s _ _ _) hwo2
        have ne_lv_br : ∀ q, q < 12 → lv q ≠ br := fun q hq9 => km_apF ((km_n (ne_lv_q63 q hq9)).trans ((km_n (km_apC (hLI.1 q (by omega)).2.1 fx (by decide))).trans ((km_n (ne_lv_w1 q hq9)).trans ((km_n (ne_lv_q52 q hq9)).trans (hLI.1 q (by omega)).2.1)))) hwo2
        have ne_lr_br : ∀ q, q < 12 → lr q ≠ br := fun q hq9 => km_apF ((km_n (ne_lr_q63 q hq9)).trans ((km_n (km_apA (hLI.1 q (by omega)).2.2 fx)).trans ((km_n (ne_lr_w1 q hq9)).trans ((km_n (ne_lr_q52 q hq9)).trans (hLI.1 q (by omega)).2.2)))) hwo2
        have ne_xa_co : xa ≠ co := km_apF ((km_n ne_xa_q63).trans (km_s _ _ _)) hwo3
        have ne_ta_co : ta ≠ co := km_apF ((km_n ne_ta_q63).trans ((km_n (km_apC ft fx (by decide))).trans ((km_n ne_ta_w1).trans ((km_n ne_ta_q52).trans ft)))) hwo3
        have ne_ba_co : ba ≠ co := km_apF ((km_n ne_ba_q63).trans ((km_n (km_apA fb fx)).trans ((km_n ne_ba_w1).trans ((km_n ne_ba_q52).trans fb)))) hwo3
        have ne_sa_co : sa ≠ co := km_apF ((km_n ne_sa_q63).trans ((km_n (km_apA fs fx)).trans ((km_n ne_sa_w1).trans ((km_n ne_sa_q52).trans fs)))) hwo3
        have ne_oa_co : oa ≠ co := km_apF ((km_n ne_oa_q63).trans ((km_n (km_apA fo fx)).trans ((km_n ne_oa_w1).trans ((km_n ne_oa_q52).trans fo)))) hwo3
        have ne_la_co : la ≠ co := km_apF ((km_n ne_la_q63).trans ((km_n (km_apA fl fx)).trans ((km_n ne_la_w1).trans ((km_n ne_la_q52).trans fl)))) hwo3
        have ne_q52_co : q52 ≠ co := km_apF ((km_n ne_q52_q63).trans ((km_n (Ne.symm ne_xa_q52)).trans ((km_n ne_q52_w1).trans (km_s _ _ _)))) hwo3
        have ne_w1_co : w1 ≠ co := km_apF ((km_n ne_w1_q63).trans ((km_n (Ne.symm ne_xa_w1)).trans (km_s _ _ _))) hwo3
        have ne_q63_co : q63 ≠ co := km_apF (km_s _ _ _) hwo3
        have ne_lv_co : ∀ q, q < 12 → lv q ≠ co := fun q hq9 => km_apF ((km_n (ne_lv_q63 q hq9)).trans ((km_n (km_apC (hLI.1 q (by omega)).2.1 fx (by decide))).trans ((km_n (ne_lv_w1 q hq9)).trans ((km_n (ne_lv_q52 q hq9)).trans (hLI.1 q (by omega)).2.1)))) hwo3
        have ne_lr_co : ∀ q, q < 12 → lr q ≠ co := fun q hq9 => km_apF ((km_n (ne_lr_q63 q hq9)).trans ((km_n (km_apA (hLI.1 q (by omega)).2.2 fx)).trans ((km_n (ne_lr_w1 q hq9)).trans ((km_n (ne_lr_q52 q hq9)).trans (hLI.1 q (by omega)).2.2)))) hwo3
        have ne_xa_er : xa ≠ er := km_apF ((km_n ne_xa_q63).trans (km_s _ _ _)) hwo4
        have ne_ta_er : ta ≠ er := km_apF ((km_n ne_ta_q63).trans ((km_n (km_apC ft fx (by decide))).trans ((km_n ne_ta_w1).trans ((km_n ne_ta_q52).trans ft)))) hwo4
        have ne_ba_er : ba ≠ er := km_apF ((km_n ne_ba_q63).trans ((km_n (km_apA fb fx)).trans ((km_n ne_ba_w1).trans ((km_n ne_ba_q52).trans fb)))) hwo4
        have ne_sa_er : sa ≠ er := km_apF ((km_n ne_sa_q63).trans ((km_n (km_apA fs fx)).trans ((km_n ne_sa_w1).trans ((km_n ne_sa_q52).trans fs)))) hwo4
        have ne_oa_er : oa ≠ er := km_apF ((km_n ne_oa_q63).trans ((km_n (km_apA fo fx)).trans ((km_n ne_oa_w1).trans ((km_n ne_oa_q52).trans fo)))) hwo4
        have ne_la_er : la ≠ er := km_apF ((km_n ne_la_q63).trans ((km_n (km_apA fl fx)).trans ((km_n ne_la_w1).trans ((km_n ne_la_q52).trans fl)))) hwo4
        have ne_q52_er : q52 ≠ er := km_apF ((km_n ne_q52_q63).trans ((km_n (Ne.symm ne_xa_q52)).trans ((km_n ne_q52_w1).trans (km_s _ _ _)))) hwo4
        have ne_w1_er : w1 ≠ er := km_apF ((km_n ne_w1_q63).trans ((km_n (Ne.symm ne_xa_w1)).trans (km_s _ _ _))) hwo4
        have ne_q63_er : q63 ≠ er := km_apF (km_s _ _ _) hwo4
        have ne_lv_er : ∀ q, q < 12 → lv q ≠ er := fun q hq9 => km_apF ((km_n (ne_lv_q63 q hq9)).trans ((km_n (km_apC (hLI.1 q (by omega)).2.1 fx (by decide))).trans ((km_n (ne_lv_w1 q hq9)).trans ((km_n (ne_lv_q52 q hq9)).trans (hLI.1 q (by omega)).2.1)))) hwo4
        have ne_lr_er : ∀ q, q < 12 → lr q ≠ er := fun q hq9 => km_apF ((km_n (ne_lr_q63 q hq9)).trans ((km_n (km_apA (hLI.1 q (by omega)).2.2 fx)).trans ((km_n (ne_lr_w1 q hq9)).trans ((km_n (ne_lr_q52 q hq9)).trans (hLI.1 q (by omega)).2.2)))) hwo4
        have hM : kS g (km_up (km_up (km_up (km_up (km_up (km_up (km_up (km_up (km_up ν q52 (.inr (2, [.ref w1, .int (nI 0)]))) w1 (.inl (g.2.2.1 2, 7, .inr (.inl (fun _ => 0))))) xa (.inr (3, [.ref ta, .ref la, .ref q52, .null, .int (nI 0)]))) q63 (.inr (0, [.null, .null, .null]))) bo (.inr (2, [.ref br, .int (nI 0)]))) br (.inl (g.2.2.1 2, 7, .inr (.inl (fun _ => 0))))) q63 (.inr (0, [.ref bo, .ref co, .ref (g.2.2.2.1 0)]))) co (.inr (2, [.ref er, .int (nI 0)]))) er (.inl (g.2.2.1 2, 7, .inr (.inl (fun _ => 0))))) s H locs := hM
        have hM : kS g (km_up (km_up (km_up (km_up (km_up (km_up (km_up (km_up ν q52 (.inr (2, [.ref w1, .int (nI 0)]))) w1 (.inl (g.2.2.1 2, 7, .inr (.inl (fun _ => 0))))) xa (.inr (3, [.ref ta, .ref la, .ref q52, .null, .int (nI 0)]))) q63 (.inr (0, [.ref bo, .ref co, .ref (g.2.2.2.1 0)]))) bo (.inr (2, [.ref br, .int (nI 0)]))) br (.inl (g.2.2.1 2, 7, .inr (.inl (fun _ => 0))))) co (.inr (2, [.ref er, .int (nI 0)]))) er (.inl (g.2.2.1 2, 7, .inr (.inl (fun _ => 0))))) s H locs := kS_eq (congrArg (fun z => km_up z er (.inl (g.2.2.1 2, 7, .inr (.inl (fun _ => 0))))) (congrArg (fun z => km_up z co (.inr (2, [.ref er, .int (nI 0)]))) (km_u3 _ _ _ _ _ ne_q63_bo ne_q63_br))) hM
        refine k_putF (own := RVR) (ref := RVR) (C := RVR) (T := TVR) (N := 5) (ci := 3) (v := .ref q63) (ty := .object "VersionRanges$RangeTest") (fs' := [.ref ta, .ref la, .ref q52, .ref q63, .int (nI 0)]) hx hb hW inVR tyVR tyokVR nmokVR hown hM ((km_n ne_xa_er).trans ((km_n ne_xa_co).trans ((km_n ne_xa_br).trans ((km_n ne_xa_bo).trans ((km_n ne_xa_q63).trans (km_s _ _ _)))))) rfl 3 (by decide) (hW _ w_97) (fun _ h => h) rfl hnm rfl (by decide +kernel) rfl rfl (Nat.le_of_ble_eq_true rfl) dVR_init_70 rfl (fun H locs hM => ?_)
        have hM : kS g (km_up (km_up (km_up (km_up (km_up (km_up (km_up (km_up ν q52 (.inr (2, [.ref w1, .int (nI 0)]))) w1 (.inl (g.2.2.1 2, 7, .inr (.inl (fun _ => 0))))) xa (.inr (3, [.ref ta, .ref la, .ref q52, .ref q63, .int (nI 0)]))) q63 (.inr (0, [.ref bo, .ref co, .ref (g.2.2.2.1 0)]))) bo (.inr (2, [.ref br, .int (nI 0)]))) br (.inl (g.2.2.1 2, 7, .inr (.inl (fun _ => 0))))) co (.inr (2, [.ref er, .int (nI 0)]))) er (.inl (g.2.2.1 2, 7, .inr (.inl (fun _ => 0))))) s H locs := kS_eq (km_u6 _ _ _ _ _ _ _ _ ne_xa_q63 ne_xa_bo ne_xa_br ne_xa_co ne_xa_er) hM
        refine lv_aload_n hx hb dVR_init_73 rfl (lv_at hl 0 rfl) ?_
        refine lv_iconst (v := nI 0) hx hb dVR_init_74 (by decide) ?_
        refine k_put (own := RVR) (ref := RVR) (C := RVR) (T := TVR) (N := 5) (ci := 3) (v := .int (nI 0)) (ty := .int) (fs' := [.ref ta, .ref la, .ref q52, .ref q63, .int (nI 0)]) hx hb hW inVR tyVR tyokVR nmokVR hown hM ((km_n ne_xa_er).trans ((km_n ne_xa_co).trans ((km_n ne_xa_br).trans ((km_n ne_xa_bo).trans ((km_n ne_xa_q63).trans (km_s _ _ _)))))) rfl 4 (by decide) (hW _ w_98) (fun _ h => h) rfl (by decide +kernel) rfl rfl (Nat.le_of_ble_eq_true rfl) dVR_init_75 rfl (fun H locs hM => ?_)
        have hM : kS g (km_up (km_up (km_up (km_up (km_up (km_up (km_up (km_up ν q52 (.inr (2, [.ref w1, .int (nI 0)]))) w1 (.inl (g.2.2.1 2, 7, .inr (.inl (fun _ => 0))))) xa (.inr (3, [.ref ta, .ref la, .ref q52, .ref q63, .int (nI 0)]))) q63 (.inr (0, [.ref bo, .ref co, .ref (g.2.2.2.1 0)]))) bo (.inr (2, [.ref br, .int (nI 0)]))) br (.inl (g.2.2.1 2, 7, .inr (.inl (fun _ => 0))))) co (.inr (2, [.ref er, .int (nI 0)]))) er (.inl (g.2.2.1 2, 7, .inr (.inl (fun _ => 0))))) s H locs := kS_eq (km_u6 _ _ _ _ _ _ _ _ ne_xa_q63 ne_xa_bo ne_xa_br ne_xa_co ne_xa_er) hM
        refine W.widen (k := 36) (n := 956) (by omega) (by omega) ?_
        exact kr_v hx hb hr hlocks hM dVR_init_78 (⟨ta, ba, sa, oa, la, q52, w1, q63, bo, br, co, er, lv, lr, ⟨fso, ne_q52_bo, ne_q52_co, (Ne.symm hm2), ne_w1_br, ne_w1_er, (Ne.symm hm5), fun q hq9 => ⟨(ne_lv_q52 q hq9), (ne_lv_bo q hq9), (ne_lv_co q hq9), (ne_lr_w1 q hq9), (ne_lr_br q hq9), (ne_lr_er q hq9)⟩, fun i j h1 h2 h3 => hLI.2 i j (by omega) (by omega) h3⟩, ⟨fun _ => (by decide : (0 : Nat) < 256), by decide, by decide, ((km_n ne_xa_er).trans ((km_n ne_xa_co).trans ((km_n ne_xa_br).trans ((km_n ne_xa_bo).trans ((km_n ne_xa_q63).trans (km_s _ _ _)))))), ⟨0, 0, _, _, ((km_n ne_ta_er).trans ((km_n ne_ta_co).trans ((km_n ne_ta_br).trans ((km_n ne_ta_bo).trans ((km_n ne_ta_q63).trans ((km_n (km_apC ft fx (by decide))).trans ((km_n ne_ta_w1).trans ((km_n ne_ta_q52).trans ft)))))))), ((km_n ne_sa_er).trans ((km_n ne_sa_co).trans ((km_n ne_sa_br).trans ((km_n ne_sa_bo).trans ((km_n ne_sa_q63).trans ((km_n (km_apA fs fx)).trans ((km_n ne_sa_w1).trans ((km_n ne_sa_q52).trans fs)))))))), ((km_n ne_oa_er).trans ((km_n ne_oa_co).trans ((km_n ne_oa_br).trans ((km_n ne_oa_bo).trans ((km_n ne_oa_q63).trans ((km_n (km_apA fo fx)).trans ((km_n ne_oa_w1).trans ((km_n ne_oa_q52).trans fo))))))))⟩, ((km_n ne_ba_er).trans ((km_n ne_ba_co).trans ((km_n ne_ba_br).trans ((km_n ne_ba_bo).trans ((km_n ne_ba_q63).trans ((km_n (km_apA fb fx)).trans ((km_n ne_ba_w1).trans ((km_n ne_ba_q52).trans fb)))))))), ⟨V, ((km_n ne_la_er).trans ((km_n ne_la_co).trans ((km_n ne_la_br).trans ((km_n ne_la_bo).trans ((km_n ne_la_q63).trans ((km_n (km_apA fl fx)).trans ((km_n ne_la_w1).trans ((km_n ne_la_q52).trans fl)))))))), fun q hq9 => (hLI.1 q (by omega)).1⟩, ⟨fun _ => 0, fun _ => fun _ => 0, fun q hq9 => ⟨((km_n (ne_lv_er q hq9)).trans ((km_n (ne_lv_co q hq9)).trans ((km_n (ne_lv_br q hq9)).trans ((km_n (ne_lv_bo q hq9)).trans ((km_n (ne_lv_q63 q hq9)).trans ((km_n (km_apC (hLI.1 q (by omega)).2.1 fx (by decide))).trans ((km_n (ne_lv_w1 q hq9)).trans ((km_n (ne_lv_q52 q hq9)).trans (hLI.1 q (by omega)).2.1)))))))), ((km_n (ne_lr_er q hq9)).trans ((km_n (ne_lr_co q hq9)).trans ((km_n (ne_lr_br q hq9)).trans ((km_n (ne_lr_bo q hq9)).trans ((km_n (ne_lr_q63 q hq9)).trans ((km_n (km_apA (hLI.1 q (by omega)).2.2 fx)).trans ((km_n (ne_lr_w1 q hq9)).trans ((km_n (ne_lr_q52 q hq9)).trans (hLI.1 q (by omega)).2.2))))))))⟩, fun q v h => by cases h⟩, ⟨0, _, ((km_n ne_q52_er).trans ((km_n ne_q52_co).trans ((km_n ne_q52_br).trans ((km_n ne_q52_bo).trans ((km_n ne_q52_q63).trans ((km_n (Ne.symm ne_xa_q52)).trans ((km_n ne_q52_w1).trans (km_s _ _ _)))))))), ((km_n ne_w1_er).trans ((km_n ne_w1_co).trans ((km_n ne_w1_br).trans ((km_n ne_w1_bo).trans ((km_n ne_w1_q63).trans ((km_n (Ne.symm ne_xa_w1)).trans (km_s _ _ _)))))))⟩, ⟨0, 0, _, 0, _, by decide, ((km_n ne_q63_er).trans ((km_n ne_q63_co).trans ((km_n ne_q63_br).trans ((km_n ne_q63_bo).trans (km_s _ _ _))))), ((km_n (Ne.symm hm4)).trans ((km_n (Ne.symm hm2)).trans ((km_n (Ne.symm hm1)).trans (km_s _ _ _)))), ((km_n (Ne.symm hm5)).trans ((km_n (Ne.symm hm3)).trans (km_s _ _ _))), ((km_n (Ne.symm hm6)).trans (km_s _ _ _)), (km_s _ _ _)⟩⟩⟩)
      · have h29 := (nJ_ge_f (a := k) (b := 12) (by omega) (by omega)).mp h29
        refine lv_aload_n hx hb dVR_init_32 rfl (lv_at hl 0 rfl) ?_
        refine k_get (own := RVR) (ref := RVR) (C := RVR) (T := TVR) (N := 5) (ci := 3) (v := .ref la) hx hb hW inVR hown hM fx rfl 1 (by decide) (hW _ w_95) (fun _ h => h) rfl dVR_init_33 ?_
        refine lv_iload_n hx hb dVR_init_36 rfl (lv_at hl 1 rfl) ?_
        refine k_new (own := RVR) (C := RVE) (T := TVE) (N := 2) (ci := 2) (fs := [.null, .int (nI 0)]) hx hb hW inVE tyVE tyokVE hown (hW _ w_58) (hW _ w_60) (hW _ w_3) hM rfl (fun j hj => by rcases (show j = 0 ∨ j = 1 by omega) with rfl | rfl <;> rfl) (show (5 + 2 * k) + 1 ≤ 36 by omega) (show (818 + 9 * k) + 2 ≤ 956 by omega) dVR_init_37 (fun q37 H hnq37 hM => ?_)
        have ne_xa_q37 : xa ≠ q37 := km_apF fx hnq37
        have ne_ta_q37 : ta ≠ q37 := km_apF ft hnq37
        have ne_ba_q37 : ba ≠ q37 := km_apF fb hnq37
        have ne_sa_q37 : sa ≠ q37 := km_apF fs hnq37
        have ne_oa_q37 : oa ≠ q37 := km_apF fo hnq37
        have ne_la_q37 : la ≠ q37 := km_apF fl hnq37
        have hM : kS g (km_up ν q37 (.inr (2, [.null, .int (nI 0)]))) s H locs := hM
        refine W.widen (k := (5 + 2 * k) + 1) (n := (818 + 9 * k) + 2) (by omega) (by omega) ?_
        refine lv_dup hx hb dVR_init_40 rfl ?_
        refine kc_v (va_runIN (As := []) (b := q37) (rest := [.ref q37, .int (nI k), .ref la]) (Ts := Wd) ⟨hx, hb, hml, hown, hW⟩ (mVE_init l g (km_up ν q37 (.inr (2, [.null, .int (nI 0)]))) (km_s _ _ _)) ⟨(va_cnB 0 hW (k_gC w_63) rfl rfl rfl (hM.2.1.2.1 _ n_61) (hW _ w_3) (by decide +kernel) ⟨Nat.le_of_ble_eq_true rfl, Nat.le_of_ble_eq_true rfl⟩), rfl, hW _ w_62⟩ (k_preS hM) rfl rfl hl.1 rfl (lv_room (Nat.le_of_ble_eq_true rfl)) dVR_init_41 ⟨(show ((5 + 2 * k) + 1) + 1 ≤ 36 by omega), (show ((818 + 9 * k) + 2) + 7 ≤ 956 by omega)⟩) hM (fun μ1 H locs hp hM => ?_)
        obtain ⟨w2, hw2, hmu⟩ := hp
        subst hmu
        refine W.widen (k := (5 + 2 * k) + 2) (n := (818 + 9 * k) + 9) (by omega) (by omega) ?_
        have ne_xa_w2 : xa ≠ w2 := km_apF ((km_n ne_xa_q37).trans fx) hw2
        have ne_ta_w2 : ta ≠ w2 := km_apF ((km_n ne_ta_q37).trans ft) hw2
        have ne_ba_w2 : ba ≠ w2 := km_apF ((km_n ne_ba_q37).trans fb) hw2
        have ne_sa_w2 : sa ≠ w2 := km_apF ((km_n ne_sa_q37).trans fs) hw2
        have ne_oa_w2 : oa ≠ w2 := km_apF ((km_n ne_oa_q37).trans fo) hw2
        have ne_la_w2 : la ≠ w2 := km_apF ((km_n ne_la_q37).trans fl) hw2
        have ne_q37_w2 : q37 ≠ w2 := km_apF (km_s _ _ _) hw2
        have hM : kS g (km_up (km_up (km_up ν q37 (.inr (2, [.null, .int (nI 0)]))) w2 (.inl (g.2.2.1 2, 7, .inr (.inl (fun _ => 0))))) q37 (.inr (2, [.ref w2, .int (nI 0)]))) s H locs := hM
        have hM : kS g (km_up (km_up ν q37 (.inr (2, [.ref w2, .int (nI 0)]))) w2 (.inl (g.2.2.1 2, 7, .inr (.inl (fun _ => 0))))) s H locs := kS_eq (km_u2 _ _ _ _ ne_q37_w2) hM
        refine k_aast (i := k) (f1 := va_up V k (some q37)) hx hb hM 4 2 ((km_n ne_la_w2).trans ((km_n ne_la_q37).trans fl)) rfl ((km_n ne_q37_w2).trans (km_s _ _ _)) rfl (by omega) (by omega) rfl dVR_init_44 (fun H locs hM => ?_)
        have hM : kS g (km_up (km_up (km_up ν q37 (.inr (2, [.ref w2, .int (nI 0)]))) w2 (.inl (g.2.2.1 2, 7, .inr (.inl (fun _ => 0))))) la (.inl (g.2.2.1 4, 12, .inr (.inr (.inr (.inr (va_up V k (some q37)))))))) s H locs := hM
        refine lv_iinc (v := nI (k + 1)) (lv' := [(1, .int (nI (k + 1))), (0, .ref xa)]) (k := 1) hx hb dVR_init_45 hl rfl (ii1 k) (by decide) rfl (fun ls hl => ?_)
        refine lv_goto (tgt := 26) hx hb dVR_init_48 (by decide) ?_
        refine W.widen (k := 5 + 2 * (k + 1)) (n := 818 + 9 * (k + 1)) (by omega) (by omega) ?_
        exact ih (k + 1) (km_up (km_up (km_up ν q37 (.inr (2, [.ref w2, .int (nI 0)]))) w2 (.inl (g.2.2.1 2, 7, .inr (.inl (fun _ => 0))))) la (.inl (g.2.2.1 4, 12, .inr (.inr (.inr (.inr (va_up V k (some q37)))))))) (va_up V k (some q37)) (va_up lv k q37) (va_up lr k w2) ta ba sa oa la (by omega) (by first | assumption | omega | exact rfl) (by exact ((km_n (km_apB fx fl)).trans ((km_n ne_xa_w2).trans ((km_n ne_xa_q37).trans fx)))) (by exact ((km_n (km_apB ft fl)).trans ((km_n ne_ta_w2).trans ((km_n ne_ta_q37).trans ft)))) (by exact ((km_n (km_apN fb fl (by decide))).trans ((km_n ne_ba_w2).trans ((km_n ne_ba_q37).trans fb)))) (by exact ((km_n (km_apN fs fl (by decide))).trans ((km_n ne_sa_w2).trans ((km_n ne_sa_q37).trans fs)))) (by exact ((km_n (km_apN fo fl (by decide))).trans ((km_n ne_oa_w2).trans ((km_n ne_oa_q37).trans fo)))) (by exact fso) (by exact (km_s _ _ _)) (by exact LI0_step hLI fl hnq37 hw2) ls H locs (lv_sub hl [1, 0] rfl) hM
  refine lv_aload_n hx hb dVR_init_0 rfl (lv_at hl 0 rfl) ?_
  refine W.objInit hx hb hown (hW _ w_25) (hW _ w_26) (hW _ w_27) rfl (by rw [hml]; exact hl.1) rfl dVR_init_1 (Nat.le_of_ble_eq_true rfl) (Nat.le_of_ble_eq_true rfl) ?_
  refine W.eq (g2 := F0 m 4 ls []) rfl ?_
  refine lv_aload_n hx hb dVR_init_4 rfl (lv_at hl 0 rfl) ?_
  refine k_new (own := RVR) (C := RTP) (T := TTP) (N := 6) (ci := 1) (fs := [.null, .null, .null, .int (nI 0), .int (nI 0), .int (nI 0)]) hx hb hW inTP tyTP tyokTP hown (hW _ w_28) (hW _ w_29) (hW _ w_2) hM rfl (fun j hj => by rcases (show j = 0 ∨ j = 1 ∨ j = 2 ∨ j = 3 ∨ j = 4 ∨ j = 5 by omega) with rfl | rfl | rfl | rfl | rfl | rfl <;> rfl) (show 0 + 1 ≤ 36 by omega) (show 0 + 6 ≤ 956 by omega) dVR_init_5 (fun q5 H hnq5 hM => ?_)
  have ne_xa_q5 : xa ≠ q5 := km_apF hxa hnq5
  have hM : kS g (km_up μ q5 (.inr (1, [.null, .null, .null, .int (nI 0), .int (nI 0), .int (nI 0)]))) s H locs := hM
  refine W.widen (k := 1) (n := 6) (by omega) (by omega) ?_
  refine lv_dup hx hb dVR_init_8 rfl ?_
  refine kc_v (va_runIN (As := []) (b := q5) (rest := [.ref q5, .ref xa]) (Ts := Wd) ⟨hx, hb, hml, hown, hW⟩ (mTP_init l g (km_up μ q5 (.inr (1, [.null, .null, .null, .int (nI 0), .int (nI 0), .int (nI 0)]))) (km_s _ _ _)) ⟨(va_cnB 0 hW (k_gC w_32) rfl rfl rfl (hM.2.1.2.1 _ n_30) (hW _ w_2) (by decide +kernel) ⟨Nat.le_of_ble_eq_true rfl, Nat.le_of_ble_eq_true rfl⟩), rfl, hW _ w_31⟩ (k_preS hM) rfl rfl hl.1 rfl (lv_room (Nat.le_of_ble_eq_true rfl)) dVR_init_9 ⟨(show 1 + 3 ≤ 36 by omega), (show 6 + 800 ≤ 956 by omega)⟩) hM (fun μ1 H locs hp hM => ?_)
  obtain ⟨ba, sa, oa, hwb, hws, hwo, hn1, hn2, hn3, hmu⟩ := hp
  subst hmu
  refine W.widen (k := 4) (n := 806) (by omega) (by omega) ?_
  have ne_xa_ba : xa ≠ ba := km_apF ((km_n ne_xa_q5).trans hxa) hwb
  have ne_q5_ba : q5 ≠ ba := km_apF (km_s _ _ _) hwb
  have ne_xa_sa : xa ≠ sa := km_apF ((km_n ne_xa_q5).trans hxa) hws
  have ne_q5_sa : q5 ≠ sa := km_apF (km_s _ _ _) hws
  have ne_xa_oa : xa ≠ oa := km_apF ((km_n ne_xa_q5).trans hxa) hwo
  have ne_q5_oa : q5 ≠ oa := km_apF (km_s _ _ _) hwo
  have hM : kS g (km_up (km_up (km_up (km_up (km_up μ q5 (.inr (1, [.null, .null, .null, .int (nI 0), .int (nI 0), .int (nI 0)]))) ba (.inl (g.2.2.1 0, 400, .inl (fun j => sb ((fun _ => 0) j))))) q5 (.inr (1, [.ref ba, .ref sa, .ref oa, .int (nI 0), .int (nI 0), .int (nI 0)]))) sa (.inl (g.2.2.1 1, 200, .inl (fun j => nI ((fun _ => 0) j))))) oa (.inl (g.2.2.1 1, 200, .inl (fun j => nI ((fun _ => 0) j))))) s H locs := hM
  have hM : kS g (km_up (km_up (km_up (km_up μ q5 (.inr (1, [.ref ba, .ref sa, .ref oa, .int (nI 0), .int (nI 0), .int (nI 0)]))) ba (.inl (g.2.2.1 0, 400, .inl (fun j => sb ((fun _ => 0) j))))) sa (.inl (g.2.2.1 1, 200, .inl (fun j => nI ((fun _ => 0) j))))) oa (.inl (g.2.2.1 1, 200, .inl (fun j => nI ((fun _ => 0) j))))) s H locs := kS_eq (congrArg (fun z => km_up z oa (.inl (g.2.2.1 1, 200, .inl (fun j => nI ((fun _ => 0) j))))) (congrArg (fun z => km_up z sa (.inl (g.2.2.1 1, 200, .inl (fun j => nI ((fun _ => 0) j))))) (km_u2 _ _ _ _ ne_q5_ba))) hM
  refine k_putF (own := RVR) (ref := RVR) (C := RVR) (T := TVR) (N := 5) (ci := 3) (v := .ref q5) (ty := .object "VersionRanges$Tape") (fs' := [.ref q5, .null, .null, .null, .int (nI 0)]) hx hb hW inVR tyVR tyokVR nmokVR hown hM ((km_n ne_xa_oa).trans ((km_n ne_xa_sa).trans ((km_n ne_xa_ba).trans ((km_n ne_xa_q5).trans hxa)))) rfl 0 (by decide) (hW _ w_94) (fun _ h => h) rfl hnm rfl (by decide +kernel) rfl rfl (Nat.le_of_ble_eq_true rfl) dVR_init_12 rfl (fun H locs hM => ?_)
  have hM : kS g (km_up (km_up (km_up (km_up (km_up μ q5 (.inr (1, [.ref ba, .ref sa, .ref oa, .int (nI 0), .int (nI 0), .int (nI 0)]))) ba (.inl (g.2.2.1 0, 400, .inl (fun j => sb ((fun _ => 0) j))))) sa (.inl (g.2.2.1 1, 200, .inl (fun j => nI ((fun _ => 0) j))))) oa (.inl (g.2.2.1 1, 200, .inl (fun j => nI ((fun _ => 0) j))))) xa (.inr (3, [.ref q5, .null, .null, .null, .int (nI 0)]))) s H locs := hM
  refine lv_aload_n hx hb dVR_init_15 rfl (lv_at hl 0 rfl) ?_
  refine lv_bipush (v := nI 12) hx hb dVR_init_16 (by decide) ?_
  refine k_newq (own := RVR) (C := RVE) (N' := 12) hx hb hown (hW _ w_58) (hM.2.1.2.2.2.2.2.2.2 _ (by decide)) hM 4 rfl (by omega) (show 4 + 1 ≤ 36 by omega) (show 806 + 12 ≤ 956 by omega) dVR_init_18 (fun q18 H hnq18 hM => ?_)
  have ne_xa_q18 : xa ≠ q18 := km_apF (km_s _ _ _) hnq18
  have ne_q5_q18 : q5 ≠ q18 := km_apF ((km_n (Ne.symm ne_xa_q5)).trans ((km_n ne_q5_oa).trans ((km_n ne_q5_sa).trans ((km_n ne_q5_ba).trans (km_s _ _ _))))) hnq18
  have ne_ba_q18 : ba ≠ q18 := km_apF ((km_n (Ne.symm ne_xa_ba)).trans ((km_n (Ne.symm hn2)).trans ((km_n (Ne.symm hn1)).trans (km_s _ _ _)))) hnq18
  have ne_sa_q18 : sa ≠ q18 := km_apF ((km_n (Ne.symm ne_xa_sa)).trans ((km_n (Ne.symm hn3)).trans (km_s _ _ _))) hnq18
  have ne_oa_q18 : oa ≠ q18 := km_apF ((km_n (Ne.symm ne_xa_oa)).trans (km_s _ _ _)) hnq18
  have hM : kS g (km_up (km_up (km_up (km_up (km_up (km_up μ q5 (.inr (1, [.ref ba, .ref sa, .ref oa, .int (nI 0), .int (nI 0), .int (nI 0)]))) ba (.inl (g.2.2.1 0, 400, .inl (fun j => sb ((fun _ => 0) j))))) sa (.inl (g.2.2.1 1, 200, .inl (fun j => nI ((fun _ => 0) j))))) oa (.inl (g.2.2.1 1, 200, .inl (fun j => nI ((fun _ => 0) j))))) xa (.inr (3, [.ref q5, .null, .null, .null, .int (nI 0)]))) q18 (.inl (g.2.2.1 4, 12, .inr (.inr (.inr (.inr (fun _ => none))))))) s H locs := hM
  refine W.widen (k := 5) (n := 818) (by omega) (by omega) ?_
  refine k_putF (own := RVR) (ref := RVR) (C := RVR) (T := TVR) (N := 5) (ci := 3) (v := .ref q18) (ty := .array (.object "VersionRanges$Version")) (fs' := [.ref q5, .ref q18, .null, .null, .int (nI 0)]) hx hb hW inVR tyVR tyokVR nmokVR hown hM ((km_n ne_xa_q18).trans (km_s _ _ _)) rfl 1 (by decide) (hW _ w_95) (fun _ h => h) rfl hnm rfl (by decide +kernel) rfl rfl (Nat.le_of_ble_eq_true rfl) dVR_init_21 rfl (fun H locs hM => ?_)
  have hM : kS g (km_up (km_up (km_up (km_up (km_up (km_up μ q5 (.inr (1, [.ref ba, .ref sa, .ref oa, .int (nI 0), .int (nI 0), .int (nI 0)]))) ba (.inl (g.2.2.1 0, 400, .inl (fun j => sb ((fun _ => 0) j))))) sa (.inl (g.2.2.1 1, 200, .inl (fun j => nI ((fun _ => 0) j))))) oa (.inl (g.2.2.1 1, 200, .inl (fun j => nI ((fun _ => 0) j))))) xa (.inr (3, [.ref q5, .ref q18, .null, .null, .int (nI 0)]))) q18 (.inl (g.2.2.1 4, 12, .inr (.inr (.inr (.inr (fun _ => none))))))) s H locs := kS_eq (km_u2 _ _ _ _ ne_xa_q18) hM
  refine lv_iconst (v := nI 0) hx hb dVR_init_24 (by decide) ?_
  refine lv_istore_n (lv' := [(1, .int (nI 0)), (0, .ref xa)]) hx hb dVR_init_25 rfl hl (by decide) rfl (fun ls hl => ?_)
  refine W.widen (k := 5 + 2 * 0) (n := 818 + 9 * 0) (by omega) (by omega) ?_
  exact cut26 _ 0 (km_up (km_up (km_up (km_up (km_up (km_up μ q5 (.inr (1, [.ref ba, .ref sa, .ref oa, .int (nI 0), .int (nI 0), .int (nI 0)]))) ba (.inl (g.2.2.1 0, 400, .inl (fun j => sb ((fun _ => 0) j))))) sa (.inl (g.2.2.1 1, 200, .inl (fun j => nI ((fun _ => 0) j))))) oa (.inl (g.2.2.1 1, 200, .inl (fun j => nI ((fun _ => 0) j))))) xa (.inr (3, [.ref q5, .ref q18, .null, .null, .int (nI 0)]))) q18 (.inl (g.2.2.1 4, 12, .inr (.inr (.inr (.inr (fun _ => none))))))) (fun _ => none) (fun _ => 0) (fun _ => 0) q5 ba sa oa q18 (Nat.lt_succ_self _) (by first | assumption | omega | exact rfl) (by exact ((km_n ne_xa_q18).trans (km_s _ _ _))) (by exact ((km_n ne_q5_q18).trans ((km_n (Ne.symm ne_xa_q5)).trans ((km_n ne_q5_oa).trans ((km_n ne_q5_sa).trans ((km_n ne_q5_ba).trans (km_s _ _ _))))))) (by exact ((km_n ne_ba_q18).trans ((km_n (Ne.symm ne_xa_ba)).trans ((km_n (Ne.symm hn2)).trans ((km_n (Ne.symm hn1)).trans (km_s _ _ _)))))) (by exact ((km_n ne_sa_q18).trans ((km_n (Ne.symm ne_xa_sa)).trans ((km_n (Ne.symm hn3)).trans (km_s _ _ _))))) (by exact ((km_n ne_oa_q18).trans ((km_n (Ne.symm ne_xa_oa)).trans (km_s _ _ _)))) (by exact Ne.symm hn3) (by exact (km_s _ _ _)) (by exact LI0_0) ls H locs (lv_sub hl [1, 0] rfl) hM
