set_option maxHeartbeats 1600000 in
theorem xMD_feed (l : Launch) (g : kG) (μ : km_M) {ma tp wd li : Nat} {B : Nat → Nat} {ln : Nat} {vs : List kVer} (hRI : kRI g μ ma tp wd li B ln vs) (v1 v2 v3 v4 v5 : Int32) : Met l yMD_feed (Cond.code yMD_feed cMD_feed 6 (some .int) :: Wd) ({ frames := 1, cells := 0, slots := 0, locals := 22 } : Room) (kPre g μ [.ref ma, .int v1, .int v2, .int v3, .int v4, .int v5]) (kQi g (fun (r : Int32) (μ1 : km_M) => r = fdR ln ∧ kRI g μ1 ma tp wd li (fdB B ln v1 v2 v3 v4 v5) (fdL ln) vs ∧ kKp (clsC g) μ μ1)) 0 0 (kF g) := by
  obtain ⟨hB, hln, hcn, ⟨ws, at0, hma⟩, htp, ⟨M0, hwd⟩, V, hli, hLs⟩ := hRI
  refine met_i (mMD_feed l g μ hma hB htp hln) (fun hty r μ1 hp => ?_)
  rcases hp with ⟨h1, rfl, rfl⟩ | ⟨h1, rfl, rfl⟩
  · obtain ⟨e1, e2, e3⟩ := fd_t (B := B) (v1 := v1) (v2 := v2) (v3 := v3) (v4 := v4) (v5 := v5) h1
    rw [e2, e3]
    exact ⟨e1, ⟨(pb20_lt hB _ _ _ _ _ _), h1, hcn, ⟨_, _, (km_s _ _ _)⟩, ((km_n (km_apA htp hma)).trans (km_s _ _ _)), ⟨_, ((km_n (km_apA hwd hma)).trans ((km_n (Ne.symm (km_ap htp hwd (fun z => by simp at z)))).trans hwd))⟩, V, ((km_n (km_apA hli hma)).trans ((km_n (km_apN hli htp (by decide))).trans hli)), (kLs_kp (kKp_up (kKp_up (kKp_r _) htp (mvC_n (by decide))) hma (mvC_o (by decide))) hLs)⟩, (kKp_up (kKp_up (kKp_r _) htp (clsC_a hty (Or.inl rfl))) hma (clsC_o (by decide)))⟩
  · obtain ⟨e1, e2, e3⟩ := fd_f (B := B) (v1 := v1) (v2 := v2) (v3 := v3) (v4 := v4) (v5 := v5) h1
    rw [e2, e3]
    exact ⟨e1, ⟨hB, hln, hcn, ⟨_, _, hma⟩, htp, ⟨_, hwd⟩, V, hli, hLs⟩, kKp_r _⟩
set_option maxHeartbeats 1600000 in
theorem xMD_end (l : Launch) (g : kG) (μ : km_M) {ma tp wd li : Nat} {B : Nat → Nat} {ln : Nat} {vs : List kVer} (hRI : kRI g μ ma tp wd li B ln vs) (n : Int32) : Met l yMD_end (Cond.code yMD_end cMD_end 2 (some .int) :: Wd) ({ frames := 0, cells := 0, slots := 0, locals := 0 } : Room) (kPre g μ [.ref ma, .int n]) (kQi g (fun (r : Int32) (μ1 : km_M) => r = edR ln n ∧ kRI g μ1 ma tp wd li B (edL ln n) vs ∧ kKp (clsC g) μ μ1)) 0 0 (kF g) := by
  obtain ⟨hB, hln, hcn, ⟨ws, at0, hma⟩, htp, ⟨M0, hwd⟩, V, hli, hLs⟩ := hRI
  refine met_i (mMD_end l g μ hma hln) (fun hty r μ1 hp => ?_)
  rcases hp with ⟨h1, rfl, j, rfl, hj, rfl⟩ | ⟨h1, rfl, rfl⟩
  · obtain ⟨e1, e2⟩ := ed_t hj hln
    rw [e2]
    exact ⟨e1, ⟨hB, (Nat.le_trans hj hln), hcn, ⟨_, _, (km_s _ _ _)⟩, ((km_n (km_apA htp hma)).trans htp), ⟨_, ((km_n (km_apA hwd hma)).trans hwd)⟩, V, ((km_n (km_apA hli hma)).trans hli), (kLs_kp (kKp_up (kKp_r _) hma (mvC_o (by decide))) hLs)⟩, (kKp_up (kKp_r _) hma (clsC_o (by decide)))⟩
  · obtain ⟨e1, e2⟩ := ed_f h1
    rw [e2]
    exact ⟨e1, ⟨hB, hln, hcn, ⟨_, _, hma⟩, htp, ⟨_, hwd⟩, V, hli, hLs⟩, kKp_r _⟩
set_option maxHeartbeats 1600000 in
theorem xMD_clear (l : Launch) (g : kG) (μ : km_M) {ma tp wd li : Nat} {B : Nat → Nat} {ln : Nat} {vs : List kVer} (hRI : kRI g μ ma tp wd li B ln vs)  : Met l yMD_clear (Cond.code yMD_clear cMD_clear 2 (some .int) :: Wd) ({ frames := 0, cells := 0, slots := 0, locals := 0 } : Room) (kPre g μ [.ref ma]) (kQi g (fun (r : Int32) (μ1 : km_M) => r = nI vs.length ∧ kRI g μ1 ma tp wd li B ln [] ∧ kKp (clsC g) μ μ1)) 0 0 (kF g) := by
  obtain ⟨hB, hln, hcn, ⟨ws, at0, hma⟩, htp, ⟨M0, hwd⟩, V, hli, hLs⟩ := hRI
  refine met_i (mMD_clear l g μ hma) (fun hty r μ1 hp => ?_)
  obtain ⟨rfl, rfl⟩ := hp
  exact ⟨rfl, ⟨hB, hln, (by decide), ⟨_, _, (km_s _ _ _)⟩, ((km_n (km_apA htp hma)).trans htp), ⟨_, ((km_n (km_apA hwd hma)).trans hwd)⟩, V, ((km_n (km_apA hli hma)).trans hli), kLs_0⟩, (kKp_up (kKp_r _) hma (clsC_o (by decide)))⟩
set_option maxHeartbeats 1600000 in
theorem xMD_compare (l : Launch) (g : kG) (μ : km_M) {ma tp wd li : Nat} {B : Nat → Nat} {ln : Nat} {vs : List kVer} (hRI : kRI g μ ma tp wd li B ln vs) (k q : Int32) : Met l yMD_compare (Cond.code yMD_compare cMD_compare 3 (some .int) :: Wd) ({ frames := 8, cells := 0, slots := 0, locals := 176 } : Room) (kPre g μ [.ref ma, .int k, .int q]) (kQi g (fun (r : Int32) (μ1 : km_M) => r = cmR vs k q ∧ kRI g μ1 ma tp wd li B ln vs ∧ kKp (clsC g) μ μ1)) 0 0 (kF g) := by
  obtain ⟨hB, hln, hcn, ⟨ws, at0, hma⟩, htp, ⟨M0, hwd⟩, V, hli, hLs⟩ := hRI
  obtain ⟨fl, hfl⟩ := kLs_sk hLs
  refine met_i (mMD_compare l g μ hma rfl hcn hli (lw := fun j => (fl j).1) (naf := fun j => (fl j).2.1) (kaf := fun j => (fl j).2.2.1) (NNf := fun j => (fl j).2.2.2.1) (Mf := fun j => (fl j).2.2.2.2.1) (saf := fun j => (fl j).2.2.2.2.2.1) (svf := fun j => (fl j).2.2.2.2.2.2.1) (Ff := fun j => (fl j).2.2.2.2.2.2.2) hfl) (fun hty r μ1 hp => ?_)
  obtain ⟨rfl, hp⟩ := hp
  refine ⟨?_, ⟨hB, hln, hcn, ⟨_, _, hma⟩, htp, ⟨_, hwd⟩, V, hli, hLs⟩, kKp_r _⟩
  rcases hp with ⟨h1, rfl⟩ | ⟨i, j, vi, vj, hi, hj, rfl, rfl, rfl⟩
  · exact cmR_f h1
  · rw [cmR_t hcn (gS_lt hi) (gS_lt hj)]
    show _ = oF (rowOf (vs.getD i (0, 0, 0, []))) (rowOf (vs.getD j (0, 0, 0, []))) 0 7
    rw [gD_s hi, gD_s hj]
set_option maxHeartbeats 1600000 in
theorem xMD_part (l : Launch) (g : kG) (μ : km_M) {ma tp wd li : Nat} {B : Nat → Nat} {ln : Nat} {vs : List kVer} (hRI : kRI g μ ma tp wd li B ln vs) (k q : Int32) : Met l yMD_part (Cond.code yMD_part cMD_part 5 (some .int) :: Wd) ({ frames := 2, cells := 0, slots := 0, locals := 40 } : Room) (kPre g μ [.ref ma, .int k, .int q]) (kQi g (fun (r : Int32) (μ1 : km_M) => r = ptR vs k q ∧ kRI g μ1 ma tp wd li B ln vs ∧ kKp (clsC g) μ μ1)) 0 0 (kF g) := by
  obtain ⟨hB, hln, hcn, ⟨ws, at0, hma⟩, htp, ⟨M0, hwd⟩, V, hli, hLs⟩ := hRI
  obtain ⟨fl, hfl⟩ := kLs_sk hLs
  refine met_i (mMD_part l g μ hma rfl hcn hli (lw := fun j => (fl j).1) (naf := fun j => (fl j).2.1) (kaf := fun j => (fl j).2.2.1) (NNf := fun j => (fl j).2.2.2.1) (Mf := fun j => (fl j).2.2.2.2.1) (saf := fun j => (fl j).2.2.2.2.2.1) (svf := fun j => (fl j).2.2.2.2.2.2.1) (Ff := fun j => (fl j).2.2.2.2.2.2.2) hfl) (fun hty r μ1 hp => ?_)
  obtain ⟨rfl, hp⟩ := hp
  refine ⟨?_, ⟨hB, hln, hcn, ⟨_, _, hma⟩, htp, ⟨_, hwd⟩, V, hli, hLs⟩, kKp_r _⟩
  rcases hp with ⟨h1, rfl⟩ | ⟨h1, h2, rfl⟩ | ⟨i, j, vi, hi, hj, rfl, rfl, rfl⟩
  · exact ptR_f h1
  · exact ptR_g h1 h2
  · rw [ptR_t hcn (gS_lt hi) hj, gD_s hi]
set_option maxHeartbeats 1600000 in
theorem xMD_rank (l : Launch) (g : kG) (μ : km_M) {ma tp wd li : Nat} {B : Nat → Nat} {ln : Nat} {vs : List kVer} (hRI : kRI g μ ma tp wd li B ln vs) (k : Int32) : Met l yMD_rank (Cond.code yMD_rank cMD_rank 4 (some .int) :: Wd) ({ frames := 8, cells := 0, slots := 0, locals := 176 } : Room) (kPre g μ [.ref ma, .int k]) (kQi g (fun (r : Int32) (μ1 : km_M) => r = rkR vs k ∧ kRI g μ1 ma tp wd li B ln vs ∧ kKp (clsC g) μ μ1)) 0 0 (kF g) := by
  obtain ⟨hB, hln, hcn, ⟨ws, at0, hma⟩, htp, ⟨M0, hwd⟩, V, hli, hLs⟩ := hRI
  obtain ⟨fl, hfl⟩ := kLs_sk hLs
  refine met_i (mMD_rank l g μ hma rfl hcn hli (lw := fun j => (fl j).1) (naf := fun j => (fl j).2.1) (kaf := fun j => (fl j).2.2.1) (NNf := fun j => (fl j).2.2.2.1) (Mf := fun j => (fl j).2.2.2.2.1) (saf := fun j => (fl j).2.2.2.2.2.1) (svf := fun j => (fl j).2.2.2.2.2.2.1) (Ff := fun j => (fl j).2.2.2.2.2.2.2) hfl) (fun hty r μ1 hp => ?_)
  obtain ⟨rfl, hp⟩ := hp
  refine ⟨?_, ⟨hB, hln, hcn, ⟨_, _, hma⟩, htp, ⟨_, hwd⟩, V, hli, hLs⟩, kKp_r _⟩
  rcases hp with ⟨h1, rfl⟩ | ⟨i, vi, hi, rfl, rfl⟩
  · exact rkR_f h1
  · rw [rkR_t hcn (gS_lt hi)]
    show _ = nI (rkN (fun j => oF (rowOf (vs.getD j (0, 0, 0, []))) (rowOf (vs.getD i (0, 0, 0, []))) 0 7) vs.length)
    rw [gD_s hi]
