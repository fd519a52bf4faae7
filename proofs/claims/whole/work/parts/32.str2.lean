/-- a piece of a text -/
def sbs (f : Nat → Nat) (i n : Nat) : Nat → Nat := fun j => if j < n then f (i + j) else 0
theorem sbs_lt {f : Nat → Nat} (h : ∀ k, f k < 256) (i n : Nat) : ∀ k, sbs f i n k < 256 := by
  intro k
  simp only [sbs]
  split
  · exact h _
  · decide
theorem cpy_sb {f : Nat → Nat} {sp n : Nat} : va_cpy (fun j => sb (f j)) (fun j => sb ((fun _ => 0) j)) sp 0 n = fun j => sb (sbs f sp n j) := by
  funext j
  simp only [va_cpy, sbs, Nat.zero_le, true_and, Nat.zero_add, Nat.sub_zero]
  split <;> rfl
section KW3
variable {p : Program} {l : Launch} {e : Env} {R : Room} {s : State} {m : MethodId} {args : Array Value} {below : List Frame} {meth : Method} {c : Code} {H : Heap} {locs : List Loc} {cells slots : Nat} {Q : State → Prop}
variable {cc : ByteArray} {pc : Nat} {ls : Array Slot} {rest : List Value} {g : kG} {μ : km_M} {a : Nat}
theorem k_copyb (hx : p.tables.exec = Jvm.exec) (hb : c.code = cc) (hml : c.maxLocals = ls.size) {own : String} {index : Nat} (hown : s.vm.findClass own = some m.cls) (hlink : (Cond.methodLink own index arraycopyName).before args s = true) (hnat : (Cond.native arraycopyName).before args s = true) (hstat : (Cond.static arraycopyName).before args s = true) (hini : (Cond.initialized "java/lang/System").before args s = true)
    (hM : kS g μ s H locs) (t0 : Nat) {a0 : Nat} {cA : ClassId} {n0 n1 : Nat} {f : Nat → Nat} {h f1 : Nat → Int32} (ha0 : μ a0 = some (.inl (cA, n0, .inl (fun j => sb (f j))))) (ha1 : μ a = some (.inl (cA, n1, .inl h))) (ht : (ktys g)[t0]? = some (cA, .byte))
    {sp dp n : Nat} (h4 : sp + n ≤ n0) (h5 : dp + n ≤ n1) (h0 : n0 < 2 ^ 31) (h1 : n1 < 2 ^ 31) (hframes : 1 ≤ R.frames) (hlocals : (rest.map fun v => v.category).sum + (nativeFrameWords "java/lang/System" "arraycopy" 5 + 11) ≤ R.locals) (hdg : decode cc pc = .ok (.invokestatic index, 3)) (hf : va_cpy (fun j => sb (f j)) h sp dp n = f1)
    (kk : ∀ (H1 : Heap) (locs1 : List Loc), kS g (km_up μ a (.inl (cA, n1, .inl f1))) s H1 locs1 → W p l e R s m args below meth c H1 locs1 cells slots Q (F0 m (pc + 3) ls rest)) : W p l e R s m args below meth c H locs cells slots Q (F0 m pc ls (.int (nI n) :: .int (nI dp) :: .ref a :: .int (nI sp) :: .ref a0 :: rest)) := by
  subst hf
  obtain ⟨ws, hP, hD, hr⟩ := hM.2.2.1
  obtain ⟨q0, hq0⟩ := (hr _ _).mp ha0
  obtain ⟨q1, hq1⟩ := (hr _ _).mp ha1
  have e1 : (nI sp).toNatClampNeg = sp := nI_clamp (by omega)
  have e2 : (nI dp).toNatClampNeg = dp := nI_clamp (by omega)
  have e3 : (nI n).toNatClampNeg = n := nI_clamp (by omega)
  refine va_copyi hx hb hml hown hlink hnat hstat hini hM.2.1.1 hP hD hM.2.2.2 q0 q1 t0 t0 hq0 hq1 ht ht rfl (nI_pos (by omega)) (nI_pos (by omega)) (nI_pos (by omega)) (by rw [e1, e3]; exact h4) (by rw [e2, e3]; exact h5) (fun _ _ => pk_fb _) hframes hlocals hdg (fun H1 locs1 hP1 hD1 hS1 => kk H1 locs1 (hM.set hD hr hq1 ?_ ?_ hS1))
  · rw [e1, e2, e3] at hP1
    exact hP1
  · rw [e1, e2, e3] at hD1
    exact hD1
end KW3
theorem sb_of (n : Nat) : (nI n).toInt8.toInt32 = sb n := rfl
theorem cmp_up {f h : Nat → Nat} {i k : Nat} (hh : ∀ j, j < k → h j = f (i + j)) : ∀ j, j < k + 1 → va_up h k (f (i + k)) j = f (i + j) := by
  intro j hj
  by_cases z : j = k
  · rw [z, va_up_self]
  · rw [va_up_ne _ _ z]
    exact hh j (by omega)
theorem cod_0 : ((nI 0).toUInt32 >>> ((nI 31).toUInt32 &&& Int32.toUInt32 31)).toInt32 = nI 0 := by decide
theorem min_nI {x y : Nat} (h : y ≤ x) (hx : x < 2 ^ 31) : (if nI y < nI x then nI y else nI x) = nI y := by
  split
  · rfl
  · rename_i z
    have z1 := (nJ_lt_f (a := y) (b := x) (by omega) hx).mp z
    rw [show x = y by omega]
set_option maxHeartbeats 800000 in
set_option maxRecDepth 100000 in
theorem mAR_checkLength (l : Launch) (g : kG) (μ : km_M) {x y : Nat} (h : x ≤ y) (hy0 : y ≤ 400) : Met l yAR_checkLength (Cond.code yAR_checkLength cAR_checkLength 2 none :: Wd) ({ frames := 0, cells := 0, slots := 0, locals := 0 } : Room) (kPre g μ [.int (nI x), .int (nI y)]) (kQv g (fun (μ1 : km_M) => μ1 = μ)) 0 0 (kF g) := by
  refine k_met (by decide) (Nat.le_of_ble_eq_true rfl) ?_
  intro p e s m below meth c hx hb hr hlocks hml hown hnm hW ls hl H locs hM
  have hl : lv_has ls 2 [(0, .int (nI x)), (1, .int (nI y))] := hl
  refine lv_iload_n hx hb dAR_checkLength_0 rfl (lv_at hl 1 rfl) ?_
  refine lv_iload_n hx hb dAR_checkLength_1 rfl (lv_at hl 0 rfl) ?_
  refine lv_icmp_ge (tgt := 37) hx hb dAR_checkLength_2 (by decide) (fun h2 => ?_) (fun h2 => ?_)
  · skip
    exact kr_v hx hb hr hlocks hM dAR_checkLength_37 rfl
  · exact absurd (nI_le h (by omega)) h2
set_option maxHeartbeats 800000 in
set_option maxRecDepth 100000 in
theorem mST_init3 (l : Launch) (g : kG) (μ : km_M) {a va : Nat} (hs : μ a = some (.inr (7, [.null, .int (nI 0), .int (nI 0), .int (nI 0)]))) : Met l yST_init3 (Cond.code yST_init3 cST_init3 3 none :: Wd) ({ frames := 1, cells := 0, slots := 0, locals := 40 } : Room) (kPre g μ [.ref a, .ref va, .int (nI 0)]) (kQv g (fun (μ1 : km_M) => μ1 = km_up μ a (.inr (7, [.ref va, .int (nI 0), .int (nI 0), .int (nI 0)])))) 0 0 (kF g) := by
  refine k_met (by decide) (Nat.le_of_ble_eq_true rfl) ?_
  intro p e s m below meth c hx hb hr hlocks hml hown hnm hW ls hl H locs hM
  have hl : lv_has ls 3 [(0, .ref a), (1, .ref va), (2, .int (nI 0))] := hl
  refine lv_aload_n hx hb dST_init3_0 rfl (lv_at hl 0 rfl) ?_
  refine W.objInit hx hb hown (hW _ w_352) (hW _ w_26) (hW _ w_27) rfl (by rw [hml]; exact hl.1) rfl dST_init3_1 (Nat.le_of_ble_eq_true rfl) (Nat.le_of_ble_eq_true rfl) ?_
  refine W.eq (g2 := F0 m 4 ls []) rfl ?_
  refine lv_aload_n hx hb dST_init3_4 rfl (lv_at hl 0 rfl) ?_
  refine lv_aload_n hx hb dST_init3_5 rfl (lv_at hl 1 rfl) ?_
  refine k_putF (own := RST) (ref := RST) (C := RST) (T := TST) (N := 4) (ci := 7) (v := .ref va) (ty := .array .byte) (fs' := [.ref va, .int (nI 0), .int (nI 0), .int (nI 0)]) hx hb hW inST tyST tyokST nmokST hown hM hs rfl 0 (by decide) (hW _ w_398) (fun _ h => h) rfl hnm rfl (by decide +kernel) rfl rfl (Nat.le_of_ble_eq_true rfl) dST_init3_6 rfl (fun H locs hM => ?_)
  have hM : kS g (km_up μ a (.inr (7, [.ref va, .int (nI 0), .int (nI 0), .int (nI 0)]))) s H locs := hM
  refine lv_aload_n hx hb dST_init3_9 rfl (lv_at hl 0 rfl) ?_
  refine lv_iload_n hx hb dST_init3_10 rfl (lv_at hl 2 rfl) ?_
  refine k_putF (own := RST) (ref := RST) (C := RST) (T := TST) (N := 4) (ci := 7) (v := .int (nI 0)) (ty := .byte) (fs' := [.ref va, .int (nI 0), .int (nI 0), .int (nI 0)]) hx hb hW inST tyST tyokST nmokST hown hM (km_s _ _ _) rfl 1 (by decide) (hW _ w_399) (fun _ h => h) rfl hnm rfl (by decide +kernel) (by decide) rfl (Nat.le_of_ble_eq_true rfl) dST_init3_11 rfl (fun H locs hM => ?_)
  have hM : kS g (km_up μ a (.inr (7, [.ref va, .int (nI 0), .int (nI 0), .int (nI 0)]))) s H locs := kS_eq (km_u1 _ _ _ _) hM
  exact kr_v hx hb hr hlocks hM dST_init3_14 rfl
set_option maxHeartbeats 800000 in
set_option maxRecDepth 100000 in
theorem mAR_copyOfRangeByte (l : Launch) (g : kG) (μ : km_M) {va n i tt : Nat} {f : Nat → Nat} (hv : μ va = some (.inl (g.2.2.1 0, n, .inl (fun j => sb (f j))))) (hn : n ≤ 400) (hi : i ≤ tt) (hj : tt ≤ n) : Met l yAR_copyOfRangeByte (Cond.code yAR_copyOfRangeByte cAR_copyOfRangeByte 5 (some (.array .byte)) :: Wd) ({ frames := 1, cells := 1, slots := tt - i, locals := 40 } : Room) (kPre g μ [.ref va, .int (nI i), .int (nI tt)]) (kQr g (fun (r : Nat) (μ1 : km_M) => μ r = none ∧ μ1 = km_up μ r (.inl (g.2.2.1 0, (tt - i), .inl (fun j => sb ((sbs f i (tt - i)) j)))))) 1 (tt - i) (kF g) := by
  refine k_met (by decide) (Nat.le_of_ble_eq_true rfl) ?_
  intro p e s m below meth c hx hb hr hlocks hml hown hnm hW ls hl H locs hM
  have hl : lv_has ls 5 [(0, .ref va), (1, .int (nI i)), (2, .int (nI tt))] := hl
  refine lv_iload_n hx hb dAR_copyOfRangeByte_0 rfl (lv_at hl 1 rfl) ?_
  refine lv_iload_n hx hb dAR_copyOfRangeByte_1 rfl (lv_at hl 2 rfl) ?_
  refine kc_v (va_runS (As := [.int (nI i), .int (nI tt)]) (rest := []) (Ts := Wd) ⟨hx, hb, hml, hown, hW⟩ (mAR_checkLength l g μ (x := i) (y := tt) (by omega) (by omega)) (va_cwS 2 hW (k_gS w_487 w_488 w_14 w_489) rfl rfl rfl (by decide +kernel) ⟨Nat.le_of_ble_eq_true rfl, Nat.le_of_ble_eq_true rfl⟩) (k_preS hM) rfl rfl hl.1 rfl (lv_room (Nat.le_of_ble_eq_true rfl)) dAR_copyOfRangeByte_2 ⟨Nat.zero_le _, Nat.zero_le _⟩) hM (fun μ1 H locs hp hM => ?_)
  rw [hp] at hM
  refine lv_iload_n hx hb dAR_copyOfRangeByte_5 rfl (lv_at hl 2 rfl) ?_
  refine lv_iload_n hx hb dAR_copyOfRangeByte_6 rfl (lv_at hl 1 rfl) ?_
  refine lv_isub hx hb dAR_copyOfRangeByte_7 ?_
  refine topi_eq (y := nI (tt - i)) (pk_sub (a := tt) (b := i) (by omega)) ?_
  refine lv_istore_n (lv' := [(3, .int (nI (tt - i))), (0, .ref va), (1, .int (nI i)), (2, .int (nI tt))]) hx hb dAR_copyOfRangeByte_8 rfl hl (by decide) rfl (fun ls hl => ?_)
  refine lv_iload_n hx hb dAR_copyOfRangeByte_9 rfl (lv_at hl 0 rfl) ?_
  refine k_newa (atype := .byte) (a0 := (tt - i, .inl (fun j => sb ((fun _ => 0) j)))) (N' := tt - i) hx hb (hW _ w_56) rfl hM 0 rfl (fun cA => kz_s cA _) (by omega) (by show _ * 1 ≤ _; omega) (show 0 + 1 ≤ 1 by omega) (show 0 + (tt - i) ≤ tt - i by omega) dAR_copyOfRangeByte_10 (fun q10 H hnq10 hM => ?_)
  have ne_va_q10 : va ≠ q10 := km_apF hv hnq10
  have hM : kS g (km_up μ q10 (.inl (g.2.2.1 0, tt - i, .inl (fun j => sb ((fun _ => 0) j))))) s H locs := hM
  refine W.widen (k := 1) (n := tt - i) (by omega) (by omega) ?_
  refine lv_astore (lv' := [(4, .ref q10), (3, .int (nI (tt - i))), (0, .ref va), (1, .int (nI i)), (2, .int (nI tt))]) hx hb dAR_copyOfRangeByte_12 hl (by decide) rfl (fun ls hl => ?_)
  refine lv_aload_n hx hb dAR_copyOfRangeByte_14 rfl (lv_at hl 2 rfl) ?_
  refine lv_iload_n hx hb dAR_copyOfRangeByte_15 rfl (lv_at hl 3 rfl) ?_
  refine lv_aload hx hb dAR_copyOfRangeByte_16 (lv_at hl 0 rfl) ?_
  refine lv_iconst (v := nI 0) hx hb dAR_copyOfRangeByte_18 (by decide) ?_
  refine lv_aload_n hx hb dAR_copyOfRangeByte_19 rfl (lv_at hl 2 rfl) ?_
  refine k_alen hx hb hM 0 ((km_n ne_va_q10).trans hv) rfl dAR_copyOfRangeByte_20 ?_
  refine lv_iload_n hx hb dAR_copyOfRangeByte_21 rfl (lv_at hl 3 rfl) ?_
  refine lv_isub hx hb dAR_copyOfRangeByte_22 ?_
  refine topi_eq (y := nI (n - i)) (pk_sub (a := n) (b := i) (by omega)) ?_
  refine lv_iload_n hx hb dAR_copyOfRangeByte_23 rfl (lv_at hl 1 rfl) ?_
  refine va_mmin (x := nI (n - i)) (y := nI (tt - i)) hx hb (by rw [hml]; exact hl.1.symm) hown (hW _ w_490) (hW _ w_491) (hW _ w_15) (hW _ w_492) (Nat.le_of_ble_eq_true rfl) (Nat.le_of_ble_eq_true rfl) (show 1 + 0 ≤ 1 by omega) (show (tt - i) + 0 ≤ tt - i by omega) dAR_copyOfRangeByte_24 ?_
  refine topi_eq (y := nI (tt - i)) (min_nI (by omega) (by omega)) ?_
  refine k_copyb (sp := i) (dp := 0) (n := tt - i) (f1 := (fun j => sb ((sbs f i (tt - i)) j))) hx hb (by rw [hml]; exact hl.1.symm) hown (hW _ w_493) (hW _ w_189) (hW _ w_188) (hW _ w_8) hM 0 ((km_n ne_va_q10).trans hv) (km_s _ _ _) rfl (by omega) (by omega) (by omega) (by omega) (Nat.le_of_ble_eq_true rfl) (Nat.le_of_ble_eq_true rfl) dAR_copyOfRangeByte_27 cpy_sb (fun H locs hM => ?_)
  have hM : kS g (km_up μ q10 (.inl (g.2.2.1 0, tt - i, .inl (fun j => sb ((sbs f i (tt - i)) j))))) s H locs := kS_eq (km_u1 _ _ _ _) hM
  refine lv_aload hx hb dAR_copyOfRangeByte_30 (lv_at hl 0 rfl) ?_
  exact kr_r hx hb hr (Or.inr ⟨_, rfl⟩) hlocks hM dAR_copyOfRangeByte_32 (⟨hnq10, rfl⟩)
set_option maxHeartbeats 800000 in
set_option maxRecDepth 100000 in
theorem mAR_copyOfRange (l : Launch) (g : kG) (μ : km_M) {va n i tt : Nat} {f : Nat → Nat} (hv : μ va = some (.inl (g.2.2.1 0, n, .inl (fun j => sb (f j))))) (hn : n ≤ 400) (hi : i ≤ tt) (hj : tt ≤ n) (hij : ¬ (i = 0 ∧ tt = n)) : Met l yAR_copyOfRange (Cond.code yAR_copyOfRange cAR_copyOfRange 3 (some (.array .byte)) :: Wd) ({ frames := 2, cells := 1, slots := tt - i, locals := 64 } : Room) (kPre g μ [.ref va, .int (nI i), .int (nI tt)]) (kQr g (fun (r : Nat) (μ1 : km_M) => μ r = none ∧ μ1 = km_up μ r (.inl (g.2.2.1 0, (tt - i), .inl (fun j => sb ((sbs f i (tt - i)) j)))))) 1 (tt - i) (kF g) := by
  refine k_met (by decide) (Nat.le_of_ble_eq_true rfl) ?_
  intro p e s m below meth c hx hb hr hlocks hml hown hnm hW ls hl H locs hM
  have hl : lv_has ls 3 [(0, .ref va), (1, .int (nI i)), (2, .int (nI tt))] := hl
  refine lv_iload_n hx hb dAR_copyOfRange_0 rfl (lv_at hl 1 rfl) ?_
  refine lv_if_ne (tgt := 10) hx hb dAR_copyOfRange_1 (by decide) (fun h1 => ?_) (fun h1 => ?_)
  · have h1 := (nJ_ne_t (a := i) (b := 0) (by omega) (by omega)).mp h1
    refine lv_aload_n hx hb dAR_copyOfRange_10 rfl (lv_at hl 0 rfl) ?_
    refine lv_iload_n hx hb dAR_copyOfRange_11 rfl (lv_at hl 1 rfl) ?_
    refine lv_iload_n hx hb dAR_copyOfRange_12 rfl (lv_at hl 2 rfl) ?_
    refine kc_r (va_runS (As := [.ref va, .int (nI i), .int (nI tt)]) (rest := []) (Ts := Wd) ⟨hx, hb, hml, hown, hW⟩ (mAR_copyOfRangeByte l g μ hv (i := i) (tt := tt) (by omega) (by omega) (by omega)) (va_cwS 3 hW (k_gS w_484 w_485 w_14 w_486) rfl rfl rfl (by decide +kernel) ⟨Nat.le_of_ble_eq_true rfl, Nat.le_of_ble_eq_true rfl⟩) (k_preS hM) rfl rfl hl.1 rfl (lv_room (Nat.le_of_ble_eq_true rfl)) dAR_copyOfRange_13 ⟨(show 0 + 1 ≤ 1 by omega), (show 0 + (tt - i) ≤ tt - i by omega)⟩) hM (fun c1 μ1 H locs hp hM => ?_)
    obtain ⟨hw1, hmu⟩ := hp
    rw [hmu] at hM
    refine W.widen (k := 1) (n := tt - i) (by omega) (by omega) ?_
    have ne_va_c1 : va ≠ c1 := km_apF hv hw1
    have hM : kS g (km_up μ c1 (.inl (g.2.2.1 0, (tt - i), .inl (fun j => sb ((sbs f i (tt - i)) j))))) s H locs := hM
    exact kr_r hx hb hr (Or.inr ⟨_, rfl⟩) hlocks hM dAR_copyOfRange_16 (⟨hw1, rfl⟩)
  · have h1 := (nJ_ne_f (a := i) (b := 0) (by omega) (by omega)).mp h1
    refine lv_iload_n hx hb dAR_copyOfRange_4 rfl (lv_at hl 2 rfl) ?_
    refine lv_aload_n hx hb dAR_copyOfRange_5 rfl (lv_at hl 0 rfl) ?_
    refine k_alen hx hb hM 0 hv rfl dAR_copyOfRange_6 ?_
    refine lv_icmp_eq (tgt := 17) hx hb dAR_copyOfRange_7 (by decide) (fun h7 => ?_) (fun h7 => ?_)
    · exact absurd ⟨h1, (nJ_eq_t (a := tt) (b := n) (by omega) (by omega)).mp h7⟩ hij
    · skip
      refine lv_aload_n hx hb dAR_copyOfRange_10 rfl (lv_at hl 0 rfl) ?_
      refine lv_iload_n hx hb dAR_copyOfRange_11 rfl (lv_at hl 1 rfl) ?_
      refine lv_iload_n hx hb dAR_copyOfRange_12 rfl (lv_at hl 2 rfl) ?_
      refine kc_r (va_runS (As := [.ref va, .int (nI i), .int (nI tt)]) (rest := []) (Ts := Wd) ⟨hx, hb, hml, hown, hW⟩ (mAR_copyOfRangeByte l g μ hv (i := i) (tt := tt) (by omega) (by omega) (by omega)) (va_cwS 3 hW (k_gS w_484 w_485 w_14 w_486) rfl rfl rfl (by decide +kernel) ⟨Nat.le_of_ble_eq_true rfl, Nat.le_of_ble_eq_true rfl⟩) (k_preS hM) rfl rfl hl.1 rfl (lv_room (Nat.le_of_ble_eq_true rfl)) dAR_copyOfRange_13 ⟨(show 0 + 1 ≤ 1 by omega), (show 0 + (tt - i) ≤ tt - i by omega)⟩) hM (fun c2 μ1 H locs hp hM => ?_)
      obtain ⟨hw2, hmu⟩ := hp
      rw [hmu] at hM
      refine W.widen (k := 1) (n := tt - i) (by omega) (by omega) ?_
      have ne_va_c2 : va ≠ c2 := km_apF hv hw2
      have hM : kS g (km_up μ c2 (.inl (g.2.2.1 0, (tt - i), .inl (fun j => sb ((sbs f i (tt - i)) j))))) s H locs := hM
      exact kr_r hx hb hr (Or.inr ⟨_, rfl⟩) hlocks hM dAR_copyOfRange_16 (⟨hw2, rfl⟩)
set_option maxHeartbeats 800000 in
set_option maxRecDepth 100000 in
theorem mSL_newString (l : Launch) (g : kG) (μ : km_M) {va n i k : Nat} {f : Nat → Nat} (hv : μ va = some (.inl (g.2.2.1 0, n, .inl (fun j => sb (f j))))) (hn : n ≤ 400) (hi : i + k ≤ n) (hk : 0 < k) (hik : ¬ (i = 0 ∧ k = n)) : Met l ySL_newString (Cond.code ySL_newString cSL_newString 3 (some (.object "java/lang/String")) :: Wd) ({ frames := 3, cells := 2, slots := 4 + k, locals := 86 } : Room) (kPre g μ [.ref va, .int (nI i), .int (nI k)]) (kQr g (fun (r : Nat) (μ1 : km_M) => ∃ vb, μ r = none ∧ μ vb = none ∧ vb ≠ r ∧ μ1 = km_up (km_up μ r (.inr (7, [.ref vb, .int (nI 0), .int (nI 0), .int (nI 0)]))) vb (.inl (g.2.2.1 0, k, .inl (fun j => sb ((sbs f i k) j)))))) 2 (4 + k) (kF g) := by
  refine k_met (by decide) (Nat.le_of_ble_eq_true rfl) ?_
  intro p e s m below meth c hx hb hr hlocks hml hown hnm hW ls hl H locs hM
  have hl : lv_has ls 3 [(0, .ref va), (1, .int (nI i)), (2, .int (nI k))] := hl
  refine lv_iload_n hx hb dSL_newString_0 rfl (lv_at hl 2 rfl) ?_
  refine lv_if_ne (tgt := 7) hx hb dSL_newString_1 (by decide) (fun h1 => ?_) (fun h1 => ?_)
  · skip
    refine k_new (own := RSL) (C := RST) (T := TST) (N := 4) (ci := 7) (fs := [.null, .int (nI 0), .int (nI 0), .int (nI 0)]) hx hb hW inST tyST tyokST hown (hW _ w_480) (hW _ w_334) (hW _ w_9) hM rfl (fun j hj => by rcases (show j = 0 ∨ j = 1 ∨ j = 2 ∨ j = 3 by omega) with rfl | rfl | rfl | rfl <;> rfl) (show 0 + 1 ≤ 2 by omega) (show 0 + 4 ≤ 4 + k by omega) dSL_newString_7 (fun q7 H hnq7 hM => ?_)
    have ne_va_q7 : va ≠ q7 := km_apF hv hnq7
    have hM : kS g (km_up μ q7 (.inr (7, [.null, .int (nI 0), .int (nI 0), .int (nI 0)]))) s H locs := hM
    refine W.widen (k := 1) (n := 4) (by omega) (by omega) ?_
    refine lv_dup hx hb dSL_newString_10 rfl ?_
    refine lv_aload_n hx hb dSL_newString_11 rfl (lv_at hl 0 rfl) ?_
    refine lv_iload_n hx hb dSL_newString_12 rfl (lv_at hl 1 rfl) ?_
    refine lv_iload_n hx hb dSL_newString_13 rfl (lv_at hl 1 rfl) ?_
    refine lv_iload_n hx hb dSL_newString_14 rfl (lv_at hl 2 rfl) ?_
    refine lv_iadd hx hb dSL_newString_15 ?_
    refine topi_eq (y := nI (i + k)) (nI_add i k) ?_
    refine kc_r (va_runS (As := [.ref va, .int (nI i), .int (nI (i + k))]) (rest := [.ref q7, .ref q7]) (Ts := Wd) ⟨hx, hb, hml, hown, hW⟩ (mAR_copyOfRange l g (km_up μ q7 (.inr (7, [.null, .int (nI 0), .int (nI 0), .int (nI 0)]))) ((km_n ne_va_q7).trans hv) (i := i) (tt := i + k) (by omega) (by omega) (by omega) (by omega)) (va_cwS 3 hW (k_gS w_481 w_482 w_14 w_483) rfl rfl rfl (by decide +kernel) ⟨Nat.le_of_ble_eq_true rfl, Nat.le_of_ble_eq_true rfl⟩) (k_preS hM) rfl rfl hl.1 rfl (lv_room (Nat.le_of_ble_eq_true rfl)) dSL_newString_16 ⟨(show 1 + 1 ≤ 2 by omega), (show 4 + ((i + k) - i) ≤ 4 + k by omega)⟩) hM (fun c1 μ1 H locs hp hM => ?_)
    obtain ⟨hw1, hmu⟩ := hp
    rw [hmu] at hM
    refine W.widen (k := 2) (n := 4 + ((i + k) - i)) (by omega) (by omega) ?_
    have ne_va_c1 : va ≠ c1 := km_apF ((km_n ne_va_q7).trans hv) hw1
    have ne_q7_c1 : q7 ≠ c1 := km_apF (km_s _ _ _) hw1
    have hM : kS g (km_up (km_up μ q7 (.inr (7, [.null, .int (nI 0), .int (nI 0), .int (nI 0)]))) c1 (.inl (g.2.2.1 0, ((i + k) - i), .inl (fun j => sb ((sbs f i ((i + k) - i)) j))))) s H locs := hM
    refine lv_iconst (v := nI 0) hx hb dSL_newString_19 (by decide) ?_
    refine kc_v (va_runI (As := [.ref c1, .int (nI 0)]) (b := q7) (rest := [.ref q7]) (Ts := Wd) ⟨hx, hb, hml, hown, hW⟩ (mST_init3 l g (km_up (km_up μ q7 (.inr (7, [.null, .int (nI 0), .int (nI 0), .int (nI 0)]))) c1 (.inl (g.2.2.1 0, ((i + k) - i), .inl (fun j => sb ((sbs f i ((i + k) - i)) j))))) ((km_n ne_q7_c1).trans (km_s _ _ _)) (va := c1)) (cwI 2 hW (k_gC w_503) rfl rfl rfl (hW _ w_9) (hW _ w_501) (hW _ w_502) rfl (by decide +kernel) ⟨Nat.le_of_ble_eq_true rfl, Nat.le_of_ble_eq_true rfl⟩) (k_preS hM) rfl rfl hl.1 rfl (lv_room (Nat.le_of_ble_eq_true rfl)) dSL_newString_20 ⟨(show 2 + 0 ≤ 2 by omega), (show (4 + ((i + k) - i)) + 0 ≤ 4 + k by omega)⟩) hM (fun μ1 H locs hp hM => ?_)
    rw [hp] at hM
    have hM : kS g (km_up (km_up (km_up μ q7 (.inr (7, [.null, .int (nI 0), .int (nI 0), .int (nI 0)]))) c1 (.inl (g.2.2.1 0, ((i + k) - i), .inl (fun j => sb ((sbs f i ((i + k) - i)) j))))) q7 (.inr (7, [.ref c1, .int (nI 0), .int (nI 0), .int (nI 0)]))) s H locs := hM
    have hM : kS g (km_up (km_up μ q7 (.inr (7, [.ref c1, .int (nI 0), .int (nI 0), .int (nI 0)]))) c1 (.inl (g.2.2.1 0, ((i + k) - i), .inl (fun j => sb ((sbs f i ((i + k) - i)) j))))) s H locs := kS_eq (km_u2 _ _ _ _ ne_q7_c1) hM
    refine W.widen (k := 2) (n := 4 + k) (by omega) (by omega) ?_
    exact kr_r hx hb hr (Or.inl ⟨_, rfl⟩) hlocks hM dSL_newString_23 (⟨_, hnq7, (km_none hw1).2, (km_none hw1).1, by rw [show i + k - i = k by omega]⟩)
  · exact absurd ((nJ_eq_t (a := k) (b := 0) (by omega) (by omega)).mp h1) (by omega)
