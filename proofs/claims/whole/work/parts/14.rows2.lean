-- more rows: arrays copied, enum constants
theorem km_u5 (μ : km_M) {a b c d f : Nat} (e e' e2 e3 e4 e5 : va_E) (h : a ≠ b) (h2 : a ≠ c) (h3 : a ≠ d) (h4 : a ≠ f) : km_up (km_up (km_up (km_up (km_up (km_up μ a e) b e2) c e3) d e4) f e5) a e' = km_up (km_up (km_up (km_up (km_up μ a e') b e2) c e3) d e4) f e5 := by
  rw [km_uc (km_up (km_up (km_up (km_up μ a e) b e2) c e3) d e4) e5 e' (Ne.symm h4), km_u4 μ e e' e2 e3 e4 h h2 h3]
theorem km_u6 (μ : km_M) {a b c d f i : Nat} (e e' e2 e3 e4 e5 e6 : va_E) (h : a ≠ b) (h2 : a ≠ c) (h3 : a ≠ d) (h4 : a ≠ f) (h5 : a ≠ i) : km_up (km_up (km_up (km_up (km_up (km_up (km_up μ a e) b e2) c e3) d e4) f e5) i e6) a e' = km_up (km_up (km_up (km_up (km_up (km_up μ a e') b e2) c e3) d e4) f e5) i e6 := by
  rw [km_uc (km_up (km_up (km_up (km_up (km_up μ a e) b e2) c e3) d e4) f e5) e6 e' (Ne.symm h5), km_u5 μ e e' e2 e3 e4 e5 h h2 h3 h4]
section KW2
variable {p : Program} {l : Launch} {e : Env} {R : Room} {s : State} {m : MethodId} {args : Array Value} {below : List Frame} {meth : Method} {c : Code} {H : Heap} {locs : List Loc} {cells slots : Nat} {Q : State → Prop}
variable {cc : ByteArray} {pc : Nat} {ls : Array Slot} {rest : List Value} {g : kG} {μ : km_M} {a : Nat}
theorem k_copyl (hx : p.tables.exec = Jvm.exec) (hb : c.code = cc) (hml : c.maxLocals = ls.size) {own : String} {index : Nat} (hown : s.vm.findClass own = some m.cls) (hlink : (Cond.methodLink own index arraycopyName).before args s = true) (hnat : (Cond.native arraycopyName).before args s = true) (hstat : (Cond.static arraycopyName).before args s = true) (hini : (Cond.initialized "java/lang/System").before args s = true)
    (hM : kS g μ s H locs) (t0 : Nat) {a0 : Nat} {cA : ClassId} {n0 n1 : Nat} {f h f1 : Nat → Int64} (ha0 : μ a0 = some (.inl (cA, n0, .inr (.inl f)))) (ha1 : μ a = some (.inl (cA, n1, .inr (.inl h)))) (ht : (ktys g)[t0]? = some (cA, .long))
    {sp dp n : Nat} (h4 : sp + n ≤ n0) (h5 : dp + n ≤ n1) (h0 : n0 < 2 ^ 31) (h1 : n1 < 2 ^ 31) (hframes : 1 ≤ R.frames) (hlocals : (rest.map fun v => v.category).sum + (nativeFrameWords "java/lang/System" "arraycopy" 5 + 11) ≤ R.locals) (hdg : decode cc pc = .ok (.invokestatic index, 3)) (hf : va_cpy f h sp dp n = f1)
    (kk : ∀ (H1 : Heap) (locs1 : List Loc), kS g (km_up μ a (.inl (cA, n1, .inr (.inl f1)))) s H1 locs1 → W p l e R s m args below meth c H1 locs1 cells slots Q (F0 m (pc + 3) ls rest)) : W p l e R s m args below meth c H locs cells slots Q (F0 m pc ls (.int (nI n) :: .int (nI dp) :: .ref a :: .int (nI sp) :: .ref a0 :: rest)) := by
  subst hf
  obtain ⟨ws, hP, hD, hr⟩ := hM.2.2.1
  obtain ⟨q0, hq0⟩ := (hr _ _).mp ha0
  obtain ⟨q1, hq1⟩ := (hr _ _).mp ha1
  have e1 : (nI sp).toNatClampNeg = sp := nI_clamp (by omega)
  have e2 : (nI dp).toNatClampNeg = dp := nI_clamp (by omega)
  have e3 : (nI n).toNatClampNeg = n := nI_clamp (by omega)
  refine va_copyl hx hb hml hown hlink hnat hstat hini hM.2.1.1 hP hD hM.2.2.2 q0 q1 t0 t0 hq0 hq1 ht ht rfl (nI_pos (by omega)) (nI_pos (by omega)) (nI_pos (by omega)) (by rw [e1, e3]; exact h4) (by rw [e2, e3]; exact h5) (fun _ _ => rfl) hframes hlocals hdg (fun H1 locs1 hP1 hD1 hS1 => kk H1 locs1 (hM.set hD hr hq1 ?_ ?_ hS1))
  · rw [e1, e2, e3] at hP1
    exact hP1
  · rw [e1, e2, e3] at hD1
    exact hD1
theorem k_preE {i : Nat} {As : List Value} (hM : kS g μ s H locs) (hi : i < 8) : PreV s H "VersionRanges$Sign" (g.2.2.2.1 i) (kPre g μ (.ref (g.2.2.2.1 i) :: As)) As :=
  ⟨kPre_blind, va_recvE hM.2.1.2.2.1 hi hM.2.2.2, (k_preS hM).2⟩
theorem k_enum {i j : Nat} (hM : kS g μ s H locs) (hi : i < 8) (hj : j < 8) (h : some (g.2.2.2.1 i) = some (g.2.2.2.1 j)) : i = j := hM.2.1.2.2.1.2 i j hi hj (Option.some.inj h)
end KW2
/-- whether a sign has an order: the enum's three fields -/
def enB (i : Nat) : Int32 := ([1, 0, 1, 1, 0, 0, 0, 0] : List Int32).getD i 0
def enS (i : Nat) : Int32 := ([1, 1, 0, 1, 0, 1, 1, 1] : List Int32).getD i 0
def enA (i : Nat) : Int32 := ([1, 0, 0, 0, 1, 1, 1, 1] : List Int32).getD i 0
theorem en_nar : ∀ i, i < 8 → narrow .boolean (.int (enB i)) = .int (enB i) ∧ narrow .boolean (.int (enS i)) = .int (enS i) ∧ narrow .boolean (.int (enA i)) = .int (enA i) := by decide +kernel
def enO (i : Nat) (x : Int32) : Int32 := if 0 ≤ x then (if x ≤ 0 then enS i else enA i) else enB i
/-- the sign at a word's beginning, and where what is behind it begins -/
def sgP (B : Nat → Nat) (a z : Nat) : Nat × Nat :=
  if a < z ∧ B a = 42 then (0, a + 1) else if a < z ∧ B a = 60 then (if a + 1 < z ∧ B (a + 1) = 61 then (3, a + 1 + 1) else (2, a + 1))
  else if a < z ∧ B a = 62 then (if a + 1 < z ∧ B (a + 1) = 61 then (5, a + 1 + 1) else (4, a + 1)) else if a < z ∧ B a = 94 then (6, a + 1) else if a < z ∧ B a = 126 then (7, a + 1)
  else if a < z ∧ B a = 61 then (1, a + 1) else (1, a)
theorem sgP_b (B : Nat → Nat) {a z : Nat} (h : a ≤ z) : (sgP B a z).1 < 8 ∧ (sgP B a z).2 ≤ z := by
  unfold sgP
  repeat' split
  all_goals (simp only; omega)
/-- the three numbers of a ceiling -/
def ceT (k x y w : Nat) : Nat × Nat × Nat := if k = 7 then (x, y + 1, 0) else if 0 < x then (x + 1, 0, 0) else if 0 < y then (0, y + 1, 0) else (0, 0, w + 1)
def n3F (G : Nat → Int64) (q : Nat × Nat × Nat) : Nat → Int64 := dpF (vp_updL (vp_updL (vp_updL G 0 (lN q.1)) 1 (lN q.2.1)) 2 (lN q.2.2))
theorem dVR_init_0 : decode cVR_init 0 = .ok (.aload_n 0, 1) := by decide +kernel
theorem dVR_init_1 : decode cVR_init 1 = .ok (.invokespecial 1, 3) := by decide +kernel
theorem dVR_init_4 : decode cVR_init 4 = .ok (.aload_n 0, 1) := by decide +kernel
theorem dVR_init_5 : decode cVR_init 5 = .ok (.new 7, 3) := by decide +kernel
theorem dVR_init_8 : decode cVR_init 8 = .ok (.dup, 1) := by decide +kernel
theorem dVR_init_9 : decode cVR_init 9 = .ok (.invokespecial 9, 3) := by decide +kernel
theorem dVR_init_12 : decode cVR_init 12 = .ok (.putfield 10, 3) := by decide +kernel
theorem dVR_init_15 : decode cVR_init 15 = .ok (.aload_n 0, 1) := by decide +kernel
theorem dVR_init_16 : decode cVR_init 16 = .ok (.bipush 12, 2) := by decide +kernel
theorem dVR_init_18 : decode cVR_init 18 = .ok (.anewarray 16, 3) := by decide +kernel
theorem dVR_init_21 : decode cVR_init 21 = .ok (.putfield 18, 3) := by decide +kernel
theorem dVR_init_24 : decode cVR_init 24 = .ok (.iconst 0, 1) := by decide +kernel
theorem dVR_init_25 : decode cVR_init 25 = .ok (.istore_n 1, 1) := by decide +kernel
theorem dVR_init_26 : decode cVR_init 26 = .ok (.iload_n 1, 1) := by decide +kernel
theorem dVR_init_27 : decode cVR_init 27 = .ok (.bipush 12, 2) := by decide +kernel
theorem dVR_init_29 : decode cVR_init 29 = .ok (.if_icmp .ge 22, 3) := by decide +kernel
theorem dVR_init_32 : decode cVR_init 32 = .ok (.aload_n 0, 1) := by decide +kernel
theorem dVR_init_33 : decode cVR_init 33 = .ok (.getfield 18, 3) := by decide +kernel
theorem dVR_init_36 : decode cVR_init 36 = .ok (.iload_n 1, 1) := by decide +kernel
theorem dVR_init_37 : decode cVR_init 37 = .ok (.new 16, 3) := by decide +kernel
theorem dVR_init_40 : decode cVR_init 40 = .ok (.dup, 1) := by decide +kernel
theorem dVR_init_41 : decode cVR_init 41 = .ok (.invokespecial 22, 3) := by decide +kernel
theorem dVR_init_44 : decode cVR_init 44 = .ok (.aastore, 1) := by decide +kernel
theorem dVR_init_45 : decode cVR_init 45 = .ok (.iinc 1 1, 3) := by decide +kernel
theorem dVR_init_48 : decode cVR_init 48 = .ok (.goto (-22), 3) := by decide +kernel
theorem dVR_init_51 : decode cVR_init 51 = .ok (.aload_n 0, 1) := by decide +kernel
theorem dVR_init_52 : decode cVR_init 52 = .ok (.new 16, 3) := by decide +kernel
theorem dVR_init_55 : decode cVR_init 55 = .ok (.dup, 1) := by decide +kernel
theorem dVR_init_56 : decode cVR_init 56 = .ok (.invokespecial 22, 3) := by decide +kernel
theorem dVR_init_59 : decode cVR_init 59 = .ok (.putfield 23, 3) := by decide +kernel
theorem dVR_init_62 : decode cVR_init 62 = .ok (.aload_n 0, 1) := by decide +kernel
theorem dVR_init_63 : decode cVR_init 63 = .ok (.new 27, 3) := by decide +kernel
theorem dVR_init_66 : decode cVR_init 66 = .ok (.dup, 1) := by decide +kernel
theorem dVR_init_67 : decode cVR_init 67 = .ok (.invokespecial 29, 3) := by decide +kernel
theorem dVR_init_70 : decode cVR_init 70 = .ok (.putfield 30, 3) := by decide +kernel
theorem dVR_init_73 : decode cVR_init 73 = .ok (.aload_n 0, 1) := by decide +kernel
theorem dVR_init_74 : decode cVR_init 74 = .ok (.iconst 0, 1) := by decide +kernel
theorem dVR_init_75 : decode cVR_init 75 = .ok (.putfield 34, 3) := by decide +kernel
theorem dVR_init_78 : decode cVR_init 78 = .ok (.return_, 1) := by decide +kernel
theorem dVR_feed_0 : decode cVR_feed 0 = .ok (.aload_n 0, 1) := by decide +kernel
theorem dVR_feed_1 : decode cVR_feed 1 = .ok (.getfield 10, 3) := by decide +kernel
theorem dVR_feed_4 : decode cVR_feed 4 = .ok (.bipush 20, 2) := by decide +kernel
theorem dVR_feed_6 : decode cVR_feed 6 = .ok (.invokevirtual 38, 3) := by decide +kernel
theorem dVR_feed_9 : decode cVR_feed 9 = .ok (.ifCond .ne 6, 3) := by decide +kernel
theorem dVR_feed_12 : decode cVR_feed 12 = .ok (.bipush (-3), 2) := by decide +kernel
theorem dVR_feed_14 : decode cVR_feed 14 = .ok (.ireturn, 1) := by decide +kernel
theorem dVR_feed_15 : decode cVR_feed 15 = .ok (.aload_n 0, 1) := by decide +kernel
theorem dVR_feed_16 : decode cVR_feed 16 = .ok (.getfield 10, 3) := by decide +kernel
theorem dVR_feed_19 : decode cVR_feed 19 = .ok (.iload_n 1, 1) := by decide +kernel
theorem dVR_feed_20 : decode cVR_feed 20 = .ok (.invokevirtual 42, 3) := by decide +kernel
theorem dVR_feed_23 : decode cVR_feed 23 = .ok (.aload_n 0, 1) := by decide +kernel
theorem dVR_feed_24 : decode cVR_feed 24 = .ok (.getfield 10, 3) := by decide +kernel
theorem dVR_feed_27 : decode cVR_feed 27 = .ok (.iload_n 2, 1) := by decide +kernel
theorem dVR_feed_28 : decode cVR_feed 28 = .ok (.invokevirtual 42, 3) := by decide +kernel
theorem dVR_feed_31 : decode cVR_feed 31 = .ok (.aload_n 0, 1) := by decide +kernel
theorem dVR_feed_32 : decode cVR_feed 32 = .ok (.getfield 10, 3) := by decide +kernel
theorem dVR_feed_35 : decode cVR_feed 35 = .ok (.iload_n 3, 1) := by decide +kernel
theorem dVR_feed_36 : decode cVR_feed 36 = .ok (.invokevirtual 42, 3) := by decide +kernel
theorem dVR_feed_39 : decode cVR_feed 39 = .ok (.aload_n 0, 1) := by decide +kernel
theorem dVR_feed_40 : decode cVR_feed 40 = .ok (.getfield 10, 3) := by decide +kernel
theorem dVR_feed_43 : decode cVR_feed 43 = .ok (.iload 4, 2) := by decide +kernel
theorem dVR_feed_45 : decode cVR_feed 45 = .ok (.invokevirtual 42, 3) := by decide +kernel
theorem dVR_feed_48 : decode cVR_feed 48 = .ok (.aload_n 0, 1) := by decide +kernel
theorem dVR_feed_49 : decode cVR_feed 49 = .ok (.getfield 10, 3) := by decide +kernel
theorem dVR_feed_52 : decode cVR_feed 52 = .ok (.iload 5, 2) := by decide +kernel
theorem dVR_feed_54 : decode cVR_feed 54 = .ok (.invokevirtual 42, 3) := by decide +kernel
theorem dVR_feed_57 : decode cVR_feed 57 = .ok (.aload_n 0, 1) := by decide +kernel
theorem dVR_feed_58 : decode cVR_feed 58 = .ok (.getfield 10, 3) := by decide +kernel
theorem dVR_feed_61 : decode cVR_feed 61 = .ok (.getfield 46, 3) := by decide +kernel
theorem dVR_feed_64 : decode cVR_feed 64 = .ok (.ireturn, 1) := by decide +kernel
theorem dVR_end_0 : decode cVR_end 0 = .ok (.iload_n 1, 1) := by decide +kernel
theorem dVR_end_1 : decode cVR_end 1 = .ok (.ifCond .lt 14, 3) := by decide +kernel
theorem dVR_end_4 : decode cVR_end 4 = .ok (.iload_n 1, 1) := by decide +kernel
theorem dVR_end_5 : decode cVR_end 5 = .ok (.aload_n 0, 1) := by decide +kernel
theorem dVR_end_6 : decode cVR_end 6 = .ok (.getfield 10, 3) := by decide +kernel
theorem dVR_end_9 : decode cVR_end 9 = .ok (.getfield 46, 3) := by decide +kernel
theorem dVR_end_12 : decode cVR_end 12 = .ok (.if_icmp .le 5, 3) := by decide +kernel
theorem dVR_end_15 : decode cVR_end 15 = .ok (.iconst (-1), 1) := by decide +kernel
theorem dVR_end_16 : decode cVR_end 16 = .ok (.ireturn, 1) := by decide +kernel
theorem dVR_end_17 : decode cVR_end 17 = .ok (.aload_n 0, 1) := by decide +kernel
theorem dVR_end_18 : decode cVR_end 18 = .ok (.getfield 10, 3) := by decide +kernel
theorem dVR_end_21 : decode cVR_end 21 = .ok (.iload_n 1, 1) := by decide +kernel
theorem dVR_end_22 : decode cVR_end 22 = .ok (.putfield 46, 3) := by decide +kernel
theorem dVR_end_25 : decode cVR_end 25 = .ok (.iload_n 1, 1) := by decide +kernel
theorem dVR_end_26 : decode cVR_end 26 = .ok (.ireturn, 1) := by decide +kernel
theorem dVR_take_0 : decode cVR_take 0 = .ok (.aload_n 0, 1) := by decide +kernel
theorem dVR_take_1 : decode cVR_take 1 = .ok (.invokevirtual 49, 3) := by decide +kernel
theorem dVR_take_4 : decode cVR_take 4 = .ok (.istore_n 1, 1) := by decide +kernel
theorem dVR_take_5 : decode cVR_take 5 = .ok (.aload_n 0, 1) := by decide +kernel
theorem dVR_take_6 : decode cVR_take 6 = .ok (.getfield 10, 3) := by decide +kernel
theorem dVR_take_9 : decode cVR_take 9 = .ok (.iconst 0, 1) := by decide +kernel
theorem dVR_take_10 : decode cVR_take 10 = .ok (.putfield 46, 3) := by decide +kernel
theorem dVR_take_13 : decode cVR_take 13 = .ok (.iload_n 1, 1) := by decide +kernel
theorem dVR_take_14 : decode cVR_take 14 = .ok (.ireturn, 1) := by decide +kernel
theorem dVR_compare_0 : decode cVR_compare 0 = .ok (.aload_n 0, 1) := by decide +kernel
theorem dVR_compare_1 : decode cVR_compare 1 = .ok (.iload_n 1, 1) := by decide +kernel
theorem dVR_compare_2 : decode cVR_compare 2 = .ok (.invokevirtual 53, 3) := by decide +kernel
theorem dVR_compare_5 : decode cVR_compare 5 = .ok (.ifCond .eq 11, 3) := by decide +kernel
theorem dVR_compare_8 : decode cVR_compare 8 = .ok (.aload_n 0, 1) := by decide +kernel
theorem dVR_compare_9 : decode cVR_compare 9 = .ok (.iload_n 2, 1) := by decide +kernel
theorem dVR_compare_10 : decode cVR_compare 10 = .ok (.invokevirtual 53, 3) := by decide +kernel
theorem dVR_compare_13 : decode cVR_compare 13 = .ok (.ifCond .ne 6, 3) := by decide +kernel
theorem dVR_compare_16 : decode cVR_compare 16 = .ok (.bipush (-2), 2) := by decide +kernel
theorem dVR_compare_18 : decode cVR_compare 18 = .ok (.ireturn, 1) := by decide +kernel
theorem dVR_compare_19 : decode cVR_compare 19 = .ok (.aload_n 0, 1) := by decide +kernel
theorem dVR_compare_20 : decode cVR_compare 20 = .ok (.getfield 18, 3) := by decide +kernel
theorem dVR_compare_23 : decode cVR_compare 23 = .ok (.iload_n 1, 1) := by decide +kernel
theorem dVR_compare_24 : decode cVR_compare 24 = .ok (.aaload, 1) := by decide +kernel
theorem dVR_compare_25 : decode cVR_compare 25 = .ok (.aload_n 0, 1) := by decide +kernel
theorem dVR_compare_26 : decode cVR_compare 26 = .ok (.getfield 18, 3) := by decide +kernel
theorem dVR_compare_29 : decode cVR_compare 29 = .ok (.iload_n 2, 1) := by decide +kernel
theorem dVR_compare_30 : decode cVR_compare 30 = .ok (.aaload, 1) := by decide +kernel
theorem dVR_compare_31 : decode cVR_compare 31 = .ok (.invokevirtual 56, 3) := by decide +kernel
theorem dVR_compare_34 : decode cVR_compare 34 = .ok (.ireturn, 1) := by decide +kernel
theorem dVR_part_0 : decode cVR_part 0 = .ok (.iload_n 2, 1) := by decide +kernel
theorem dVR_part_1 : decode cVR_part 1 = .ok (.ifCond .lt 8, 3) := by decide +kernel
theorem dVR_part_4 : decode cVR_part 4 = .ok (.iload_n 2, 1) := by decide +kernel
theorem dVR_part_5 : decode cVR_part 5 = .ok (.iconst 3, 1) := by decide +kernel
theorem dVR_part_6 : decode cVR_part 6 = .ok (.if_icmp .le 5, 3) := by decide +kernel
theorem dVR_part_9 : decode cVR_part 9 = .ok (.iconst (-1), 1) := by decide +kernel
theorem dVR_part_10 : decode cVR_part 10 = .ok (.ireturn, 1) := by decide +kernel
theorem dVR_part_11 : decode cVR_part 11 = .ok (.aload_n 0, 1) := by decide +kernel
theorem dVR_part_12 : decode cVR_part 12 = .ok (.iload_n 1, 1) := by decide +kernel
theorem dVR_part_13 : decode cVR_part 13 = .ok (.invokevirtual 53, 3) := by decide +kernel
theorem dVR_part_16 : decode cVR_part 16 = .ok (.ifCond .ne 6, 3) := by decide +kernel
theorem dVR_part_19 : decode cVR_part 19 = .ok (.bipush (-2), 2) := by decide +kernel
theorem dVR_part_21 : decode cVR_part 21 = .ok (.ireturn, 1) := by decide +kernel
theorem dVR_part_22 : decode cVR_part 22 = .ok (.iload_n 2, 1) := by decide +kernel
theorem dVR_part_23 : decode cVR_part 23 = .ok (.iconst 3, 1) := by decide +kernel
theorem dVR_part_24 : decode cVR_part 24 = .ok (.if_icmp .ne 15, 3) := by decide +kernel
theorem dVR_part_27 : decode cVR_part 27 = .ok (.aload_n 0, 1) := by decide +kernel
theorem dVR_part_28 : decode cVR_part 28 = .ok (.getfield 18, 3) := by decide +kernel
theorem dVR_part_31 : decode cVR_part 31 = .ok (.iload_n 1, 1) := by decide +kernel
theorem dVR_part_32 : decode cVR_part 32 = .ok (.aaload, 1) := by decide +kernel
theorem dVR_part_33 : decode cVR_part 33 = .ok (.getfield 60, 3) := by decide +kernel
theorem dVR_part_36 : decode cVR_part 36 = .ok (.goto 13, 3) := by decide +kernel
theorem dVR_part_39 : decode cVR_part 39 = .ok (.aload_n 0, 1) := by decide +kernel
theorem dVR_part_40 : decode cVR_part 40 = .ok (.getfield 18, 3) := by decide +kernel
theorem dVR_part_43 : decode cVR_part 43 = .ok (.iload_n 1, 1) := by decide +kernel
theorem dVR_part_44 : decode cVR_part 44 = .ok (.aaload, 1) := by decide +kernel
theorem dVR_part_45 : decode cVR_part 45 = .ok (.iload_n 2, 1) := by decide +kernel
theorem dVR_part_46 : decode cVR_part 46 = .ok (.invokevirtual 63, 3) := by decide +kernel
theorem dVR_part_49 : decode cVR_part 49 = .ok (.ireturn, 1) := by decide +kernel
theorem dVR_rank_0 : decode cVR_rank 0 = .ok (.aload_n 0, 1) := by decide +kernel
theorem dVR_rank_1 : decode cVR_rank 1 = .ok (.iload_n 1, 1) := by decide +kernel
theorem dVR_rank_2 : decode cVR_rank 2 = .ok (.invokevirtual 53, 3) := by decide +kernel
theorem dVR_rank_5 : decode cVR_rank 5 = .ok (.ifCond .ne 6, 3) := by decide +kernel
theorem dVR_rank_8 : decode cVR_rank 8 = .ok (.bipush (-2), 2) := by decide +kernel
theorem dVR_rank_10 : decode cVR_rank 10 = .ok (.ireturn, 1) := by decide +kernel
theorem dVR_rank_11 : decode cVR_rank 11 = .ok (.iconst 0, 1) := by decide +kernel
theorem dVR_rank_12 : decode cVR_rank 12 = .ok (.istore_n 2, 1) := by decide +kernel
theorem dVR_rank_13 : decode cVR_rank 13 = .ok (.iconst 0, 1) := by decide +kernel
theorem dVR_rank_14 : decode cVR_rank 14 = .ok (.istore_n 3, 1) := by decide +kernel
theorem dVR_rank_15 : decode cVR_rank 15 = .ok (.iload_n 3, 1) := by decide +kernel
theorem dVR_rank_16 : decode cVR_rank 16 = .ok (.aload_n 0, 1) := by decide +kernel
theorem dVR_rank_17 : decode cVR_rank 17 = .ok (.getfield 34, 3) := by decide +kernel
theorem dVR_rank_20 : decode cVR_rank 20 = .ok (.if_icmp .ge 30, 3) := by decide +kernel
theorem dVR_rank_23 : decode cVR_rank 23 = .ok (.aload_n 0, 1) := by decide +kernel
theorem dVR_rank_24 : decode cVR_rank 24 = .ok (.getfield 18, 3) := by decide +kernel
theorem dVR_rank_27 : decode cVR_rank 27 = .ok (.iload_n 3, 1) := by decide +kernel
theorem dVR_rank_28 : decode cVR_rank 28 = .ok (.aaload, 1) := by decide +kernel
theorem dVR_rank_29 : decode cVR_rank 29 = .ok (.aload_n 0, 1) := by decide +kernel
theorem dVR_rank_30 : decode cVR_rank 30 = .ok (.getfield 18, 3) := by decide +kernel
theorem dVR_rank_33 : decode cVR_rank 33 = .ok (.iload_n 1, 1) := by decide +kernel
theorem dVR_rank_34 : decode cVR_rank 34 = .ok (.aaload, 1) := by decide +kernel
theorem dVR_rank_35 : decode cVR_rank 35 = .ok (.invokevirtual 56, 3) := by decide +kernel
theorem dVR_rank_38 : decode cVR_rank 38 = .ok (.ifCond .ge 6, 3) := by decide +kernel
theorem dVR_rank_41 : decode cVR_rank 41 = .ok (.iinc 2 1, 3) := by decide +kernel
theorem dVR_rank_44 : decode cVR_rank 44 = .ok (.iinc 3 1, 3) := by decide +kernel
theorem dVR_rank_47 : decode cVR_rank 47 = .ok (.goto (-32), 3) := by decide +kernel
theorem dVR_rank_50 : decode cVR_rank 50 = .ok (.iload_n 2, 1) := by decide +kernel
theorem dVR_rank_51 : decode cVR_rank 51 = .ok (.ireturn, 1) := by decide +kernel
theorem dVR_match_0 : decode cVR_match 0 = .ok (.aload_n 0, 1) := by decide +kernel
theorem dVR_match_1 : decode cVR_match 1 = .ok (.invokevirtual 67, 3) := by decide +kernel
theorem dVR_match_4 : decode cVR_match 4 = .ok (.istore_n 1, 1) := by decide +kernel
theorem dVR_match_5 : decode cVR_match 5 = .ok (.aload_n 0, 1) := by decide +kernel
theorem dVR_match_6 : decode cVR_match 6 = .ok (.getfield 10, 3) := by decide +kernel
theorem dVR_match_9 : decode cVR_match 9 = .ok (.iconst 0, 1) := by decide +kernel
theorem dVR_match_10 : decode cVR_match 10 = .ok (.putfield 46, 3) := by decide +kernel
theorem dVR_match_13 : decode cVR_match 13 = .ok (.iload_n 1, 1) := by decide +kernel
theorem dVR_match_14 : decode cVR_match 14 = .ok (.ireturn, 1) := by decide +kernel
theorem dVR_clear_0 : decode cVR_clear 0 = .ok (.aload_n 0, 1) := by decide +kernel
theorem dVR_clear_1 : decode cVR_clear 1 = .ok (.getfield 34, 3) := by decide +kernel
theorem dVR_clear_4 : decode cVR_clear 4 = .ok (.istore_n 1, 1) := by decide +kernel
theorem dVR_clear_5 : decode cVR_clear 5 = .ok (.aload_n 0, 1) := by decide +kernel
theorem dVR_clear_6 : decode cVR_clear 6 = .ok (.iconst 0, 1) := by decide +kernel
theorem dVR_clear_7 : decode cVR_clear 7 = .ok (.putfield 34, 3) := by decide +kernel
theorem dVR_clear_10 : decode cVR_clear 10 = .ok (.iload_n 1, 1) := by decide +kernel
theorem dVR_clear_11 : decode cVR_clear 11 = .ok (.ireturn, 1) := by decide +kernel
theorem dVR_isListed_0 : decode cVR_isListed 0 = .ok (.iload_n 1, 1) := by decide +kernel
theorem dVR_isListed_1 : decode cVR_isListed 1 = .ok (.ifCond .lt 15, 3) := by decide +kernel
theorem dVR_isListed_4 : decode cVR_isListed 4 = .ok (.iload_n 1, 1) := by decide +kernel
theorem dVR_isListed_5 : decode cVR_isListed 5 = .ok (.aload_n 0, 1) := by decide +kernel
theorem dVR_isListed_6 : decode cVR_isListed 6 = .ok (.getfield 34, 3) := by decide +kernel
theorem dVR_isListed_9 : decode cVR_isListed 9 = .ok (.if_icmp .ge 7, 3) := by decide +kernel
theorem dVR_isListed_12 : decode cVR_isListed 12 = .ok (.iconst 1, 1) := by decide +kernel
theorem dVR_isListed_13 : decode cVR_isListed 13 = .ok (.goto 4, 3) := by decide +kernel
theorem dVR_isListed_16 : decode cVR_isListed 16 = .ok (.iconst 0, 1) := by decide +kernel
theorem dVR_isListed_17 : decode cVR_isListed 17 = .ok (.ireturn, 1) := by decide +kernel
theorem dVR_addVersionOfTape_0 : decode cVR_addVersionOfTape 0 = .ok (.aload_n 0, 1) := by decide +kernel
theorem dVR_addVersionOfTape_1 : decode cVR_addVersionOfTape 1 = .ok (.getfield 10, 3) := by decide +kernel
theorem dVR_addVersionOfTape_4 : decode cVR_addVersionOfTape 4 = .ok (.invokevirtual 70, 3) := by decide +kernel
theorem dVR_addVersionOfTape_7 : decode cVR_addVersionOfTape 7 = .ok (.iconst 1, 1) := by decide +kernel
theorem dVR_addVersionOfTape_8 : decode cVR_addVersionOfTape 8 = .ok (.if_icmp .eq 6, 3) := by decide +kernel
theorem dVR_addVersionOfTape_11 : decode cVR_addVersionOfTape 11 = .ok (.bipush (-4), 2) := by decide +kernel
theorem dVR_addVersionOfTape_13 : decode cVR_addVersionOfTape 13 = .ok (.ireturn, 1) := by decide +kernel
theorem dVR_addVersionOfTape_14 : decode cVR_addVersionOfTape 14 = .ok (.aload_n 0, 1) := by decide +kernel
theorem dVR_addVersionOfTape_15 : decode cVR_addVersionOfTape 15 = .ok (.getfield 10, 3) := by decide +kernel
theorem dVR_addVersionOfTape_18 : decode cVR_addVersionOfTape 18 = .ok (.iconst 0, 1) := by decide +kernel
theorem dVR_addVersionOfTape_19 : decode cVR_addVersionOfTape 19 = .ok (.invokevirtual 73, 3) := by decide +kernel
theorem dVR_addVersionOfTape_22 : decode cVR_addVersionOfTape 22 = .ok (.aload_n 0, 1) := by decide +kernel
theorem dVR_addVersionOfTape_23 : decode cVR_addVersionOfTape 23 = .ok (.getfield 23, 3) := by decide +kernel
theorem dVR_addVersionOfTape_26 : decode cVR_addVersionOfTape 26 = .ok (.aload_n 0, 1) := by decide +kernel
theorem dVR_addVersionOfTape_27 : decode cVR_addVersionOfTape 27 = .ok (.getfield 10, 3) := by decide +kernel
theorem dVR_addVersionOfTape_30 : decode cVR_addVersionOfTape 30 = .ok (.invokevirtual 76, 3) := by decide +kernel
theorem dVR_addVersionOfTape_33 : decode cVR_addVersionOfTape 33 = .ok (.ifCond .ne 6, 3) := by decide +kernel
theorem dVR_addVersionOfTape_36 : decode cVR_addVersionOfTape 36 = .ok (.bipush (-4), 2) := by decide +kernel
theorem dVR_addVersionOfTape_38 : decode cVR_addVersionOfTape 38 = .ok (.ireturn, 1) := by decide +kernel
theorem dVR_addVersionOfTape_39 : decode cVR_addVersionOfTape 39 = .ok (.aload_n 0, 1) := by decide +kernel
theorem dVR_addVersionOfTape_40 : decode cVR_addVersionOfTape 40 = .ok (.getfield 34, 3) := by decide +kernel
theorem dVR_addVersionOfTape_43 : decode cVR_addVersionOfTape 43 = .ok (.bipush 12, 2) := by decide +kernel
theorem dVR_addVersionOfTape_45 : decode cVR_addVersionOfTape 45 = .ok (.if_icmp .lt 6, 3) := by decide +kernel
theorem dVR_addVersionOfTape_48 : decode cVR_addVersionOfTape 48 = .ok (.bipush (-3), 2) := by decide +kernel
theorem dVR_addVersionOfTape_50 : decode cVR_addVersionOfTape 50 = .ok (.ireturn, 1) := by decide +kernel
theorem dVR_addVersionOfTape_51 : decode cVR_addVersionOfTape 51 = .ok (.aload_n 0, 1) := by decide +kernel
theorem dVR_addVersionOfTape_52 : decode cVR_addVersionOfTape 52 = .ok (.getfield 18, 3) := by decide +kernel
theorem dVR_addVersionOfTape_55 : decode cVR_addVersionOfTape 55 = .ok (.aload_n 0, 1) := by decide +kernel
theorem dVR_addVersionOfTape_56 : decode cVR_addVersionOfTape 56 = .ok (.getfield 34, 3) := by decide +kernel
theorem dVR_addVersionOfTape_59 : decode cVR_addVersionOfTape 59 = .ok (.aaload, 1) := by decide +kernel
theorem dVR_addVersionOfTape_60 : decode cVR_addVersionOfTape 60 = .ok (.aload_n 0, 1) := by decide +kernel
theorem dVR_addVersionOfTape_61 : decode cVR_addVersionOfTape 61 = .ok (.getfield 23, 3) := by decide +kernel
theorem dVR_addVersionOfTape_64 : decode cVR_addVersionOfTape 64 = .ok (.invokevirtual 80, 3) := by decide +kernel
theorem dVR_addVersionOfTape_67 : decode cVR_addVersionOfTape 67 = .ok (.aload_n 0, 1) := by decide +kernel
theorem dVR_addVersionOfTape_68 : decode cVR_addVersionOfTape 68 = .ok (.dup, 1) := by decide +kernel
theorem dVR_addVersionOfTape_69 : decode cVR_addVersionOfTape 69 = .ok (.getfield 34, 3) := by decide +kernel
theorem dVR_addVersionOfTape_72 : decode cVR_addVersionOfTape 72 = .ok (.iconst 1, 1) := by decide +kernel
theorem dVR_addVersionOfTape_73 : decode cVR_addVersionOfTape 73 = .ok (.iadd, 1) := by decide +kernel
theorem dVR_addVersionOfTape_74 : decode cVR_addVersionOfTape 74 = .ok (.putfield 34, 3) := by decide +kernel
theorem dVR_addVersionOfTape_77 : decode cVR_addVersionOfTape 77 = .ok (.aload_n 0, 1) := by decide +kernel
theorem dVR_addVersionOfTape_78 : decode cVR_addVersionOfTape 78 = .ok (.getfield 34, 3) := by decide +kernel
theorem dVR_addVersionOfTape_81 : decode cVR_addVersionOfTape 81 = .ok (.iconst 1, 1) := by decide +kernel
theorem dVR_addVersionOfTape_82 : decode cVR_addVersionOfTape 82 = .ok (.isub, 1) := by decide +kernel
theorem dVR_addVersionOfTape_83 : decode cVR_addVersionOfTape 83 = .ok (.ireturn, 1) := by decide +kernel
theorem dVR_bitsInRangeOfTape_0 : decode cVR_bitsInRangeOfTape 0 = .ok (.aload_n 0, 1) := by decide +kernel
theorem dVR_bitsInRangeOfTape_1 : decode cVR_bitsInRangeOfTape 1 = .ok (.getfield 10, 3) := by decide +kernel
theorem dVR_bitsInRangeOfTape_4 : decode cVR_bitsInRangeOfTape 4 = .ok (.invokevirtual 70, 3) := by decide +kernel
theorem dVR_bitsInRangeOfTape_7 : decode cVR_bitsInRangeOfTape 7 = .ok (.istore_n 1, 1) := by decide +kernel
theorem dVR_bitsInRangeOfTape_8 : decode cVR_bitsInRangeOfTape 8 = .ok (.iconst 0, 1) := by decide +kernel
theorem dVR_bitsInRangeOfTape_9 : decode cVR_bitsInRangeOfTape 9 = .ok (.istore_n 2, 1) := by decide +kernel
theorem dVR_bitsInRangeOfTape_10 : decode cVR_bitsInRangeOfTape 10 = .ok (.iconst 1, 1) := by decide +kernel
theorem dVR_bitsInRangeOfTape_11 : decode cVR_bitsInRangeOfTape 11 = .ok (.istore_n 3, 1) := by decide +kernel
theorem dVR_bitsInRangeOfTape_12 : decode cVR_bitsInRangeOfTape 12 = .ok (.iconst 0, 1) := by decide +kernel
theorem dVR_bitsInRangeOfTape_13 : decode cVR_bitsInRangeOfTape 13 = .ok (.istore 4, 2) := by decide +kernel
theorem dVR_bitsInRangeOfTape_15 : decode cVR_bitsInRangeOfTape 15 = .ok (.aload_n 0, 1) := by decide +kernel
theorem dVR_bitsInRangeOfTape_16 : decode cVR_bitsInRangeOfTape 16 = .ok (.invokevirtual 84, 3) := by decide +kernel
theorem dVR_bitsInRangeOfTape_19 : decode cVR_bitsInRangeOfTape 19 = .ok (.istore 5, 2) := by decide +kernel
theorem dVR_bitsInRangeOfTape_21 : decode cVR_bitsInRangeOfTape 21 = .ok (.iconst 0, 1) := by decide +kernel
theorem dVR_bitsInRangeOfTape_22 : decode cVR_bitsInRangeOfTape 22 = .ok (.istore 6, 2) := by decide +kernel
theorem dVR_bitsInRangeOfTape_24 : decode cVR_bitsInRangeOfTape 24 = .ok (.iload 6, 2) := by decide +kernel
theorem dVR_bitsInRangeOfTape_26 : decode cVR_bitsInRangeOfTape 26 = .ok (.iload_n 1, 1) := by decide +kernel
theorem dVR_bitsInRangeOfTape_27 : decode cVR_bitsInRangeOfTape 27 = .ok (.if_icmp .ge 96, 3) := by decide +kernel
theorem dVR_bitsInRangeOfTape_30 : decode cVR_bitsInRangeOfTape 30 = .ok (.aload_n 0, 1) := by decide +kernel
theorem dVR_bitsInRangeOfTape_31 : decode cVR_bitsInRangeOfTape 31 = .ok (.getfield 10, 3) := by decide +kernel
theorem dVR_bitsInRangeOfTape_34 : decode cVR_bitsInRangeOfTape 34 = .ok (.iload 6, 2) := by decide +kernel
theorem dVR_bitsInRangeOfTape_36 : decode cVR_bitsInRangeOfTape 36 = .ok (.invokevirtual 73, 3) := by decide +kernel
theorem dVR_bitsInRangeOfTape_39 : decode cVR_bitsInRangeOfTape 39 = .ok (.aload_n 0, 1) := by decide +kernel
theorem dVR_bitsInRangeOfTape_40 : decode cVR_bitsInRangeOfTape 40 = .ok (.getfield 10, 3) := by decide +kernel
theorem dVR_bitsInRangeOfTape_43 : decode cVR_bitsInRangeOfTape 43 = .ok (.invokevirtual 87, 3) := by decide +kernel
theorem dVR_bitsInRangeOfTape_46 : decode cVR_bitsInRangeOfTape 46 = .ok (.ifCond .eq 36, 3) := by decide +kernel
theorem dVR_bitsInRangeOfTape_49 : decode cVR_bitsInRangeOfTape 49 = .ok (.iload 4, 2) := by decide +kernel
theorem dVR_bitsInRangeOfTape_51 : decode cVR_bitsInRangeOfTape 51 = .ok (.ifCond .eq 8, 3) := by decide +kernel
theorem dVR_bitsInRangeOfTape_54 : decode cVR_bitsInRangeOfTape 54 = .ok (.iload_n 3, 1) := by decide +kernel
theorem dVR_bitsInRangeOfTape_55 : decode cVR_bitsInRangeOfTape 55 = .ok (.iconst 4, 1) := by decide +kernel
theorem dVR_bitsInRangeOfTape_56 : decode cVR_bitsInRangeOfTape 56 = .ok (.if_icmp .ne 6, 3) := by decide +kernel
theorem dVR_bitsInRangeOfTape_59 : decode cVR_bitsInRangeOfTape 59 = .ok (.bipush (-4), 2) := by decide +kernel
theorem dVR_bitsInRangeOfTape_61 : decode cVR_bitsInRangeOfTape 61 = .ok (.ireturn, 1) := by decide +kernel
theorem dVR_bitsInRangeOfTape_62 : decode cVR_bitsInRangeOfTape 62 = .ok (.iload_n 2, 1) := by decide +kernel
theorem dVR_bitsInRangeOfTape_63 : decode cVR_bitsInRangeOfTape 63 = .ok (.iload 5, 2) := by decide +kernel
theorem dVR_bitsInRangeOfTape_65 : decode cVR_bitsInRangeOfTape 65 = .ok (.ior, 1) := by decide +kernel
theorem dVR_bitsInRangeOfTape_66 : decode cVR_bitsInRangeOfTape 66 = .ok (.istore_n 2, 1) := by decide +kernel
theorem dVR_bitsInRangeOfTape_67 : decode cVR_bitsInRangeOfTape 67 = .ok (.iinc 3 1, 3) := by decide +kernel
theorem dVR_bitsInRangeOfTape_70 : decode cVR_bitsInRangeOfTape 70 = .ok (.iconst 0, 1) := by decide +kernel
theorem dVR_bitsInRangeOfTape_71 : decode cVR_bitsInRangeOfTape 71 = .ok (.istore 4, 2) := by decide +kernel
theorem dVR_bitsInRangeOfTape_73 : decode cVR_bitsInRangeOfTape 73 = .ok (.aload_n 0, 1) := by decide +kernel
theorem dVR_bitsInRangeOfTape_74 : decode cVR_bitsInRangeOfTape 74 = .ok (.invokevirtual 84, 3) := by decide +kernel
theorem dVR_bitsInRangeOfTape_77 : decode cVR_bitsInRangeOfTape 77 = .ok (.istore 5, 2) := by decide +kernel
theorem dVR_bitsInRangeOfTape_79 : decode cVR_bitsInRangeOfTape 79 = .ok (.goto 38, 3) := by decide +kernel
theorem dVR_bitsInRangeOfTape_82 : decode cVR_bitsInRangeOfTape 82 = .ok (.iload 4, 2) := by decide +kernel
theorem dVR_bitsInRangeOfTape_84 : decode cVR_bitsInRangeOfTape 84 = .ok (.iconst 4, 1) := by decide +kernel
theorem dVR_bitsInRangeOfTape_85 : decode cVR_bitsInRangeOfTape 85 = .ok (.if_icmp .eq 17, 3) := by decide +kernel
theorem dVR_bitsInRangeOfTape_88 : decode cVR_bitsInRangeOfTape 88 = .ok (.aload_n 0, 1) := by decide +kernel
theorem dVR_bitsInRangeOfTape_89 : decode cVR_bitsInRangeOfTape 89 = .ok (.getfield 30, 3) := by decide +kernel
theorem dVR_bitsInRangeOfTape_92 : decode cVR_bitsInRangeOfTape 92 = .ok (.aload_n 0, 1) := by decide +kernel
theorem dVR_bitsInRangeOfTape_93 : decode cVR_bitsInRangeOfTape 93 = .ok (.getfield 10, 3) := by decide +kernel
theorem dVR_bitsInRangeOfTape_96 : decode cVR_bitsInRangeOfTape 96 = .ok (.invokevirtual 91, 3) := by decide +kernel
theorem dVR_bitsInRangeOfTape_99 : decode cVR_bitsInRangeOfTape 99 = .ok (.ifCond .ne 6, 3) := by decide +kernel
theorem dVR_bitsInRangeOfTape_102 : decode cVR_bitsInRangeOfTape 102 = .ok (.bipush (-4), 2) := by decide +kernel
theorem dVR_bitsInRangeOfTape_104 : decode cVR_bitsInRangeOfTape 104 = .ok (.ireturn, 1) := by decide +kernel
theorem dVR_bitsInRangeOfTape_105 : decode cVR_bitsInRangeOfTape 105 = .ok (.iinc 4 1, 3) := by decide +kernel
theorem dVR_bitsInRangeOfTape_108 : decode cVR_bitsInRangeOfTape 108 = .ok (.iload 5, 2) := by decide +kernel
theorem dVR_bitsInRangeOfTape_110 : decode cVR_bitsInRangeOfTape 110 = .ok (.aload_n 0, 1) := by decide +kernel
theorem dVR_bitsInRangeOfTape_111 : decode cVR_bitsInRangeOfTape 111 = .ok (.invokevirtual 92, 3) := by decide +kernel
theorem dVR_bitsInRangeOfTape_114 : decode cVR_bitsInRangeOfTape 114 = .ok (.iand, 1) := by decide +kernel
theorem dVR_bitsInRangeOfTape_115 : decode cVR_bitsInRangeOfTape 115 = .ok (.istore 5, 2) := by decide +kernel
theorem dVR_bitsInRangeOfTape_117 : decode cVR_bitsInRangeOfTape 117 = .ok (.iinc 6 1, 3) := by decide +kernel
theorem dVR_bitsInRangeOfTape_120 : decode cVR_bitsInRangeOfTape 120 = .ok (.goto (-96), 3) := by decide +kernel
theorem dVR_bitsInRangeOfTape_123 : decode cVR_bitsInRangeOfTape 123 = .ok (.iload 4, 2) := by decide +kernel
theorem dVR_bitsInRangeOfTape_125 : decode cVR_bitsInRangeOfTape 125 = .ok (.ifCond .ne 8, 3) := by decide +kernel
theorem dVR_bitsInRangeOfTape_128 : decode cVR_bitsInRangeOfTape 128 = .ok (.bipush (-4), 2) := by decide +kernel
theorem dVR_bitsInRangeOfTape_130 : decode cVR_bitsInRangeOfTape 130 = .ok (.goto 7, 3) := by decide +kernel
theorem dVR_bitsInRangeOfTape_133 : decode cVR_bitsInRangeOfTape 133 = .ok (.iload_n 2, 1) := by decide +kernel
theorem dVR_bitsInRangeOfTape_134 : decode cVR_bitsInRangeOfTape 134 = .ok (.iload 5, 2) := by decide +kernel
theorem dVR_bitsInRangeOfTape_136 : decode cVR_bitsInRangeOfTape 136 = .ok (.ior, 1) := by decide +kernel
theorem dVR_bitsInRangeOfTape_137 : decode cVR_bitsInRangeOfTape 137 = .ok (.ireturn, 1) := by decide +kernel
theorem dVR_allBits_0 : decode cVR_allBits 0 = .ok (.iconst 1, 1) := by decide +kernel
theorem dVR_allBits_1 : decode cVR_allBits 1 = .ok (.aload_n 0, 1) := by decide +kernel
theorem dVR_allBits_2 : decode cVR_allBits 2 = .ok (.getfield 34, 3) := by decide +kernel
theorem dVR_allBits_5 : decode cVR_allBits 5 = .ok (.ishl, 1) := by decide +kernel
theorem dVR_allBits_6 : decode cVR_allBits 6 = .ok (.iconst 1, 1) := by decide +kernel
theorem dVR_allBits_7 : decode cVR_allBits 7 = .ok (.isub, 1) := by decide +kernel
theorem dVR_allBits_8 : decode cVR_allBits 8 = .ok (.ireturn, 1) := by decide +kernel
theorem dVR_bitsOfTest_0 : decode cVR_bitsOfTest 0 = .ok (.iconst 0, 1) := by decide +kernel
theorem dVR_bitsOfTest_1 : decode cVR_bitsOfTest 1 = .ok (.istore_n 1, 1) := by decide +kernel
theorem dVR_bitsOfTest_2 : decode cVR_bitsOfTest 2 = .ok (.iconst 0, 1) := by decide +kernel
theorem dVR_bitsOfTest_3 : decode cVR_bitsOfTest 3 = .ok (.istore_n 2, 1) := by decide +kernel
theorem dVR_bitsOfTest_4 : decode cVR_bitsOfTest 4 = .ok (.iload_n 2, 1) := by decide +kernel
theorem dVR_bitsOfTest_5 : decode cVR_bitsOfTest 5 = .ok (.aload_n 0, 1) := by decide +kernel
theorem dVR_bitsOfTest_6 : decode cVR_bitsOfTest 6 = .ok (.getfield 34, 3) := by decide +kernel
theorem dVR_bitsOfTest_9 : decode cVR_bitsOfTest 9 = .ok (.if_icmp .ge 31, 3) := by decide +kernel
theorem dVR_bitsOfTest_12 : decode cVR_bitsOfTest 12 = .ok (.aload_n 0, 1) := by decide +kernel
theorem dVR_bitsOfTest_13 : decode cVR_bitsOfTest 13 = .ok (.getfield 30, 3) := by decide +kernel
theorem dVR_bitsOfTest_16 : decode cVR_bitsOfTest 16 = .ok (.aload_n 0, 1) := by decide +kernel
theorem dVR_bitsOfTest_17 : decode cVR_bitsOfTest 17 = .ok (.getfield 18, 3) := by decide +kernel
theorem dVR_bitsOfTest_20 : decode cVR_bitsOfTest 20 = .ok (.iload_n 2, 1) := by decide +kernel
theorem dVR_bitsOfTest_21 : decode cVR_bitsOfTest 21 = .ok (.aaload, 1) := by decide +kernel
theorem dVR_bitsOfTest_22 : decode cVR_bitsOfTest 22 = .ok (.invokevirtual 95, 3) := by decide +kernel
theorem dVR_bitsOfTest_25 : decode cVR_bitsOfTest 25 = .ok (.ifCond .eq 9, 3) := by decide +kernel
theorem dVR_bitsOfTest_28 : decode cVR_bitsOfTest 28 = .ok (.iload_n 1, 1) := by decide +kernel
theorem dVR_bitsOfTest_29 : decode cVR_bitsOfTest 29 = .ok (.iconst 1, 1) := by decide +kernel
theorem dVR_bitsOfTest_30 : decode cVR_bitsOfTest 30 = .ok (.iload_n 2, 1) := by decide +kernel
theorem dVR_bitsOfTest_31 : decode cVR_bitsOfTest 31 = .ok (.ishl, 1) := by decide +kernel
theorem dVR_bitsOfTest_32 : decode cVR_bitsOfTest 32 = .ok (.ior, 1) := by decide +kernel
theorem dVR_bitsOfTest_33 : decode cVR_bitsOfTest 33 = .ok (.istore_n 1, 1) := by decide +kernel
theorem dVR_bitsOfTest_34 : decode cVR_bitsOfTest 34 = .ok (.iinc 2 1, 3) := by decide +kernel
theorem dVR_bitsOfTest_37 : decode cVR_bitsOfTest 37 = .ok (.goto (-33), 3) := by decide +kernel
theorem dVR_bitsOfTest_40 : decode cVR_bitsOfTest 40 = .ok (.iload_n 1, 1) := by decide +kernel
theorem dVR_bitsOfTest_41 : decode cVR_bitsOfTest 41 = .ok (.ireturn, 1) := by decide +kernel
theorem dRT_init_0 : decode cRT_init 0 = .ok (.aload_n 0, 1) := by decide +kernel
theorem dRT_init_1 : decode cRT_init 1 = .ok (.invokespecial 1, 3) := by decide +kernel
theorem dRT_init_4 : decode cRT_init 4 = .ok (.aload_n 0, 1) := by decide +kernel
theorem dRT_init_5 : decode cRT_init 5 = .ok (.new 7, 3) := by decide +kernel
theorem dRT_init_8 : decode cRT_init 8 = .ok (.dup, 1) := by decide +kernel
theorem dRT_init_9 : decode cRT_init 9 = .ok (.invokespecial 9, 3) := by decide +kernel
theorem dRT_init_12 : decode cRT_init 12 = .ok (.putfield 10, 3) := by decide +kernel
theorem dRT_init_15 : decode cRT_init 15 = .ok (.aload_n 0, 1) := by decide +kernel
theorem dRT_init_16 : decode cRT_init 16 = .ok (.new 7, 3) := by decide +kernel
theorem dRT_init_19 : decode cRT_init 19 = .ok (.dup, 1) := by decide +kernel
theorem dRT_init_20 : decode cRT_init 20 = .ok (.invokespecial 9, 3) := by decide +kernel
theorem dRT_init_23 : decode cRT_init 23 = .ok (.putfield 16, 3) := by decide +kernel
theorem dRT_init_26 : decode cRT_init 26 = .ok (.aload_n 0, 1) := by decide +kernel
theorem dRT_init_27 : decode cRT_init 27 = .ok (.getstatic 19, 3) := by decide +kernel
theorem dRT_init_30 : decode cRT_init 30 = .ok (.putfield 25, 3) := by decide +kernel
theorem dRT_init_33 : decode cRT_init 33 = .ok (.return_, 1) := by decide +kernel
theorem dRT_readFrom_0 : decode cRT_readFrom 0 = .ok (.aload_n 0, 1) := by decide +kernel
theorem dRT_readFrom_1 : decode cRT_readFrom 1 = .ok (.aload_n 1, 1) := by decide +kernel
theorem dRT_readFrom_2 : decode cRT_readFrom 2 = .ok (.invokestatic 28, 3) := by decide +kernel
theorem dRT_readFrom_5 : decode cRT_readFrom 5 = .ok (.putfield 25, 3) := by decide +kernel
theorem dRT_readFrom_8 : decode cRT_readFrom 8 = .ok (.aload_n 0, 1) := by decide +kernel
theorem dRT_readFrom_9 : decode cRT_readFrom 9 = .ok (.getfield 25, 3) := by decide +kernel
theorem dRT_readFrom_12 : decode cRT_readFrom 12 = .ok (.getstatic 19, 3) := by decide +kernel
theorem dRT_readFrom_15 : decode cRT_readFrom 15 = .ok (.if_acmp .ne 8, 3) := by decide +kernel
theorem dRT_readFrom_18 : decode cRT_readFrom 18 = .ok (.aload_n 1, 1) := by decide +kernel
theorem dRT_readFrom_19 : decode cRT_readFrom 19 = .ok (.invokevirtual 32, 3) := by decide +kernel
theorem dRT_readFrom_22 : decode cRT_readFrom 22 = .ok (.ireturn, 1) := by decide +kernel
theorem dRT_readFrom_23 : decode cRT_readFrom 23 = .ok (.aload_n 0, 1) := by decide +kernel
theorem dRT_readFrom_24 : decode cRT_readFrom 24 = .ok (.getfield 10, 3) := by decide +kernel
theorem dRT_readFrom_27 : decode cRT_readFrom 27 = .ok (.aload_n 1, 1) := by decide +kernel
theorem dRT_readFrom_28 : decode cRT_readFrom 28 = .ok (.invokevirtual 38, 3) := by decide +kernel
theorem dRT_readFrom_31 : decode cRT_readFrom 31 = .ok (.ifCond .ne 5, 3) := by decide +kernel
theorem dRT_readFrom_34 : decode cRT_readFrom 34 = .ok (.iconst 0, 1) := by decide +kernel
theorem dRT_readFrom_35 : decode cRT_readFrom 35 = .ok (.ireturn, 1) := by decide +kernel
theorem dRT_readFrom_36 : decode cRT_readFrom 36 = .ok (.aload_n 0, 1) := by decide +kernel
theorem dRT_readFrom_37 : decode cRT_readFrom 37 = .ok (.invokevirtual 42, 3) := by decide +kernel
theorem dRT_readFrom_40 : decode cRT_readFrom 40 = .ok (.iconst 1, 1) := by decide +kernel
theorem dRT_readFrom_41 : decode cRT_readFrom 41 = .ok (.ireturn, 1) := by decide +kernel
theorem dRT_readSign_0 : decode cRT_readSign 0 = .ok (.aload_n 0, 1) := by decide +kernel
theorem dRT_readSign_1 : decode cRT_readSign 1 = .ok (.bipush 42, 2) := by decide +kernel
theorem dRT_readSign_3 : decode cRT_readSign 3 = .ok (.invokevirtual 45, 3) := by decide +kernel
theorem dRT_readSign_6 : decode cRT_readSign 6 = .ok (.ifCond .eq 7, 3) := by decide +kernel
theorem dRT_readSign_9 : decode cRT_readSign 9 = .ok (.getstatic 19, 3) := by decide +kernel
theorem dRT_readSign_12 : decode cRT_readSign 12 = .ok (.areturn, 1) := by decide +kernel
theorem dRT_readSign_13 : decode cRT_readSign 13 = .ok (.aload_n 0, 1) := by decide +kernel
theorem dRT_readSign_14 : decode cRT_readSign 14 = .ok (.bipush 60, 2) := by decide +kernel
theorem dRT_readSign_16 : decode cRT_readSign 16 = .ok (.invokevirtual 45, 3) := by decide +kernel
theorem dRT_readSign_19 : decode cRT_readSign 19 = .ok (.ifCond .eq 22, 3) := by decide +kernel
theorem dRT_readSign_22 : decode cRT_readSign 22 = .ok (.aload_n 0, 1) := by decide +kernel
theorem dRT_readSign_23 : decode cRT_readSign 23 = .ok (.bipush 61, 2) := by decide +kernel
theorem dRT_readSign_25 : decode cRT_readSign 25 = .ok (.invokevirtual 45, 3) := by decide +kernel
theorem dRT_readSign_28 : decode cRT_readSign 28 = .ok (.ifCond .eq 9, 3) := by decide +kernel
theorem dRT_readSign_31 : decode cRT_readSign 31 = .ok (.getstatic 49, 3) := by decide +kernel
theorem dRT_readSign_34 : decode cRT_readSign 34 = .ok (.goto 6, 3) := by decide +kernel
theorem dRT_readSign_37 : decode cRT_readSign 37 = .ok (.getstatic 52, 3) := by decide +kernel
theorem dRT_readSign_40 : decode cRT_readSign 40 = .ok (.areturn, 1) := by decide +kernel
theorem dRT_readSign_41 : decode cRT_readSign 41 = .ok (.aload_n 0, 1) := by decide +kernel
theorem dRT_readSign_42 : decode cRT_readSign 42 = .ok (.bipush 62, 2) := by decide +kernel
theorem dRT_readSign_44 : decode cRT_readSign 44 = .ok (.invokevirtual 45, 3) := by decide +kernel
theorem dRT_readSign_47 : decode cRT_readSign 47 = .ok (.ifCond .eq 22, 3) := by decide +kernel
theorem dRT_readSign_50 : decode cRT_readSign 50 = .ok (.aload_n 0, 1) := by decide +kernel
theorem dRT_readSign_51 : decode cRT_readSign 51 = .ok (.bipush 61, 2) := by decide +kernel
theorem dRT_readSign_53 : decode cRT_readSign 53 = .ok (.invokevirtual 45, 3) := by decide +kernel
theorem dRT_readSign_56 : decode cRT_readSign 56 = .ok (.ifCond .eq 9, 3) := by decide +kernel
theorem dRT_readSign_59 : decode cRT_readSign 59 = .ok (.getstatic 55, 3) := by decide +kernel
theorem dRT_readSign_62 : decode cRT_readSign 62 = .ok (.goto 6, 3) := by decide +kernel
theorem dRT_readSign_65 : decode cRT_readSign 65 = .ok (.getstatic 58, 3) := by decide +kernel
theorem dRT_readSign_68 : decode cRT_readSign 68 = .ok (.areturn, 1) := by decide +kernel
theorem dRT_readSign_69 : decode cRT_readSign 69 = .ok (.aload_n 0, 1) := by decide +kernel
theorem dRT_readSign_70 : decode cRT_readSign 70 = .ok (.bipush 94, 2) := by decide +kernel
theorem dRT_readSign_72 : decode cRT_readSign 72 = .ok (.invokevirtual 45, 3) := by decide +kernel
theorem dRT_readSign_75 : decode cRT_readSign 75 = .ok (.ifCond .eq 7, 3) := by decide +kernel
theorem dRT_readSign_78 : decode cRT_readSign 78 = .ok (.getstatic 61, 3) := by decide +kernel
theorem dRT_readSign_81 : decode cRT_readSign 81 = .ok (.areturn, 1) := by decide +kernel
theorem dRT_readSign_82 : decode cRT_readSign 82 = .ok (.aload_n 0, 1) := by decide +kernel
theorem dRT_readSign_83 : decode cRT_readSign 83 = .ok (.bipush 126, 2) := by decide +kernel
theorem dRT_readSign_85 : decode cRT_readSign 85 = .ok (.invokevirtual 45, 3) := by decide +kernel
theorem dRT_readSign_88 : decode cRT_readSign 88 = .ok (.ifCond .eq 7, 3) := by decide +kernel
theorem dRT_readSign_91 : decode cRT_readSign 91 = .ok (.getstatic 64, 3) := by decide +kernel
theorem dRT_readSign_94 : decode cRT_readSign 94 = .ok (.areturn, 1) := by decide +kernel
theorem dRT_readSign_95 : decode cRT_readSign 95 = .ok (.aload_n 0, 1) := by decide +kernel
theorem dRT_readSign_96 : decode cRT_readSign 96 = .ok (.bipush 61, 2) := by decide +kernel
theorem dRT_readSign_98 : decode cRT_readSign 98 = .ok (.invokevirtual 45, 3) := by decide +kernel
theorem dRT_readSign_101 : decode cRT_readSign 101 = .ok (.pop, 1) := by decide +kernel
theorem dRT_readSign_102 : decode cRT_readSign 102 = .ok (.getstatic 67, 3) := by decide +kernel
theorem dRT_readSign_105 : decode cRT_readSign 105 = .ok (.areturn, 1) := by decide +kernel
theorem dRT_setCeiling_0 : decode cRT_setCeiling 0 = .ok (.aload_n 0, 1) := by decide +kernel
theorem dRT_setCeiling_1 : decode cRT_setCeiling 1 = .ok (.getfield 10, 3) := by decide +kernel
theorem dRT_setCeiling_4 : decode cRT_setCeiling 4 = .ok (.iconst 0, 1) := by decide +kernel
theorem dRT_setCeiling_5 : decode cRT_setCeiling 5 = .ok (.invokevirtual 70, 3) := by decide +kernel
theorem dRT_setCeiling_8 : decode cRT_setCeiling 8 = .ok (.i2l, 1) := by decide +kernel
theorem dRT_setCeiling_9 : decode cRT_setCeiling 9 = .ok (.lstore_n 1, 1) := by decide +kernel
theorem dRT_setCeiling_10 : decode cRT_setCeiling 10 = .ok (.aload_n 0, 1) := by decide +kernel
theorem dRT_setCeiling_11 : decode cRT_setCeiling 11 = .ok (.getfield 10, 3) := by decide +kernel
theorem dRT_setCeiling_14 : decode cRT_setCeiling 14 = .ok (.iconst 1, 1) := by decide +kernel
theorem dRT_setCeiling_15 : decode cRT_setCeiling 15 = .ok (.invokevirtual 70, 3) := by decide +kernel
theorem dRT_setCeiling_18 : decode cRT_setCeiling 18 = .ok (.i2l, 1) := by decide +kernel
theorem dRT_setCeiling_19 : decode cRT_setCeiling 19 = .ok (.lstore_n 3, 1) := by decide +kernel
theorem dRT_setCeiling_20 : decode cRT_setCeiling 20 = .ok (.aload_n 0, 1) := by decide +kernel
theorem dRT_setCeiling_21 : decode cRT_setCeiling 21 = .ok (.getfield 10, 3) := by decide +kernel
theorem dRT_setCeiling_24 : decode cRT_setCeiling 24 = .ok (.iconst 2, 1) := by decide +kernel
theorem dRT_setCeiling_25 : decode cRT_setCeiling 25 = .ok (.invokevirtual 70, 3) := by decide +kernel
theorem dRT_setCeiling_28 : decode cRT_setCeiling 28 = .ok (.i2l, 1) := by decide +kernel
theorem dRT_setCeiling_29 : decode cRT_setCeiling 29 = .ok (.lstore 5, 2) := by decide +kernel
theorem dRT_setCeiling_31 : decode cRT_setCeiling 31 = .ok (.aload_n 0, 1) := by decide +kernel
theorem dRT_setCeiling_32 : decode cRT_setCeiling 32 = .ok (.getfield 25, 3) := by decide +kernel
theorem dRT_setCeiling_35 : decode cRT_setCeiling 35 = .ok (.getstatic 64, 3) := by decide +kernel
theorem dRT_setCeiling_38 : decode cRT_setCeiling 38 = .ok (.if_acmp .ne 18, 3) := by decide +kernel
theorem dRT_setCeiling_41 : decode cRT_setCeiling 41 = .ok (.aload_n 0, 1) := by decide +kernel
theorem dRT_setCeiling_42 : decode cRT_setCeiling 42 = .ok (.getfield 16, 3) := by decide +kernel
theorem dRT_setCeiling_45 : decode cRT_setCeiling 45 = .ok (.lload_n 1, 1) := by decide +kernel
theorem dRT_setCeiling_46 : decode cRT_setCeiling 46 = .ok (.lload_n 3, 1) := by decide +kernel
theorem dRT_setCeiling_47 : decode cRT_setCeiling 47 = .ok (.lconst 1, 1) := by decide +kernel
theorem dRT_setCeiling_48 : decode cRT_setCeiling 48 = .ok (.ladd, 1) := by decide +kernel
theorem dRT_setCeiling_49 : decode cRT_setCeiling 49 = .ok (.lconst 0, 1) := by decide +kernel
theorem dRT_setCeiling_50 : decode cRT_setCeiling 50 = .ok (.invokevirtual 74, 3) := by decide +kernel
theorem dRT_setCeiling_53 : decode cRT_setCeiling 53 = .ok (.goto 58, 3) := by decide +kernel
theorem dRT_setCeiling_56 : decode cRT_setCeiling 56 = .ok (.lload_n 1, 1) := by decide +kernel
theorem dRT_setCeiling_57 : decode cRT_setCeiling 57 = .ok (.lconst 0, 1) := by decide +kernel
theorem dRT_setCeiling_58 : decode cRT_setCeiling 58 = .ok (.lcmp, 1) := by decide +kernel
theorem dRT_setCeiling_59 : decode cRT_setCeiling 59 = .ok (.ifCond .le 18, 3) := by decide +kernel
theorem dRT_setCeiling_62 : decode cRT_setCeiling 62 = .ok (.aload_n 0, 1) := by decide +kernel
theorem dRT_setCeiling_63 : decode cRT_setCeiling 63 = .ok (.getfield 16, 3) := by decide +kernel
theorem dRT_setCeiling_66 : decode cRT_setCeiling 66 = .ok (.lload_n 1, 1) := by decide +kernel
theorem dRT_setCeiling_67 : decode cRT_setCeiling 67 = .ok (.lconst 1, 1) := by decide +kernel
theorem dRT_setCeiling_68 : decode cRT_setCeiling 68 = .ok (.ladd, 1) := by decide +kernel
theorem dRT_setCeiling_69 : decode cRT_setCeiling 69 = .ok (.lconst 0, 1) := by decide +kernel
theorem dRT_setCeiling_70 : decode cRT_setCeiling 70 = .ok (.lconst 0, 1) := by decide +kernel
theorem dRT_setCeiling_71 : decode cRT_setCeiling 71 = .ok (.invokevirtual 74, 3) := by decide +kernel
theorem dRT_setCeiling_74 : decode cRT_setCeiling 74 = .ok (.goto 37, 3) := by decide +kernel
theorem dRT_setCeiling_77 : decode cRT_setCeiling 77 = .ok (.lload_n 3, 1) := by decide +kernel
theorem dRT_setCeiling_78 : decode cRT_setCeiling 78 = .ok (.lconst 0, 1) := by decide +kernel
theorem dRT_setCeiling_79 : decode cRT_setCeiling 79 = .ok (.lcmp, 1) := by decide +kernel
theorem dRT_setCeiling_80 : decode cRT_setCeiling 80 = .ok (.ifCond .le 18, 3) := by decide +kernel
theorem dRT_setCeiling_83 : decode cRT_setCeiling 83 = .ok (.aload_n 0, 1) := by decide +kernel
theorem dRT_setCeiling_84 : decode cRT_setCeiling 84 = .ok (.getfield 16, 3) := by decide +kernel
theorem dRT_setCeiling_87 : decode cRT_setCeiling 87 = .ok (.lconst 0, 1) := by decide +kernel
theorem dRT_setCeiling_88 : decode cRT_setCeiling 88 = .ok (.lload_n 3, 1) := by decide +kernel
theorem dRT_setCeiling_89 : decode cRT_setCeiling 89 = .ok (.lconst 1, 1) := by decide +kernel
theorem dRT_setCeiling_90 : decode cRT_setCeiling 90 = .ok (.ladd, 1) := by decide +kernel
theorem dRT_setCeiling_91 : decode cRT_setCeiling 91 = .ok (.lconst 0, 1) := by decide +kernel
theorem dRT_setCeiling_92 : decode cRT_setCeiling 92 = .ok (.invokevirtual 74, 3) := by decide +kernel
theorem dRT_setCeiling_95 : decode cRT_setCeiling 95 = .ok (.goto 16, 3) := by decide +kernel
theorem dRT_setCeiling_98 : decode cRT_setCeiling 98 = .ok (.aload_n 0, 1) := by decide +kernel
theorem dRT_setCeiling_99 : decode cRT_setCeiling 99 = .ok (.getfield 16, 3) := by decide +kernel
theorem dRT_setCeiling_102 : decode cRT_setCeiling 102 = .ok (.lconst 0, 1) := by decide +kernel
theorem dRT_setCeiling_103 : decode cRT_setCeiling 103 = .ok (.lconst 0, 1) := by decide +kernel
theorem dRT_setCeiling_104 : decode cRT_setCeiling 104 = .ok (.lload 5, 2) := by decide +kernel
theorem dRT_setCeiling_106 : decode cRT_setCeiling 106 = .ok (.lconst 1, 1) := by decide +kernel
theorem dRT_setCeiling_107 : decode cRT_setCeiling 107 = .ok (.ladd, 1) := by decide +kernel
theorem dRT_setCeiling_108 : decode cRT_setCeiling 108 = .ok (.invokevirtual 74, 3) := by decide +kernel
theorem dRT_setCeiling_111 : decode cRT_setCeiling 111 = .ok (.return_, 1) := by decide +kernel
theorem dRT_holdsFor_0 : decode cRT_holdsFor 0 = .ok (.aload_n 0, 1) := by decide +kernel
theorem dRT_holdsFor_1 : decode cRT_holdsFor 1 = .ok (.getfield 25, 3) := by decide +kernel
theorem dRT_holdsFor_4 : decode cRT_holdsFor 4 = .ok (.aload_n 1, 1) := by decide +kernel
theorem dRT_holdsFor_5 : decode cRT_holdsFor 5 = .ok (.aload_n 0, 1) := by decide +kernel
theorem dRT_holdsFor_6 : decode cRT_holdsFor 6 = .ok (.getfield 10, 3) := by decide +kernel
theorem dRT_holdsFor_9 : decode cRT_holdsFor 9 = .ok (.invokevirtual 78, 3) := by decide +kernel
theorem dRT_holdsFor_12 : decode cRT_holdsFor 12 = .ok (.invokevirtual 82, 3) := by decide +kernel
theorem dRT_holdsFor_15 : decode cRT_holdsFor 15 = .ok (.ifCond .ne 5, 3) := by decide +kernel
theorem dRT_holdsFor_18 : decode cRT_holdsFor 18 = .ok (.iconst 0, 1) := by decide +kernel
theorem dRT_holdsFor_19 : decode cRT_holdsFor 19 = .ok (.ireturn, 1) := by decide +kernel
theorem dRT_holdsFor_20 : decode cRT_holdsFor 20 = .ok (.aload_n 0, 1) := by decide +kernel
theorem dRT_holdsFor_21 : decode cRT_holdsFor 21 = .ok (.getfield 25, 3) := by decide +kernel
theorem dRT_holdsFor_24 : decode cRT_holdsFor 24 = .ok (.getstatic 61, 3) := by decide +kernel
theorem dRT_holdsFor_27 : decode cRT_holdsFor 27 = .ok (.if_acmp .eq 13, 3) := by decide +kernel
theorem dRT_holdsFor_30 : decode cRT_holdsFor 30 = .ok (.aload_n 0, 1) := by decide +kernel
theorem dRT_holdsFor_31 : decode cRT_holdsFor 31 = .ok (.getfield 25, 3) := by decide +kernel
theorem dRT_holdsFor_34 : decode cRT_holdsFor 34 = .ok (.getstatic 64, 3) := by decide +kernel
theorem dRT_holdsFor_37 : decode cRT_holdsFor 37 = .ok (.if_acmp .ne 7, 3) := by decide +kernel
theorem dRT_holdsFor_40 : decode cRT_holdsFor 40 = .ok (.iconst 1, 1) := by decide +kernel
theorem dRT_holdsFor_41 : decode cRT_holdsFor 41 = .ok (.goto 4, 3) := by decide +kernel
theorem dRT_holdsFor_44 : decode cRT_holdsFor 44 = .ok (.iconst 0, 1) := by decide +kernel
theorem dRT_holdsFor_45 : decode cRT_holdsFor 45 = .ok (.istore_n 2, 1) := by decide +kernel
theorem dRT_holdsFor_46 : decode cRT_holdsFor 46 = .ok (.iload_n 2, 1) := by decide +kernel
theorem dRT_holdsFor_47 : decode cRT_holdsFor 47 = .ok (.ifCond .eq 14, 3) := by decide +kernel
theorem dRT_holdsFor_50 : decode cRT_holdsFor 50 = .ok (.aload_n 1, 1) := by decide +kernel
theorem dRT_holdsFor_51 : decode cRT_holdsFor 51 = .ok (.aload_n 0, 1) := by decide +kernel
theorem dRT_holdsFor_52 : decode cRT_holdsFor 52 = .ok (.getfield 16, 3) := by decide +kernel
theorem dRT_holdsFor_55 : decode cRT_holdsFor 55 = .ok (.invokevirtual 78, 3) := by decide +kernel
theorem dRT_holdsFor_58 : decode cRT_holdsFor 58 = .ok (.ifCond .ge 7, 3) := by decide +kernel
theorem dRT_holdsFor_61 : decode cRT_holdsFor 61 = .ok (.iconst 1, 1) := by decide +kernel
theorem dRT_holdsFor_62 : decode cRT_holdsFor 62 = .ok (.goto 4, 3) := by decide +kernel
theorem dRT_holdsFor_65 : decode cRT_holdsFor 65 = .ok (.iconst 0, 1) := by decide +kernel
theorem dRT_holdsFor_66 : decode cRT_holdsFor 66 = .ok (.ireturn, 1) := by decide +kernel
