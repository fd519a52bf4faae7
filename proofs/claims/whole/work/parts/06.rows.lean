-- the picture of the machine at a method's place: environment, memory, frame
def kR (g : kG) (μ : km_M) (H : Heap) : Prop := ∃ ws : va_W, va_P g.2.1 kcl ws H ∧ va_D (fun q => g.1 ≤ q) ws ∧ km_rep ws μ
def kS (g : kG) (μ : km_M) (s : State) (H : Heap) (locs : List Loc) : Prop := g.1 ≤ s.heap.size ∧ kE g s ∧ kR g μ H ∧ va_S (fun q => g.1 ≤ q) s.heap H locs
def kPre (g : kG) (μ : km_M) (av : List Value) : Array Value → State → Prop := va_Pc av (fun U => g.1 ≤ U.heap.size ∧ kE g U ∧ kR g μ U.heap)
abbrev kQi (g : kG) (post : Int32 → km_M → Prop) : Array Value → State → Outcome → State → Prop := va_Qi post (fun μ' t => kR g μ' t.heap) (fun q => g.1 ≤ q)
abbrev kQl (g : kG) (post : Int64 → km_M → Prop) : Array Value → State → Outcome → State → Prop := va_Ql post (fun μ' t => kR g μ' t.heap) (fun q => g.1 ≤ q)
abbrev kQv (g : kG) (post : km_M → Prop) : Array Value → State → Outcome → State → Prop := va_Qv post (fun μ' t => kR g μ' t.heap) (fun q => g.1 ≤ q)
abbrev kQr (g : kG) (post : Nat → km_M → Prop) : Array Value → State → Outcome → State → Prop := va_Qr (S := km_M) (fun _ => True) (fun μ' a t => post a μ' ∧ kR g μ' t.heap) (fun q => g.1 ≤ q)
abbrev kQq (g : kG) (post : Option Nat → km_M → Prop) : Array Value → State → Outcome → State → Prop := va_Qq post (fun μ' t => kR g μ' t.heap) (fun q => g.1 ≤ q)
abbrev kF (g : kG) : Nat → Prop := fun q => g.1 ≤ q
theorem kS_eq {g : kG} {μ μ1 : km_M} {s : State} {H : Heap} {locs : List Loc} (h : μ = μ1) (hM : kS g μ s H locs) : kS g μ1 s H locs := by subst h; exact hM
theorem kPre_blind {g : kG} {μ : km_M} {av : List Value} : FrameBlind (kPre g μ av) := fun a U gg mk q => ⟨q.1, q.2.1, kE.same (u := U) (U := U.calling gg mk a) rfl rfl q.2.2.1, q.2.2.2⟩
theorem k_preS {g : kG} {μ : km_M} {s : State} {H : Heap} {locs : List Loc} {av : List Value} (hM : kS g μ s H locs) : PreS s H (kPre g μ av) av :=
  ⟨kPre_blind, fun U hU hW => ⟨rfl, by rw [hU]; exact Nat.le_trans hM.1 hM.2.2.2.1, kE.warm hW (by rw [hU]; exact hM.2.2.2.2.1) hM.2.1, by rw [hU]; exact hM.2.2.1⟩⟩
theorem k_recv {g : kG} {μ : km_M} {s : State} {H : Heap} {locs : List Loc} {b ci : Nat} {fs : List Value} {q : vw_C} (hM : kS g μ s H locs) (he : μ b = some (.inr (ci, fs))) (hc : kcl[ci]? = some q) : ∃ cell : Cell, H[b]? = some cell ∧ cell.vm.isStatics = false ∧ s.vm.findClass q.1 = some cell.cls := by
  obtain ⟨ws, hP, hD, hr⟩ := hM.2.2.1
  obtain ⟨q0, hq⟩ := (hr _ _).mp he
  exact va_recv hM.2.1.1 hP hc hq
theorem k_preV {g : kG} {μ : km_M} {s : State} {H : Heap} {locs : List Loc} {b ci : Nat} {fs : List Value} {q : vw_C} {As : List Value} (hM : kS g μ s H locs) (he : μ b = some (.inr (ci, fs))) (hc : kcl[ci]? = some q) : PreV s H q.1 b (kPre g μ (.ref b :: As)) As :=
  ⟨kPre_blind, k_recv hM he hc, (k_preS hM).2⟩
theorem k_lt {g : kG} {μ : km_M} {s : State} {H : Heap} {locs : List Loc} {b : Nat} {e : va_E} (hM : kS g μ s H locs) (he : μ b = some e) : b < H.size := by
  obtain ⟨ws, hP, hD, hr⟩ := hM.2.2.1
  obtain ⟨q0, hq⟩ := (hr _ _).mp he
  exact (hP q0 _ hq).lt
theorem k_good {X : List Cond} (h : ∀ w ∈ X, w ∈ Wd) : GoodIn Wd X := fun w hw => ⟨h w hw, Wd_good w (h w hw)⟩
/-- a contract: from the body's walk -/
theorem k_met {l : Launch} {g : kG} {μ : km_M} {av : List Value} {y : MethodName} {rm : Room} {Qc : Array Value → State → Outcome → State → Prop} {mc ms : Nat} {free : Addr → Prop} {cc : ByteArray} {maxL : Nat} {ret : Option FieldType}
    (hy : plainName y.cls = true) (hl : (lg_sl av).length ≤ maxL)
    (body : ∀ (p : Program) (e : Env) (s : State) (m : MethodId) (below : List Frame) (meth : Method) (c : Code), p.tables.exec = Jvm.exec → c.code = cc → meth.sig.returnType = ret → meth.locks = false → c.maxLocals = maxL → s.vm.findClass y.cls = some m.cls → meth.name = y.name →
      (∀ w ∈ Wd, w.before av.toArray s = true) → ∀ ls : Array Slot, lv_has ls maxL (lv_args 0 av) → ∀ (H : Heap) (locs : List Loc), kS g μ s H locs →
      W p l e rm s m av.toArray below meth c H locs 0 0 (MQ below Qc av.toArray s mc ms free) (F0 m 0 ls [])) : Met l y (Cond.code y cc maxL ret :: Wd) rm (kPre g μ av) Qc mc ms free := by
  refine Met.ofW (cc := cc) (maxL := maxL) (ret := ret) hy rfl ?_
  intro p e s m args below meth c s₁ B hml hv
  obtain ⟨rfl, hb0, hE, hR⟩ := hv
  have hts := atoms_spec (ws := Cond.code y cc maxL ret :: Wd) B.pre
  rw [lg_entry_eq]
  exact body p e s m below meth c B.exec B.bytes B.returns B.notSynchronized hml (findClass_of_methodNamed B.named) (name_of_methodNamed B.named B.method).1 (fun w hw => hts w (List.mem_cons_of_mem _ hw)) _ (lv_entry av hl) _ _ ⟨hb0, hE, hR, va_S.rf⟩
section KW
variable {p : Program} {l : Launch} {e : Env} {R : Room} {s : State} {m : MethodId} {args : Array Value} {below : List Frame} {meth : Method} {c : Code} {H : Heap} {locs : List Loc} {cells slots : Nat} {Q : State → Prop}
variable {cc : ByteArray} {pc : Nat} {ls : Array Slot} {rest : List Value} {g : kG} {μ : km_M} {a : Nat}
-- reads
theorem k_get (hx : p.tables.exec = Jvm.exec) (hb : c.code = cc) {own ref C : String} {T : u_T} {N ci index : Nat} (hW : ∀ w ∈ Wd, w.before args s = true) (hin : ∀ w ∈ u_ws C T N, w ∈ Wd) (hown : s.vm.findClass own = some m.cls) (hM : kS g μ s H locs) {fs : List Value} (he : μ a = some (.inr (ci, fs))) (hc : kcl[ci]? = some (C, T, N)) (k : Nat) (hk : k < N) (hlink : (Cond.fieldLink own index ref (T k).2.1 (T k).2.2.1).before args s = true) (hsame : ∀ x, s.fieldFound? (T k).1 (T k).2.1 (T k).2.2.1 = some x → s.fieldFound? ref (T k).2.1 (T k).2.2.1 = some x) {v : Value} (hv : fs[k]? = some v) (hdg : decode cc pc = .ok (.getfield index, 3))
    (kk : W p l e R s m args below meth c H locs cells slots Q (F0 m (pc + 3) ls (v :: rest))) : W p l e R s m args below meth c H locs cells slots Q (F0 m pc ls (.ref a :: rest)) := by
  obtain ⟨ws, hP, hD, hr⟩ := hM.2.2.1
  obtain ⟨q0, hq⟩ := (hr _ _).mp he
  exact va_get hx hb hW hin hown hM.2.1.1 hP q0 hq hc k hk hlink hsame hv hdg kk
theorem k_getN (hx : p.tables.exec = Jvm.exec) (hb : c.code = cc) {own ref C host : String} {T : u_T} {N ci index : Nat} (hW : ∀ w ∈ Wd, w.before args s = true) (hin : ∀ w ∈ u_ws C T N, w ∈ Wd) (hown : s.vm.findClass own = some m.cls) (hM : kS g μ s H locs) {fs : List Value} (he : μ a = some (.inr (ci, fs))) (hc : kcl[ci]? = some (C, T, N)) (k : Nat) (hk : k < N) (hlink : (Cond.fieldLinkNest own index ref (T k).2.1 (T k).2.2.1 host).before args s = true) (hsame : ∀ x, s.fieldFound? (T k).1 (T k).2.1 (T k).2.2.1 = some x → s.fieldFound? ref (T k).2.1 (T k).2.2.1 = some x) {v : Value} (hv : fs[k]? = some v) (hdg : decode cc pc = .ok (.getfield index, 3))
    (kk : W p l e R s m args below meth c H locs cells slots Q (F0 m (pc + 3) ls (v :: rest))) : W p l e R s m args below meth c H locs cells slots Q (F0 m pc ls (.ref a :: rest)) := by
  obtain ⟨ws, hP, hD, hr⟩ := hM.2.2.1
  obtain ⟨q0, hq⟩ := (hr _ _).mp he
  exact va_getN hx hb hW hin hown hM.2.1.1 hP q0 hq hc k hk hlink hsame hv hdg kk
theorem k_iald (hx : p.tables.exec = Jvm.exec) (hb : c.code = cc) (hM : kS g μ s H locs) (t0 : Nat) {cA : ClassId} {n : Nat} {f : Nat → Int32} (ha : μ a = some (.inl (cA, n, .inl f))) (ht : (ktys g)[t0]? = some (cA, .int)) {i : Nat} (hi : i < n) (hn : n < 2 ^ 31) (hdg : decode cc pc = .ok (.iaload, 1))
    (kk : W p l e R s m args below meth c H locs cells slots Q (F0 m (pc + 1) ls (.int (f i) :: rest))) : W p l e R s m args below meth c H locs cells slots Q (F0 m pc ls (.int (nI i) :: .ref a :: rest)) := by
  obtain ⟨ws, hP, hD, hr⟩ := hM.2.2.1
  obtain ⟨q0, hq⟩ := (hr _ _).mp ha
  refine va_iald hx hb hM.2.1.1 hP q0 t0 hq ht (vp_in_nI hi hn) hdg ?_
  rw [nI_clamp (by omega)]
  exact kk
theorem k_bald (hx : p.tables.exec = Jvm.exec) (hb : c.code = cc) (hM : kS g μ s H locs) (t0 : Nat) {cA : ClassId} {n : Nat} {f : Nat → Int32} (ha : μ a = some (.inl (cA, n, .inl f))) (ht : (ktys g)[t0]? = some (cA, .byte)) {i : Nat} (hi : i < n) (hn : n < 2 ^ 31) (hdg : decode cc pc = .ok (.baload, 1))
    (kk : W p l e R s m args below meth c H locs cells slots Q (F0 m (pc + 1) ls (.int (f i) :: rest))) : W p l e R s m args below meth c H locs cells slots Q (F0 m pc ls (.int (nI i) :: .ref a :: rest)) := by
  obtain ⟨ws, hP, hD, hr⟩ := hM.2.2.1
  obtain ⟨q0, hq⟩ := (hr _ _).mp ha
  refine va_bald hx hb hM.2.1.1 hP q0 t0 hq ht (vp_in_nI hi hn) hdg ?_
  rw [nI_clamp (by omega)]
  exact kk
theorem k_cald (hx : p.tables.exec = Jvm.exec) (hb : c.code = cc) (hM : kS g μ s H locs) (t0 : Nat) {cA : ClassId} {n : Nat} {f : Nat → Int32} (ha : μ a = some (.inl (cA, n, .inl f))) (ht : (ktys g)[t0]? = some (cA, .char)) {i : Nat} (hi : i < n) (hn : n < 2 ^ 31) (hdg : decode cc pc = .ok (.caload, 1))
    (kk : W p l e R s m args below meth c H locs cells slots Q (F0 m (pc + 1) ls (.int (f i) :: rest))) : W p l e R s m args below meth c H locs cells slots Q (F0 m pc ls (.int (nI i) :: .ref a :: rest)) := by
  obtain ⟨ws, hP, hD, hr⟩ := hM.2.2.1
  obtain ⟨q0, hq⟩ := (hr _ _).mp ha
  refine va_cald hx hb hM.2.1.1 hP q0 t0 hq ht (vp_in_nI hi hn) hdg ?_
  rw [nI_clamp (by omega)]
  exact kk
theorem k_lald (hx : p.tables.exec = Jvm.exec) (hb : c.code = cc) (hM : kS g μ s H locs) (t0 : Nat) {cA : ClassId} {n : Nat} {f : Nat → Int64} (ha : μ a = some (.inl (cA, n, .inr (.inl f)))) (ht : (ktys g)[t0]? = some (cA, .long)) {i : Nat} (hi : i < n) (hn : n < 2 ^ 31) (hdg : decode cc pc = .ok (.laload, 1))
    (kk : W p l e R s m args below meth c H locs cells slots Q (F0 m (pc + 1) ls (.long (f i) :: rest))) : W p l e R s m args below meth c H locs cells slots Q (F0 m pc ls (.int (nI i) :: .ref a :: rest)) := by
  obtain ⟨ws, hP, hD, hr⟩ := hM.2.2.1
  obtain ⟨q0, hq⟩ := (hr _ _).mp ha
  refine va_lald hx hb hM.2.1.1 hP q0 t0 hq ht (vp_in_nI hi hn) hdg ?_
  rw [nI_clamp (by omega)]
  exact kk
theorem k_aald (hx : p.tables.exec = Jvm.exec) (hb : c.code = cc) (hM : kS g μ s H locs) (t0 : Nat) {cA : ClassId} {C : String} {n : Nat} {f : Nat → Option Nat} (ha : μ a = some (.inl (cA, n, .inr (.inr (.inr (.inr f)))))) (ht : (ktys g)[t0]? = some (cA, .object C)) {i : Nat} (hi : i < n) (hn : n < 2 ^ 31) {r : Option Nat} (hf : f i = r) (hdg : decode cc pc = .ok (.aaload, 1))
    (kk : W p l e R s m args below meth c H locs cells slots Q (F0 m (pc + 1) ls (va_rf r :: rest))) : W p l e R s m args below meth c H locs cells slots Q (F0 m pc ls (.int (nI i) :: .ref a :: rest)) := by
  obtain ⟨ws, hP, hD, hr⟩ := hM.2.2.1
  obtain ⟨q0, hq⟩ := (hr _ _).mp ha
  refine va_aldq hx hb hM.2.1.1 hP q0 t0 hq ht (vp_in_nI hi hn) hdg ?_
  rw [nI_clamp (by omega), hf]
  exact kk
theorem k_alen (hx : p.tables.exec = Jvm.exec) (hb : c.code = cc) (hM : kS g μ s H locs) (t0 : Nat) {cA : ClassId} {x : vp_A} (ha : μ a = some (.inl (cA, x))) {ty : FieldType} (ht : (ktys g)[t0]? = some (cA, ty)) (hdg : decode cc pc = .ok (.arraylength, 1))
    (kk : W p l e R s m args below meth c H locs cells slots Q (F0 m (pc + 1) ls (.int (nI x.1) :: rest))) : W p l e R s m args below meth c H locs cells slots Q (F0 m pc ls (.ref a :: rest)) := by
  obtain ⟨ws, hP, hD, hr⟩ := hM.2.2.1
  obtain ⟨q0, hq⟩ := (hr _ _).mp ha
  exact va_alen hx hb hM.2.1.1 hP q0 t0 hq ht rfl hdg kk
-- writes
theorem kS.set {g : kG} {μ : km_M} {s : State} {H H1 : Heap} {locs locs1 : List Loc} {a q0 : Nat} {e0 e : va_E} {ws : va_W} (hM : kS g μ s H locs) (hD : va_D (fun q => g.1 ≤ q) ws) (hr : km_rep ws μ) (hq : ws[q0]? = some (a, e0)) (hP1 : va_P g.2.1 kcl (ws.set q0 (a, e)) H1) (hD1 : va_D (fun q => g.1 ≤ q) (ws.set q0 (a, e))) (hS1 : va_S (fun q => g.1 ≤ q) s.heap H1 locs1) : kS g (km_up μ a e) s H1 locs1 :=
  ⟨hM.1, hM.2.1, ⟨_, hP1, hD1, km_rep_set hr hD hq⟩, hS1⟩
theorem k_put (hx : p.tables.exec = Jvm.exec) (hb : c.code = cc) {own ref C : String} {T : u_T} {N ci index : Nat} (hW : ∀ w ∈ Wd, w.before args s = true) (hin : ∀ w ∈ u_ws C T N, w ∈ Wd) (ty0 : Nat → FieldType) (hty : ∀ k, k < N → parseFieldDescriptor (T k).2.2.1 = some (ty0 k)) (hnm : ∀ a, a < N → ∀ b, b < N → a ≠ b → (T a).2.1 ≠ (T b).2.1) (hown : s.vm.findClass own = some m.cls) (hM : kS g μ s H locs) {fs : List Value} (he : μ a = some (.inr (ci, fs))) (hc : kcl[ci]? = some (C, T, N)) (k : Nat) (hk : k < N) (hlink : (Cond.fieldLink own index ref (T k).2.1 (T k).2.2.1).before args s = true) (hsame : ∀ x, s.fieldFound? (T k).1 (T k).2.1 (T k).2.2.1 = some x → s.fieldFound? ref (T k).2.1 (T k).2.2.1 = some x) (hfin : (T k).2.2.2 = false) {ty : FieldType} {v : Value} (hd : parseFieldDescriptor (T k).2.2.1 = some ty) (hn : narrow ty v = v) (hfit : fits ty v = true) (hl : k < fs.length)
    (hdg : decode cc pc = .ok (.putfield index, 3)) {fs' : List Value} (hfs : fs.set k v = fs') (kk : ∀ (H1 : Heap) (locs1 : List Loc), kS g (km_up μ a (.inr (ci, fs'))) s H1 locs1 → W p l e R s m args below meth c H1 locs1 cells slots Q (F0 m (pc + 3) ls rest)) : W p l e R s m args below meth c H locs cells slots Q (F0 m pc ls (v :: .ref a :: rest)) := by
  subst hfs
  obtain ⟨ws, hP, hD, hr⟩ := hM.2.2.1
  obtain ⟨q0, hq⟩ := (hr _ _).mp he
  exact va_put hx hb hW hin ty0 hty hnm hown hM.2.1.1 hP hD hM.2.2.2 q0 hq hc k hk hlink hsame hfin hd hn hfit hl hdg (fun H1 locs1 hP1 hD1 hS1 => kk H1 locs1 (hM.set hD hr hq hP1 hD1 hS1))
theorem k_putN (hx : p.tables.exec = Jvm.exec) (hb : c.code = cc) {own ref C host : String} {T : u_T} {N ci index : Nat} (hW : ∀ w ∈ Wd, w.before args s = true) (hin : ∀ w ∈ u_ws C T N, w ∈ Wd) (ty0 : Nat → FieldType) (hty : ∀ k, k < N → parseFieldDescriptor (T k).2.2.1 = some (ty0 k)) (hnm : ∀ a, a < N → ∀ b, b < N → a ≠ b → (T a).2.1 ≠ (T b).2.1) (hown : s.vm.findClass own = some m.cls) (hM : kS g μ s H locs) {fs : List Value} (he : μ a = some (.inr (ci, fs))) (hc : kcl[ci]? = some (C, T, N)) (k : Nat) (hk : k < N) (hlink : (Cond.fieldLinkNest own index ref (T k).2.1 (T k).2.2.1 host).before args s = true) (hsame : ∀ x, s.fieldFound? (T k).1 (T k).2.1 (T k).2.2.1 = some x → s.fieldFound? ref (T k).2.1 (T k).2.2.1 = some x) (hfin : (T k).2.2.2 = false) {ty : FieldType} {v : Value} (hd : parseFieldDescriptor (T k).2.2.1 = some ty) (hn : narrow ty v = v) (hfit : fits ty v = true) (hl : k < fs.length)
    (hdg : decode cc pc = .ok (.putfield index, 3)) {fs' : List Value} (hfs : fs.set k v = fs') (kk : ∀ (H1 : Heap) (locs1 : List Loc), kS g (km_up μ a (.inr (ci, fs'))) s H1 locs1 → W p l e R s m args below meth c H1 locs1 cells slots Q (F0 m (pc + 3) ls rest)) : W p l e R s m args below meth c H locs cells slots Q (F0 m pc ls (v :: .ref a :: rest)) := by
  subst hfs
  obtain ⟨ws, hP, hD, hr⟩ := hM.2.2.1
  obtain ⟨q0, hq⟩ := (hr _ _).mp he
  exact va_putN hx hb hW hin ty0 hty hnm hown hM.2.1.1 hP hD hM.2.2.2 q0 hq hc k hk hlink hsame hfin hd hn hfit hl hdg (fun H1 locs1 hP1 hD1 hS1 => kk H1 locs1 (hM.set hD hr hq hP1 hD1 hS1))
theorem k_putF (hx : p.tables.exec = Jvm.exec) (hb : c.code = cc) {own ref C : String} {T : u_T} {N ci index : Nat} (hW : ∀ w ∈ Wd, w.before args s = true) (hin : ∀ w ∈ u_ws C T N, w ∈ Wd) (ty0 : Nat → FieldType) (hty : ∀ k, k < N → parseFieldDescriptor (T k).2.2.1 = some (ty0 k)) (hnm : ∀ a, a < N → ∀ b, b < N → a ≠ b → (T a).2.1 ≠ (T b).2.1) (hown : s.vm.findClass own = some m.cls) (hM : kS g μ s H locs) {fs : List Value} (he : μ a = some (.inr (ci, fs))) (hc : kcl[ci]? = some (C, T, N)) (k : Nat) (hk : k < N) (hlink : (Cond.fieldLink own index ref (T k).2.1 (T k).2.2.1).before args s = true) (hsame : ∀ x, s.fieldFound? (T k).1 (T k).2.1 (T k).2.2.1 = some x → s.fieldFound? ref (T k).2.1 (T k).2.2.1 = some x) (hfin : (T k).2.2.2 = true) (hin2 : meth.name = "<init>") (hdecl : (T k).1 = own) {ty : FieldType} {v : Value} (hd : parseFieldDescriptor (T k).2.2.1 = some ty) (hn : narrow ty v = v) (hfit : fits ty v = true) (hl : k < fs.length)
    (hdg : decode cc pc = .ok (.putfield index, 3)) {fs' : List Value} (hfs : fs.set k v = fs') (kk : ∀ (H1 : Heap) (locs1 : List Loc), kS g (km_up μ a (.inr (ci, fs'))) s H1 locs1 → W p l e R s m args below meth c H1 locs1 cells slots Q (F0 m (pc + 3) ls rest)) : W p l e R s m args below meth c H locs cells slots Q (F0 m pc ls (v :: .ref a :: rest)) := by
  subst hfs
  obtain ⟨ws, hP, hD, hr⟩ := hM.2.2.1
  obtain ⟨q0, hq⟩ := (hr _ _).mp he
  exact va_putF hx hb hW hin ty0 hty hnm hown hM.2.1.1 hP hD hM.2.2.2 q0 hq hc k hk hlink hsame hfin hin2 hdecl hd hn hfit hl hdg (fun H1 locs1 hP1 hD1 hS1 => kk H1 locs1 (hM.set hD hr hq hP1 hD1 hS1))
theorem k_iast (hx : p.tables.exec = Jvm.exec) (hb : c.code = cc) (hM : kS g μ s H locs) (t0 : Nat) {cA : ClassId} {n : Nat} {f f1 : Nat → Int32} (ha : μ a = some (.inl (cA, n, .inl f))) (ht : (ktys g)[t0]? = some (cA, .int)) {i : Nat} {x : Int32} (hi : i < n) (hn : n < 2 ^ 31) (hf : upd f i x = f1) (hdg : decode cc pc = .ok (.iastore, 1))
    (kk : ∀ (H1 : Heap) (locs1 : List Loc), kS g (km_up μ a (.inl (cA, n, .inl f1))) s H1 locs1 → W p l e R s m args below meth c H1 locs1 cells slots Q (F0 m (pc + 1) ls rest)) : W p l e R s m args below meth c H locs cells slots Q (F0 m pc ls (.int x :: .int (nI i) :: .ref a :: rest)) := by
  subst hf
  obtain ⟨ws, hP, hD, hr⟩ := hM.2.2.1
  obtain ⟨q0, hq⟩ := (hr _ _).mp ha
  refine va_iast hx hb hM.2.1.1 hP hD hM.2.2.2 q0 t0 hq ht (vp_in_nI hi hn) hdg (fun H1 locs1 hP1 hD1 hS1 => kk H1 locs1 (hM.set hD hr hq ?_ ?_ hS1))
  · rw [nI_clamp (by omega)] at hP1
    exact hP1
  · rw [nI_clamp (by omega)] at hD1
    exact hD1
theorem k_bast (hx : p.tables.exec = Jvm.exec) (hb : c.code = cc) (hM : kS g μ s H locs) (t0 : Nat) {cA : ClassId} {n : Nat} {f f1 : Nat → Int32} (ha : μ a = some (.inl (cA, n, .inl f))) (ht : (ktys g)[t0]? = some (cA, .byte)) {i : Nat} {x : Int32} (hi : i < n) (hn : n < 2 ^ 31) (hf : upd f i (vp_nar .byte x) = f1) (hdg : decode cc pc = .ok (.bastore, 1))
    (kk : ∀ (H1 : Heap) (locs1 : List Loc), kS g (km_up μ a (.inl (cA, n, .inl f1))) s H1 locs1 → W p l e R s m args below meth c H1 locs1 cells slots Q (F0 m (pc + 1) ls rest)) : W p l e R s m args below meth c H locs cells slots Q (F0 m pc ls (.int x :: .int (nI i) :: .ref a :: rest)) := by
  subst hf
  obtain ⟨ws, hP, hD, hr⟩ := hM.2.2.1
  obtain ⟨q0, hq⟩ := (hr _ _).mp ha
  refine va_bast hx hb hM.2.1.1 hP hD hM.2.2.2 q0 t0 hq ht (vp_in_nI hi hn) hdg (fun H1 locs1 hP1 hD1 hS1 => kk H1 locs1 (hM.set hD hr hq ?_ ?_ hS1))
  · rw [nI_clamp (by omega)] at hP1
    exact hP1
  · rw [nI_clamp (by omega)] at hD1
    exact hD1
theorem k_cast (hx : p.tables.exec = Jvm.exec) (hb : c.code = cc) (hM : kS g μ s H locs) (t0 : Nat) {cA : ClassId} {n : Nat} {f f1 : Nat → Int32} (ha : μ a = some (.inl (cA, n, .inl f))) (ht : (ktys g)[t0]? = some (cA, .char)) {i : Nat} {x : Int32} (hi : i < n) (hn : n < 2 ^ 31) (hf : upd f i (vp_nar .char x) = f1) (hdg : decode cc pc = .ok (.castore, 1))
    (kk : ∀ (H1 : Heap) (locs1 : List Loc), kS g (km_up μ a (.inl (cA, n, .inl f1))) s H1 locs1 → W p l e R s m args below meth c H1 locs1 cells slots Q (F0 m (pc + 1) ls rest)) : W p l e R s m args below meth c H locs cells slots Q (F0 m pc ls (.int x :: .int (nI i) :: .ref a :: rest)) := by
  subst hf
  obtain ⟨ws, hP, hD, hr⟩ := hM.2.2.1
  obtain ⟨q0, hq⟩ := (hr _ _).mp ha
  refine va_cast hx hb hM.2.1.1 hP hD hM.2.2.2 q0 t0 hq ht (vp_in_nI hi hn) hdg (fun H1 locs1 hP1 hD1 hS1 => kk H1 locs1 (hM.set hD hr hq ?_ ?_ hS1))
  · rw [nI_clamp (by omega)] at hP1
    exact hP1
  · rw [nI_clamp (by omega)] at hD1
    exact hD1
theorem k_last (hx : p.tables.exec = Jvm.exec) (hb : c.code = cc) (hM : kS g μ s H locs) (t0 : Nat) {cA : ClassId} {n : Nat} {f f1 : Nat → Int64} (ha : μ a = some (.inl (cA, n, .inr (.inl f)))) (ht : (ktys g)[t0]? = some (cA, .long)) {i : Nat} {x : Int64} (hi : i < n) (hn : n < 2 ^ 31) (hf : vp_updL f i x = f1) (hdg : decode cc pc = .ok (.lastore, 1))
    (kk : ∀ (H1 : Heap) (locs1 : List Loc), kS g (km_up μ a (.inl (cA, n, .inr (.inl f1)))) s H1 locs1 → W p l e R s m args below meth c H1 locs1 cells slots Q (F0 m (pc + 1) ls rest)) : W p l e R s m args below meth c H locs cells slots Q (F0 m pc ls (.long x :: .int (nI i) :: .ref a :: rest)) := by
  subst hf
  obtain ⟨ws, hP, hD, hr⟩ := hM.2.2.1
  obtain ⟨q0, hq⟩ := (hr _ _).mp ha
  refine va_last hx hb hM.2.1.1 hP hD hM.2.2.2 q0 t0 hq ht (vp_in_nI hi hn) hdg (fun H1 locs1 hP1 hD1 hS1 => kk H1 locs1 (hM.set hD hr hq ?_ ?_ hS1))
  · rw [nI_clamp (by omega)] at hP1
    exact hP1
  · rw [nI_clamp (by omega)] at hD1
    exact hD1
theorem k_aast (hx : p.tables.exec = Jvm.exec) (hb : c.code = cc) (hM : kS g μ s H locs) (t0 ci : Nat) {cA : ClassId} {r : vw_C} {n v : Nat} {vs : List Value} {f f1 : Nat → Option Nat} (ha : μ a = some (.inl (cA, n, .inr (.inr (.inr (.inr f)))))) (ht : (ktys g)[t0]? = some (cA, .object r.1)) (hv : μ v = some (.inr (ci, vs))) (hc : kcl[ci]? = some r) {i : Nat} (hi : i < n) (hn : n < 2 ^ 31) (hf : va_up f i (some v) = f1) (hdg : decode cc pc = .ok (.aastore, 1))
    (kk : ∀ (H1 : Heap) (locs1 : List Loc), kS g (km_up μ a (.inl (cA, n, .inr (.inr (.inr (.inr f1)))))) s H1 locs1 → W p l e R s m args below meth c H1 locs1 cells slots Q (F0 m (pc + 1) ls rest)) : W p l e R s m args below meth c H locs cells slots Q (F0 m pc ls (.ref v :: .int (nI i) :: .ref a :: rest)) := by
  subst hf
  obtain ⟨ws, hP, hD, hr⟩ := hM.2.2.1
  obtain ⟨q0, hq⟩ := (hr _ _).mp ha
  obtain ⟨qk, hk⟩ := (hr _ _).mp hv
  refine va_astq hx hb hM.2.1.1 hP hD hM.2.2.2 q0 t0 qk ci hq ht hk hc (vp_in_nI hi hn) hdg (fun H1 locs1 hP1 hD1 hS1 => kk H1 locs1 (hM.set hD hr hq ?_ ?_ hS1))
  · rw [nI_clamp (by omega)] at hP1
    exact hP1
  · rw [nI_clamp (by omega)] at hD1
    exact hD1
-- new cells
theorem kS.new {g : kG} {μ : km_M} {s : State} {H H1 : Heap} {locs locs1 : List Loc} {q : Nat} {e : va_E} {ws : va_W} (hM : kS g μ s H locs) (hr : km_rep ws μ) (hP1 : va_P g.2.1 kcl (ws ++ [(q, e)]) H1) (hD1 : va_D (fun q => g.1 ≤ q) (ws ++ [(q, e)])) (hS1 : va_S (fun q => g.1 ≤ q) s.heap H1 locs1) : kS g (km_up μ q e) s H1 locs1 ∧ μ q = none :=
  ⟨⟨hM.1, hM.2.1, ⟨_, hP1, hD1, (km_rep_new hr hD1).1⟩, hS1⟩, (km_rep_new hr hD1).2⟩
theorem k_new (hx : p.tables.exec = Jvm.exec) (hb : c.code = cc) {own C : String} {T : u_T} {N ci index : Nat} (hW : ∀ w ∈ Wd, w.before args s = true) (hin : ∀ w ∈ u_ws C T N, w ∈ Wd) (ty : Nat → FieldType) (hty : ∀ k, k < N → parseFieldDescriptor (T k).2.2.1 = some (ty k)) (hown : s.vm.findClass own = some m.cls) (hcl : (Cond.classLink own index C).before args s = true) (hinst : (Cond.instantiable C N).before args s = true) (hini : (Cond.initialized C).before args s = true)
    (hM : kS g μ s H locs) (hc : kcl[ci]? = some (C, T, N)) {fs : List Value} (hfs : ∀ j, j < N → defaultValue (ty j) = vp_V fs j) (hcells : cells + 1 ≤ R.cells) (hslots : slots + N ≤ R.slots) (hdg : decode cc pc = .ok (.new index, 3))
    (kk : ∀ (q : Nat) (H1 : Heap), μ q = none → kS g (km_up μ q (.inr (ci, fs))) s H1 locs → W p l e R s m args below meth c H1 locs (cells + 1) (slots + N) Q (F0 m (pc + 3) ls (.ref q :: rest))) : W p l e R s m args below meth c H locs cells slots Q (F0 m pc ls rest) := by
  obtain ⟨ws, hP, hD, hr⟩ := hM.2.2.1
  exact va_new hx hb hW hin ty hty hown hcl hinst hini hM.2.1.1 hP hD hM.2.2.2 (fun q h => Nat.le_trans hM.1 h) hc hfs hcells hslots hdg (fun q H1 hP1 hD1 hS1 => kk q H1 (hM.new hr hP1 hD1 hS1).2 (hM.new hr hP1 hD1 hS1).1)
theorem k_RA {U : State} {c1 c2 : ClassId} {ty : FieldType} (h1 : va_RA U c1 ty) (h2 : va_RA U c2 ty) : c1 = c2 := by
  cases ty
  case object C =>
    obtain ⟨_, _, _, _, _, h1⟩ := h1
    obtain ⟨_, _, _, _, _, h2⟩ := h2
    rw [h1] at h2
    exact Option.some.inj h2
  all_goals
    simp only [va_RA] at h1 h2
    rw [h1] at h2
    exact Option.some.inj h2
theorem k_sameA {D : va_G} {cl : List vw_C} {tys : List (ClassId × FieldType)} {U : State} {i : Nat} {c1 c2 : ClassId} {ty : FieldType} (hi : tys[i]? = some (c1, ty)) (h : va_K D cl (tys ++ [(c2, ty)]) U) : c2 = c1 := by
  have hlt : i < tys.length := by
    rcases Nat.lt_or_ge i tys.length with h1 | h1
    · exact h1
    · rw [List.getElem?_eq_none h1] at hi
      cases hi
  have h1 := h.2 i (c1, ty) (by rw [List.getElem?_append_left hlt]; exact hi)
  have h2 := h.2 tys.length (c2, ty) (by rw [List.getElem?_append_right (Nat.le_refl _), Nat.sub_self]; rfl)
  exact k_RA h2.2 h1.2
theorem k_newa (hx : p.tables.exec = Jvm.exec) (hb : c.code = cc) {atype : ArrayType} (harr : (Cond.arrayClass (newarray.typeOf atype)).before args s = true) {ty : FieldType} (hty : newarray.typeOf atype = ty) (hM : kS g μ s H locs) (t0 : Nat) {cA : ClassId} (ht : (ktys g)[t0]? = some (cA, ty))
    {N' : Nat} {a0 : vp_A} (ha : ∀ cA : ClassId, vp_cell cA a0 = arrV cA N' (fun _ => defaultValue ty)) (hN : N' < 2 ^ 20) (hbytes : N' * componentBytes ty ≤ 536870912) (hcells : cells + 1 ≤ R.cells) (hslots : slots + N' ≤ R.slots) (hdg : decode cc pc = .ok (.newarray atype, 2))
    (kk : ∀ (q : Nat) (H1 : Heap), μ q = none → kS g (km_up μ q (.inl (cA, a0))) s H1 locs → W p l e R s m args below meth c H1 locs (cells + 1) (slots + N') Q (F0 m (pc + 2) ls (.ref q :: rest))) : W p l e R s m args below meth c H locs cells slots Q (F0 m pc ls (.int (nI N') :: rest)) := by
  obtain ⟨ws, hP, hD, hr⟩ := hM.2.2.1
  refine va_newa hx hb harr hty hM.2.1.1 hP hD hM.2.2.2 (fun q h => Nat.le_trans hM.1 h) ha (nI_pos (by omega)) (nI_clamp (by omega)) hbytes hcells hslots hdg (fun q cB H1 hK1 hP1 hD1 hS1 => ?_)
  cases k_sameA ht hK1
  exact kk q H1 (hM.new hr hP1 hD1 hS1).2 (hM.new hr hP1 hD1 hS1).1
theorem k_newq (hx : p.tables.exec = Jvm.exec) (hb : c.code = cc) {own C : String} {index : Nat} (hown : s.vm.findClass own = some m.cls) (hclink : (Cond.classLink own index C).before args s = true) (hover : va_AO C s) (hM : kS g μ s H locs) (t0 : Nat) {cA : ClassId} (ht : (ktys g)[t0]? = some (cA, .object C))
    {N' : Nat} (hN : N' < 2 ^ 20) (hcells : cells + 1 ≤ R.cells) (hslots : slots + N' ≤ R.slots) (hdg : decode cc pc = .ok (.anewarray index, 3))
    (kk : ∀ (q : Nat) (H1 : Heap), μ q = none → kS g (km_up μ q (.inl (cA, N', .inr (.inr (.inr (.inr (fun _ => none))))))) s H1 locs → W p l e R s m args below meth c H1 locs (cells + 1) (slots + N') Q (F0 m (pc + 3) ls (.ref q :: rest))) : W p l e R s m args below meth c H locs cells slots Q (F0 m pc ls (.int (nI N') :: rest)) := by
  obtain ⟨ws, hP, hD, hr⟩ := hM.2.2.1
  refine va_newq hx hb hown hclink hover hM.2.1.1 hP hD hM.2.2.2 (fun q h => Nat.le_trans hM.1 h) (nI_pos (by omega)) (nI_clamp (by omega)) (by omega) hcells hslots hdg (fun q cB H1 hK1 hP1 hD1 hS1 => ?_)
  cases k_sameA ht hK1
  exact kk q H1 (hM.new hr hP1 hD1 hS1).2 (hM.new hr hP1 hD1 hS1).1
-- behind a call
variable {st0 : List Value} {av : Array Value} {mc ms : Nat}
theorem kc_i {post : Int32 → km_M → Prop} (hr : va_Run p l e R s m args below meth c H locs cells slots mc ms (F0 m pc ls st0) rest (kQi g post av) (kF g)) (hM : kS g μ s H locs)
    (kk : ∀ (r : Int32) (μ1 : km_M) (H1 : Heap) (locs1 : List Loc), post r μ1 → kS g μ1 s H1 locs1 → W p l e R s m args below meth c H1 locs1 (cells + mc) (slots + ms) Q (F0 m (pc + 3) ls (.int r :: rest))) : W p l e R s m args below meth c H locs cells slots Q (F0 m pc ls st0) :=
  va_calli hr hM.2.2.2 (fun _ _ h => h) (fun _ h => h) (fun r u t H1 locs1 ht hvm hp hB hz hk hS => kk r u H1 locs1 hp ⟨hM.1, hM.2.1, ht ▸ hB, hS⟩)
theorem kc_l {post : Int64 → km_M → Prop} (hr : va_Run p l e R s m args below meth c H locs cells slots mc ms (F0 m pc ls st0) rest (kQl g post av) (kF g)) (hM : kS g μ s H locs)
    (kk : ∀ (r : Int64) (μ1 : km_M) (H1 : Heap) (locs1 : List Loc), post r μ1 → kS g μ1 s H1 locs1 → W p l e R s m args below meth c H1 locs1 (cells + mc) (slots + ms) Q (F0 m (pc + 3) ls (.long r :: rest))) : W p l e R s m args below meth c H locs cells slots Q (F0 m pc ls st0) :=
  va_calll hr hM.2.2.2 (fun _ _ h => h) (fun _ h => h) (fun r u t H1 locs1 ht hvm hp hB hz hk hS => kk r u H1 locs1 hp ⟨hM.1, hM.2.1, ht ▸ hB, hS⟩)
theorem kc_v {post : km_M → Prop} (hr : va_Run p l e R s m args below meth c H locs cells slots mc ms (F0 m pc ls st0) rest (kQv g post av) (kF g)) (hM : kS g μ s H locs)
    (kk : ∀ (μ1 : km_M) (H1 : Heap) (locs1 : List Loc), post μ1 → kS g μ1 s H1 locs1 → W p l e R s m args below meth c H1 locs1 (cells + mc) (slots + ms) Q (F0 m (pc + 3) ls rest)) : W p l e R s m args below meth c H locs cells slots Q (F0 m pc ls st0) :=
  va_callv hr hM.2.2.2 (fun _ _ h => h) (fun _ h => h) (fun u t H1 locs1 ht hvm hp hB hz hk hS => kk u H1 locs1 hp ⟨hM.1, hM.2.1, ht ▸ hB, hS⟩)
theorem kc_r {post : Nat → km_M → Prop} (hr : va_Run p l e R s m args below meth c H locs cells slots mc ms (F0 m pc ls st0) rest (kQr g post av) (kF g)) (hM : kS g μ s H locs)
    (kk : ∀ (r : Nat) (μ1 : km_M) (H1 : Heap) (locs1 : List Loc), post r μ1 → kS g μ1 s H1 locs1 → W p l e R s m args below meth c H1 locs1 (cells + mc) (slots + ms) Q (F0 m (pc + 3) ls (.ref r :: rest))) : W p l e R s m args below meth c H locs cells slots Q (F0 m pc ls st0) :=
  va_callr hr hM.2.2.2 (fun _ _ h => h) (fun _ h => h) (fun u r t H1 locs1 ht hvm hp hB hz hk hS => kk r u H1 locs1 hB.1 ⟨hM.1, hM.2.1, ht ▸ hB.2, hS⟩)
theorem kc_q {post : Option Nat → km_M → Prop} (hr : va_Run p l e R s m args below meth c H locs cells slots mc ms (F0 m pc ls st0) rest (kQq g post av) (kF g)) (hM : kS g μ s H locs)
    (kk : ∀ (r : Option Nat) (μ1 : km_M) (H1 : Heap) (locs1 : List Loc), post r μ1 → kS g μ1 s H1 locs1 → W p l e R s m args below meth c H1 locs1 (cells + mc) (slots + ms) Q (F0 m (pc + 3) ls (va_rf r :: rest))) : W p l e R s m args below meth c H locs cells slots Q (F0 m pc ls st0) :=
  va_callq hr hM.2.2.2 (fun _ _ h => h) (fun _ h => h) (fun r u t H1 locs1 ht hvm hp hB hz hk hS => kk r u H1 locs1 hp ⟨hM.1, hM.2.1, ht ▸ hB, hS⟩)
-- returns
theorem kr_i {post : Int32 → km_M → Prop} {v : Int32} (hx : p.tables.exec = Jvm.exec) (hb : c.code = cc) (hr : meth.sig.returnType = some .int) (hlocks : meth.locks = false) (hM : kS g μ s H locs) (hdg : decode cc pc = .ok (.ireturn, 1)) (hp : post v μ) :
    W p l e R s m args below meth c H locs cells slots (MQ below (kQi g post) args s cells slots (kF g)) (F0 m pc ls [.int v]) :=
  W.iret hx hb hr (fun t ht hW => ⟨⟨v, μ, rfl, hp, by show kR g μ t.heap; rw [ht]; exact hM.2.2.1⟩, hM.2.2.2.F ht⟩) hM.2.2.2.2.2 hdg hlocks
theorem kr_z {post : Int32 → km_M → Prop} {v : Int32} {ty : FieldType} (hx : p.tables.exec = Jvm.exec) (hb : c.code = cc) (hr : meth.sig.returnType = some ty) (hn : narrow ty (.int v) = .int v) (hlocks : meth.locks = false) (hM : kS g μ s H locs) (hdg : decode cc pc = .ok (.ireturn, 1)) (hp : post v μ) :
    W p l e R s m args below meth c H locs cells slots (MQ below (kQi g post) args s cells slots (kF g)) (F0 m pc ls [.int v]) :=
  W.zret hx hb hr hn (fun t ht hW => ⟨⟨v, μ, rfl, hp, by show kR g μ t.heap; rw [ht]; exact hM.2.2.1⟩, hM.2.2.2.F ht⟩) hM.2.2.2.2.2 hdg hlocks
theorem kr_l {post : Int64 → km_M → Prop} {v : Int64} (hx : p.tables.exec = Jvm.exec) (hb : c.code = cc) (hr : meth.sig.returnType = some .long) (hlocks : meth.locks = false) (hM : kS g μ s H locs) (hdg : decode cc pc = .ok (.lreturn, 1)) (hp : post v μ) :
    W p l e R s m args below meth c H locs cells slots (MQ below (kQl g post) args s cells slots (kF g)) (F0 m pc ls [.long v]) :=
  W.lret hx hb hr (fun t ht hW => ⟨⟨v, μ, rfl, hp, by show kR g μ t.heap; rw [ht]; exact hM.2.2.1⟩, hM.2.2.2.F ht⟩) hM.2.2.2.2.2 hdg hlocks
theorem kr_v {post : km_M → Prop} (hx : p.tables.exec = Jvm.exec) (hb : c.code = cc) (hr : meth.sig.returnType = none) (hlocks : meth.locks = false) (hM : kS g μ s H locs) (hdg : decode cc pc = .ok (.return_, 1)) (hp : post μ) :
    W p l e R s m args below meth c H locs cells slots (MQ below (kQv g post) args s cells slots (kF g)) (F0 m pc ls []) :=
  W.vret hx hb hr (fun t ht hW => ⟨⟨μ, rfl, hp, by show kR g μ t.heap; rw [ht]; exact hM.2.2.1⟩, hM.2.2.2.F ht⟩) hM.2.2.2.2.2 hdg hlocks
theorem kr_r {post : Nat → km_M → Prop} {v : Nat} {rt : FieldType} (hx : p.tables.exec = Jvm.exec) (hb : c.code = cc) (hr : meth.sig.returnType = some rt) (hrt : (∃ n, rt = .object n) ∨ ∃ t, rt = .array t) (hlocks : meth.locks = false) (hM : kS g μ s H locs) (hdg : decode cc pc = .ok (.areturn, 1)) (hp : post v μ) :
    W p l e R s m args below meth c H locs cells slots (MQ below (kQr g post) args s cells slots (kF g)) (F0 m pc ls [.ref v]) :=
  W.aret hx hb hr hrt (Or.inr ⟨v, rfl⟩) (fun t ht hW => ⟨⟨μ, v, rfl, trivial, hp, by show kR g μ t.heap; rw [ht]; exact hM.2.2.1⟩, hM.2.2.2.F ht⟩) hM.2.2.2.2.2 hdg hlocks
theorem kr_q {post : Option Nat → km_M → Prop} {v : Option Nat} {rt : FieldType} (hx : p.tables.exec = Jvm.exec) (hb : c.code = cc) (hr : meth.sig.returnType = some rt) (hrt : (∃ n, rt = .object n) ∨ ∃ t, rt = .array t) (hlocks : meth.locks = false) (hM : kS g μ s H locs) (hdg : decode cc pc = .ok (.areturn, 1)) (hp : post v μ) :
    W p l e R s m args below meth c H locs cells slots (MQ below (kQq g post) args s cells slots (kF g)) (F0 m pc ls [va_rf v]) :=
  W.aret hx hb hr hrt (by cases v with | none => exact Or.inl rfl | some a => exact Or.inr ⟨a, rfl⟩) (fun t ht hW => ⟨⟨v, μ, rfl, hp, by show kR g μ t.heap; rw [ht]; exact hM.2.2.1⟩, hM.2.2.2.F ht⟩) hM.2.2.2.2.2 hdg hlocks
end KW
theorem k_gC {y : MethodName} {b : ByteArray} {n : Nat} {r : Option FieldType} (h : Cond.code y b n r ∈ Wd) : GoodIn Wd (Cond.code y b n r :: Wd) := k_good (List.forall_mem_cons.mpr ⟨h, fun _ z => z⟩)
theorem k_gV {own C : String} {i : Nat} {y : MethodName} {b : ByteArray} {n : Nat} {r : Option FieldType} (h1 : Cond.methodLink own i y ∈ Wd) (h2 : Cond.instanceMethod y ∈ Wd) (h3 : Cond.selects C y y ∈ Wd) (h4 : Cond.initialized C ∈ Wd) (h : Cond.code y b n r ∈ Wd) : GoodIn Wd (wsV own i C y (Cond.code y b n r :: Wd)) :=
  k_good (List.forall_mem_cons.mpr ⟨h1, List.forall_mem_cons.mpr ⟨h2, List.forall_mem_cons.mpr ⟨h3, List.forall_mem_cons.mpr ⟨h4, List.forall_mem_cons.mpr ⟨h, fun _ z => z⟩⟩⟩⟩⟩)
theorem k_gS {own : String} {i : Nat} {y : MethodName} {b : ByteArray} {n : Nat} {r : Option FieldType} (h1 : Cond.methodLink own i y ∈ Wd) (h2 : Cond.static y ∈ Wd) (h4 : Cond.initialized y.cls ∈ Wd) (h : Cond.code y b n r ∈ Wd) : GoodIn Wd (va_wsS own i y (Cond.code y b n r :: Wd)) :=
  k_good (List.forall_mem_cons.mpr ⟨h1, List.forall_mem_cons.mpr ⟨h2, List.forall_mem_cons.mpr ⟨h4, List.forall_mem_cons.mpr ⟨h, fun _ z => z⟩⟩⟩⟩)
