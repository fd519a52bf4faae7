theorem whole_start {p : Program} {e : Env} {s : State} {m : MethodId} {below : List Frame} {meth : Method} {c : Code} (l : Launch) {b L : Nat} {xs : Nat → Int32} (hL : L ≤ 3072) (C0 : lw_At p s m meth c b L xs) : W p l e room_1 s m #[Value.ref b] below meth c s.heap [] 0 0 (lw_Z below #[Value.ref b] s) (entryFrame m ([Value.ref b] : List Value).toArray 4) := by
  obtain ⟨hx, hb, hr, hml, hown, hts, hX, hbl, hlocks, hgv⟩ := C0
  have hW : ∀ w ∈ Wd, w.before #[Value.ref b] s = true := fun w hw => hts w (Wd_in w hw)
  obtain ⟨g, hg, hM⟩ := k_start hW (flat_of_before _ hgv) hts
  rw [lg_entry_eq]
  exact whole_walk l hL hx hb hr hml hown hW hX hbl hlocks hg _ (lv_entry [Value.ref b] (Nat.le_of_ble_eq_true rfl)) _ _ hM
