-- tests: the reference's and the class's
theorem oF_3 (F G : Nat → Int64) : ∀ n i, oF F G i n = nI 0 ∨ oF F G i n = (-1) ∨ oF F G i n = nI 1 := by
  intro n
  induction n with
  | zero => intro i; exact Or.inl rfl
  | succ n ih =>
    intro i
    rw [oF]
    split
    · exact ih (i + 1)
    · split
      · exact Or.inr (Or.inl rfl)
      · exact Or.inr (Or.inr rfl)
theorem tk1 {Fb Fc F : Nat → Int64} : bI (hldR 1 Fb Fc F) = if oF F Fb 0 7 = 0 then nI 1 else nI 0 := by
  unfold hldR
  rcases oF_3 F Fb 7 0 with h | h | h <;> rw [h] <;> simp only [show ¬ ((1 : Nat) = 6 ∨ (1 : Nat) = 7) by decide, false_implies, and_true] <;> decide
theorem tk2 {Fb Fc F : Nat → Int64} : bI (hldR 2 Fb Fc F) = if 0 ≤ oF F Fb 0 7 then nI 0 else nI 1 := by
  unfold hldR
  rcases oF_3 F Fb 7 0 with h | h | h <;> rw [h] <;> simp only [show ¬ ((2 : Nat) = 6 ∨ (2 : Nat) = 7) by decide, false_implies, and_true] <;> decide
theorem tk3 {Fb Fc F : Nat → Int64} : bI (hldR 3 Fb Fc F) = if 0 < oF F Fb 0 7 then nI 0 else nI 1 := by
  unfold hldR
  rcases oF_3 F Fb 7 0 with h | h | h <;> rw [h] <;> simp only [show ¬ ((3 : Nat) = 6 ∨ (3 : Nat) = 7) by decide, false_implies, and_true] <;> decide
theorem tk4 {Fb Fc F : Nat → Int64} : bI (hldR 4 Fb Fc F) = if oF F Fb 0 7 ≤ 0 then nI 0 else nI 1 := by
  unfold hldR
  rcases oF_3 F Fb 7 0 with h | h | h <;> rw [h] <;> simp only [show ¬ ((4 : Nat) = 6 ∨ (4 : Nat) = 7) by decide, false_implies, and_true] <;> decide
theorem tk5 {Fb Fc F : Nat → Int64} : bI (hldR 5 Fb Fc F) = if oF F Fb 0 7 < 0 then nI 0 else nI 1 := by
  unfold hldR
  rcases oF_3 F Fb 7 0 with h | h | h <;> rw [h] <;> simp only [show ¬ ((5 : Nat) = 6 ∨ (5 : Nat) = 7) by decide, false_implies, and_true] <;> decide
theorem tk6 {Fb Fc F : Nat → Int64} : bI (hldR 6 Fb Fc F) = if 0 ≤ oF F Fb 0 7 then bI (decide (¬ 0 ≤ oF F Fc 0 7)) else nI 0 := by
  unfold hldR
  by_cases z : 0 ≤ oF F Fc 0 7 <;> simp only [z, not_true, not_false_eq_true, implies_true, true_or, true_implies, and_true, and_false] <;> rcases oF_3 F Fb 7 0 with h | h | h <;> rw [h] <;> decide
theorem tk7 {Fb Fc F : Nat → Int64} : bI (hldR 7 Fb Fc F) = if oF F Fb 0 7 < 0 then nI 0 else bI (decide (¬ 0 ≤ oF F Fc 0 7)) := by
  unfold hldR
  by_cases z : 0 ≤ oF F Fc 0 7 <;> simp only [z, not_true, not_false_eq_true, implies_true, or_true, true_implies, and_true, and_false] <;> rcases oF_3 F Fb 7 0 with h | h | h <;> rw [h] <;> decide
def belP (v : kVer) (x y z : Nat) : Prop := v.1 < x ∨ (v.1 = x ∧ (v.2.1 < y ∨ (v.2.1 = y ∧ (v.2.2.1 < z ∨ (v.2.2.1 = z ∧ 0 < v.2.2.2.length)))))
theorem n3_0 (q : Nat × Nat × Nat) : n3F (fun _ => 0) q 0 = lN q.1 := by simp [n3F, dpF, vp_updL]
theorem n3_1 (q : Nat × Nat × Nat) : n3F (fun _ => 0) q 1 = lN q.2.1 := by simp [n3F, dpF, vp_updL]
theorem n3_2 (q : Nat × Nat × Nat) : n3F (fun _ => 0) q 2 = lN q.2.2 := by simp [n3F, dpF, vp_updL]
theorem n3_3 (q : Nat × Nat × Nat) : n3F (fun _ => 0) q 3 = lN 9223372036854775807 := by rw [← maxl]; simp [n3F, dpF, vp_updL]
theorem n3_n (q : Nat × Nat × Nat) {k : Nat} (h1 : 1 ≤ k) (h4 : k < 4) : n3F (fun _ => 0) q (3 + k) = -1 := by
  rcases (show k = 1 ∨ k = 2 ∨ k = 3 by omega) with rfl | rfl | rfl <;> simp [n3F, dpF, vp_updL]
theorem bel_iff {v : kVer} {q : Nat × Nat × Nat} (b0 : v.1 < 1000000000) (b1 : v.2.1 < 1000000000) (b2 : v.2.2.1 < 1000000000) (c0 : q.1 ≤ 1000000000) (c1 : q.2.1 ≤ 1000000000) (c2 : q.2.2 ≤ 1000000000) (hv : ∀ xs, v.2.2.2[0]? = some xs → mV xs < 9223372036854775807) :
    ¬ 0 ≤ oF (rowOf v) (n3F (fun _ => 0) q) 0 7 ↔ belP v q.1 q.2.1 q.2.2 := by
  unfold belP
  rw [oFs (rw0 v) (n3_0 q) (by omega) (by omega)]
  by_cases h0 : v.1 = q.1
  · rw [if_pos h0, oFs (rw1 v) (n3_1 q) (by omega) (by omega)]
    by_cases h1 : v.2.1 = q.2.1
    · rw [if_pos h1, oFs (rw2 v) (n3_2 q) (by omega) (by omega)]
      by_cases h2 : v.2.2.1 = q.2.2
      · rw [if_pos h2]
        by_cases h3 : v.2.2.2.length = 0
        · have hn := List.length_eq_zero_iff.mp h3
          rw [oFs (rwE hn) (n3_3 q) (by decide) (by decide), if_pos rfl]
          have n1 : ∀ k, 1 ≤ k → k < 4 → rowOf v (3 + k) = n3F (fun _ => 0) q (3 + k) := fun k a1 a2 => by rw [rwN (by rw [hn]; exact Nat.zero_le _) a1 a2, n3_n q a1 a2]
          rw [oF_eq (n1 1 (by omega) (by omega)), oF_eq (n1 2 (by omega) (by omega)), oF_eq (n1 3 (by omega) (by omega))]
          show ¬ (0 : Int32) ≤ nI 0 ↔ _
          exact ⟨fun z => absurd (by decide) z, fun z => by omega⟩
        · have hx := hv _ (List.getElem?_eq_getElem (show 0 < v.2.2.2.length by omega))
          rw [oFs (rwM (k := 0) (List.getElem?_eq_getElem (show 0 < v.2.2.2.length by omega))) (n3_3 q) (by omega) (by decide), if_neg (by omega), if_pos hx]
          exact ⟨fun _ => by omega, fun _ => by decide⟩
      · rw [if_neg h2]
        split
        · exact ⟨fun _ => by omega, fun _ => by decide⟩
        · exact ⟨fun z => absurd (by decide) z, fun z => by omega⟩
    · rw [if_neg h1]
      split
      · exact ⟨fun _ => by omega, fun _ => by decide⟩
      · exact ⟨fun z => absurd (by decide) z, fun z => by omega⟩
  · rw [if_neg h0]
    split
    · exact ⟨fun _ => by omega, fun _ => by decide⟩
    · exact ⟨fun z => absurd (by decide) z, fun z => by omega⟩
theorem mv0 {g : kG} {μ : km_M} {a na ka : Nat} {NN : Nat → Nat} {M : Nat → Option Nat} {sa sv : Nat → Nat} {F : Nat → Nat → Nat} {v : kVer} (h : kMV g μ a na ka NN M sa sv F v) : ∀ xs, v.2.2.2[0]? = some xs → mV xs < 9223372036854775807 := by
  intro xs hx
  have z := mV_lt (h.2.2.2.2.2.2.2.2.2.2 0 xs hx).2.2.2.2.2
  rw [(h.2.2.2.2.2.2.2.2.2.2 0 xs hx).2.2.2.2.1] at z
  exact z
theorem mvN {g : kG} {μ : km_M} {a na ka : Nat} {NN : Nat → Nat} {M : Nat → Option Nat} {sa sv : Nat → Nat} {F : Nat → Nat → Nat} {v : kVer} (h : kMV g μ a na ka NN M sa sv F v) : ∀ k, k < 3 → NN k < 1000000000 := by
  intro k hk
  obtain ⟨-, -, e0, e1, e2, b0, b1, b2, -⟩ := h
  rcases (show k = 0 ∨ k = 1 ∨ k = 2 by omega) with rfl | rfl | rfl <;> omega
