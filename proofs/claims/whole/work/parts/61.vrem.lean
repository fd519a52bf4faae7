-- what is left of a version's text, number by number
def vFin (B : Nat → Nat) (z x y w a : Nat) : Option kVer := if a = z then some (x, y, w, []) else (vDot B a z 45).bind fun a1 => (vPre B z 4 a1).map fun ms => (x, y, w, ms)
def vR2 (B : Nat → Nat) (z x y a : Nat) : Option kVer := (vNum B a z).bind fun w => vFin B z x y w.1 w.2
def vR1 (B : Nat → Nat) (z x a : Nat) : Option kVer := (vNum B a z).bind fun y => (vDot B y.2 z 46).bind fun a2 => vR2 B z x y.1 a2
def vR0 (B : Nat → Nat) (z a : Nat) : Option kVer := (vNum B a z).bind fun x => (vDot B x.2 z 46).bind fun a1 => vR1 B z x.1 a1
def vRem (B : Nat → Nat) (z k : Nat) (N : Nat → Nat) (a : Nat) : Option kVer := if k = 0 then vR0 B z a else if k = 1 then vR1 B z (N 0) a else vR2 B z (N 0) (N 1) a
theorem vVer_R0 (B : Nat → Nat) (a z : Nat) : vVer B a z = vR0 B z a := by
  unfold vVer vThree vR0 vR1 vR2 vFin
  simp only [Option.bind_assoc, Option.bind_some]
theorem vRem_no {B : Nat → Nat} {z k a : Nat} {N : Nat → Nat} (h : vNum B a z = none) : vRem B z k N a = none := by
  unfold vRem vR0 vR1 vR2
  rw [h]
  simp only [Option.bind_none, ite_self]
theorem vRem_dot {B : Nat → Nat} {z k a x q q1 : Nat} {N : Nat → Nat} (hk : k < 2) (h : vNum B a z = some (x, q)) (hd : vDot B q z 46 = some q1) : vRem B z k N a = vRem B z (k + 1) (va_up N k x) q1 := by
  rcases (show k = 0 ∨ k = 1 by omega) with rfl | rfl
  · show vR0 B z a = vR1 B z (va_up N 0 x 0) q1
    unfold vR0
    rw [h, Option.bind_some]
    show (vDot B q z 46).bind _ = _
    rw [hd, Option.bind_some]
    rfl
  · show vR1 B z (N 0) a = vR2 B z (va_up N 1 x 0) (va_up N 1 x 1) q1
    unfold vR1
    rw [h, Option.bind_some]
    show (vDot B q z 46).bind _ = _
    rw [hd, Option.bind_some]
    rfl
theorem vRem_nodot {B : Nat → Nat} {z k a x q : Nat} {N : Nat → Nat} (hk : k < 2) (h : vNum B a z = some (x, q)) (hd : vDot B q z 46 = none) : vRem B z k N a = none := by
  rcases (show k = 0 ∨ k = 1 by omega) with rfl | rfl
  · show vR0 B z a = none
    unfold vR0
    rw [h, Option.bind_some]
    show (vDot B q z 46).bind _ = _
    rw [hd, Option.bind_none]
  · show vR1 B z (N 0) a = none
    unfold vR1
    rw [h, Option.bind_some]
    show (vDot B q z 46).bind _ = _
    rw [hd, Option.bind_none]
theorem vRem_fin {B : Nat → Nat} {z a x q : Nat} {N : Nat → Nat} (h : vNum B a z = some (x, q)) : vRem B z 2 N a = vFin B z (N 0) (N 1) x q := by
  show vR2 B z (N 0) (N 1) a = _
  unfold vR2
  rw [h, Option.bind_some]
theorem nRm_nR {xs : List Nat} (h : xs.all dD = true) : nRm 9 xs = nR xs := by
  unfold nRm nR
  simp only [h, true_and]
theorem nD_all {B : Nat → Nat} {a n : Nat} : (sg B a (nD B a n)).all dD = true := List.all_eq_true.mpr fun x hx => decide_eq_true (nD_dig x hx)
/-- the answer of number on the digits at a place -/
theorem nRm_num (B : Nat → Nat) (a n : Nat) : nRm 9 (sg B a (nD B a n)) = nR (sg B a (nD B a n)) := nRm_nR nD_all
