theorem mN_k1 {m : vM} {a k n : Nat} : mk (mN m a k n) a = k := by simp [mk, mN]
theorem mN_k2 {m : vM} {a k n x k' : Nat} (h : x < a) (g : mk m x = k') : mk (mN m a k n) x = k' := by
  have : x ≠ a := Nat.ne_of_lt h
  simpa [mk, mN, this] using g
/-- what an allocating call leaves: more ids, the old ones where they were -/
abbrev vX (D : va_G) (A : Nat → Prop) (tc : Nat → ClassId) (ad : Nat → Nat) (N N' : Nat) (m : vM) (t : State) : Prop := ∃ ad' : Nat → Nat, (∀ k, k < N → ad' k = ad k) ∧ N ≤ N' ∧ vOK N' m ∧ pB D A (vW tc ad' N' m) (vT tc) t
abbrev vXr (D : va_G) (A : Nat → Prop) (tc : Nat → ClassId) (ad : Nat → Nat) (N r N' : Nat) (m : vM) (ra : Nat) (t : State) : Prop := ∃ ad' : Nat → Nat, (∀ k, k < N → ad' k = ad k) ∧ N ≤ N' ∧ vOK N' m ∧ va_P D vwCl (vW tc ad' N' m) t.heap ∧ va_K D vwCl (vT tc) t ∧ va_D A (vW tc ad' N' m) ∧ ra = ad' r ∧ r < N'
abbrev vXq (D : va_G) (A : Nat → Prop) (tc : Nat → ClassId) (ad : Nat → Nat) (N : Nat) (r : Option Nat) (N' : Nat) (m : vM) (ad' : Nat → Nat) (t : State) : Prop := (∀ k, k < N → ad' k = ad k) ∧ N ≤ N' ∧ vOK N' m ∧ va_P D vwCl (vW tc ad' N' m) t.heap ∧ va_K D vwCl (vT tc) t ∧ va_D A (vW tc ad' N' m) ∧ ∀ i, r = some i → i < N'
