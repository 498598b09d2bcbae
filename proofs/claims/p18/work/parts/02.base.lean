/-! the memory by logical ids: kinds (0 to 5 objects of X0 to X5, 6 int[], 7 Door[], 8 int[][], 9 the law's Door[]), lengths, numbers, references -/
abbrev vM : Type := (Nat → Nat) × (Nat → Nat) × (Nat → Nat → Int32) × (Nat → Nat → Option Nat)
abbrev mk (m : vM) (a : Nat) : Nat := m.1 a
abbrev ml (m : vM) (a : Nat) : Nat := m.2.1 a
abbrev mi (m : vM) (a j : Nat) : Int32 := m.2.2.1 a j
abbrev mr (m : vM) (a j : Nat) : Option Nat := m.2.2.2 a j
def mI (m : vM) (a j : Nat) (v : Int32) : vM := (m.1, m.2.1, fun x y => if x = a ∧ y = j then v else m.2.2.1 x y, m.2.2.2)
def mR (m : vM) (a j : Nat) (r : Option Nat) : vM := (m.1, m.2.1, m.2.2.1, fun x y => if x = a ∧ y = j then r else m.2.2.2 x y)
def mN (m : vM) (a k n : Nat) : vM := (fun x => if x = a then k else m.1 x, fun x => if x = a then n else m.2.1 x, fun x y => if x = a then 0 else m.2.2.1 x y, fun x y => if x = a then none else m.2.2.2 x y)
def mC (m : vM) (a b sp dp n : Nat) : vM := (m.1, m.2.1, fun x y => if x = b then va_cpy (m.2.2.1 a) (m.2.2.1 b) sp dp n y else m.2.2.1 x y, m.2.2.2)
/-- every reference is an id below N -/
def vOK (N : Nat) (m : vM) : Prop := ∀ a j i : Nat, mr m a j = some i → i < N
theorem vOK.I {N : Nat} {m : vM} {a j : Nat} {v : Int32} (h : vOK N m) : vOK N (mI m a j v) := h
theorem vOK.C {N : Nat} {m : vM} {a b sp dp n : Nat} (h : vOK N m) : vOK N (mC m a b sp dp n) := h
theorem vOK.R {N : Nat} {m : vM} {a j i : Nat} (h : vOK N m) (hi : i < N) : vOK N (mR m a j (some i)) := by
  intro x y z hz
  have hz : (if x = a ∧ y = j then some i else m.2.2.2 x y) = some z := hz
  split at hz
  · cases hz; exact hi
  · exact h x y z hz
theorem vOK.R0 {N : Nat} {m : vM} {a j : Nat} (h : vOK N m) : vOK N (mR m a j none) := by
  intro x y z hz
  have hz : (if x = a ∧ y = j then none else m.2.2.2 x y) = some z := hz
  split at hz
  · cases hz
  · exact h x y z hz
theorem vOK.N {N : Nat} {m : vM} {k n : Nat} (h : vOK N m) : vOK (N + 1) (mN m N k n) := by
  intro x y z hz
  have hz : (if x = N then none else m.2.2.2 x y) = some z := hz
  split at hz
  · cases hz
  · exact Nat.lt_succ_of_lt (h x y z hz)
/-- a place in a row -/
abbrev vin (i : Int32) (n : Nat) : Prop := ¬ (i < 0 ∨ n ≤ i.toNatClampNeg)
def vE (tc : Nat → ClassId) (ad : Nat → Nat) (m : vM) (a : Nat) : va_E :=
  if mk m a = 0 then .inr (0, [.int (mi m a 0), .int (mi m a 1), .int (mi m a 2), .int (mi m a 3), .int (mi m a 4), .int (mi m a 5), .int (mi m a 6), .int (mi m a 7), va_rf ((mr m a 8).map ad), va_rf ((mr m a 9).map ad), va_rf ((mr m a 10).map ad), .int (mi m a 11), va_rf ((mr m a 12).map ad), va_rf ((mr m a 13).map ad)])
  else if mk m a = 1 then .inr (1, [.int (mi m a 0), .int (mi m a 1), va_rf ((mr m a 2).map ad), va_rf ((mr m a 3).map ad), va_rf ((mr m a 4).map ad)])
  else if mk m a = 2 then .inr (2, [.int (mi m a 0), .int (mi m a 1), va_rf ((mr m a 2).map ad), va_rf ((mr m a 3).map ad), va_rf ((mr m a 4).map ad), va_rf ((mr m a 5).map ad), va_rf ((mr m a 6).map ad)])
  else if mk m a = 3 then .inr (3, [va_rf ((mr m a 0).map ad), va_rf ((mr m a 1).map ad)])
  else if mk m a = 4 then .inr (4, [.int (mi m a 0), .int (mi m a 1), .int (mi m a 2), .int (mi m a 3), .int (mi m a 4), va_rf ((mr m a 5).map ad), va_rf ((mr m a 6).map ad), .int (mi m a 7), .int (mi m a 8)])
  else if mk m a = 5 then .inr (5, [va_rf ((mr m a 0).map ad), va_rf ((mr m a 1).map ad), .int (mi m a 2), .int (mi m a 3)])
  else if mk m a = 7 then .inl (tc 1, ml m a, .inr (.inr (.inr (.inr (fun j => (mr m a j).map ad)))))
  else if mk m a = 8 then .inl (tc 2, ml m a, .inr (.inr (.inr (.inr (fun j => (mr m a j).map ad)))))
  else if mk m a = 9 then .inl (tc 3, ml m a, .inr (.inr (.inr (.inr (fun j => (mr m a j).map ad)))))
  else .inl (tc 0, ml m a, .inl (fun j => mi m a j))
def vW (tc : Nat → ClassId) (ad : Nat → Nat) (N : Nat) (m : vM) : va_W := (List.range N).map (fun k => (ad k, vE tc ad m k))
abbrev vT (tc : Nat → ClassId) : List (ClassId × FieldType) := [(tc 0, .int), (tc 1, .object RX0), (tc 2, .array .int), (tc 3, .object RX4)]
section
variable {tc : Nat → ClassId} {ad : Nat → Nat} {N : Nat} {m : vM} {a : Nat}
theorem vW_at (h : a < N) : (vW tc ad N m)[a]? = some (ad a, vE tc ad m a) := by
  simp [vW, h]
theorem vW_len : (vW tc ad N m).length = N := by simp [vW]
theorem vW_set {m' : vM} {e : va_E} (h : a < N) (he : vE tc ad m' a = e) (ho : ∀ k, k ≠ a → vE tc ad m' k = vE tc ad m k) : (vW tc ad N m).set a (ad a, e) = vW tc ad N m' := by
  apply List.ext_getElem?
  intro k
  by_cases hk : k = a
  · subst hk
    rw [List.getElem?_set_self (by rw [vW_len]; exact h), vW_at h, he]
  · rw [List.getElem?_set_ne (Ne.symm hk)]
    by_cases hn : k < N
    · rw [vW_at hn, vW_at hn, ho k hk]
    · rw [List.getElem?_eq_none (by rw [vW_len]; omega), List.getElem?_eq_none (by rw [vW_len]; omega)]
theorem vE_ne {tc : Nat → ClassId} {ad : Nat → Nat} {m m' : vM} {k : Nat} (h1 : m'.1 k = m.1 k) (h2 : m'.2.1 k = m.2.1 k) (h3 : m'.2.2.1 k = m.2.2.1 k) (h4 : m'.2.2.2 k = m.2.2.2 k) : vE tc ad m' k = vE tc ad m k := by
  simp only [vE, mk, ml, mi, mr, h1, h2, h3, h4]
theorem vE_mI {j k : Nat} {v : Int32} (h : k ≠ a) : vE tc ad (mI m a j v) k = vE tc ad m k := vE_ne rfl rfl (by funext y; simp [mI, h]) rfl
theorem vE_mR {j k : Nat} {r : Option Nat} (h : k ≠ a) : vE tc ad (mR m a j r) k = vE tc ad m k := vE_ne rfl rfl rfl (by funext y; simp [mR, h])
theorem vE_mC {b sp dp n k : Nat} (h : k ≠ b) : vE tc ad (mC m a b sp dp n) k = vE tc ad m k := vE_ne rfl rfl (by funext y; simp [mC, h]) rfl
theorem vW_push {q k n : Nat} {e : va_E} (hO : vOK N m) (he : vE tc (va_up ad N q) (mN m N k n) N = e) : vW tc ad N m ++ [(q, e)] = vW tc (va_up ad N q) (N + 1) (mN m N k n) := by
  have hx : ∀ x, x < N → vE tc (va_up ad N q) (mN m N k n) x = vE tc ad m x := by
    intro x hxN
    have hne : x ≠ N := Nat.ne_of_lt hxN
    have h0 : vE tc (va_up ad N q) (mN m N k n) x = vE tc (va_up ad N q) m x := vE_ne (by simp [mN, hne]) (by simp [mN, hne]) (by funext y; simp [mN, hne]) (by funext y; simp [mN, hne])
    rw [h0]
    have h1 : ∀ j, (mr m x j).map (va_up ad N q) = (mr m x j).map ad := by
      intro j
      cases h9 : mr m x j with
      | none => rfl
      | some i =>
        have := hO x j i h9
        simp [va_up, Nat.ne_of_lt this]
    simp only [vE, h1]
  unfold vW
  rw [List.range_succ, List.map_append]
  have hN : va_up ad N q N = q := by simp [va_up]
  congr 1
  · apply List.map_congr_left
    intro x hxm
    have hxN : x < N := List.mem_range.mp hxm
    rw [hx x hxN]
    simp [va_up, Nat.ne_of_lt hxN]
  · simp [hN, he]

theorem vE_k0 (h : mk m a = 0) : vE tc ad m a = .inr (0, [.int (mi m a 0), .int (mi m a 1), .int (mi m a 2), .int (mi m a 3), .int (mi m a 4), .int (mi m a 5), .int (mi m a 6), .int (mi m a 7), va_rf ((mr m a 8).map ad), va_rf ((mr m a 9).map ad), va_rf ((mr m a 10).map ad), .int (mi m a 11), va_rf ((mr m a 12).map ad), va_rf ((mr m a 13).map ad)]) := by simp [vE, h]
theorem vW_k0 (hN : a < N) (h : mk m a = 0) : (vW tc ad N m)[a]? = some (ad a, .inr (0, [.int (mi m a 0), .int (mi m a 1), .int (mi m a 2), .int (mi m a 3), .int (mi m a 4), .int (mi m a 5), .int (mi m a 6), .int (mi m a 7), va_rf ((mr m a 8).map ad), va_rf ((mr m a 9).map ad), va_rf ((mr m a 10).map ad), .int (mi m a 11), va_rf ((mr m a 12).map ad), va_rf ((mr m a 13).map ad)])) := by rw [vW_at hN, vE_k0 h]
theorem vW_p0_0 {v : Int32} (hN : a < N) (h : mk m a = 0) : (vW tc ad N m).set a (ad a, .inr (0, [.int (mi m a 0), .int (mi m a 1), .int (mi m a 2), .int (mi m a 3), .int (mi m a 4), .int (mi m a 5), .int (mi m a 6), .int (mi m a 7), va_rf ((mr m a 8).map ad), va_rf ((mr m a 9).map ad), va_rf ((mr m a 10).map ad), .int (mi m a 11), va_rf ((mr m a 12).map ad), va_rf ((mr m a 13).map ad)].set 0 (.int v))) = vW tc ad N (mI m a 0 v) := vW_set hN (by rw [vE_k0 (m := mI m a 0 v) h]; simp [mI, mi, mr]) (fun _ hk => vE_mI hk)
theorem vW_p0_1 {v : Int32} (hN : a < N) (h : mk m a = 0) : (vW tc ad N m).set a (ad a, .inr (0, [.int (mi m a 0), .int (mi m a 1), .int (mi m a 2), .int (mi m a 3), .int (mi m a 4), .int (mi m a 5), .int (mi m a 6), .int (mi m a 7), va_rf ((mr m a 8).map ad), va_rf ((mr m a 9).map ad), va_rf ((mr m a 10).map ad), .int (mi m a 11), va_rf ((mr m a 12).map ad), va_rf ((mr m a 13).map ad)].set 1 (.int v))) = vW tc ad N (mI m a 1 v) := vW_set hN (by rw [vE_k0 (m := mI m a 1 v) h]; simp [mI, mi, mr]) (fun _ hk => vE_mI hk)
theorem vW_p0_2 {v : Int32} (hN : a < N) (h : mk m a = 0) : (vW tc ad N m).set a (ad a, .inr (0, [.int (mi m a 0), .int (mi m a 1), .int (mi m a 2), .int (mi m a 3), .int (mi m a 4), .int (mi m a 5), .int (mi m a 6), .int (mi m a 7), va_rf ((mr m a 8).map ad), va_rf ((mr m a 9).map ad), va_rf ((mr m a 10).map ad), .int (mi m a 11), va_rf ((mr m a 12).map ad), va_rf ((mr m a 13).map ad)].set 2 (.int v))) = vW tc ad N (mI m a 2 v) := vW_set hN (by rw [vE_k0 (m := mI m a 2 v) h]; simp [mI, mi, mr]) (fun _ hk => vE_mI hk)
theorem vW_p0_3 {v : Int32} (hN : a < N) (h : mk m a = 0) : (vW tc ad N m).set a (ad a, .inr (0, [.int (mi m a 0), .int (mi m a 1), .int (mi m a 2), .int (mi m a 3), .int (mi m a 4), .int (mi m a 5), .int (mi m a 6), .int (mi m a 7), va_rf ((mr m a 8).map ad), va_rf ((mr m a 9).map ad), va_rf ((mr m a 10).map ad), .int (mi m a 11), va_rf ((mr m a 12).map ad), va_rf ((mr m a 13).map ad)].set 3 (.int v))) = vW tc ad N (mI m a 3 v) := vW_set hN (by rw [vE_k0 (m := mI m a 3 v) h]; simp [mI, mi, mr]) (fun _ hk => vE_mI hk)
theorem vW_p0_4 {v : Int32} (hN : a < N) (h : mk m a = 0) : (vW tc ad N m).set a (ad a, .inr (0, [.int (mi m a 0), .int (mi m a 1), .int (mi m a 2), .int (mi m a 3), .int (mi m a 4), .int (mi m a 5), .int (mi m a 6), .int (mi m a 7), va_rf ((mr m a 8).map ad), va_rf ((mr m a 9).map ad), va_rf ((mr m a 10).map ad), .int (mi m a 11), va_rf ((mr m a 12).map ad), va_rf ((mr m a 13).map ad)].set 4 (.int v))) = vW tc ad N (mI m a 4 v) := vW_set hN (by rw [vE_k0 (m := mI m a 4 v) h]; simp [mI, mi, mr]) (fun _ hk => vE_mI hk)
theorem vW_p0_5 {v : Int32} (hN : a < N) (h : mk m a = 0) : (vW tc ad N m).set a (ad a, .inr (0, [.int (mi m a 0), .int (mi m a 1), .int (mi m a 2), .int (mi m a 3), .int (mi m a 4), .int (mi m a 5), .int (mi m a 6), .int (mi m a 7), va_rf ((mr m a 8).map ad), va_rf ((mr m a 9).map ad), va_rf ((mr m a 10).map ad), .int (mi m a 11), va_rf ((mr m a 12).map ad), va_rf ((mr m a 13).map ad)].set 5 (.int v))) = vW tc ad N (mI m a 5 v) := vW_set hN (by rw [vE_k0 (m := mI m a 5 v) h]; simp [mI, mi, mr]) (fun _ hk => vE_mI hk)
theorem vW_p0_6 {v : Int32} (hN : a < N) (h : mk m a = 0) : (vW tc ad N m).set a (ad a, .inr (0, [.int (mi m a 0), .int (mi m a 1), .int (mi m a 2), .int (mi m a 3), .int (mi m a 4), .int (mi m a 5), .int (mi m a 6), .int (mi m a 7), va_rf ((mr m a 8).map ad), va_rf ((mr m a 9).map ad), va_rf ((mr m a 10).map ad), .int (mi m a 11), va_rf ((mr m a 12).map ad), va_rf ((mr m a 13).map ad)].set 6 (.int v))) = vW tc ad N (mI m a 6 v) := vW_set hN (by rw [vE_k0 (m := mI m a 6 v) h]; simp [mI, mi, mr]) (fun _ hk => vE_mI hk)
theorem vW_p0_7 {v : Int32} (hN : a < N) (h : mk m a = 0) : (vW tc ad N m).set a (ad a, .inr (0, [.int (mi m a 0), .int (mi m a 1), .int (mi m a 2), .int (mi m a 3), .int (mi m a 4), .int (mi m a 5), .int (mi m a 6), .int (mi m a 7), va_rf ((mr m a 8).map ad), va_rf ((mr m a 9).map ad), va_rf ((mr m a 10).map ad), .int (mi m a 11), va_rf ((mr m a 12).map ad), va_rf ((mr m a 13).map ad)].set 7 (.int v))) = vW tc ad N (mI m a 7 v) := vW_set hN (by rw [vE_k0 (m := mI m a 7 v) h]; simp [mI, mi, mr]) (fun _ hk => vE_mI hk)
theorem vW_p0_8 {v : Nat} (hN : a < N) (h : mk m a = 0) : (vW tc ad N m).set a (ad a, .inr (0, [.int (mi m a 0), .int (mi m a 1), .int (mi m a 2), .int (mi m a 3), .int (mi m a 4), .int (mi m a 5), .int (mi m a 6), .int (mi m a 7), va_rf ((mr m a 8).map ad), va_rf ((mr m a 9).map ad), va_rf ((mr m a 10).map ad), .int (mi m a 11), va_rf ((mr m a 12).map ad), va_rf ((mr m a 13).map ad)].set 8 (.ref (ad v)))) = vW tc ad N (mR m a 8 (some v)) := vW_set hN (by rw [vE_k0 (m := mR m a 8 (some v)) h]; simp [mR, va_rf, mi, mr]) (fun _ hk => vE_mR hk)
theorem vW_p0_9 {v : Nat} (hN : a < N) (h : mk m a = 0) : (vW tc ad N m).set a (ad a, .inr (0, [.int (mi m a 0), .int (mi m a 1), .int (mi m a 2), .int (mi m a 3), .int (mi m a 4), .int (mi m a 5), .int (mi m a 6), .int (mi m a 7), va_rf ((mr m a 8).map ad), va_rf ((mr m a 9).map ad), va_rf ((mr m a 10).map ad), .int (mi m a 11), va_rf ((mr m a 12).map ad), va_rf ((mr m a 13).map ad)].set 9 (.ref (ad v)))) = vW tc ad N (mR m a 9 (some v)) := vW_set hN (by rw [vE_k0 (m := mR m a 9 (some v)) h]; simp [mR, va_rf, mi, mr]) (fun _ hk => vE_mR hk)
theorem vW_p0_10 {v : Nat} (hN : a < N) (h : mk m a = 0) : (vW tc ad N m).set a (ad a, .inr (0, [.int (mi m a 0), .int (mi m a 1), .int (mi m a 2), .int (mi m a 3), .int (mi m a 4), .int (mi m a 5), .int (mi m a 6), .int (mi m a 7), va_rf ((mr m a 8).map ad), va_rf ((mr m a 9).map ad), va_rf ((mr m a 10).map ad), .int (mi m a 11), va_rf ((mr m a 12).map ad), va_rf ((mr m a 13).map ad)].set 10 (.ref (ad v)))) = vW tc ad N (mR m a 10 (some v)) := vW_set hN (by rw [vE_k0 (m := mR m a 10 (some v)) h]; simp [mR, va_rf, mi, mr]) (fun _ hk => vE_mR hk)
theorem vW_p0_11 {v : Int32} (hN : a < N) (h : mk m a = 0) : (vW tc ad N m).set a (ad a, .inr (0, [.int (mi m a 0), .int (mi m a 1), .int (mi m a 2), .int (mi m a 3), .int (mi m a 4), .int (mi m a 5), .int (mi m a 6), .int (mi m a 7), va_rf ((mr m a 8).map ad), va_rf ((mr m a 9).map ad), va_rf ((mr m a 10).map ad), .int (mi m a 11), va_rf ((mr m a 12).map ad), va_rf ((mr m a 13).map ad)].set 11 (.int v))) = vW tc ad N (mI m a 11 v) := vW_set hN (by rw [vE_k0 (m := mI m a 11 v) h]; simp [mI, mi, mr]) (fun _ hk => vE_mI hk)
theorem vW_p0_12 {v : Nat} (hN : a < N) (h : mk m a = 0) : (vW tc ad N m).set a (ad a, .inr (0, [.int (mi m a 0), .int (mi m a 1), .int (mi m a 2), .int (mi m a 3), .int (mi m a 4), .int (mi m a 5), .int (mi m a 6), .int (mi m a 7), va_rf ((mr m a 8).map ad), va_rf ((mr m a 9).map ad), va_rf ((mr m a 10).map ad), .int (mi m a 11), va_rf ((mr m a 12).map ad), va_rf ((mr m a 13).map ad)].set 12 (.ref (ad v)))) = vW tc ad N (mR m a 12 (some v)) := vW_set hN (by rw [vE_k0 (m := mR m a 12 (some v)) h]; simp [mR, va_rf, mi, mr]) (fun _ hk => vE_mR hk)
theorem vW_p0_13 {v : Nat} (hN : a < N) (h : mk m a = 0) : (vW tc ad N m).set a (ad a, .inr (0, [.int (mi m a 0), .int (mi m a 1), .int (mi m a 2), .int (mi m a 3), .int (mi m a 4), .int (mi m a 5), .int (mi m a 6), .int (mi m a 7), va_rf ((mr m a 8).map ad), va_rf ((mr m a 9).map ad), va_rf ((mr m a 10).map ad), .int (mi m a 11), va_rf ((mr m a 12).map ad), va_rf ((mr m a 13).map ad)].set 13 (.ref (ad v)))) = vW tc ad N (mR m a 13 (some v)) := vW_set hN (by rw [vE_k0 (m := mR m a 13 (some v)) h]; simp [mR, va_rf, mi, mr]) (fun _ hk => vE_mR hk)
theorem vW_n0 {q : Nat} (hO : vOK N m) : vW tc ad N m ++ [(q, .inr (0, [.int 0, .int 0, .int 0, .int 0, .int 0, .int 0, .int 0, .int 0, .null, .null, .null, .int 0, .null, .null]))] = vW tc (va_up ad N q) (N + 1) (mN m N 0 0) := vW_push hO (by rw [vE_k0 (m := mN m N 0 0) (by simp [mN, mk])]; simp [mN, va_rf, mi, mr])
theorem vE_k1 (h : mk m a = 1) : vE tc ad m a = .inr (1, [.int (mi m a 0), .int (mi m a 1), va_rf ((mr m a 2).map ad), va_rf ((mr m a 3).map ad), va_rf ((mr m a 4).map ad)]) := by simp [vE, h]
theorem vW_k1 (hN : a < N) (h : mk m a = 1) : (vW tc ad N m)[a]? = some (ad a, .inr (1, [.int (mi m a 0), .int (mi m a 1), va_rf ((mr m a 2).map ad), va_rf ((mr m a 3).map ad), va_rf ((mr m a 4).map ad)])) := by rw [vW_at hN, vE_k1 h]
theorem vW_p1_0 {v : Int32} (hN : a < N) (h : mk m a = 1) : (vW tc ad N m).set a (ad a, .inr (1, [.int (mi m a 0), .int (mi m a 1), va_rf ((mr m a 2).map ad), va_rf ((mr m a 3).map ad), va_rf ((mr m a 4).map ad)].set 0 (.int v))) = vW tc ad N (mI m a 0 v) := vW_set hN (by rw [vE_k1 (m := mI m a 0 v) h]; simp [mI, mi, mr]) (fun _ hk => vE_mI hk)
theorem vW_p1_1 {v : Int32} (hN : a < N) (h : mk m a = 1) : (vW tc ad N m).set a (ad a, .inr (1, [.int (mi m a 0), .int (mi m a 1), va_rf ((mr m a 2).map ad), va_rf ((mr m a 3).map ad), va_rf ((mr m a 4).map ad)].set 1 (.int v))) = vW tc ad N (mI m a 1 v) := vW_set hN (by rw [vE_k1 (m := mI m a 1 v) h]; simp [mI, mi, mr]) (fun _ hk => vE_mI hk)
theorem vW_p1_2 {v : Nat} (hN : a < N) (h : mk m a = 1) : (vW tc ad N m).set a (ad a, .inr (1, [.int (mi m a 0), .int (mi m a 1), va_rf ((mr m a 2).map ad), va_rf ((mr m a 3).map ad), va_rf ((mr m a 4).map ad)].set 2 (.ref (ad v)))) = vW tc ad N (mR m a 2 (some v)) := vW_set hN (by rw [vE_k1 (m := mR m a 2 (some v)) h]; simp [mR, va_rf, mi, mr]) (fun _ hk => vE_mR hk)
theorem vW_p1_3 {v : Nat} (hN : a < N) (h : mk m a = 1) : (vW tc ad N m).set a (ad a, .inr (1, [.int (mi m a 0), .int (mi m a 1), va_rf ((mr m a 2).map ad), va_rf ((mr m a 3).map ad), va_rf ((mr m a 4).map ad)].set 3 (.ref (ad v)))) = vW tc ad N (mR m a 3 (some v)) := vW_set hN (by rw [vE_k1 (m := mR m a 3 (some v)) h]; simp [mR, va_rf, mi, mr]) (fun _ hk => vE_mR hk)
theorem vW_p1_4 {v : Nat} (hN : a < N) (h : mk m a = 1) : (vW tc ad N m).set a (ad a, .inr (1, [.int (mi m a 0), .int (mi m a 1), va_rf ((mr m a 2).map ad), va_rf ((mr m a 3).map ad), va_rf ((mr m a 4).map ad)].set 4 (.ref (ad v)))) = vW tc ad N (mR m a 4 (some v)) := vW_set hN (by rw [vE_k1 (m := mR m a 4 (some v)) h]; simp [mR, va_rf, mi, mr]) (fun _ hk => vE_mR hk)
theorem vW_n1 {q : Nat} (hO : vOK N m) : vW tc ad N m ++ [(q, .inr (1, [.int 0, .int 0, .null, .null, .null]))] = vW tc (va_up ad N q) (N + 1) (mN m N 1 0) := vW_push hO (by rw [vE_k1 (m := mN m N 1 0) (by simp [mN, mk])]; simp [mN, va_rf, mi, mr])
theorem vE_k2 (h : mk m a = 2) : vE tc ad m a = .inr (2, [.int (mi m a 0), .int (mi m a 1), va_rf ((mr m a 2).map ad), va_rf ((mr m a 3).map ad), va_rf ((mr m a 4).map ad), va_rf ((mr m a 5).map ad), va_rf ((mr m a 6).map ad)]) := by simp [vE, h]
theorem vW_k2 (hN : a < N) (h : mk m a = 2) : (vW tc ad N m)[a]? = some (ad a, .inr (2, [.int (mi m a 0), .int (mi m a 1), va_rf ((mr m a 2).map ad), va_rf ((mr m a 3).map ad), va_rf ((mr m a 4).map ad), va_rf ((mr m a 5).map ad), va_rf ((mr m a 6).map ad)])) := by rw [vW_at hN, vE_k2 h]
theorem vW_p2_0 {v : Int32} (hN : a < N) (h : mk m a = 2) : (vW tc ad N m).set a (ad a, .inr (2, [.int (mi m a 0), .int (mi m a 1), va_rf ((mr m a 2).map ad), va_rf ((mr m a 3).map ad), va_rf ((mr m a 4).map ad), va_rf ((mr m a 5).map ad), va_rf ((mr m a 6).map ad)].set 0 (.int v))) = vW tc ad N (mI m a 0 v) := vW_set hN (by rw [vE_k2 (m := mI m a 0 v) h]; simp [mI, mi, mr]) (fun _ hk => vE_mI hk)
theorem vW_p2_1 {v : Int32} (hN : a < N) (h : mk m a = 2) : (vW tc ad N m).set a (ad a, .inr (2, [.int (mi m a 0), .int (mi m a 1), va_rf ((mr m a 2).map ad), va_rf ((mr m a 3).map ad), va_rf ((mr m a 4).map ad), va_rf ((mr m a 5).map ad), va_rf ((mr m a 6).map ad)].set 1 (.int v))) = vW tc ad N (mI m a 1 v) := vW_set hN (by rw [vE_k2 (m := mI m a 1 v) h]; simp [mI, mi, mr]) (fun _ hk => vE_mI hk)
theorem vW_p2_2 {v : Nat} (hN : a < N) (h : mk m a = 2) : (vW tc ad N m).set a (ad a, .inr (2, [.int (mi m a 0), .int (mi m a 1), va_rf ((mr m a 2).map ad), va_rf ((mr m a 3).map ad), va_rf ((mr m a 4).map ad), va_rf ((mr m a 5).map ad), va_rf ((mr m a 6).map ad)].set 2 (.ref (ad v)))) = vW tc ad N (mR m a 2 (some v)) := vW_set hN (by rw [vE_k2 (m := mR m a 2 (some v)) h]; simp [mR, va_rf, mi, mr]) (fun _ hk => vE_mR hk)
theorem vW_p2_3 {v : Nat} (hN : a < N) (h : mk m a = 2) : (vW tc ad N m).set a (ad a, .inr (2, [.int (mi m a 0), .int (mi m a 1), va_rf ((mr m a 2).map ad), va_rf ((mr m a 3).map ad), va_rf ((mr m a 4).map ad), va_rf ((mr m a 5).map ad), va_rf ((mr m a 6).map ad)].set 3 (.ref (ad v)))) = vW tc ad N (mR m a 3 (some v)) := vW_set hN (by rw [vE_k2 (m := mR m a 3 (some v)) h]; simp [mR, va_rf, mi, mr]) (fun _ hk => vE_mR hk)
theorem vW_p2_4 {v : Nat} (hN : a < N) (h : mk m a = 2) : (vW tc ad N m).set a (ad a, .inr (2, [.int (mi m a 0), .int (mi m a 1), va_rf ((mr m a 2).map ad), va_rf ((mr m a 3).map ad), va_rf ((mr m a 4).map ad), va_rf ((mr m a 5).map ad), va_rf ((mr m a 6).map ad)].set 4 (.ref (ad v)))) = vW tc ad N (mR m a 4 (some v)) := vW_set hN (by rw [vE_k2 (m := mR m a 4 (some v)) h]; simp [mR, va_rf, mi, mr]) (fun _ hk => vE_mR hk)
theorem vW_p2_5 {v : Nat} (hN : a < N) (h : mk m a = 2) : (vW tc ad N m).set a (ad a, .inr (2, [.int (mi m a 0), .int (mi m a 1), va_rf ((mr m a 2).map ad), va_rf ((mr m a 3).map ad), va_rf ((mr m a 4).map ad), va_rf ((mr m a 5).map ad), va_rf ((mr m a 6).map ad)].set 5 (.ref (ad v)))) = vW tc ad N (mR m a 5 (some v)) := vW_set hN (by rw [vE_k2 (m := mR m a 5 (some v)) h]; simp [mR, va_rf, mi, mr]) (fun _ hk => vE_mR hk)
theorem vW_p2_6 {v : Nat} (hN : a < N) (h : mk m a = 2) : (vW tc ad N m).set a (ad a, .inr (2, [.int (mi m a 0), .int (mi m a 1), va_rf ((mr m a 2).map ad), va_rf ((mr m a 3).map ad), va_rf ((mr m a 4).map ad), va_rf ((mr m a 5).map ad), va_rf ((mr m a 6).map ad)].set 6 (.ref (ad v)))) = vW tc ad N (mR m a 6 (some v)) := vW_set hN (by rw [vE_k2 (m := mR m a 6 (some v)) h]; simp [mR, va_rf, mi, mr]) (fun _ hk => vE_mR hk)
theorem vW_n2 {q : Nat} (hO : vOK N m) : vW tc ad N m ++ [(q, .inr (2, [.int 0, .int 0, .null, .null, .null, .null, .null]))] = vW tc (va_up ad N q) (N + 1) (mN m N 2 0) := vW_push hO (by rw [vE_k2 (m := mN m N 2 0) (by simp [mN, mk])]; simp [mN, va_rf, mi, mr])
theorem vE_k3 (h : mk m a = 3) : vE tc ad m a = .inr (3, [va_rf ((mr m a 0).map ad), va_rf ((mr m a 1).map ad)]) := by simp [vE, h]
theorem vW_k3 (hN : a < N) (h : mk m a = 3) : (vW tc ad N m)[a]? = some (ad a, .inr (3, [va_rf ((mr m a 0).map ad), va_rf ((mr m a 1).map ad)])) := by rw [vW_at hN, vE_k3 h]
theorem vW_p3_0 {v : Nat} (hN : a < N) (h : mk m a = 3) : (vW tc ad N m).set a (ad a, .inr (3, [va_rf ((mr m a 0).map ad), va_rf ((mr m a 1).map ad)].set 0 (.ref (ad v)))) = vW tc ad N (mR m a 0 (some v)) := vW_set hN (by rw [vE_k3 (m := mR m a 0 (some v)) h]; simp [mR, va_rf, mi, mr]) (fun _ hk => vE_mR hk)
theorem vW_p3_1 {v : Nat} (hN : a < N) (h : mk m a = 3) : (vW tc ad N m).set a (ad a, .inr (3, [va_rf ((mr m a 0).map ad), va_rf ((mr m a 1).map ad)].set 1 (.ref (ad v)))) = vW tc ad N (mR m a 1 (some v)) := vW_set hN (by rw [vE_k3 (m := mR m a 1 (some v)) h]; simp [mR, va_rf, mi, mr]) (fun _ hk => vE_mR hk)
theorem vW_n3 {q : Nat} (hO : vOK N m) : vW tc ad N m ++ [(q, .inr (3, [.null, .null]))] = vW tc (va_up ad N q) (N + 1) (mN m N 3 0) := vW_push hO (by rw [vE_k3 (m := mN m N 3 0) (by simp [mN, mk])]; simp [mN, va_rf, mi, mr])
theorem vE_k4 (h : mk m a = 4) : vE tc ad m a = .inr (4, [.int (mi m a 0), .int (mi m a 1), .int (mi m a 2), .int (mi m a 3), .int (mi m a 4), va_rf ((mr m a 5).map ad), va_rf ((mr m a 6).map ad), .int (mi m a 7), .int (mi m a 8)]) := by simp [vE, h]
theorem vW_k4 (hN : a < N) (h : mk m a = 4) : (vW tc ad N m)[a]? = some (ad a, .inr (4, [.int (mi m a 0), .int (mi m a 1), .int (mi m a 2), .int (mi m a 3), .int (mi m a 4), va_rf ((mr m a 5).map ad), va_rf ((mr m a 6).map ad), .int (mi m a 7), .int (mi m a 8)])) := by rw [vW_at hN, vE_k4 h]
theorem vW_p4_0 {v : Int32} (hN : a < N) (h : mk m a = 4) : (vW tc ad N m).set a (ad a, .inr (4, [.int (mi m a 0), .int (mi m a 1), .int (mi m a 2), .int (mi m a 3), .int (mi m a 4), va_rf ((mr m a 5).map ad), va_rf ((mr m a 6).map ad), .int (mi m a 7), .int (mi m a 8)].set 0 (.int v))) = vW tc ad N (mI m a 0 v) := vW_set hN (by rw [vE_k4 (m := mI m a 0 v) h]; simp [mI, mi, mr]) (fun _ hk => vE_mI hk)
theorem vW_p4_1 {v : Int32} (hN : a < N) (h : mk m a = 4) : (vW tc ad N m).set a (ad a, .inr (4, [.int (mi m a 0), .int (mi m a 1), .int (mi m a 2), .int (mi m a 3), .int (mi m a 4), va_rf ((mr m a 5).map ad), va_rf ((mr m a 6).map ad), .int (mi m a 7), .int (mi m a 8)].set 1 (.int v))) = vW tc ad N (mI m a 1 v) := vW_set hN (by rw [vE_k4 (m := mI m a 1 v) h]; simp [mI, mi, mr]) (fun _ hk => vE_mI hk)
theorem vW_p4_2 {v : Int32} (hN : a < N) (h : mk m a = 4) : (vW tc ad N m).set a (ad a, .inr (4, [.int (mi m a 0), .int (mi m a 1), .int (mi m a 2), .int (mi m a 3), .int (mi m a 4), va_rf ((mr m a 5).map ad), va_rf ((mr m a 6).map ad), .int (mi m a 7), .int (mi m a 8)].set 2 (.int v))) = vW tc ad N (mI m a 2 v) := vW_set hN (by rw [vE_k4 (m := mI m a 2 v) h]; simp [mI, mi, mr]) (fun _ hk => vE_mI hk)
theorem vW_p4_3 {v : Int32} (hN : a < N) (h : mk m a = 4) : (vW tc ad N m).set a (ad a, .inr (4, [.int (mi m a 0), .int (mi m a 1), .int (mi m a 2), .int (mi m a 3), .int (mi m a 4), va_rf ((mr m a 5).map ad), va_rf ((mr m a 6).map ad), .int (mi m a 7), .int (mi m a 8)].set 3 (.int v))) = vW tc ad N (mI m a 3 v) := vW_set hN (by rw [vE_k4 (m := mI m a 3 v) h]; simp [mI, mi, mr]) (fun _ hk => vE_mI hk)
theorem vW_p4_4 {v : Int32} (hN : a < N) (h : mk m a = 4) : (vW tc ad N m).set a (ad a, .inr (4, [.int (mi m a 0), .int (mi m a 1), .int (mi m a 2), .int (mi m a 3), .int (mi m a 4), va_rf ((mr m a 5).map ad), va_rf ((mr m a 6).map ad), .int (mi m a 7), .int (mi m a 8)].set 4 (.int v))) = vW tc ad N (mI m a 4 v) := vW_set hN (by rw [vE_k4 (m := mI m a 4 v) h]; simp [mI, mi, mr]) (fun _ hk => vE_mI hk)
theorem vW_p4_5 {v : Nat} (hN : a < N) (h : mk m a = 4) : (vW tc ad N m).set a (ad a, .inr (4, [.int (mi m a 0), .int (mi m a 1), .int (mi m a 2), .int (mi m a 3), .int (mi m a 4), va_rf ((mr m a 5).map ad), va_rf ((mr m a 6).map ad), .int (mi m a 7), .int (mi m a 8)].set 5 (.ref (ad v)))) = vW tc ad N (mR m a 5 (some v)) := vW_set hN (by rw [vE_k4 (m := mR m a 5 (some v)) h]; simp [mR, va_rf, mi, mr]) (fun _ hk => vE_mR hk)
theorem vW_p4_6 {v : Nat} (hN : a < N) (h : mk m a = 4) : (vW tc ad N m).set a (ad a, .inr (4, [.int (mi m a 0), .int (mi m a 1), .int (mi m a 2), .int (mi m a 3), .int (mi m a 4), va_rf ((mr m a 5).map ad), va_rf ((mr m a 6).map ad), .int (mi m a 7), .int (mi m a 8)].set 6 (.ref (ad v)))) = vW tc ad N (mR m a 6 (some v)) := vW_set hN (by rw [vE_k4 (m := mR m a 6 (some v)) h]; simp [mR, va_rf, mi, mr]) (fun _ hk => vE_mR hk)
theorem vW_p4_7 {v : Int32} (hN : a < N) (h : mk m a = 4) : (vW tc ad N m).set a (ad a, .inr (4, [.int (mi m a 0), .int (mi m a 1), .int (mi m a 2), .int (mi m a 3), .int (mi m a 4), va_rf ((mr m a 5).map ad), va_rf ((mr m a 6).map ad), .int (mi m a 7), .int (mi m a 8)].set 7 (.int v))) = vW tc ad N (mI m a 7 v) := vW_set hN (by rw [vE_k4 (m := mI m a 7 v) h]; simp [mI, mi, mr]) (fun _ hk => vE_mI hk)
theorem vW_p4_8 {v : Int32} (hN : a < N) (h : mk m a = 4) : (vW tc ad N m).set a (ad a, .inr (4, [.int (mi m a 0), .int (mi m a 1), .int (mi m a 2), .int (mi m a 3), .int (mi m a 4), va_rf ((mr m a 5).map ad), va_rf ((mr m a 6).map ad), .int (mi m a 7), .int (mi m a 8)].set 8 (.int v))) = vW tc ad N (mI m a 8 v) := vW_set hN (by rw [vE_k4 (m := mI m a 8 v) h]; simp [mI, mi, mr]) (fun _ hk => vE_mI hk)
theorem vW_n4 {q : Nat} (hO : vOK N m) : vW tc ad N m ++ [(q, .inr (4, [.int 0, .int 0, .int 0, .int 0, .int 0, .null, .null, .int 0, .int 0]))] = vW tc (va_up ad N q) (N + 1) (mN m N 4 0) := vW_push hO (by rw [vE_k4 (m := mN m N 4 0) (by simp [mN, mk])]; simp [mN, va_rf, mi, mr])
theorem vE_k5 (h : mk m a = 5) : vE tc ad m a = .inr (5, [va_rf ((mr m a 0).map ad), va_rf ((mr m a 1).map ad), .int (mi m a 2), .int (mi m a 3)]) := by simp [vE, h]
theorem vW_k5 (hN : a < N) (h : mk m a = 5) : (vW tc ad N m)[a]? = some (ad a, .inr (5, [va_rf ((mr m a 0).map ad), va_rf ((mr m a 1).map ad), .int (mi m a 2), .int (mi m a 3)])) := by rw [vW_at hN, vE_k5 h]
theorem vW_p5_0 {v : Nat} (hN : a < N) (h : mk m a = 5) : (vW tc ad N m).set a (ad a, .inr (5, [va_rf ((mr m a 0).map ad), va_rf ((mr m a 1).map ad), .int (mi m a 2), .int (mi m a 3)].set 0 (.ref (ad v)))) = vW tc ad N (mR m a 0 (some v)) := vW_set hN (by rw [vE_k5 (m := mR m a 0 (some v)) h]; simp [mR, va_rf, mi, mr]) (fun _ hk => vE_mR hk)
theorem vW_p5_1 {v : Nat} (hN : a < N) (h : mk m a = 5) : (vW tc ad N m).set a (ad a, .inr (5, [va_rf ((mr m a 0).map ad), va_rf ((mr m a 1).map ad), .int (mi m a 2), .int (mi m a 3)].set 1 (.ref (ad v)))) = vW tc ad N (mR m a 1 (some v)) := vW_set hN (by rw [vE_k5 (m := mR m a 1 (some v)) h]; simp [mR, va_rf, mi, mr]) (fun _ hk => vE_mR hk)
theorem vW_p5_2 {v : Int32} (hN : a < N) (h : mk m a = 5) : (vW tc ad N m).set a (ad a, .inr (5, [va_rf ((mr m a 0).map ad), va_rf ((mr m a 1).map ad), .int (mi m a 2), .int (mi m a 3)].set 2 (.int v))) = vW tc ad N (mI m a 2 v) := vW_set hN (by rw [vE_k5 (m := mI m a 2 v) h]; simp [mI, mi, mr]) (fun _ hk => vE_mI hk)
theorem vW_p5_3 {v : Int32} (hN : a < N) (h : mk m a = 5) : (vW tc ad N m).set a (ad a, .inr (5, [va_rf ((mr m a 0).map ad), va_rf ((mr m a 1).map ad), .int (mi m a 2), .int (mi m a 3)].set 3 (.int v))) = vW tc ad N (mI m a 3 v) := vW_set hN (by rw [vE_k5 (m := mI m a 3 v) h]; simp [mI, mi, mr]) (fun _ hk => vE_mI hk)
theorem vW_n5 {q : Nat} (hO : vOK N m) : vW tc ad N m ++ [(q, .inr (5, [.null, .null, .int 0, .int 0]))] = vW tc (va_up ad N q) (N + 1) (mN m N 5 0) := vW_push hO (by rw [vE_k5 (m := mN m N 5 0) (by simp [mN, mk])]; simp [mN, va_rf, mi, mr])
theorem vE_k6 (h : mk m a = 6) : vE tc ad m a = .inl (tc 0, ml m a, .inl (fun j => mi m a j)) := by simp [vE, h]
theorem vW_k6 (hN : a < N) (h : mk m a = 6) : (vW tc ad N m)[a]? = some (ad a, .inl (tc 0, ml m a, .inl (fun j => mi m a j))) := by rw [vW_at hN, vE_k6 h]
theorem vW_p6 {v : Int32} {j : Nat} (hN : a < N) (h : mk m a = 6) : (vW tc ad N m).set a (ad a, .inl (tc 0, ml m a, .inl (upd (fun j => mi m a j) j v))) = vW tc ad N (mI m a j v) := vW_set hN (by rw [vE_k6 (m := mI m a j v) h]; congr 3; congr 1; funext y; simp [mI, upd, mi]) (fun _ hk => vE_mI hk)
theorem vW_c6 {b sp dp n : Nat} (hN : b < N) (h : mk m b = 6) : (vW tc ad N m).set b (ad b, .inl (tc 0, ml m b, .inl (va_cpy (fun j => mi m a j) (fun j => mi m b j) sp dp n))) = vW tc ad N (mC m a b sp dp n) := vW_set hN (by rw [vE_k6 (m := mC m a b sp dp n) h]; congr 3; congr 1; funext y; simp [mC, mi]) (fun _ hk => vE_mC hk)
theorem vW_n6 {q n : Nat} (hO : vOK N m) : vW tc ad N m ++ [(q, .inl (tc 0, n, .inl (fun _ => 0)))] = vW tc (va_up ad N q) (N + 1) (mN m N 6 n) := vW_push hO (by rw [vE_k6 (m := mN m N 6 n) (by simp [mN, mk])]; simp [ml, mi, mN])
theorem vR_up {v j : Nat} : (fun x => (mr (mR m a j (some v)) a x).map ad) = va_up (fun x => (mr m a x).map ad) j (some (ad v)) := by
  funext y
  by_cases hy : y = j <;> simp [mR, va_up, hy, mr]
theorem vE_k7 (h : mk m a = 7) : vE tc ad m a = .inl (tc 1, ml m a, .inr (.inr (.inr (.inr (fun j => (mr m a j).map ad))))) := by simp [vE, h]
theorem vW_k7 (hN : a < N) (h : mk m a = 7) : (vW tc ad N m)[a]? = some (ad a, .inl (tc 1, ml m a, .inr (.inr (.inr (.inr (fun j => (mr m a j).map ad)))))) := by rw [vW_at hN, vE_k7 h]
theorem vW_p7 {v j : Nat} (hN : a < N) (h : mk m a = 7) : (vW tc ad N m).set a (ad a, .inl (tc 1, ml m a, .inr (.inr (.inr (.inr (va_up (fun j => (mr m a j).map ad) j (some (ad v)))))))) = vW tc ad N (mR m a j (some v)) := vW_set hN (by rw [vE_k7 (m := mR m a j (some v)) h]; rw [vR_up]; rfl) (fun _ hk => vE_mR hk)
theorem vW_n7 {q n : Nat} (hO : vOK N m) : vW tc ad N m ++ [(q, .inl (tc 1, n, .inr (.inr (.inr (.inr (fun _ => none))))))] = vW tc (va_up ad N q) (N + 1) (mN m N 7 n) := vW_push hO (by rw [vE_k7 (m := mN m N 7 n) (by simp [mN, mk])]; simp [ml, mr, mN])
theorem vE_k8 (h : mk m a = 8) : vE tc ad m a = .inl (tc 2, ml m a, .inr (.inr (.inr (.inr (fun j => (mr m a j).map ad))))) := by simp [vE, h]
theorem vW_k8 (hN : a < N) (h : mk m a = 8) : (vW tc ad N m)[a]? = some (ad a, .inl (tc 2, ml m a, .inr (.inr (.inr (.inr (fun j => (mr m a j).map ad)))))) := by rw [vW_at hN, vE_k8 h]
theorem vW_p8 {v j : Nat} (hN : a < N) (h : mk m a = 8) : (vW tc ad N m).set a (ad a, .inl (tc 2, ml m a, .inr (.inr (.inr (.inr (va_up (fun j => (mr m a j).map ad) j (some (ad v)))))))) = vW tc ad N (mR m a j (some v)) := vW_set hN (by rw [vE_k8 (m := mR m a j (some v)) h]; rw [vR_up]; rfl) (fun _ hk => vE_mR hk)
theorem vW_n8 {q n : Nat} (hO : vOK N m) : vW tc ad N m ++ [(q, .inl (tc 2, n, .inr (.inr (.inr (.inr (fun _ => none))))))] = vW tc (va_up ad N q) (N + 1) (mN m N 8 n) := vW_push hO (by rw [vE_k8 (m := mN m N 8 n) (by simp [mN, mk])]; simp [ml, mr, mN])
theorem vE_k9 (h : mk m a = 9) : vE tc ad m a = .inl (tc 3, ml m a, .inr (.inr (.inr (.inr (fun j => (mr m a j).map ad))))) := by simp [vE, h]
theorem vW_k9 (hN : a < N) (h : mk m a = 9) : (vW tc ad N m)[a]? = some (ad a, .inl (tc 3, ml m a, .inr (.inr (.inr (.inr (fun j => (mr m a j).map ad)))))) := by rw [vW_at hN, vE_k9 h]
theorem vW_p9 {v j : Nat} (hN : a < N) (h : mk m a = 9) : (vW tc ad N m).set a (ad a, .inl (tc 3, ml m a, .inr (.inr (.inr (.inr (va_up (fun j => (mr m a j).map ad) j (some (ad v)))))))) = vW tc ad N (mR m a j (some v)) := vW_set hN (by rw [vE_k9 (m := mR m a j (some v)) h]; rw [vR_up]; rfl) (fun _ hk => vE_mR hk)
theorem vW_n9 {q n : Nat} (hO : vOK N m) : vW tc ad N m ++ [(q, .inl (tc 3, n, .inr (.inr (.inr (.inr (fun _ => none))))))] = vW tc (va_up ad N q) (N + 1) (mN m N 9 n) := vW_push hO (by rw [vE_k9 (m := mN m N 9 n) (by simp [mN, mk])]; simp [ml, mr, mN])
end
