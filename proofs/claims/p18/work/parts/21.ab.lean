/-! the vault as values: a door: its numbers (0 secret, 1 patience, 2 rule, 3 state, 4 left, 5 opened, 6 barred; 7 when it was last woken), whom it asks (0 other, 1 distance, 2 answer), what it remembers (0 asker, 1 distance, 2 when it was asked); a state: how many doors, its numbers (0 tick, 1 lost, 2 the hour), doors, voices (0 to 4 as told, 5 when it was sent) -/
def a_spend (f : aR) : aR := if f 3 < 2 then f else if f 4 - 1 ≤ 0 then fu (fu f 4 0) 3 0 else fu f 4 (f 4 - 1)
def a_turn (f : aR) (i : Int) : aR := if i = 1 then fu (fu (fu f 3 2) 4 12) 5 (f 5 + 1) else fu (fu (fu f 3 3) 4 4) 6 (f 6 + 1)
def nA (g : Int) (l : List aR) : Nat := l.countP (fun a => decide (a 2 = g))
def a_is (rule yes many : Int) : Int := if rule = 0 then (if yes = many then 1 else 0) else if rule = 1 then (if 1 ≤ yes then 1 else 0) else if rule = 2 then (if many < 2 * yes then 1 else 0) else (if yes = 0 then 1 else 0)
def a_unask (l : List aR) : List aR := l.map (fun a => fu a 2 (-1))
def a_take (l : List aR) (o v : Int) : List aR := l.map (fun a => if a 0 = o ∧ a 2 < 0 then fu a 2 v else a)
def a_send (S : aS) (f t w l : Int) : aS := if S.2.2.2.length < 60 then (S.1, S.2.1, S.2.2.1, S.2.2.2 ++ [r6 f t w l l (S.2.1 2)]) else (S.1, fu S.2.1 1 (S.2.1 1 + 1), S.2.2.1, S.2.2.2)
def a_asks (S : aS) (k : Nat) (l : List aR) : aS := l.foldl (fun T a => a_send T k (a 0) 0 (a 1)) S
def a_wake0 (S : aS) (k : Nat) : aS := (S.1, S.2.1, du S.2.2.1 k (fu (fu (fu (S.2.2.1 k).1 3 1) 4 ((S.2.2.1 k).1 1)) 7 (S.2.1 2), a_unask (S.2.2.1 k).2.1, []), S.2.2.2)
def a_wake (S : aS) (k : Nat) : aS := a_asks (a_wake0 S k) k (S.2.2.1 k).2.1
def a_keep (S : aS) (k : Nat) (q : aR) : aS := (S.1, S.2.1, du S.2.2.1 k ((S.2.2.1 k).1, (S.2.2.1 k).2.1, (S.2.2.1 k).2.2 ++ [q]), S.2.2.2)
def a_told (S : aS) (k : Nat) (o v : Int) : aS := (S.1, S.2.1, du S.2.2.1 k ((S.2.2.1 k).1, a_take (S.2.2.1 k).2.1 o v, (S.2.2.1 k).2.2), S.2.2.2)
def a_hear (S : aS) (v : aR) : aS :=
  if 0 < v 2 then (if (S.2.2.1 (v 1).toNat).1 3 = 1 then a_told S (v 1).toNat (v 0) (v 2 - 1) else S)
  else if 1 < (S.2.2.1 (v 1).toNat).1 3 then a_send S (v 1) (v 0) (if (S.2.2.1 (v 1).toNat).1 3 = 2 then 2 else 1) (v 4)
  else a_keep (if (S.2.2.1 (v 1).toNat).1 3 = 0 then a_wake S (v 1).toNat else S) (v 1).toNat (r6 (v 0) (v 4) (v 5) 0 0 0)
def a_hears (S : aS) (l : List aR) : aS := l.foldl a_hear S
def a_dec (v : aR) : aR := fu v 3 (v 3 - 1)
def a_due (l : List aR) : List aR := (l.map a_dec).filter (fun v => decide (v 3 ≤ 0))
def a_stay (l : List aR) : List aR := (l.map a_dec).filter (fun v => decide (0 < v 3))
def a_yes (d : aD) : Int := a_is (d.1 2) (nA 1 d.2.1) d.2.1.length
/-- whether a door that waits decides now -/
def a_now (d : aD) : Prop := d.1 3 = 1 ∧ (d.1 4 - 1 ≤ 0 ∨ nA 0 d.2.1 + nA 1 d.2.1 = d.2.1.length)
def a_tells (S : aS) (k : Nat) (w : Int) (l : List aR) : aS := l.foldl (fun T q => a_send T k (q 0) w (q 1)) S
def a_set (S : aS) (k : Nat) (d : aD) : aS := (S.1, S.2.1, du S.2.2.1 k d, S.2.2.2)
noncomputable def a_dk (S : aS) (k : Nat) : aS := @ite _ (a_now (S.2.2.1 k)) (Classical.propDecidable _)
  (a_tells (a_set S k (a_turn (fu (S.2.2.1 k).1 4 ((S.2.2.1 k).1 4 - 1)) (a_yes (S.2.2.1 k)), (S.2.2.1 k).2.1, [])) k (a_yes (S.2.2.1 k) + 1) (S.2.2.1 k).2.2)
  (if (S.2.2.1 k).1 3 = 1 then a_set S k (fu (S.2.2.1 k).1 4 ((S.2.2.1 k).1 4 - 1), (S.2.2.1 k).2) else S)
noncomputable def a_up (S : aS) (k : Nat) : Int := @ite _ (a_now (S.2.2.1 k)) (Classical.propDecidable _) (a_yes (S.2.2.1 k)) 0
noncomputable def a_dks (S : aS) (k : Nat) : Nat → Int × aS
  | 0 => (0, S)
  | r + 1 => (a_up S k + (a_dks (a_dk S k) (k + 1) r).1, (a_dks (a_dk S k) (k + 1) r).2)
def a_t1 (S : aS) : aS := (S.1, fu S.2.1 2 (S.2.1 2 + 1), fun k => if k < S.1 then (a_spend (S.2.2.1 k).1, (S.2.2.1 k).2) else S.2.2.1 k, a_stay S.2.2.2)
def a_t2 (S : aS) : aS := a_hears (a_t1 S) (a_due S.2.2.2)
noncomputable def a_t3 (S : aS) : Int × aS := a_dks (a_t2 S) 0 (a_t2 S).1
noncomputable def a_tick (S : aS) : aS := ((a_t3 S).2.1, fu (a_t3 S).2.2.1 0 ((a_t3 S).2.2.1 0 + 1), (a_t3 S).2.2.2)
/-! what a door shows: its answers while it waits -/
def mkd (d : aD) : aD := (d.1, d.2.1.map (fun a => fu a 2 (if d.1 3 = 1 then a 2 else -1)), d.2.2)
/-! a door of the class: its cells -/
def dB (q : Nat) (m : vM) : Prop := mk m q = 0 ∧ mr m q 8 = some (q + 1) ∧ mr m q 9 = some (q + 2) ∧ mr m q 10 = some (q + 3) ∧ mr m q 12 = some (q + 4) ∧ mr m q 13 = some (q + 5) ∧ mk m (q + 1) = 6 ∧ mk m (q + 2) = 6 ∧ mk m (q + 3) = 6 ∧ mk m (q + 4) = 6 ∧ mk m (q + 5) = 6 ∧ ml m (q + 1) = 4 ∧ ml m (q + 2) = 4 ∧ ml m (q + 3) = 4 ∧ ml m (q + 4) = 60 ∧ ml m (q + 5) = 60
def RDr (q : Nat) (σ : aN) (d : aD) : Prop := (∀ j, j < 7 → σ q j = xI (d.1 j)) ∧ σ q 7 = xI d.2.1.length ∧ σ q 11 = xI d.2.2.length ∧ (∀ i a, d.2.1[i]? = some a → ∀ r, r < 3 → σ (q + 1 + r) i = xI (a r)) ∧ (∀ i a, d.2.2[i]? = some a → ∀ r, r < 2 → σ (q + 4 + r) i = xI (a r))
def WDr (d : aD) : Prop := (0 ≤ d.1 0 ∧ d.1 0 ≤ 99) ∧ (1 ≤ d.1 1 ∧ d.1 1 ≤ 20) ∧ (0 ≤ d.1 2 ∧ d.1 2 ≤ 3) ∧ (0 ≤ d.1 3 ∧ d.1 3 ≤ 3) ∧ (0 ≤ d.1 4 ∧ d.1 4 ≤ 21) ∧ d.2.1.length ≤ 4 ∧ d.2.2.length ≤ 60 ∧ (∀ a ∈ d.2.1, 0 ≤ a 0 ∧ a 0 ≤ 9 ∧ 1 ≤ a 1 ∧ a 1 ≤ 5 ∧ -1 ≤ a 2 ∧ a 2 ≤ 1) ∧ (∀ q ∈ d.2.2, 0 ≤ q 0 ∧ q 0 ≤ 9 ∧ 1 ≤ q 1 ∧ q 1 ≤ 5)
section
variable {q j : Nat} {σ τ : aN} {d : aD} {v : Int} {f g : aR}
theorem up_up {a j : Nat} {v w : Int32} : up (up σ a j v) a j w = up σ a j w := by
  funext x y; unfold up; by_cases h : x = a ∧ y = j <;> simp [h]
theorem RDr_up (h : RDr q σ d) (hj : j < 7) : RDr q (up σ q j (xI v)) (fu d.1 j v, d.2) := by
  refine ⟨fun i hi => ?_, ?_, ?_, fun i a ha r hr => ?_, fun i a ha r hr => ?_⟩
  · by_cases e : i = j
    · subst e; show _ = xI (fu d.1 i v i); rw [up_eq, fu_eq]
    · show _ = xI (fu d.1 j v i); rw [up_nj e, fu_ne e]; exact h.1 i hi
  · rw [up_nj (by omega)]; exact h.2.1
  · rw [up_nj (by omega)]; exact h.2.2.1
  · rw [up_na (by omega)]; exact h.2.2.2.1 i a ha r hr
  · rw [up_na (by omega)]; exact h.2.2.2.2 i a ha r hr
theorem RDr_ext (h : RDr q σ d) (e : ∀ j, j < 7 → d.1 j = f j) : RDr q σ (f, d.2) := ⟨fun j hj => (h.1 j hj).trans (congrArg xI (e j hj)), h.2⟩
theorem RDr_fr (h : RDr q σ d) (e : ∀ x, q ≤ x → x < q + 6 → τ x = σ x) : RDr q τ d := by
  refine ⟨fun i hi => ?_, ?_, ?_, fun i a ha r hr => ?_, fun i a ha r hr => ?_⟩
  · rw [e q (by omega) (by omega)]; exact h.1 i hi
  · rw [e q (by omega) (by omega)]; exact h.2.1
  · rw [e q (by omega) (by omega)]; exact h.2.2.1
  · rw [e _ (by omega) (by omega)]; exact h.2.2.2.1 i a ha r hr
  · rw [e _ (by omega) (by omega)]; exact h.2.2.2.2 i a ha r hr
theorem RDr_ask {i r : Nat} {a : aR} (h : RDr q σ d) (ha : d.2.1[i]? = some a) (hr : r < 3) : RDr q (up σ (q + 1 + r) i (xI v)) (d.1, d.2.1.set i (fu a r v), d.2.2) := by
  refine ⟨fun j hj => ?_, ?_, ?_, fun x b hb s hs => ?_, fun x b hb s hs => ?_⟩
  · rw [up_na (by omega)]; exact h.1 j hj
  · rw [up_na (by omega)]; show _ = xI ((d.2.1.set i (fu a r v)).length : Int); rw [List.length_set]; exact h.2.1
  · rw [up_na (by omega)]; exact h.2.2.1
  · have hb : (d.2.1.set i (fu a r v))[x]? = some b := hb
    rw [List.getElem?_set] at hb
    have hi := dr_lt ha
    by_cases e : i = x
    · subst e
      rw [if_pos rfl, if_pos hi] at hb
      cases hb
      by_cases e2 : s = r
      · subst e2; rw [up_eq, fu_eq]
      · rw [up_na (by omega), fu_ne e2]; exact h.2.2.2.1 i a ha s hs
    · rw [if_neg e] at hb
      rw [up_nj (by omega)]; exact h.2.2.2.1 x b hb s hs
  · rw [up_na (by omega)]; exact h.2.2.2.2 x b hb s hs
end
