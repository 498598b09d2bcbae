section
variable {m : vM} {σ : aN} {q : Nat} {d : aD}
/-- what a door tells -/
def dF (d : aD) (w : Int) : Int := if w = 0 then d.1 3 else if w = 1 then d.1 4 else if w = 2 then d.1 2 else if w = 3 then d.2.1.length else if w = 4 then (nA 0 d.2.1 + nA 1 d.2.1 : Nat) else if w = 5 then nA 1 d.2.1 else if w = 6 then d.2.2.length else if w = 7 then d.1 5 else d.1 6
theorem S_dfact {w : Int} (hB : dB q m) (hR : RDr q σ d) (hW : WDr d) (hw : 0 ≤ w ∧ w ≤ 8) : f_X0_fact (xW m σ) q (xI w) = some (xI (dF d w)) := by
  have h0 : f_X0_answersOf (xW m σ) q (xI 0) = _ := S_answersOf hB hR hW (by omega)
  have h1 : f_X0_answersOf (xW m σ) q (xI 1) = _ := S_answersOf hB hR hW (by omega)
  obtain ⟨k0, r8, r9, r10, r12, r13, k1, k2, k3, k4, k5, l1, l2, l3, l4, l5⟩ := hB; obtain ⟨hf, f7, f11, ha, hk⟩ := hR; have f0 := hf 0 (by omega); have f1 := hf 1 (by omega); have f2 := hf 2 (by omega); have f3 := hf 3 (by omega); have f4 := hf 4 (by omega); have f5 := hf 5 (by omega); have f6 := hf 6 (by omega)
  unfold f_X0_fact dF
  have hc : w = 0 ∨ w = 1 ∨ w = 2 ∨ w = 3 ∨ w = 4 ∨ w = 5 ∨ w = 6 ∨ w = 7 ∨ w = 8 := by omega
  rcases hc with e | e | e | e | e | e | e | e | e <;> subst e <;> simp (disch := omega) only [vin, mk_xW, ml_xW, mr_xW, mi_xW, mI_xW, mC_xW, up_eq, up_na, up_nj, xL0, xL1, xL2, xL3, xL4, xL5, xL6, xL7, xL8, xL9, xL10, xL12, xL16, xL20, xL24, xL31, xL50, xL60, xL89, xL99, xL100, xL200, xI_add, xI_sub, xI_mul, xI_neg, xI_nat, xI_cl, Int.toNat_natCast, Int.reduceToNat, xltT, xltF, xleT, xleF, xeqT, xeqF, nleT, nleF, nltT, nltF, neqT, neqF, ileT, ileF, iltT, iltF, ieqT, ieqF, or_false, or_true, false_or, true_or, and_true, true_and, and_false, false_and, not_false_eq_true, not_true_eq_false, if_true, if_false, ite_true, ite_false, k0, k1, k2, k3, k4, k5, l1, l2, l3, l4, l5, f0, f1, f2, f3, f4, f5, f6, f7, f11, h0, h1, Option.bind_some, Int.natCast_add]
/-- what a door tells of one that it asks -/
theorem S_afact {i : Nat} {a : aR} {w : Int} (hB : dB q m) (hR : RDr q σ d) (hW : WDr d) (hi : d.2.1[i]? = some a) (hw : 0 ≤ w ∧ w ≤ 2) : f_X0_askedFact (xW m σ) q (xI (i : Nat)) (xI w) = some (xI (a w.toNat)) := by
  have hl := dr_lt hi
  obtain ⟨k0, r8, r9, r10, r12, r13, k1, k2, k3, k4, k5, l1, l2, l3, l4, l5⟩ := hB; obtain ⟨hf, f7, f11, ha, hk⟩ := hR; have f0 := hf 0 (by omega); have f1 := hf 1 (by omega); have f2 := hf 2 (by omega); have f3 := hf 3 (by omega); have f4 := hf 4 (by omega); have f5 := hf 5 (by omega); have f6 := hf 6 (by omega); obtain ⟨w0, w1, w2, w3, w4, w5, w6, w7, w8⟩ := hW
  have g0 : σ (q + 1) i = xI (a 0) := ha i a hi 0 (by omega)
  have g1 : σ (q + 2) i = xI (a 1) := ha i a hi 1 (by omega)
  have g2 : σ (q + 3) i = xI (a 2) := ha i a hi 2 (by omega)
  unfold f_X0_askedFact f_X3_isIn
  have hc : w = 0 ∨ w = 1 ∨ w = 2 := by omega
  rcases hc with e | e | e <;> subst e <;> simp (disch := omega) only [vin, mk_xW, ml_xW, mr_xW, mi_xW, mI_xW, mC_xW, up_eq, up_na, up_nj, xL0, xL1, xL2, xL3, xL4, xL5, xL6, xL7, xL8, xL9, xL10, xL12, xL16, xL20, xL24, xL31, xL50, xL60, xL89, xL99, xL100, xL200, xI_add, xI_sub, xI_mul, xI_neg, xI_nat, xI_cl, Int.toNat_natCast, Int.reduceToNat, xltT, xltF, xleT, xleF, xeqT, xeqF, nleT, nleF, nltT, nltF, neqT, neqF, ileT, ileF, iltT, iltF, ieqT, ieqF, or_false, or_true, false_or, true_or, and_true, true_and, and_false, false_and, not_false_eq_true, not_true_eq_false, if_true, if_false, ite_true, ite_false, k0, k1, k2, k3, k4, k5, l1, l2, l3, l4, l5, f0, f1, f2, f3, f4, f5, f6, f7, f11, Option.bind_some, r8, r9, r10, g0, g1, g2]
theorem pw_at {l : List aR} {R : aR → aR → Prop} (hN : l.Pairwise R) {i j : Nat} {a b : aR} (hi : l[i]? = some a) (hj : l[j]? = some b) (h : i < j) : R a b := by
  obtain ⟨h1, e1⟩ := List.getElem?_eq_some_iff.mp hi
  obtain ⟨h2, e2⟩ := List.getElem?_eq_some_iff.mp hj
  have h3 := List.pairwise_iff_getElem.mp hN i j h1 h2 h
  rw [e1, e2] at h3; exact h3
theorem a_take_no {l : List aR} {o v : Int} (h : ∀ a ∈ l, ¬ (a 0 = o ∧ a 2 < 0)) : a_take l o v = l := by
  unfold a_take
  induction l with
  | nil => rfl
  | cons a l ih =>
    rw [List.map_cons, ih (fun b hb => h b (List.mem_cons_of_mem a hb)), if_neg (h a List.mem_cons_self)]
theorem a_take_set {l : List aR} {o v : Int} (hN : l.Pairwise (fun a b => a 0 ≠ b 0)) {j : Nat} {a : aR} (hj : l[j]? = some a) (h0 : a 0 = o) (h2 : a 2 < 0) : a_take l o v = l.set j (fu a 2 v) := by
  induction l generalizing j with
  | nil => simp at hj
  | cons b l ih =>
    rw [List.pairwise_cons] at hN
    cases j with
    | zero =>
      have e : b = a := by simpa using hj
      subst e
      show (if b 0 = o ∧ b 2 < 0 then fu b 2 v else b) :: a_take l o v = fu b 2 v :: l
      rw [if_pos ⟨h0, h2⟩, a_take_no (fun c hc g => hN.1 c hc (by rw [h0, g.1]))]
    | succ j =>
      have hj : l[j]? = some a := by simpa using hj
      show (if b 0 = o ∧ b 2 < 0 then fu b 2 v else b) :: a_take l o v = b :: l.set j (fu a 2 v)
      rw [if_neg (fun g => hN.1 a (dr_mem hj) (by rw [h0, g.1])), ih hN.2 hj]
theorem S_takeAnswer {o v : Int} (hB : dB q m) (hR : RDr q σ d) (hW : WDr d) (hN : d.2.1.Pairwise (fun a b => a 0 ≠ b 0)) (ho : 0 ≤ o ∧ o ≤ 9) : wq (f_X0_takeAnswer (xW m σ) q (xI o) (xI v)) (fun z => ∃ τ, z = xW m τ ∧ RDr q τ (if d.1 3 = 1 then (d.1, a_take d.2.1 o v, d.2.2) else d) ∧ fr q 6 σ τ) := by
  obtain ⟨p, hp, hc⟩ := S_placeOf hB hR hW ho
  have hR0 := hR
  obtain ⟨k0, r8, r9, r10, r12, r13, k1, k2, k3, k4, k5, l1, l2, l3, l4, l5⟩ := hB; obtain ⟨hf, f7, f11, ha, hk⟩ := hR; have f0 := hf 0 (by omega); have f1 := hf 1 (by omega); have f2 := hf 2 (by omega); have f3 := hf 3 (by omega); have f4 := hf 4 (by omega); have f5 := hf 5 (by omega); have f6 := hf 6 (by omega); obtain ⟨w0, w1, w2, w3, w4, w5, w6, w7, w8⟩ := hW
  unfold f_X0_takeAnswer; simp only [mk_xW, ml_xW, mr_xW, mi_xW, mI_xW, mC_xW]
  refine w_i k0 ?_
  refine w_b hp ?_
  by_cases c1 : d.1 3 = 1
  · rw [if_pos c1]
    rcases hc with ⟨e, hc⟩ | ⟨j, a, e, hj, h0⟩
    · subst e
      rw [a_take_no (fun a h g => hc a h g.1)]
      repeat first | refine w_b r8 ?_ | refine w_b r9 ?_ | refine w_b r10 ?_ | refine w_b r12 ?_ | refine w_b r13 ?_ | (refine w_i ?_ ?_; · (simp (disch := omega) only [vin, mk_xW, ml_xW, mr_xW, mi_xW, mI_xW, mC_xW, up_eq, up_na, up_nj, xL0, xL1, xL2, xL3, xL4, xL5, xL6, xL7, xL8, xL9, xL10, xL12, xL16, xL20, xL24, xL31, xL50, xL60, xL89, xL99, xL100, xL200, xI_add, xI_sub, xI_mul, xI_neg, xI_nat, xI_cl, Int.toNat_natCast, Int.reduceToNat, xltT, xltF, xleT, xleF, xeqT, xeqF, nleT, nleF, nltT, nltF, neqT, neqF, ileT, ileF, iltT, iltF, ieqT, ieqF, or_false, or_true, false_or, true_or, and_true, true_and, and_false, false_and, not_false_eq_true, not_true_eq_false, if_true, if_false, ite_true, ite_false, k0, k1, k2, k3, k4, k5, l1, l2, l3, l4, l5, f0, f1, f2, f3, f4, f5, f6, f7, f11])) | (refine w_n ?_ ?_; · (simp (disch := omega) only [vin, mk_xW, ml_xW, mr_xW, mi_xW, mI_xW, mC_xW, up_eq, up_na, up_nj, xL0, xL1, xL2, xL3, xL4, xL5, xL6, xL7, xL8, xL9, xL10, xL12, xL16, xL20, xL24, xL31, xL50, xL60, xL89, xL99, xL100, xL200, xI_add, xI_sub, xI_mul, xI_neg, xI_nat, xI_cl, Int.toNat_natCast, Int.reduceToNat, xltT, xltF, xleT, xleF, xeqT, xeqF, nleT, nleF, nltT, nltF, neqT, neqF, ileT, ileF, iltT, iltF, ieqT, ieqF, or_false, or_true, false_or, true_or, and_true, true_and, and_false, false_and, not_false_eq_true, not_true_eq_false, if_true, if_false, ite_true, ite_false, k0, k1, k2, k3, k4, k5, l1, l2, l3, l4, l5, f0, f1, f2, f3, f4, f5, f6, f7, f11]))
      exact w_s ⟨_, rfl, hR0, fr_rfl⟩
    · subst e
      have hl := dr_lt hj
      have g2 : σ (q + 3) j = xI (a 2) := ha j a hj 2 (by omega)
      have g3 := w7 a (dr_mem hj)
      by_cases c2 : a 2 = -1
      · rw [a_take_set hN hj h0 (by omega)]
        repeat first | refine w_b r8 ?_ | refine w_b r9 ?_ | refine w_b r10 ?_ | refine w_b r12 ?_ | refine w_b r13 ?_ | (refine w_i ?_ ?_; · (simp (disch := omega) only [vin, mk_xW, ml_xW, mr_xW, mi_xW, mI_xW, mC_xW, up_eq, up_na, up_nj, xL0, xL1, xL2, xL3, xL4, xL5, xL6, xL7, xL8, xL9, xL10, xL12, xL16, xL20, xL24, xL31, xL50, xL60, xL89, xL99, xL100, xL200, xI_add, xI_sub, xI_mul, xI_neg, xI_nat, xI_cl, Int.toNat_natCast, Int.reduceToNat, xltT, xltF, xleT, xleF, xeqT, xeqF, nleT, nleF, nltT, nltF, neqT, neqF, ileT, ileF, iltT, iltF, ieqT, ieqF, or_false, or_true, false_or, true_or, and_true, true_and, and_false, false_and, not_false_eq_true, not_true_eq_false, if_true, if_false, ite_true, ite_false, k0, k1, k2, k3, k4, k5, l1, l2, l3, l4, l5, f0, f1, f2, f3, f4, f5, f6, f7, f11, g2])) | (refine w_n ?_ ?_; · (simp (disch := omega) only [vin, mk_xW, ml_xW, mr_xW, mi_xW, mI_xW, mC_xW, up_eq, up_na, up_nj, xL0, xL1, xL2, xL3, xL4, xL5, xL6, xL7, xL8, xL9, xL10, xL12, xL16, xL20, xL24, xL31, xL50, xL60, xL89, xL99, xL100, xL200, xI_add, xI_sub, xI_mul, xI_neg, xI_nat, xI_cl, Int.toNat_natCast, Int.reduceToNat, xltT, xltF, xleT, xleF, xeqT, xeqF, nleT, nleF, nltT, nltF, neqT, neqF, ileT, ileF, iltT, iltF, ieqT, ieqF, or_false, or_true, false_or, true_or, and_true, true_and, and_false, false_and, not_false_eq_true, not_true_eq_false, if_true, if_false, ite_true, ite_false, k0, k1, k2, k3, k4, k5, l1, l2, l3, l4, l5, f0, f1, f2, f3, f4, f5, f6, f7, f11, g2]))
        simp (disch := omega) only [vin, mk_xW, ml_xW, mr_xW, mi_xW, mI_xW, mC_xW, up_eq, up_na, up_nj, xL0, xL1, xL2, xL3, xL4, xL5, xL6, xL7, xL8, xL9, xL10, xL12, xL16, xL20, xL24, xL31, xL50, xL60, xL89, xL99, xL100, xL200, xI_add, xI_sub, xI_mul, xI_neg, xI_nat, xI_cl, Int.toNat_natCast, Int.reduceToNat, xltT, xltF, xleT, xleF, xeqT, xeqF, nleT, nleF, nltT, nltF, neqT, neqF, ileT, ileF, iltT, iltF, ieqT, ieqF, or_false, or_true, false_or, true_or, and_true, true_and, and_false, false_and, not_false_eq_true, not_true_eq_false, if_true, if_false, ite_true, ite_false, f0, f1, f2, f3, f4, f5, f6, f7, f11]
        exact w_s ⟨_, rfl, RDr_ask (r := 2) hR0 hj (by omega), by repeat (first | exact fr_rfl | refine fr_ups ?_ (by omega))⟩
      · have hno : ∀ b ∈ d.2.1, ¬ (b 0 = o ∧ b 2 < 0) := by
          intro b hb g
          obtain ⟨x, hx⟩ := List.mem_iff_getElem?.mp hb
          have hxj : x = j := by
            rcases Nat.lt_trichotomy x j with h | h | h
            · exact absurd (g.1.trans h0.symm) (pw_at hN hx hj h)
            · exact h
            · exact absurd (h0.trans g.1.symm) (pw_at hN hj hx h)
          subst hxj
          have e9 : b = a := by rw [hx] at hj; exact Option.some.inj hj
          subst e9; omega
        rw [a_take_no hno]
        repeat first | refine w_b r8 ?_ | refine w_b r9 ?_ | refine w_b r10 ?_ | refine w_b r12 ?_ | refine w_b r13 ?_ | (refine w_i ?_ ?_; · (simp (disch := omega) only [vin, mk_xW, ml_xW, mr_xW, mi_xW, mI_xW, mC_xW, up_eq, up_na, up_nj, xL0, xL1, xL2, xL3, xL4, xL5, xL6, xL7, xL8, xL9, xL10, xL12, xL16, xL20, xL24, xL31, xL50, xL60, xL89, xL99, xL100, xL200, xI_add, xI_sub, xI_mul, xI_neg, xI_nat, xI_cl, Int.toNat_natCast, Int.reduceToNat, xltT, xltF, xleT, xleF, xeqT, xeqF, nleT, nleF, nltT, nltF, neqT, neqF, ileT, ileF, iltT, iltF, ieqT, ieqF, or_false, or_true, false_or, true_or, and_true, true_and, and_false, false_and, not_false_eq_true, not_true_eq_false, if_true, if_false, ite_true, ite_false, k0, k1, k2, k3, k4, k5, l1, l2, l3, l4, l5, f0, f1, f2, f3, f4, f5, f6, f7, f11, g2])) | (refine w_n ?_ ?_; · (simp (disch := omega) only [vin, mk_xW, ml_xW, mr_xW, mi_xW, mI_xW, mC_xW, up_eq, up_na, up_nj, xL0, xL1, xL2, xL3, xL4, xL5, xL6, xL7, xL8, xL9, xL10, xL12, xL16, xL20, xL24, xL31, xL50, xL60, xL89, xL99, xL100, xL200, xI_add, xI_sub, xI_mul, xI_neg, xI_nat, xI_cl, Int.toNat_natCast, Int.reduceToNat, xltT, xltF, xleT, xleF, xeqT, xeqF, nleT, nleF, nltT, nltF, neqT, neqF, ileT, ileF, iltT, iltF, ieqT, ieqF, or_false, or_true, false_or, true_or, and_true, true_and, and_false, false_and, not_false_eq_true, not_true_eq_false, if_true, if_false, ite_true, ite_false, k0, k1, k2, k3, k4, k5, l1, l2, l3, l4, l5, f0, f1, f2, f3, f4, f5, f6, f7, f11, g2]))
        exact w_s ⟨_, rfl, hR0, fr_rfl⟩
  · rw [if_neg c1]
    repeat first | refine w_b r8 ?_ | refine w_b r9 ?_ | refine w_b r10 ?_ | refine w_b r12 ?_ | refine w_b r13 ?_ | (refine w_i ?_ ?_; · (simp (disch := omega) only [vin, mk_xW, ml_xW, mr_xW, mi_xW, mI_xW, mC_xW, up_eq, up_na, up_nj, xL0, xL1, xL2, xL3, xL4, xL5, xL6, xL7, xL8, xL9, xL10, xL12, xL16, xL20, xL24, xL31, xL50, xL60, xL89, xL99, xL100, xL200, xI_add, xI_sub, xI_mul, xI_neg, xI_nat, xI_cl, Int.toNat_natCast, Int.reduceToNat, xltT, xltF, xleT, xleF, xeqT, xeqF, nleT, nleF, nltT, nltF, neqT, neqF, ileT, ileF, iltT, iltF, ieqT, ieqF, or_false, or_true, false_or, true_or, and_true, true_and, and_false, false_and, not_false_eq_true, not_true_eq_false, if_true, if_false, ite_true, ite_false, k0, k1, k2, k3, k4, k5, l1, l2, l3, l4, l5, f0, f1, f2, f3, f4, f5, f6, f7, f11])) | (refine w_n ?_ ?_; · (simp (disch := omega) only [vin, mk_xW, ml_xW, mr_xW, mi_xW, mI_xW, mC_xW, up_eq, up_na, up_nj, xL0, xL1, xL2, xL3, xL4, xL5, xL6, xL7, xL8, xL9, xL10, xL12, xL16, xL20, xL24, xL31, xL50, xL60, xL89, xL99, xL100, xL200, xI_add, xI_sub, xI_mul, xI_neg, xI_nat, xI_cl, Int.toNat_natCast, Int.reduceToNat, xltT, xltF, xleT, xleF, xeqT, xeqF, nleT, nleF, nltT, nltF, neqT, neqF, ileT, ileF, iltT, iltF, ieqT, ieqF, or_false, or_true, false_or, true_or, and_true, true_and, and_false, false_and, not_false_eq_true, not_true_eq_false, if_true, if_false, ite_true, ite_false, k0, k1, k2, k3, k4, k5, l1, l2, l3, l4, l5, f0, f1, f2, f3, f4, f5, f6, f7, f11]))
    exact w_s ⟨_, rfl, hR0, fr_rfl⟩
theorem S_remember {o t : Int} {r : aR} (hB : dB q m) (hR : RDr q σ d) (hl : d.2.2.length < 60) (h0 : r 0 = o) (h1 : r 1 = t) : wq (f_X0_remember (xW m σ) q (xI o) (xI t)) (fun z => ∃ τ, z = xW m τ ∧ RDr q τ (d.1, d.2.1, d.2.2 ++ [r]) ∧ fr q 6 σ τ) := by
  obtain ⟨k0, r8, r9, r10, r12, r13, k1, k2, k3, k4, k5, l1, l2, l3, l4, l5⟩ := hB; obtain ⟨hf, f7, f11, ha, hk⟩ := hR; have f0 := hf 0 (by omega); have f1 := hf 1 (by omega); have f2 := hf 2 (by omega); have f3 := hf 3 (by omega); have f4 := hf 4 (by omega); have f5 := hf 5 (by omega); have f6 := hf 6 (by omega)
  unfold f_X0_remember; simp only [mk_xW, ml_xW, mr_xW, mi_xW, mI_xW, mC_xW]
  repeat first | refine w_b r8 ?_ | refine w_b r9 ?_ | refine w_b r10 ?_ | refine w_b r12 ?_ | refine w_b r13 ?_ | (refine w_i ?_ ?_; · (simp (disch := omega) only [vin, mk_xW, ml_xW, mr_xW, mi_xW, mI_xW, mC_xW, up_eq, up_na, up_nj, xL0, xL1, xL2, xL3, xL4, xL5, xL6, xL7, xL8, xL9, xL10, xL12, xL16, xL20, xL24, xL31, xL50, xL60, xL89, xL99, xL100, xL200, xI_add, xI_sub, xI_mul, xI_neg, xI_nat, xI_cl, Int.toNat_natCast, Int.reduceToNat, xltT, xltF, xleT, xleF, xeqT, xeqF, nleT, nleF, nltT, nltF, neqT, neqF, ileT, ileF, iltT, iltF, ieqT, ieqF, or_false, or_true, false_or, true_or, and_true, true_and, and_false, false_and, not_false_eq_true, not_true_eq_false, if_true, if_false, ite_true, ite_false, k0, k1, k2, k3, k4, k5, l1, l2, l3, l4, l5, f0, f1, f2, f3, f4, f5, f6, f7, f11])) | (refine w_n ?_ ?_; · (simp (disch := omega) only [vin, mk_xW, ml_xW, mr_xW, mi_xW, mI_xW, mC_xW, up_eq, up_na, up_nj, xL0, xL1, xL2, xL3, xL4, xL5, xL6, xL7, xL8, xL9, xL10, xL12, xL16, xL20, xL24, xL31, xL50, xL60, xL89, xL99, xL100, xL200, xI_add, xI_sub, xI_mul, xI_neg, xI_nat, xI_cl, Int.toNat_natCast, Int.reduceToNat, xltT, xltF, xleT, xleF, xeqT, xeqF, nleT, nleF, nltT, nltF, neqT, neqF, ileT, ileF, iltT, iltF, ieqT, ieqF, or_false, or_true, false_or, true_or, and_true, true_and, and_false, false_and, not_false_eq_true, not_true_eq_false, if_true, if_false, ite_true, ite_false, k0, k1, k2, k3, k4, k5, l1, l2, l3, l4, l5, f0, f1, f2, f3, f4, f5, f6, f7, f11]))
  simp (disch := omega) only [vin, mk_xW, ml_xW, mr_xW, mi_xW, mI_xW, mC_xW, up_eq, up_na, up_nj, xL0, xL1, xL2, xL3, xL4, xL5, xL6, xL7, xL8, xL9, xL10, xL12, xL16, xL20, xL24, xL31, xL50, xL60, xL89, xL99, xL100, xL200, xI_add, xI_sub, xI_mul, xI_neg, xI_nat, xI_cl, Int.toNat_natCast, Int.reduceToNat, xltT, xltF, xleT, xleF, xeqT, xeqF, nleT, nleF, nltT, nltF, neqT, neqF, ileT, ileF, iltT, iltF, ieqT, ieqF, or_false, or_true, false_or, true_or, and_true, true_and, and_false, false_and, not_false_eq_true, not_true_eq_false, if_true, if_false, ite_true, ite_false, f0, f1, f2, f3, f4, f5, f6, f7, f11]
  refine w_s ⟨_, rfl, ⟨fun j hj => ?_, ?_, ?_, fun i a h s hs => ?_, fun i a h s hs => ?_⟩, by repeat (first | exact fr_rfl | refine fr_ups ?_ (by omega))⟩
  · simp (disch := omega) only [vin, mk_xW, ml_xW, mr_xW, mi_xW, mI_xW, mC_xW, up_eq, up_na, up_nj, xL0, xL1, xL2, xL3, xL4, xL5, xL6, xL7, xL8, xL9, xL10, xL12, xL16, xL20, xL24, xL31, xL50, xL60, xL89, xL99, xL100, xL200, xI_add, xI_sub, xI_mul, xI_neg, xI_nat, xI_cl, Int.toNat_natCast, Int.reduceToNat, xltT, xltF, xleT, xleF, xeqT, xeqF, nleT, nleF, nltT, nltF, neqT, neqF, ileT, ileF, iltT, iltF, ieqT, ieqF, or_false, or_true, false_or, true_or, and_true, true_and, and_false, false_and, not_false_eq_true, not_true_eq_false, if_true, if_false, ite_true, ite_false, hf j hj]
  · simp (disch := omega) only [vin, mk_xW, ml_xW, mr_xW, mi_xW, mI_xW, mC_xW, up_eq, up_na, up_nj, xL0, xL1, xL2, xL3, xL4, xL5, xL6, xL7, xL8, xL9, xL10, xL12, xL16, xL20, xL24, xL31, xL50, xL60, xL89, xL99, xL100, xL200, xI_add, xI_sub, xI_mul, xI_neg, xI_nat, xI_cl, Int.toNat_natCast, Int.reduceToNat, xltT, xltF, xleT, xleF, xeqT, xeqF, nleT, nleF, nltT, nltF, neqT, neqF, ileT, ileF, iltT, iltF, ieqT, ieqF, or_false, or_true, false_or, true_or, and_true, true_and, and_false, false_and, not_false_eq_true, not_true_eq_false, if_true, if_false, ite_true, ite_false, f7]
  · rw [up_eq]; congr 1; show _ = ((d.2.2 ++ [r]).length : Int); rw [List.length_append]; rfl
  · simp (disch := omega) only [vin, mk_xW, ml_xW, mr_xW, mi_xW, mI_xW, mC_xW, up_eq, up_na, up_nj, xL0, xL1, xL2, xL3, xL4, xL5, xL6, xL7, xL8, xL9, xL10, xL12, xL16, xL20, xL24, xL31, xL50, xL60, xL89, xL99, xL100, xL200, xI_add, xI_sub, xI_mul, xI_neg, xI_nat, xI_cl, Int.toNat_natCast, Int.reduceToNat, xltT, xltF, xleT, xleF, xeqT, xeqF, nleT, nleF, nltT, nltF, neqT, neqF, ileT, ileF, iltT, iltF, ieqT, ieqF, or_false, or_true, false_or, true_or, and_true, true_and, and_false, false_and, not_false_eq_true, not_true_eq_false, if_true, if_false, ite_true, ite_false, ha i a h s hs]
  · have h : (d.2.2 ++ [r])[i]? = some a := h
    rw [up_na (by omega)]
    by_cases c : i < d.2.2.length
    · rw [List.getElem?_append_left c] at h
      rw [up_nj (by omega), up_nj (by omega)]
      exact hk i a h s hs
    · have hi := dr_lt h
      rw [List.length_append] at hi
      have e : i = d.2.2.length := by simp at hi; omega
      subst e
      rw [List.getElem?_append_right (Nat.le_refl _), Nat.sub_self] at h
      have e : r = a := by simpa using h
      subst e
      have hs2 : s = 0 ∨ s = 1 := by omega
      rcases hs2 with e | e <;> subst e <;> simp (disch := omega) only [vin, mk_xW, ml_xW, mr_xW, mi_xW, mI_xW, mC_xW, up_eq, up_na, up_nj, xL0, xL1, xL2, xL3, xL4, xL5, xL6, xL7, xL8, xL9, xL10, xL12, xL16, xL20, xL24, xL31, xL50, xL60, xL89, xL99, xL100, xL200, xI_add, xI_sub, xI_mul, xI_neg, xI_nat, xI_cl, Int.toNat_natCast, Int.reduceToNat, xltT, xltF, xleT, xleF, xeqT, xeqF, nleT, nleF, nltT, nltF, neqT, neqF, ileT, ileF, iltT, iltF, ieqT, ieqF, or_false, or_true, false_or, true_or, and_true, true_and, and_false, false_and, not_false_eq_true, not_true_eq_false, if_true, if_false, ite_true, ite_false, h0, h1]
theorem S_addAsked {o t : Int} {r : aR} (hB : dB q m) (hR : RDr q σ d) (hl : d.2.1.length < 4) (h0 : r 0 = o) (h1 : r 1 = t) (h2 : r 2 = -1) : wq (f_X0_addAsked (xW m σ) q (xI o) (xI t)) (fun z => ∃ τ, z = xW m τ ∧ RDr q τ (d.1, d.2.1 ++ [r], d.2.2) ∧ fr q 6 σ τ) := by
  obtain ⟨k0, r8, r9, r10, r12, r13, k1, k2, k3, k4, k5, l1, l2, l3, l4, l5⟩ := hB; obtain ⟨hf, f7, f11, ha, hk⟩ := hR; have f0 := hf 0 (by omega); have f1 := hf 1 (by omega); have f2 := hf 2 (by omega); have f3 := hf 3 (by omega); have f4 := hf 4 (by omega); have f5 := hf 5 (by omega); have f6 := hf 6 (by omega)
  unfold f_X0_addAsked; simp only [mk_xW, ml_xW, mr_xW, mi_xW, mI_xW, mC_xW]
  repeat first | refine w_b r8 ?_ | refine w_b r9 ?_ | refine w_b r10 ?_ | refine w_b r12 ?_ | refine w_b r13 ?_ | (refine w_i ?_ ?_; · (simp (disch := omega) only [vin, mk_xW, ml_xW, mr_xW, mi_xW, mI_xW, mC_xW, up_eq, up_na, up_nj, xL0, xL1, xL2, xL3, xL4, xL5, xL6, xL7, xL8, xL9, xL10, xL12, xL16, xL20, xL24, xL31, xL50, xL60, xL89, xL99, xL100, xL200, xI_add, xI_sub, xI_mul, xI_neg, xI_nat, xI_cl, Int.toNat_natCast, Int.reduceToNat, xltT, xltF, xleT, xleF, xeqT, xeqF, nleT, nleF, nltT, nltF, neqT, neqF, ileT, ileF, iltT, iltF, ieqT, ieqF, or_false, or_true, false_or, true_or, and_true, true_and, and_false, false_and, not_false_eq_true, not_true_eq_false, if_true, if_false, ite_true, ite_false, k0, k1, k2, k3, k4, k5, l1, l2, l3, l4, l5, f0, f1, f2, f3, f4, f5, f6, f7, f11])) | (refine w_n ?_ ?_; · (simp (disch := omega) only [vin, mk_xW, ml_xW, mr_xW, mi_xW, mI_xW, mC_xW, up_eq, up_na, up_nj, xL0, xL1, xL2, xL3, xL4, xL5, xL6, xL7, xL8, xL9, xL10, xL12, xL16, xL20, xL24, xL31, xL50, xL60, xL89, xL99, xL100, xL200, xI_add, xI_sub, xI_mul, xI_neg, xI_nat, xI_cl, Int.toNat_natCast, Int.reduceToNat, xltT, xltF, xleT, xleF, xeqT, xeqF, nleT, nleF, nltT, nltF, neqT, neqF, ileT, ileF, iltT, iltF, ieqT, ieqF, or_false, or_true, false_or, true_or, and_true, true_and, and_false, false_and, not_false_eq_true, not_true_eq_false, if_true, if_false, ite_true, ite_false, k0, k1, k2, k3, k4, k5, l1, l2, l3, l4, l5, f0, f1, f2, f3, f4, f5, f6, f7, f11]))
  simp (disch := omega) only [vin, mk_xW, ml_xW, mr_xW, mi_xW, mI_xW, mC_xW, up_eq, up_na, up_nj, xL0, xL1, xL2, xL3, xL4, xL5, xL6, xL7, xL8, xL9, xL10, xL12, xL16, xL20, xL24, xL31, xL50, xL60, xL89, xL99, xL100, xL200, xI_add, xI_sub, xI_mul, xI_neg, xI_nat, xI_cl, Int.toNat_natCast, Int.reduceToNat, xltT, xltF, xleT, xleF, xeqT, xeqF, nleT, nleF, nltT, nltF, neqT, neqF, ileT, ileF, iltT, iltF, ieqT, ieqF, or_false, or_true, false_or, true_or, and_true, true_and, and_false, false_and, not_false_eq_true, not_true_eq_false, if_true, if_false, ite_true, ite_false, f0, f1, f2, f3, f4, f5, f6, f7, f11]
  refine w_s ⟨_, rfl, ⟨fun j hj => ?_, ?_, ?_, fun i a h s hs => ?_, fun i a h s hs => ?_⟩, by repeat (first | exact fr_rfl | refine fr_ups ?_ (by omega))⟩
  · simp (disch := omega) only [vin, mk_xW, ml_xW, mr_xW, mi_xW, mI_xW, mC_xW, up_eq, up_na, up_nj, xL0, xL1, xL2, xL3, xL4, xL5, xL6, xL7, xL8, xL9, xL10, xL12, xL16, xL20, xL24, xL31, xL50, xL60, xL89, xL99, xL100, xL200, xI_add, xI_sub, xI_mul, xI_neg, xI_nat, xI_cl, Int.toNat_natCast, Int.reduceToNat, xltT, xltF, xleT, xleF, xeqT, xeqF, nleT, nleF, nltT, nltF, neqT, neqF, ileT, ileF, iltT, iltF, ieqT, ieqF, or_false, or_true, false_or, true_or, and_true, true_and, and_false, false_and, not_false_eq_true, not_true_eq_false, if_true, if_false, ite_true, ite_false, hf j hj]
  · rw [up_eq]; congr 1; show _ = ((d.2.1 ++ [r]).length : Int); rw [List.length_append]; rfl
  · simp (disch := omega) only [vin, mk_xW, ml_xW, mr_xW, mi_xW, mI_xW, mC_xW, up_eq, up_na, up_nj, xL0, xL1, xL2, xL3, xL4, xL5, xL6, xL7, xL8, xL9, xL10, xL12, xL16, xL20, xL24, xL31, xL50, xL60, xL89, xL99, xL100, xL200, xI_add, xI_sub, xI_mul, xI_neg, xI_nat, xI_cl, Int.toNat_natCast, Int.reduceToNat, xltT, xltF, xleT, xleF, xeqT, xeqF, nleT, nleF, nltT, nltF, neqT, neqF, ileT, ileF, iltT, iltF, ieqT, ieqF, or_false, or_true, false_or, true_or, and_true, true_and, and_false, false_and, not_false_eq_true, not_true_eq_false, if_true, if_false, ite_true, ite_false, f11]
  · have h : (d.2.1 ++ [r])[i]? = some a := h
    rw [up_na (by omega)]
    by_cases c : i < d.2.1.length
    · rw [List.getElem?_append_left c] at h
      rw [up_nj (by omega), up_nj (by omega), up_nj (by omega)]
      exact ha i a h s hs
    · have hi := dr_lt h
      rw [List.length_append] at hi
      have e : i = d.2.1.length := by simp at hi; omega
      subst e
      rw [List.getElem?_append_right (Nat.le_refl _), Nat.sub_self] at h
      have e : r = a := by simpa using h
      subst e
      have hs2 : s = 0 ∨ s = 1 ∨ s = 2 := by omega
      rcases hs2 with e | e | e <;> subst e <;> simp (disch := omega) only [vin, mk_xW, ml_xW, mr_xW, mi_xW, mI_xW, mC_xW, up_eq, up_na, up_nj, xL0, xL1, xL2, xL3, xL4, xL5, xL6, xL7, xL8, xL9, xL10, xL12, xL16, xL20, xL24, xL31, xL50, xL60, xL89, xL99, xL100, xL200, xI_add, xI_sub, xI_mul, xI_neg, xI_nat, xI_cl, Int.toNat_natCast, Int.reduceToNat, xltT, xltF, xleT, xleF, xeqT, xeqF, nleT, nleF, nltT, nltF, neqT, neqF, ileT, ileF, iltT, iltF, ieqT, ieqF, or_false, or_true, false_or, true_or, and_true, true_and, and_false, false_and, not_false_eq_true, not_true_eq_false, if_true, if_false, ite_true, ite_false, h0, h1, h2]
  · simp (disch := omega) only [vin, mk_xW, ml_xW, mr_xW, mi_xW, mI_xW, mC_xW, up_eq, up_na, up_nj, xL0, xL1, xL2, xL3, xL4, xL5, xL6, xL7, xL8, xL9, xL10, xL12, xL16, xL20, xL24, xL31, xL50, xL60, xL89, xL99, xL100, xL200, xI_add, xI_sub, xI_mul, xI_neg, xI_nat, xI_cl, Int.toNat_natCast, Int.reduceToNat, xltT, xltF, xleT, xleF, xeqT, xeqF, nleT, nleF, nltT, nltF, neqT, neqF, ileT, ileF, iltT, iltF, ieqT, ieqF, or_false, or_true, false_or, true_or, and_true, true_and, and_false, false_and, not_false_eq_true, not_true_eq_false, if_true, if_false, ite_true, ite_false, hk i a h s hs]
theorem L_forget (hB : dB q m) (n : Nat) (hn : n ≤ 4) : ∀ r i, i + r = n → ∀ f, r < f → ∀ σ : aN, σ q 7 = xI n → wq (fL_X0_forget f 7 (xW m σ) q (xI (i : Nat))) (fun z => ∃ τ, z = xW m τ ∧ ∀ x y, τ x y = if x = q + 3 ∧ i ≤ y ∧ y < n then xI (-1) else σ x y) := by
  obtain ⟨k0, r8, r9, r10, r12, r13, k1, k2, k3, k4, k5, l1, l2, l3, l4, l5⟩ := hB
  intro r
  induction r with
  | zero =>
    intro i hi f hf σ f7
    obtain ⟨g, rfl⟩ : ∃ g, f = g + 1 := ⟨f - 1, by omega⟩
    show wq (fB_X0_forget_7 (fL_X0_forget g) (xW m σ) q (xI (i : Nat))) _
    unfold fB_X0_forget_7; simp only [mk_xW, ml_xW, mr_xW, mi_xW, mI_xW, mC_xW]
    repeat first | refine w_b r8 ?_ | refine w_b r9 ?_ | refine w_b r10 ?_ | refine w_b r12 ?_ | refine w_b r13 ?_ | (refine w_i ?_ ?_; · (simp (disch := omega) only [vin, mk_xW, ml_xW, mr_xW, mi_xW, mI_xW, mC_xW, up_eq, up_na, up_nj, xL0, xL1, xL2, xL3, xL4, xL5, xL6, xL7, xL8, xL9, xL10, xL12, xL16, xL20, xL24, xL31, xL50, xL60, xL89, xL99, xL100, xL200, xI_add, xI_sub, xI_mul, xI_neg, xI_nat, xI_cl, Int.toNat_natCast, Int.reduceToNat, xltT, xltF, xleT, xleF, xeqT, xeqF, nleT, nleF, nltT, nltF, neqT, neqF, ileT, ileF, iltT, iltF, ieqT, ieqF, or_false, or_true, false_or, true_or, and_true, true_and, and_false, false_and, not_false_eq_true, not_true_eq_false, if_true, if_false, ite_true, ite_false, k0, k1, k2, k3, k4, k5, l1, l2, l3, l4, l5, f7])) | (refine w_n ?_ ?_; · (simp (disch := omega) only [vin, mk_xW, ml_xW, mr_xW, mi_xW, mI_xW, mC_xW, up_eq, up_na, up_nj, xL0, xL1, xL2, xL3, xL4, xL5, xL6, xL7, xL8, xL9, xL10, xL12, xL16, xL20, xL24, xL31, xL50, xL60, xL89, xL99, xL100, xL200, xI_add, xI_sub, xI_mul, xI_neg, xI_nat, xI_cl, Int.toNat_natCast, Int.reduceToNat, xltT, xltF, xleT, xleF, xeqT, xeqF, nleT, nleF, nltT, nltF, neqT, neqF, ileT, ileF, iltT, iltF, ieqT, ieqF, or_false, or_true, false_or, true_or, and_true, true_and, and_false, false_and, not_false_eq_true, not_true_eq_false, if_true, if_false, ite_true, ite_false, k0, k1, k2, k3, k4, k5, l1, l2, l3, l4, l5, f7]))
    refine w_s ⟨_, rfl, fun x y => ?_⟩
    rw [if_neg (by omega)]
  | succ r ih =>
    intro i hi f hf σ f7
    obtain ⟨g, rfl⟩ : ∃ g, f = g + 1 := ⟨f - 1, by omega⟩
    show wq (fB_X0_forget_7 (fL_X0_forget g) (xW m σ) q (xI (i : Nat))) _
    unfold fB_X0_forget_7; simp only [mk_xW, ml_xW, mr_xW, mi_xW, mI_xW, mC_xW]
    repeat first | refine w_b r8 ?_ | refine w_b r9 ?_ | refine w_b r10 ?_ | refine w_b r12 ?_ | refine w_b r13 ?_ | (refine w_i ?_ ?_; · (simp (disch := omega) only [vin, mk_xW, ml_xW, mr_xW, mi_xW, mI_xW, mC_xW, up_eq, up_na, up_nj, xL0, xL1, xL2, xL3, xL4, xL5, xL6, xL7, xL8, xL9, xL10, xL12, xL16, xL20, xL24, xL31, xL50, xL60, xL89, xL99, xL100, xL200, xI_add, xI_sub, xI_mul, xI_neg, xI_nat, xI_cl, Int.toNat_natCast, Int.reduceToNat, xltT, xltF, xleT, xleF, xeqT, xeqF, nleT, nleF, nltT, nltF, neqT, neqF, ileT, ileF, iltT, iltF, ieqT, ieqF, or_false, or_true, false_or, true_or, and_true, true_and, and_false, false_and, not_false_eq_true, not_true_eq_false, if_true, if_false, ite_true, ite_false, k0, k1, k2, k3, k4, k5, l1, l2, l3, l4, l5, f7])) | (refine w_n ?_ ?_; · (simp (disch := omega) only [vin, mk_xW, ml_xW, mr_xW, mi_xW, mI_xW, mC_xW, up_eq, up_na, up_nj, xL0, xL1, xL2, xL3, xL4, xL5, xL6, xL7, xL8, xL9, xL10, xL12, xL16, xL20, xL24, xL31, xL50, xL60, xL89, xL99, xL100, xL200, xI_add, xI_sub, xI_mul, xI_neg, xI_nat, xI_cl, Int.toNat_natCast, Int.reduceToNat, xltT, xltF, xleT, xleF, xeqT, xeqF, nleT, nleF, nltT, nltF, neqT, neqF, ileT, ileF, iltT, iltF, ieqT, ieqF, or_false, or_true, false_or, true_or, and_true, true_and, and_false, false_and, not_false_eq_true, not_true_eq_false, if_true, if_false, ite_true, ite_false, k0, k1, k2, k3, k4, k5, l1, l2, l3, l4, l5, f7]))
    simp (disch := omega) only [vin, mk_xW, ml_xW, mr_xW, mi_xW, mI_xW, mC_xW, up_eq, up_na, up_nj, xL0, xL1, xL2, xL3, xL4, xL5, xL6, xL7, xL8, xL9, xL10, xL12, xL16, xL20, xL24, xL31, xL50, xL60, xL89, xL99, xL100, xL200, xI_add, xI_sub, xI_mul, xI_neg, xI_nat, xI_cl, Int.toNat_natCast, Int.reduceToNat, xltT, xltF, xleT, xleF, xeqT, xeqF, nleT, nleF, nltT, nltF, neqT, neqF, ileT, ileF, iltT, iltF, ieqT, ieqF, or_false, or_true, false_or, true_or, and_true, true_and, and_false, false_and, not_false_eq_true, not_true_eq_false, if_true, if_false, ite_true, ite_false]
    refine w_m (ih (i + 1) (by omega) g (by omega) _ (by rw [up_na (by omega)]; exact f7)) ?_
    rintro z ⟨τ, h1, h2⟩
    refine ⟨τ, h1, fun x y => ?_⟩
    rw [h2 x y]
    by_cases c : x = q + 3 ∧ y = i
    · rw [if_neg (by omega), if_pos (by omega), up_eq2 c]
    · have e : up σ (q + 3) i (xI (-1)) x y = σ x y := by unfold up; rw [if_neg c]
      rw [e]
      by_cases c2 : x = q + 3 ∧ i + 1 ≤ y ∧ y < n
      · rw [if_pos c2, if_pos (by omega)]
      · rw [if_neg c2, if_neg (by omega)]
theorem S_forget (hB : dB q m) (hR : RDr q σ d) (hW : WDr d) : wq (f_X0_forget (xW m σ) q) (fun z => ∃ τ, z = xW m τ ∧ RDr q τ (d.1, a_unask d.2.1, []) ∧ fr q 6 σ τ) := by
  have hB0 := hB
  obtain ⟨k0, r8, r9, r10, r12, r13, k1, k2, k3, k4, k5, l1, l2, l3, l4, l5⟩ := hB; obtain ⟨hf, f7, f11, ha, hk⟩ := hR; have f0 := hf 0 (by omega); have f1 := hf 1 (by omega); have f2 := hf 2 (by omega); have f3 := hf 3 (by omega); have f4 := hf 4 (by omega); have f5 := hf 5 (by omega); have f6 := hf 6 (by omega); obtain ⟨w0, w1, w2, w3, w4, w5, w6, w7, w8⟩ := hW
  unfold f_X0_forget; simp only [mk_xW, ml_xW, mr_xW, mi_xW, mI_xW, mC_xW]
  refine w_i k0 ?_
  refine w_m (L_forget hB0 d.2.1.length w5 d.2.1.length 0 (by omega) vF (by unfold vF; omega) _ (by rw [up_nj (by omega)]; exact f7)) ?_
  rintro z ⟨τ, h1, h2⟩
  refine ⟨τ, h1, ⟨fun j hj => ?_, ?_, ?_, fun i a h s hs => ?_, fun i a h s hs => ?_⟩, fun x hx => ?_⟩
  · rw [h2, if_neg (by omega), up_nj (by omega)]; exact hf j hj
  · rw [h2, if_neg (by omega), up_nj (by omega), f7]; unfold a_unask; rw [List.length_map]
  · rw [h2, if_neg (by omega), up_eq]; rfl
  · have h : (d.2.1.map (fun a => fu a 2 (-1)))[i]? = some a := h
    rw [List.getElem?_map] at h
    cases e : d.2.1[i]? with
    | none => rw [e] at h; cases h
    | some b =>
      rw [e] at h
      have h : fu b 2 (-1) = a := by simpa using h
      have hl := dr_lt e
      subst h
      rw [h2]
      by_cases c : s = 2
      · subst c; rw [if_pos (by omega), fu_eq]
      · rw [if_neg (by omega), up_na (by omega), fu_ne c]; exact ha i b e s hs
  · cases h
  · funext y; rw [h2, if_neg (by omega), up_na (by omega)]
end
