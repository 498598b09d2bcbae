section
variable {b k : Nat} {σ τ : aN} {S : aS} {d : aD} {m : vM}
theorem L_askedBy {L : List aR} (hV : VB b m) (hk : k < 10) (hL : ∀ a ∈ L, 0 ≤ a 0 ∧ a 0 ≤ 9) (hL4 : L.length ≤ 4) (hR : RDr (b + 14 + 6 * k) σ d) (hd : d.2.1 = L) : ∀ r i, i + r = L.length → ∀ f, r < f → ∀ x : Nat, fL_X1_askedBy f 20 (xW m σ) b (xI (k : Nat)) (xI (x : Int)) (b + 14 + 6 * k) (xI (i : Nat)) = some (xI (aB0 x (L.drop i) : Nat)) := by
  have hdB := (hV.2.2.2.2.2.2.2.2 k hk).2
  obtain ⟨k0, r8, r9, r10, r12, r13, k1, k2, k3, k4, k5, l1, l2, l3, l4, l5⟩ := hdB
  have f7 := hR.2.1
  rw [hd] at f7
  intro r
  induction r with
  | zero =>
    intro i hi f hf x
    obtain ⟨g, rfl⟩ : ∃ g, f = g + 1 := ⟨f - 1, by omega⟩
    rw [List.drop_of_length_le (by omega)]
    show fB_X1_askedBy_20 (fL_X1_askedBy g) (xW m σ) b _ _ _ _ = _
    unfold fB_X1_askedBy_20
    simp (disch := omega) only [vin, mk_xW, ml_xW, mr_xW, mi_xW, mI_xW, mC_xW, up_eq, up_na, up_nj, xL0, xL1, xL2, xL3, xL4, xL5, xL6, xL7, xL8, xL9, xL10, xL12, xL16, xL20, xL24, xL31, xL50, xL60, xL89, xL99, xL100, xL200, xI_add, xI_sub, xI_mul, xI_neg, xI_nat, xI_cl, Int.toNat_natCast, Int.reduceToNat, xltT, xltF, xleT, xleF, xeqT, xeqF, nleT, nleF, nltT, nltF, neqT, neqF, ileT, ileF, iltT, iltF, ieqT, ieqF, or_false, or_true, false_or, true_or, and_true, true_and, and_false, false_and, not_false_eq_true, not_true_eq_false, ↓reduceIte, if_true, if_false, k0, f7]
    rfl
  | succ r ih =>
    intro i hi f hf x
    obtain ⟨g, rfl⟩ : ∃ g, f = g + 1 := ⟨f - 1, by omega⟩
    obtain ⟨a, h1, h2⟩ := dr_at (l := L) (i := i) (by omega)
    have ha := hL a (dr_mem h1)
    have g0 : σ (b + 14 + 6 * k + 1) i = xI (a 0) := hR.2.2.2.1 i a (by rw [hd]; exact h1) 0 (by omega)
    obtain ⟨o, ho⟩ : ∃ o : Nat, a 0 = o := ⟨(a 0).toNat, by omega⟩
    have e1 := shl_bit o (by omega)
    show fB_X1_askedBy_20 (fL_X1_askedBy g) (xW m σ) b _ _ _ _ = _
    unfold fB_X1_askedBy_20
    rw [h2]
    simp (disch := omega) only [vin, mk_xW, ml_xW, mr_xW, mi_xW, mI_xW, mC_xW, up_eq, up_na, up_nj, xL0, xL1, xL2, xL3, xL4, xL5, xL6, xL7, xL8, xL9, xL10, xL12, xL16, xL20, xL24, xL31, xL50, xL60, xL89, xL99, xL100, xL200, xI_add, xI_sub, xI_mul, xI_neg, xI_nat, xI_cl, Int.toNat_natCast, Int.reduceToNat, xltT, xltF, xleT, xleF, xeqT, xeqF, nleT, nleF, nltT, nltF, neqT, neqF, ileT, ileF, iltT, iltF, ieqT, ieqF, or_false, or_true, false_or, true_or, and_true, true_and, and_false, false_and, not_false_eq_true, not_true_eq_false, ↓reduceIte, if_true, if_false, k0, k1, l1, f7, r8, Option.bind_some, g0, ho, e1, xI_or]
    rw [show ((i : Int) + 1) = ((i + 1 : Nat) : Int) by simp, ih (i + 1) (by omega) g (by omega) (x ||| 2 ^ o)]
    show _ = some (xI ((aB0 (x ||| 2 ^ (a 0).toNat) (L.drop (i + 1)) : Nat) : Int))
    rw [show (a 0).toNat = o by omega]
theorem S_askedBy (hV : VB b m) (hR : RS b σ S) (hn : S.1 ≤ 10) (hk : k < S.1) (hW : WDr (S.2.2.1 k)) : f_X1_askedBy (xW m σ) b (xI (k : Nat)) = some (xI (aB (S.2.2.1 k).2.1 : Nat)) := by
  have hid := S_isDoor (x := (k : Nat)) hV hR hn (by omega)
  rw [if_pos (by omega)] at hid
  have hV0 := hV
  obtain ⟨v0, v2, v3, v4, v5, v6, v7, _, v9⟩ := hV
  obtain ⟨hr, hdB⟩ := v9 k (by omega)
  have hr2 : mr m (b + 1) (xI (k : Nat)).toNatClampNeg = some (b + 14 + 6 * k) := by rw [← hr]; simp (disch := omega) only [vin, mk_xW, ml_xW, mr_xW, mi_xW, mI_xW, mC_xW, up_eq, up_na, up_nj, xL0, xL1, xL2, xL3, xL4, xL5, xL6, xL7, xL8, xL9, xL10, xL12, xL16, xL20, xL24, xL31, xL50, xL60, xL89, xL99, xL100, xL200, xI_add, xI_sub, xI_mul, xI_neg, xI_nat, xI_cl, Int.toNat_natCast, Int.reduceToNat, xltT, xltF, xleT, xleF, xeqT, xeqF, nleT, nleF, nltT, nltF, neqT, neqF, ileT, ileF, iltT, iltF, ieqT, ieqF, or_false, or_true, false_or, true_or, and_true, true_and, and_false, false_and, not_false_eq_true, not_true_eq_false, ↓reduceIte, if_true, if_false]
  obtain ⟨w0, w1, w2, w3, w4, w5, w6, w7, w8⟩ := hW
  have hl : (mkd (S.2.2.1 k)).2.1.length ≤ 4 := by unfold mkd; rw [List.length_map]; exact w5
  have h9 := L_askedBy hV0 (k := k) (by omega) (L := (mkd (S.2.2.1 k)).2.1) (fun a ha => by
    obtain ⟨c, hc, rfl⟩ := List.mem_map.mp ha
    have := w7 c hc
    simp [fu]; omega) hl (hR.2.2.1 k hk) rfl _ 0 (Nat.zero_add _) vF (by unfold vF; omega) 0
  apply wq_eq
  unfold f_X1_askedBy; simp only [mk_xW, ml_xW, mr_xW, mi_xW, mI_xW, mC_xW]
  refine w_i v0 ?_
  refine w_b hid ?_
  refine w_n (by decide) ?_
  refine w_b v2 ?_
  refine w_i v5 ?_
  refine w_i (by simp (disch := omega) only [vin, mk_xW, ml_xW, mr_xW, mi_xW, mI_xW, mC_xW, up_eq, up_na, up_nj, xL0, xL1, xL2, xL3, xL4, xL5, xL6, xL7, xL8, xL9, xL10, xL12, xL16, xL20, xL24, xL31, xL50, xL60, xL89, xL99, xL100, xL200, xI_add, xI_sub, xI_mul, xI_neg, xI_nat, xI_cl, Int.toNat_natCast, Int.reduceToNat, xltT, xltF, xleT, xleF, xeqT, xeqF, nleT, nleF, nltT, nltF, neqT, neqF, ileT, ileF, iltT, iltF, ieqT, ieqF, or_false, or_true, false_or, true_or, and_true, true_and, and_false, false_and, not_false_eq_true, not_true_eq_false, ↓reduceIte, if_true, if_false, v6]) ?_
  refine w_b hr2 ?_
  refine ⟨_, h9, ?_⟩
  congr 2
  rw [List.drop_zero]
  unfold aB aB0 mkd
  simp only [List.foldl_map]
  congr 1
theorem and_bit {x k : Nat} : x &&& 2 ^ k = if x.testBit k = true then 2 ^ k else 0 := by
  apply Nat.eq_of_testBit_eq
  intro i
  rw [Nat.testBit_and, Nat.testBit_two_pow]
  by_cases e : k = i
  · subst e
    cases h : x.testBit k <;> simp [Nat.testBit_two_pow]
  · cases h : x.testBit k <;> simp [Nat.testBit_two_pow, e]
theorem aB_lt {l : List aR} (h : ∀ a ∈ l, 0 ≤ a 0 ∧ a 0 ≤ 9) : aB l < 2 ^ 10 := by
  apply Nat.lt_pow_two_of_testBit
  intro i hi
  cases e : (aB l).testBit i with
  | false => rfl
  | true =>
    obtain ⟨c, h1, h2⟩ := aB_bit.mp e
    have := h c h1
    omega
theorem L_ro {i1 i3 : Int32} {x : Nat} (hV : VB b m) (hR : RS b σ S) (hn : S.1 ≤ 10) (hW : ∀ k, k < S.1 → WDr (S.2.2.1 k)) : ∀ r k, k + r = S.1 → ∀ g acc, fL_X1_reachedFrom (r + 1 + g) 22 (xW m σ) b i1 (xI (x : Int)) i3 (xI (acc : Nat)) (xI (k : Nat)) = fL_X1_reachedFrom g 8 (xW m σ) b i1 (xI (a_ro S x k r acc : Nat)) (i3 + 1) 0 0 := by
  have v0 := hV.1
  have f1 := hR.2.1
  intro r
  induction r with
  | zero =>
    intro k hk g acc
    rw [show 0 + 1 + g = g + 1 by omega]
    show fB_X1_reachedFrom_22 (fL_X1_reachedFrom g) (xW m σ) b i1 _ _ _ _ = _
    unfold fB_X1_reachedFrom_22
    rw [if_pos (show mk (xW m σ) b = 1 from v0), if_pos (by simp (disch := omega) only [vin, mk_xW, ml_xW, mr_xW, mi_xW, mI_xW, mC_xW, up_eq, up_na, up_nj, xL0, xL1, xL2, xL3, xL4, xL5, xL6, xL7, xL8, xL9, xL10, xL12, xL16, xL20, xL24, xL31, xL50, xL60, xL89, xL99, xL100, xL200, xI_add, xI_sub, xI_mul, xI_neg, xI_nat, xI_cl, Int.toNat_natCast, Int.reduceToNat, xltT, xltF, xleT, xleF, xeqT, xeqF, nleT, nleF, nltT, nltF, neqT, neqF, ileT, ileF, iltT, iltF, ieqT, ieqF, or_false, or_true, false_or, true_or, and_true, true_and, and_false, false_and, not_false_eq_true, not_true_eq_false, ↓reduceIte, if_true, if_false, f1])]
    rfl
  | succ r ih =>
    intro k hk g acc
    rw [show r + 1 + 1 + g = (r + 1 + g) + 1 by omega]
    have hsb := shl_bit k (by omega)
    show fB_X1_reachedFrom_22 (fL_X1_reachedFrom (r + 1 + g)) (xW m σ) b i1 _ _ _ _ = _
    unfold fB_X1_reachedFrom_22
    rw [if_pos (show mk (xW m σ) b = 1 from v0), if_neg (by simp (disch := omega) only [vin, mk_xW, ml_xW, mr_xW, mi_xW, mI_xW, mC_xW, up_eq, up_na, up_nj, xL0, xL1, xL2, xL3, xL4, xL5, xL6, xL7, xL8, xL9, xL10, xL12, xL16, xL20, xL24, xL31, xL50, xL60, xL89, xL99, xL100, xL200, xI_add, xI_sub, xI_mul, xI_neg, xI_nat, xI_cl, Int.toNat_natCast, Int.reduceToNat, xltT, xltF, xleT, xleF, xeqT, xeqF, nleT, nleF, nltT, nltF, neqT, neqF, ileT, ileF, iltT, iltF, ieqT, ieqF, or_false, or_true, false_or, true_or, and_true, true_and, and_false, false_and, not_false_eq_true, not_true_eq_false, ↓reduceIte, if_true, if_false, f1])]
    have hand : ((xI (x : Int) &&& (1 <<< (xI (k : Nat) &&& 31))) = 0) ↔ ¬ x.testBit k = true := by
      rw [show ((1 : Int32) <<< (xI (k : Nat) &&& 31)) = xI ((2 ^ k : Nat) : Int) from hsb, xI_and, and_bit]
      cases x.testBit k with
      | false => simp; decide
      | true =>
        rw [if_pos rfl]
        have h2 : 2 ^ k < 2 ^ 10 := Nat.pow_lt_pow_right (by decide) (by omega)
        have h3 : 0 < 2 ^ k := Nat.pow_pos (by decide)
        rw [xL0, xeqF (by generalize 2 ^ k = y at h2 h3 ⊢; omega)]
        simp
    show (if _ then _ else _) = fL_X1_reachedFrom g 8 (xW m σ) b i1 (xI (a_ro S x (k + 1) r (if x.testBit k then acc ||| aB (S.2.2.1 k).2.1 else acc) : Nat)) (i3 + 1) 0 0
    by_cases e : x.testBit k = true
    · rw [if_neg (fun h => (hand.mp h) e), if_pos e, S_askedBy hV hR hn (by omega) (hW k (by omega))]
      simp only [Option.bind_some, xI_or]
      rw [show xI (k : Nat) + 1 = xI ((k + 1 : Nat) : Int) by rw [xL1, xI_add]; rfl]
      exact ih (k + 1) (by omega) g _
    · rw [if_pos (hand.mpr e), if_neg e]
      rw [show xI (k : Nat) + 1 = xI ((k + 1 : Nat) : Int) by rw [xL1, xI_add]; rfl]
      exact ih (k + 1) (by omega) g _
theorem L_rd {i1 : Int32} (hV : VB b m) (hR : RS b σ S) (hn : S.1 ≤ 10) (hW : ∀ k, k < S.1 → WDr (S.2.2.1 k)) : ∀ r i, i + r = S.1 → ∀ f, 20 * r < f → ∀ x : Nat, fL_X1_reachedFrom f 8 (xW m σ) b i1 (xI (x : Int)) (xI (i : Nat)) 0 0 = some (xI (a_rd S r x : Nat)) := by
  have v0 := hV.1
  have f1 := hR.2.1
  intro r
  induction r with
  | zero =>
    intro i hi f hf x
    obtain ⟨g, rfl⟩ : ∃ g, f = g + 1 := ⟨f - 1, by omega⟩
    show fB_X1_reachedFrom_8 (fL_X1_reachedFrom g) (xW m σ) b i1 (xI (x : Int)) (xI (i : Nat)) 0 0 = _
    unfold fB_X1_reachedFrom_8
    rw [if_pos (show mk (xW m σ) b = 1 from v0), if_pos (by simp (disch := omega) only [vin, mk_xW, ml_xW, mr_xW, mi_xW, mI_xW, mC_xW, up_eq, up_na, up_nj, xL0, xL1, xL2, xL3, xL4, xL5, xL6, xL7, xL8, xL9, xL10, xL12, xL16, xL20, xL24, xL31, xL50, xL60, xL89, xL99, xL100, xL200, xI_add, xI_sub, xI_mul, xI_neg, xI_nat, xI_cl, Int.toNat_natCast, Int.reduceToNat, xltT, xltF, xleT, xleF, xeqT, xeqF, nleT, nleF, nltT, nltF, neqT, neqF, ileT, ileF, iltT, iltF, ieqT, ieqF, or_false, or_true, false_or, true_or, and_true, true_and, and_false, false_and, not_false_eq_true, not_true_eq_false, ↓reduceIte, if_true, if_false, f1])]
    rfl
  | succ r ih =>
    intro i hi f hf x
    obtain ⟨g, rfl⟩ : ∃ g, f = (S.1 + 1 + g) + 1 := ⟨f - S.1 - 2, by omega⟩
    show fB_X1_reachedFrom_8 (fL_X1_reachedFrom (S.1 + 1 + g)) (xW m σ) b i1 (xI (x : Int)) (xI (i : Nat)) 0 0 = _
    unfold fB_X1_reachedFrom_8
    rw [if_pos (show mk (xW m σ) b = 1 from v0), if_neg (by simp (disch := omega) only [vin, mk_xW, ml_xW, mr_xW, mi_xW, mI_xW, mC_xW, up_eq, up_na, up_nj, xL0, xL1, xL2, xL3, xL4, xL5, xL6, xL7, xL8, xL9, xL10, xL12, xL16, xL20, xL24, xL31, xL50, xL60, xL89, xL99, xL100, xL200, xI_add, xI_sub, xI_mul, xI_neg, xI_nat, xI_cl, Int.toNat_natCast, Int.reduceToNat, xltT, xltF, xleT, xleF, xeqT, xeqF, nleT, nleF, nltT, nltF, neqT, neqF, ileT, ileF, iltT, iltF, ieqT, ieqF, or_false, or_true, false_or, true_or, and_true, true_and, and_false, false_and, not_false_eq_true, not_true_eq_false, ↓reduceIte, if_true, if_false, f1])]
    rw [show (0 : Int32) = xI ((0 : Nat) : Int) by rfl, L_ro hV hR hn hW S.1 0 (by omega) g x]
    rw [show xI (i : Nat) + 1 = xI ((i + 1 : Nat) : Int) by rw [xL1, xI_add]; rfl]
    exact ih (i + 1) (by omega) g (by omega) _
theorem S_reach (hV : VB b m) (hR : RS b σ S) (hn : S.1 ≤ 10) (hW : ∀ k, k < S.1 → WDr (S.2.2.1 k)) (hk : k < S.1) : f_X1_reachedFrom (xW m σ) b (xI (k : Nat)) = some (xI (a_rch S k : Nat)) := by
  unfold f_X1_reachedFrom
  rw [if_pos (show mk (xW m σ) b = 1 from hV.1), S_askedBy hV hR hn hk (hW k hk)]
  exact L_rd hV hR hn hW S.1 0 (by omega) vF (by unfold vF; omega) _
end
