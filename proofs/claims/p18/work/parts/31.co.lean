/-! what is counted of the doors -/
def a_opn (S : aS) (k : Nat) : Nat → Int
  | 0 => 0
  | r + 1 => (if (S.2.2.1 k).1 3 = 2 then (2 : Int) ^ k else 0) + a_opn S (k + 1) r
def a_cnt (S : aS) (g : Int) (k : Nat) : Nat → Int
  | 0 => 0
  | r + 1 => (if (S.2.2.1 k).1 3 = g then 1 else 0) + a_cnt S g (k + 1) r
theorem or_bit : ∀ k, k < 10 → ∀ x, x < 2 ^ k → xI ((x : Nat) : Int) ||| (xI 1 <<< (xI ((k : Nat) : Int) &&& xI 31)) = xI ((x : Int) + 2 ^ k) := by decide +kernel
theorem and31 : ∀ k, k < 10 → (xI ((k : Nat) : Int) &&& xI 31) = xI (k : Int) := by decide +kernel
/-- what is counted in all -/
def cF (S : aS) (w : Int) : Int := if w = 0 then S.2.1 0 else if w = 1 then S.1 else if w = 2 then a_cnt S 0 0 S.1 else if w = 3 then a_cnt S 1 0 S.1 else if w = 4 then a_cnt S 2 0 S.1 else if w = 5 then a_cnt S 3 0 S.1 else if w = 6 then S.2.2.2.length else if w = 7 then S.2.1 1 else a_opn S 0 S.1
section
variable {b b2 k : Nat} {σ τ : aN} {S T : aS} {d : aD} {m : vM} {E : Nat → List (Int × Int)} {Lw : Nat → Int}
theorem mul2 {k : Nat} : (2 : Int) ^ (k + 1) = 2 ^ k + 2 ^ k := by rw [Int.pow_succ]; omega
theorem L_open (hV : VB b m) (hR : RS b σ S) (hn : S.1 ≤ 10) (hs : ∀ k, k < S.1 → 0 ≤ (S.2.2.1 k).1 3 ∧ (S.2.2.1 k).1 3 ≤ 3) : ∀ r i, i + r = S.1 → ∀ f, r < f → ∀ x : Nat, x < 2 ^ i → fL_X1_openDoors f 4 (xW m σ) b (xI (x : Int)) (xI (i : Nat)) = some (xI (x + a_opn S i r)) := by
  obtain ⟨v0, v2, v3, v4, v5, v6, v7, v8, v9⟩ := hV
  have f1 := hR.2.1
  intro r
  induction r with
  | zero =>
    intro i hi f hf x hx
    obtain ⟨g, rfl⟩ : ∃ g, f = g + 1 := ⟨f - 1, by omega⟩
    show fB_X1_openDoors_4 (fL_X1_openDoors g) (xW m σ) b _ _ = _
    unfold fB_X1_openDoors_4
    simp (disch := omega) only [vin, mk_xW, ml_xW, mr_xW, mi_xW, mI_xW, mC_xW, up_eq, up_na, up_nj, xL0, xL1, xL2, xL3, xL4, xL5, xL6, xL7, xL8, xL9, xL10, xL12, xL16, xL20, xL24, xL31, xL50, xL60, xL89, xL99, xL100, xL200, xI_add, xI_sub, xI_mul, xI_neg, xI_nat, xI_cl, Int.toNat_natCast, Int.reduceToNat, xltT, xltF, xleT, xleF, xeqT, xeqF, nleT, nleF, nltT, nltF, neqT, neqF, ileT, ileF, iltT, iltF, ieqT, ieqF, or_false, or_true, false_or, true_or, and_true, true_and, and_false, false_and, not_false_eq_true, not_true_eq_false, ↓reduceIte, if_true, if_false, v0, f1]
    show _ = some (xI (x + 0)); rw [Int.add_zero]
  | succ r ih =>
    intro i hi f hf x hx
    obtain ⟨g, rfl⟩ : ∃ g, f = g + 1 := ⟨f - 1, by omega⟩
    obtain ⟨hr, hdB⟩ := v9 i (by omega)
    have f3 : σ (b + 14 + 6 * i) 3 = xI ((S.2.2.1 i).1 3) := (hR.2.2.1 i (by omega)).1 3 (by omega)
    have h3 := hs i (by omega)
    show fB_X1_openDoors_4 (fL_X1_openDoors g) (xW m σ) b _ _ = _
    unfold fB_X1_openDoors_4
    have e0 : a_opn S i (r + 1) = (if (S.2.2.1 i).1 3 = 2 then (2 : Int) ^ i else 0) + a_opn S (i + 1) r := rfl
    by_cases e : (S.2.2.1 i).1 3 = 2
    · simp (disch := omega) only [vin, mk_xW, ml_xW, mr_xW, mi_xW, mI_xW, mC_xW, up_eq, up_na, up_nj, xL0, xL1, xL2, xL3, xL4, xL5, xL6, xL7, xL8, xL9, xL10, xL12, xL16, xL20, xL24, xL31, xL50, xL60, xL89, xL99, xL100, xL200, xI_add, xI_sub, xI_mul, xI_neg, xI_nat, xI_cl, Int.toNat_natCast, Int.reduceToNat, xltT, xltF, xleT, xleF, xeqT, xeqF, nleT, nleF, nltT, nltF, neqT, neqF, ileT, ileF, iltT, iltF, ieqT, ieqF, or_false, or_true, false_or, true_or, and_true, true_and, and_false, false_and, not_false_eq_true, not_true_eq_false, ↓reduceIte, if_true, if_false, v0, f1, v2, Option.bind_some, v5, v6, hr, hdB.1, f3]
      have h9 := ih (i + 1) (by omega) g (by omega) (x + 2 ^ i) (by rw [Nat.pow_succ]; omega)
      have ob := or_bit i (by omega) x hx
      rw [show ((xI ↑x ||| xI 1 <<< (xI ↑i &&& xI 31)) : Int32) = xI ((x + 2 ^ i : Nat) : Int) by rw [ob]; congr 1 <;> simp]
      rw [show ((i : Int) + 1) = ((i + 1 : Nat) : Int) by simp, h9, e0, if_pos e]
      congr 2; simp; omega
    · simp (disch := omega) only [vin, mk_xW, ml_xW, mr_xW, mi_xW, mI_xW, mC_xW, up_eq, up_na, up_nj, xL0, xL1, xL2, xL3, xL4, xL5, xL6, xL7, xL8, xL9, xL10, xL12, xL16, xL20, xL24, xL31, xL50, xL60, xL89, xL99, xL100, xL200, xI_add, xI_sub, xI_mul, xI_neg, xI_nat, xI_cl, Int.toNat_natCast, Int.reduceToNat, xltT, xltF, xleT, xleF, xeqT, xeqF, nleT, nleF, nltT, nltF, neqT, neqF, ileT, ileF, iltT, iltF, ieqT, ieqF, or_false, or_true, false_or, true_or, and_true, true_and, and_false, false_and, not_false_eq_true, not_true_eq_false, ↓reduceIte, if_true, if_false, v0, f1, v2, Option.bind_some, v5, v6, hr, hdB.1, f3]
      have h9 := ih (i + 1) (by omega) g (by omega) x (by rw [Nat.pow_succ]; omega)
      rw [show ((i : Int) + 1) = ((i + 1 : Nat) : Int) by simp, h9, e0, if_neg e, Int.zero_add]
theorem S_open2 (hV : VB b m) (hR : RS b σ S) (hn : S.1 ≤ 10) (hs : ∀ k, k < S.1 → 0 ≤ (S.2.2.1 k).1 3 ∧ (S.2.2.1 k).1 3 ≤ 3) : f_X1_openDoors (xW m σ) b = some (xI (a_opn S 0 S.1)) := by
  have h := L_open hV hR hn hs S.1 0 (by omega) vF (by unfold vF; omega) 0 (by simp)
  unfold f_X1_openDoors
  rw [show ((0 : Nat) : Int) = 0 by rfl, Int.zero_add] at h
  exact h
theorem L_that {w : Int} (hV : VB b m) (hR : RS b σ S) (hn : S.1 ≤ 10) (hs : ∀ k, k < S.1 → 0 ≤ (S.2.2.1 k).1 3 ∧ (S.2.2.1 k).1 3 ≤ 3) (hw : 0 ≤ w ∧ w ≤ 3) : ∀ r i, i + r = S.1 → ∀ f, r < f → ∀ x : Int, fL_X1_doorsThat f 4 (xW m σ) b (xI w) (xI x) (xI (i : Nat)) = some (xI (x + a_cnt S w i r)) := by
  obtain ⟨v0, v2, v3, v4, v5, v6, v7, v8, v9⟩ := hV
  have f1 := hR.2.1
  intro r
  induction r with
  | zero =>
    intro i hi f hf x
    obtain ⟨g, rfl⟩ : ∃ g, f = g + 1 := ⟨f - 1, by omega⟩
    show fB_X1_doorsThat_4 (fL_X1_doorsThat g) (xW m σ) b _ _ _ = _
    unfold fB_X1_doorsThat_4
    simp (disch := omega) only [vin, mk_xW, ml_xW, mr_xW, mi_xW, mI_xW, mC_xW, up_eq, up_na, up_nj, xL0, xL1, xL2, xL3, xL4, xL5, xL6, xL7, xL8, xL9, xL10, xL12, xL16, xL20, xL24, xL31, xL50, xL60, xL89, xL99, xL100, xL200, xI_add, xI_sub, xI_mul, xI_neg, xI_nat, xI_cl, Int.toNat_natCast, Int.reduceToNat, xltT, xltF, xleT, xleF, xeqT, xeqF, nleT, nleF, nltT, nltF, neqT, neqF, ileT, ileF, iltT, iltF, ieqT, ieqF, or_false, or_true, false_or, true_or, and_true, true_and, and_false, false_and, not_false_eq_true, not_true_eq_false, ↓reduceIte, if_true, if_false, v0, f1]
    show _ = some (xI (x + 0)); rw [Int.add_zero]
  | succ r ih =>
    intro i hi f hf x
    obtain ⟨g, rfl⟩ : ∃ g, f = g + 1 := ⟨f - 1, by omega⟩
    obtain ⟨hr, hdB⟩ := v9 i (by omega)
    have f3 : σ (b + 14 + 6 * i) 3 = xI ((S.2.2.1 i).1 3) := (hR.2.2.1 i (by omega)).1 3 (by omega)
    have h3 := hs i (by omega)
    show fB_X1_doorsThat_4 (fL_X1_doorsThat g) (xW m σ) b _ _ _ = _
    unfold fB_X1_doorsThat_4
    have e0 : a_cnt S w i (r + 1) = (if (S.2.2.1 i).1 3 = w then 1 else 0) + a_cnt S w (i + 1) r := rfl
    by_cases e : (S.2.2.1 i).1 3 = w
    · simp (disch := omega) only [vin, mk_xW, ml_xW, mr_xW, mi_xW, mI_xW, mC_xW, up_eq, up_na, up_nj, xL0, xL1, xL2, xL3, xL4, xL5, xL6, xL7, xL8, xL9, xL10, xL12, xL16, xL20, xL24, xL31, xL50, xL60, xL89, xL99, xL100, xL200, xI_add, xI_sub, xI_mul, xI_neg, xI_nat, xI_cl, Int.toNat_natCast, Int.reduceToNat, xltT, xltF, xleT, xleF, xeqT, xeqF, nleT, nleF, nltT, nltF, neqT, neqF, ileT, ileF, iltT, iltF, ieqT, ieqF, or_false, or_true, false_or, true_or, and_true, true_and, and_false, false_and, not_false_eq_true, not_true_eq_false, ↓reduceIte, if_true, if_false, v0, f1, v2, Option.bind_some, v5, v6, hr, hdB.1, f3]
      rw [show ((i : Int) + 1) = ((i + 1 : Nat) : Int) by simp, ih (i + 1) (by omega) g (by omega) (x + 1), e0, if_pos e, Int.add_assoc]
    · simp (disch := omega) only [vin, mk_xW, ml_xW, mr_xW, mi_xW, mI_xW, mC_xW, up_eq, up_na, up_nj, xL0, xL1, xL2, xL3, xL4, xL5, xL6, xL7, xL8, xL9, xL10, xL12, xL16, xL20, xL24, xL31, xL50, xL60, xL89, xL99, xL100, xL200, xI_add, xI_sub, xI_mul, xI_neg, xI_nat, xI_cl, Int.toNat_natCast, Int.reduceToNat, xltT, xltF, xleT, xleF, xeqT, xeqF, nleT, nleF, nltT, nltF, neqT, neqF, ileT, ileF, iltT, iltF, ieqT, ieqF, or_false, or_true, false_or, true_or, and_true, true_and, and_false, false_and, not_false_eq_true, not_true_eq_false, ↓reduceIte, if_true, if_false, v0, f1, v2, Option.bind_some, v5, v6, hr, hdB.1, f3]
      rw [show ((i : Int) + 1) = ((i + 1 : Nat) : Int) by simp, ih (i + 1) (by omega) g (by omega) x, e0, if_neg e, Int.zero_add]
theorem S_that {w : Int} (hV : VB b m) (hR : RS b σ S) (hn : S.1 ≤ 10) (hs : ∀ k, k < S.1 → 0 ≤ (S.2.2.1 k).1 3 ∧ (S.2.2.1 k).1 3 ≤ 3) (hw : 0 ≤ w ∧ w ≤ 3) : f_X1_doorsThat (xW m σ) b (xI w) = some (xI (a_cnt S w 0 S.1)) := by
  have h := L_that hV hR hn hs hw S.1 0 (by omega) vF (by unfold vF; omega) 0
  rw [Int.zero_add] at h
  exact h
theorem S_cfact {w : Int} (hV : VB b m) (hR : RS b σ S) (hn : S.1 ≤ 10) (hs : ∀ k, k < S.1 → 0 ≤ (S.2.2.1 k).1 3 ∧ (S.2.2.1 k).1 3 ≤ 3) (hw : 0 ≤ w ∧ w ≤ 8) : f_X1_fact (xW m σ) b (xI w) = some (xI (cF S w)) := by
  have t0 : f_X1_doorsThat (xW m σ) b (xI 0) = _ := S_that hV hR hn hs (by omega)
  have t1 : f_X1_doorsThat (xW m σ) b (xI 1) = _ := S_that hV hR hn hs (by omega)
  have t2 : f_X1_doorsThat (xW m σ) b (xI 2) = _ := S_that hV hR hn hs (by omega)
  have t3 : f_X1_doorsThat (xW m σ) b (xI 3) = _ := S_that hV hR hn hs (by omega)
  have t4 := S_open2 hV hR hn hs
  obtain ⟨v0, v2, v3, v4, v5, v6, v7, v8, v9⟩ := hV
  obtain ⟨h1, h2, h3, h4, h5⟩ := hR
  have h6 := h4.1
  have v70 := v7.1
  unfold f_X1_fact cF
  have hc : w = 0 ∨ w = 1 ∨ w = 2 ∨ w = 3 ∨ w = 4 ∨ w = 5 ∨ w = 6 ∨ w = 7 ∨ w = 8 := by omega
  rcases hc with e | e | e | e | e | e | e | e | e <;> subst e <;> simp (disch := omega) only [vin, mk_xW, ml_xW, mr_xW, mi_xW, mI_xW, mC_xW, up_eq, up_na, up_nj, xL0, xL1, xL2, xL3, xL4, xL5, xL6, xL7, xL8, xL9, xL10, xL12, xL16, xL20, xL24, xL31, xL50, xL60, xL89, xL99, xL100, xL200, xI_add, xI_sub, xI_mul, xI_neg, xI_nat, xI_cl, Int.toNat_natCast, Int.reduceToNat, xltT, xltF, xleT, xleF, xeqT, xeqF, nleT, nleF, nltT, nltF, neqT, neqF, ileT, ileF, iltT, iltF, ieqT, ieqF, or_false, or_true, false_or, true_or, and_true, true_and, and_false, false_and, not_false_eq_true, not_true_eq_false, ↓reduceIte, if_true, if_false, v0, v3, v70, t0, t1, t2, t3, t4, h1, h2, h5, h6, Option.bind_some]
/-- a vault copied from another -/
theorem L_vcopy (hV : VB b m) (hV2 : VB b2 m) (hb : b + 74 ≤ b2 ∨ b2 + 74 ≤ b) (hn : S.1 ≤ 10) (hW : ∀ k, k < S.1 → WDr (S.2.2.1 k)) (hl : S.2.2.2.length ≤ 60) : ∀ r i, i + r = S.1 → ∀ σ : aN, RS b2 σ S → σ b 0 = xI (S.2.1 0) → σ b 1 = xI S.1 → (∀ k, k < i → RDr (b + 14 + 6 * k) σ (mkd (S.2.2.1 k))) → ∀ f, r < f → wq (fL_X1_copyFrom f 18 (xW m σ) b b2 (xI (i : Nat))) (fun z => ∃ τ, z = xW m τ ∧ RS b τ S ∧ fr b 74 σ τ) := by
  obtain ⟨v0, v2, v3, v4, v5, v6, v7, v8, v9⟩ := hV
  obtain ⟨u0, u2, u3, u4, u5, u6, u7, u8, u9⟩ := hV2
  intro r
  induction r with
  | zero =>
    intro i hi σ hR g0 g1 hd f hf
    obtain ⟨g, rfl⟩ : ∃ g, f = g + 1 := ⟨f - 1, by omega⟩
    show wq (fB_X1_copyFrom_18 (fL_X1_copyFrom g) (xW m σ) b b2 (xI (i : Nat))) _
    unfold fB_X1_copyFrom_18; simp only [mk_xW, ml_xW, mr_xW, mi_xW, mI_xW, mC_xW]
    refine w_i v0 ?_
    refine w_i (by simp (disch := omega) only [vin, mk_xW, ml_xW, mr_xW, mi_xW, mI_xW, mC_xW, up_eq, up_na, up_nj, xL0, xL1, xL2, xL3, xL4, xL5, xL6, xL7, xL8, xL9, xL10, xL12, xL16, xL20, xL24, xL31, xL50, xL60, xL89, xL99, xL100, xL200, xI_add, xI_sub, xI_mul, xI_neg, xI_nat, xI_cl, Int.toNat_natCast, Int.reduceToNat, xltT, xltF, xleT, xleF, xeqT, xeqF, nleT, nleF, nltT, nltF, neqT, neqF, ileT, ileF, iltT, iltF, ieqT, ieqF, or_false, or_true, false_or, true_or, and_true, true_and, and_false, false_and, not_false_eq_true, not_true_eq_false, ↓reduceIte, if_true, if_false, g1]) ?_
    refine w_b v3 ?_
    refine w_i u0 ?_
    refine w_b u3 ?_
    refine w_i v7.1 ?_
    refine w_c (S_vcopy v7 u7 (by omega) hR.2.2.2.1 hl) ?_
    rintro z ⟨τ, rfl, t1, t2, t3⟩
    refine w_s ⟨τ, rfl, ⟨?_, ?_, fun j hj => ?_, t1, ?_⟩, fr_w t3 (by omega)⟩
    · rw [t3 b (by omega)]; exact g0
    · rw [t3 b (by omega)]; exact g1
    · exact RDr_fr (hd j (by omega)) (fun x e1 e2 => t3 x (by omega))
    · rw [t2]; exact hR.2.2.2.2
  | succ r ih =>
    intro i hi σ hR g0 g1 hd f hf
    obtain ⟨g, rfl⟩ : ∃ g, f = g + 1 := ⟨f - 1, by omega⟩
    obtain ⟨hr, hdB⟩ := v9 i (by omega)
    obtain ⟨hr2, hdB2⟩ := u9 i (by omega)
    have hr3 : mr m (b + 1) (xI (i : Nat)).toNatClampNeg = some (b + 14 + 6 * i) := by rw [← hr]; simp (disch := omega) only [vin, mk_xW, ml_xW, mr_xW, mi_xW, mI_xW, mC_xW, up_eq, up_na, up_nj, xL0, xL1, xL2, xL3, xL4, xL5, xL6, xL7, xL8, xL9, xL10, xL12, xL16, xL20, xL24, xL31, xL50, xL60, xL89, xL99, xL100, xL200, xI_add, xI_sub, xI_mul, xI_neg, xI_nat, xI_cl, Int.toNat_natCast, Int.reduceToNat, xltT, xltF, xleT, xleF, xeqT, xeqF, nleT, nleF, nltT, nltF, neqT, neqF, ileT, ileF, iltT, iltF, ieqT, ieqF, or_false, or_true, false_or, true_or, and_true, true_and, and_false, false_and, not_false_eq_true, not_true_eq_false, ↓reduceIte, if_true, if_false]
    have hr4 : mr m (b2 + 1) (xI (i : Nat)).toNatClampNeg = some (b2 + 14 + 6 * i) := by rw [← hr2]; simp (disch := omega) only [vin, mk_xW, ml_xW, mr_xW, mi_xW, mI_xW, mC_xW, up_eq, up_na, up_nj, xL0, xL1, xL2, xL3, xL4, xL5, xL6, xL7, xL8, xL9, xL10, xL12, xL16, xL20, xL24, xL31, xL50, xL60, xL89, xL99, xL100, xL200, xI_add, xI_sub, xI_mul, xI_neg, xI_nat, xI_cl, Int.toNat_natCast, Int.reduceToNat, xltT, xltF, xleT, xleF, xeqT, xeqF, nleT, nleF, nltT, nltF, neqT, neqF, ileT, ileF, iltT, iltF, ieqT, ieqF, or_false, or_true, false_or, true_or, and_true, true_and, and_false, false_and, not_false_eq_true, not_true_eq_false, ↓reduceIte, if_true, if_false]
    show wq (fB_X1_copyFrom_18 (fL_X1_copyFrom g) (xW m σ) b b2 (xI (i : Nat))) _
    unfold fB_X1_copyFrom_18; simp only [mk_xW, ml_xW, mr_xW, mi_xW, mI_xW, mC_xW]
    refine w_i v0 ?_
    refine w_n (by simp (disch := omega) only [vin, mk_xW, ml_xW, mr_xW, mi_xW, mI_xW, mC_xW, up_eq, up_na, up_nj, xL0, xL1, xL2, xL3, xL4, xL5, xL6, xL7, xL8, xL9, xL10, xL12, xL16, xL20, xL24, xL31, xL50, xL60, xL89, xL99, xL100, xL200, xI_add, xI_sub, xI_mul, xI_neg, xI_nat, xI_cl, Int.toNat_natCast, Int.reduceToNat, xltT, xltF, xleT, xleF, xeqT, xeqF, nleT, nleF, nltT, nltF, neqT, neqF, ileT, ileF, iltT, iltF, ieqT, ieqF, or_false, or_true, false_or, true_or, and_true, true_and, and_false, false_and, not_false_eq_true, not_true_eq_false, ↓reduceIte, if_true, if_false, g1]) ?_
    refine w_b v2 ?_
    refine w_i v5 ?_
    refine w_i (by simp (disch := omega) only [vin, mk_xW, ml_xW, mr_xW, mi_xW, mI_xW, mC_xW, up_eq, up_na, up_nj, xL0, xL1, xL2, xL3, xL4, xL5, xL6, xL7, xL8, xL9, xL10, xL12, xL16, xL20, xL24, xL31, xL50, xL60, xL89, xL99, xL100, xL200, xI_add, xI_sub, xI_mul, xI_neg, xI_nat, xI_cl, Int.toNat_natCast, Int.reduceToNat, xltT, xltF, xleT, xleF, xeqT, xeqF, nleT, nleF, nltT, nltF, neqT, neqF, ileT, ileF, iltT, iltF, ieqT, ieqF, or_false, or_true, false_or, true_or, and_true, true_and, and_false, false_and, not_false_eq_true, not_true_eq_false, ↓reduceIte, if_true, if_false, v6]) ?_
    refine w_b hr3 ?_
    refine w_i u0 ?_
    refine w_b u2 ?_
    refine w_i u5 ?_
    refine w_i (by simp (disch := omega) only [vin, mk_xW, ml_xW, mr_xW, mi_xW, mI_xW, mC_xW, up_eq, up_na, up_nj, xL0, xL1, xL2, xL3, xL4, xL5, xL6, xL7, xL8, xL9, xL10, xL12, xL16, xL20, xL24, xL31, xL50, xL60, xL89, xL99, xL100, xL200, xI_add, xI_sub, xI_mul, xI_neg, xI_nat, xI_cl, Int.toNat_natCast, Int.reduceToNat, xltT, xltF, xleT, xleF, xeqT, xeqF, nleT, nleF, nltT, nltF, neqT, neqF, ileT, ileF, iltT, iltF, ieqT, ieqF, or_false, or_true, false_or, true_or, and_true, true_and, and_false, false_and, not_false_eq_true, not_true_eq_false, ↓reduceIte, if_true, if_false, u6]) ?_
    refine w_b hr4 ?_
    refine w_i hdB.1 ?_
    refine w_c (S_dcopy hdB hdB2 (by omega) (hR.2.2.1 i (by omega)) (WD_mkd (hW i (by omega)))) ?_
    rintro z ⟨τ, rfl, t1, t2⟩
    have hR1 : RS b2 τ S := by
      obtain ⟨h1, h2, h3, h4, h5⟩ := hR
      refine ⟨?_, ?_, fun j hj => ?_, ?_, ?_⟩
      · rw [t2 b2 (by omega)]; exact h1
      · rw [t2 b2 (by omega)]; exact h2
      · exact RDr_fr (h3 j hj) (fun x e1 e2 => t2 x (by omega))
      · exact RVr_fr h4 (fun x e1 e2 => t2 x (by omega))
      · rw [t2 _ (by omega)]; exact h5
    have hd1 : ∀ k, k < i + 1 → RDr (b + 14 + 6 * k) τ (mkd (S.2.2.1 k)) := by
      intro k hk
      by_cases e : k = i
      · subst e; exact t1
      · exact RDr_fr (hd k (by omega)) (fun x e1 e2 => t2 x (by omega))
    refine w_r ?_ (w_m (ih (i + 1) (by omega) τ hR1 (by rw [t2 b (by omega)]; exact g0) (by rw [t2 b (by omega)]; exact g1) hd1 g (by omega)) ?_)
    · simp (disch := omega) only [vin, mk_xW, ml_xW, mr_xW, mi_xW, mI_xW, mC_xW, up_eq, up_na, up_nj, xL0, xL1, xL2, xL3, xL4, xL5, xL6, xL7, xL8, xL9, xL10, xL12, xL16, xL20, xL24, xL31, xL50, xL60, xL89, xL99, xL100, xL200, xI_add, xI_sub, xI_mul, xI_neg, xI_nat, xI_cl, Int.toNat_natCast, Int.reduceToNat, xltT, xltF, xleT, xleF, xeqT, xeqF, nleT, nleF, nltT, nltF, neqT, neqF, ileT, ileF, iltT, iltF, ieqT, ieqF, or_false, or_true, false_or, true_or, and_true, true_and, and_false, false_and, not_false_eq_true, not_true_eq_false, ↓reduceIte, if_true, if_false, Int.natCast_add, Int.cast_ofNat_Int]
    · rintro z ⟨ρ, e1, p1, p2⟩
      exact ⟨ρ, e1, p1, fr_trans (fr_w t2 (by omega)) p2⟩
theorem RS_fr (h : RS b σ S) (hn : S.1 ≤ 10) (e : ∀ x, b ≤ x → x < b + 74 → τ x = σ x) : RS b τ S := by
  obtain ⟨h1, h2, h3, h4, h5⟩ := h
  refine ⟨?_, ?_, fun j hj => ?_, ?_, ?_⟩
  · rw [e b (by omega) (by omega)]; exact h1
  · rw [e b (by omega) (by omega)]; exact h2
  · exact RDr_fr (h3 j hj) (fun x e1 e2 => e x (by omega) (by omega))
  · exact RVr_fr h4 (fun x e1 e2 => e x (by omega) (by omega))
  · rw [e _ (by omega) (by omega)]; exact h5
theorem S_vaultcopy (hV : VB b m) (hV2 : VB b2 m) (hb : b + 74 ≤ b2 ∨ b2 + 74 ≤ b) (hn : S.1 ≤ 10) (hW : ∀ k, k < S.1 → WDr (S.2.2.1 k)) (hl : S.2.2.2.length ≤ 60) (hR : RS b2 σ S) : wq (f_X1_copyFrom (xW m σ) b b2) (fun z => ∃ τ, z = xW m τ ∧ RS b τ S ∧ fr b 74 σ τ) := by
  have g0 := hR.1
  have g1 := hR.2.1
  unfold f_X1_copyFrom; simp only [mk_xW, ml_xW, mr_xW, mi_xW, mI_xW, mC_xW]
  refine w_i hV2.1 ?_
  refine w_i hV.1 ?_
  have hR1 : RS b2 (up (up σ b 0 (xI (S.2.1 0))) b 1 (xI S.1)) S := RS_fr hR hn (fun x e1 e2 => by rw [up_row (by omega), up_row (by omega)])
  have h9 := L_vcopy hV hV2 hb hn hW hl S.1 0 (by omega) _ hR1 (by rw [up_nj (by omega), up_eq]) (by rw [up_eq]) (fun k hk => by omega) vF (by unfold vF; omega)
  refine w_r ?_ (w_m h9 ?_)
  · simp (disch := omega) only [vin, mk_xW, ml_xW, mr_xW, mi_xW, mI_xW, mC_xW, up_eq, up_na, up_nj, xL0, xL1, xL2, xL3, xL4, xL5, xL6, xL7, xL8, xL9, xL10, xL12, xL16, xL20, xL24, xL31, xL50, xL60, xL89, xL99, xL100, xL200, xI_add, xI_sub, xI_mul, xI_neg, xI_nat, xI_cl, Int.toNat_natCast, Int.reduceToNat, xltT, xltF, xleT, xleF, xeqT, xeqF, nleT, nleF, nltT, nltF, neqT, neqF, ileT, ileF, iltT, iltF, ieqT, ieqF, or_false, or_true, false_or, true_or, and_true, true_and, and_false, false_and, not_false_eq_true, not_true_eq_false, ↓reduceIte, if_true, if_false, g0, g1]; rfl
  · rintro z ⟨ρ, e1, p1, p2⟩
    exact ⟨ρ, e1, p1, fr_trans (fr_trans (fr_up (by omega)) (fr_up (by omega))) p2⟩
/-- a token is whispered -/
noncomputable def a_whis (S : aS) (k : Nat) (t : Int) : aS := if (S.2.2.1 k).1 3 = 0 then (if (S.2.2.1 k).1 0 = t then a_wake S k else a_set S k (a_turn (S.2.2.1 k).1 0, (S.2.2.1 k).2)) else S
def a_whok (S : aS) (k : Nat) (t : Int) : Int := if (S.2.2.1 k).1 3 = 0 then (if (S.2.2.1 k).1 0 = t then 1 else 0) else 0
theorem S_whis {t : Int} (hV : VB b m) (hR : RS b σ S) (hI : INm E Lw S [] (fun _ => 20)) (hk : k < S.1) (ht : 0 ≤ t ∧ t ≤ 99) : wq (f_X1_hearToken (xW m σ) b (xI (k : Nat)) (xI t)) (fun z => ∃ τ, z = (xI (a_whok S k t), xW m τ) ∧ RS b τ (a_whis S k t) ∧ fr b 74 σ τ) := by
  have hV0 := hV
  have hn := hI.1.1
  obtain ⟨hW, hP, _⟩ := IN_W hI hk
  have hdo := hI.2.1 k hk
  have hst := hdo.1.2.2
  have h00 := hdo.1.1.1
  have hlen := hI.2.2.1
  obtain ⟨v0, v2, v3, v4, v5, v6, v7, _, v9⟩ := hV
  obtain ⟨hr, hdB⟩ := v9 k (by omega)
  have hd := hR.2.2.1 k hk
  have f3 : σ (b + 14 + 6 * k) 3 = xI ((S.2.2.1 k).1 3) := hd.1 3 (by omega)
  have f0 : σ (b + 14 + 6 * k) 0 = xI ((S.2.2.1 k).1 0) := hd.1 0 (by omega)
  have hr2 : mr m (b + 1) (xI (k : Nat)).toNatClampNeg = some (b + 14 + 6 * k) := by rw [← hr]; simp (disch := omega) only [vin, mk_xW, ml_xW, mr_xW, mi_xW, mI_xW, mC_xW, up_eq, up_na, up_nj, xL0, xL1, xL2, xL3, xL4, xL5, xL6, xL7, xL8, xL9, xL10, xL12, xL16, xL20, xL24, xL31, xL50, xL60, xL89, xL99, xL100, xL200, xI_add, xI_sub, xI_mul, xI_neg, xI_nat, xI_cl, Int.toNat_natCast, Int.reduceToNat, xltT, xltF, xleT, xleF, xeqT, xeqF, nleT, nleF, nltT, nltF, neqT, neqF, ileT, ileF, iltT, iltF, ieqT, ieqF, or_false, or_true, false_or, true_or, and_true, true_and, and_false, false_and, not_false_eq_true, not_true_eq_false, ↓reduceIte, if_true, if_false]
  have hid := S_isDoor (x := (k : Nat)) hV0 hR hn (by omega)
  rw [if_pos (by omega)] at hid
  unfold f_X1_hearToken a_whis a_whok; simp only [mk_xW, ml_xW, mr_xW, mi_xW, mI_xW, mC_xW]
  refine w_i v0 ?_
  refine w_b hid ?_
  refine w_n (by decide) ?_
  refine w_b v2 ?_
  refine w_i v5 ?_
  refine w_i (by simp (disch := omega) only [vin, mk_xW, ml_xW, mr_xW, mi_xW, mI_xW, mC_xW, up_eq, up_na, up_nj, xL0, xL1, xL2, xL3, xL4, xL5, xL6, xL7, xL8, xL9, xL10, xL12, xL16, xL20, xL24, xL31, xL50, xL60, xL89, xL99, xL100, xL200, xI_add, xI_sub, xI_mul, xI_neg, xI_nat, xI_cl, Int.toNat_natCast, Int.reduceToNat, xltT, xltF, xleT, xleF, xeqT, xeqF, nleT, nleF, nltT, nltF, neqT, neqF, ileT, ileF, iltT, iltF, ieqT, ieqF, or_false, or_true, false_or, true_or, and_true, true_and, and_false, false_and, not_false_eq_true, not_true_eq_false, ↓reduceIte, if_true, if_false, v6]) ?_
  refine w_b hr2 ?_
  refine w_i hdB.1 ?_
  by_cases e : (S.2.2.1 k).1 3 = 0
  · rw [if_pos e, if_pos e]
    refine w_i (by simp (disch := omega) only [vin, mk_xW, ml_xW, mr_xW, mi_xW, mI_xW, mC_xW, up_eq, up_na, up_nj, xL0, xL1, xL2, xL3, xL4, xL5, xL6, xL7, xL8, xL9, xL10, xL12, xL16, xL20, xL24, xL31, xL50, xL60, xL89, xL99, xL100, xL200, xI_add, xI_sub, xI_mul, xI_neg, xI_nat, xI_cl, Int.toNat_natCast, Int.reduceToNat, xltT, xltF, xleT, xleF, xeqT, xeqF, nleT, nleF, nltT, nltF, neqT, neqF, ileT, ileF, iltT, iltF, ieqT, ieqF, or_false, or_true, false_or, true_or, and_true, true_and, and_false, false_and, not_false_eq_true, not_true_eq_false, ↓reduceIte, if_true, if_false, f3]) ?_
    refine w_b v2 ?_
    refine w_i v5 ?_
    refine w_i (by simp (disch := omega) only [vin, mk_xW, ml_xW, mr_xW, mi_xW, mI_xW, mC_xW, up_eq, up_na, up_nj, xL0, xL1, xL2, xL3, xL4, xL5, xL6, xL7, xL8, xL9, xL10, xL12, xL16, xL20, xL24, xL31, xL50, xL60, xL89, xL99, xL100, xL200, xI_add, xI_sub, xI_mul, xI_neg, xI_nat, xI_cl, Int.toNat_natCast, Int.reduceToNat, xltT, xltF, xleT, xleF, xeqT, xeqF, nleT, nleF, nltT, nltF, neqT, neqF, ileT, ileF, iltT, iltF, ieqT, ieqF, or_false, or_true, false_or, true_or, and_true, true_and, and_false, false_and, not_false_eq_true, not_true_eq_false, ↓reduceIte, if_true, if_false, v6]) ?_
    refine w_b hr2 ?_
    refine w_i hdB.1 ?_
    by_cases e2 : (S.2.2.1 k).1 0 = t
    · rw [if_pos e2, if_pos e2]
      refine w_i (by simp (disch := omega) only [vin, mk_xW, ml_xW, mr_xW, mi_xW, mI_xW, mC_xW, up_eq, up_na, up_nj, xL0, xL1, xL2, xL3, xL4, xL5, xL6, xL7, xL8, xL9, xL10, xL12, xL16, xL20, xL24, xL31, xL50, xL60, xL89, xL99, xL100, xL200, xI_add, xI_sub, xI_mul, xI_neg, xI_nat, xI_cl, Int.toNat_natCast, Int.reduceToNat, xltT, xltF, xleT, xleF, xeqT, xeqF, nleT, nleF, nltT, nltF, neqT, neqF, ileT, ileF, iltT, iltF, ieqT, ieqF, or_false, or_true, false_or, true_or, and_true, true_and, and_false, false_and, not_false_eq_true, not_true_eq_false, ↓reduceIte, if_true, if_false, f0]) ?_
      refine w_c (S_wake hV0 hR hn hk (by omega) (hdo.2.2.1 (by omega)) hW hlen) ?_
      rintro z ⟨τ, rfl, t1, t2⟩
      exact w_s ⟨τ, rfl, t1, frV_fr t2⟩
    · rw [if_neg e2, if_neg e2]
      refine w_n (by simp (disch := omega) only [vin, mk_xW, ml_xW, mr_xW, mi_xW, mI_xW, mC_xW, up_eq, up_na, up_nj, xL0, xL1, xL2, xL3, xL4, xL5, xL6, xL7, xL8, xL9, xL10, xL12, xL16, xL20, xL24, xL31, xL50, xL60, xL89, xL99, xL100, xL200, xI_add, xI_sub, xI_mul, xI_neg, xI_nat, xI_cl, Int.toNat_natCast, Int.reduceToNat, xltT, xltF, xleT, xleF, xeqT, xeqF, nleT, nleF, nltT, nltF, neqT, neqF, ileT, ileF, iltT, iltF, ieqT, ieqF, or_false, or_true, false_or, true_or, and_true, true_and, and_false, false_and, not_false_eq_true, not_true_eq_false, ↓reduceIte, if_true, if_false, f0]) ?_
      refine w_b v2 ?_
      refine w_i v5 ?_
      refine w_i (by simp (disch := omega) only [vin, mk_xW, ml_xW, mr_xW, mi_xW, mI_xW, mC_xW, up_eq, up_na, up_nj, xL0, xL1, xL2, xL3, xL4, xL5, xL6, xL7, xL8, xL9, xL10, xL12, xL16, xL20, xL24, xL31, xL50, xL60, xL89, xL99, xL100, xL200, xI_add, xI_sub, xI_mul, xI_neg, xI_nat, xI_cl, Int.toNat_natCast, Int.reduceToNat, xltT, xltF, xleT, xleF, xeqT, xeqF, nleT, nleF, nltT, nltF, neqT, neqF, ileT, ileF, iltT, iltF, ieqT, ieqF, or_false, or_true, false_or, true_or, and_true, true_and, and_false, false_and, not_false_eq_true, not_true_eq_false, ↓reduceIte, if_true, if_false, v6]) ?_
      refine w_b hr2 ?_
      refine w_i hdB.1 ?_
      refine w_c (S_bar hdB hd) ?_
      rintro z ⟨τ, rfl, t1, t2⟩
      refine w_s ⟨τ, rfl, RS_set hR hn hk ?_ t2, fr_w t2 (by omega)⟩
      rw [mkd_o (by simp [a_turn, fu])]
      rw [mkd_o (by omega)] at t1
      exact t1
  · rw [if_neg e, if_neg e]
    refine w_n (by simp (disch := omega) only [vin, mk_xW, ml_xW, mr_xW, mi_xW, mI_xW, mC_xW, up_eq, up_na, up_nj, xL0, xL1, xL2, xL3, xL4, xL5, xL6, xL7, xL8, xL9, xL10, xL12, xL16, xL20, xL24, xL31, xL50, xL60, xL89, xL99, xL100, xL200, xI_add, xI_sub, xI_mul, xI_neg, xI_nat, xI_cl, Int.toNat_natCast, Int.reduceToNat, xltT, xltF, xleT, xleF, xeqT, xeqF, nleT, nleF, nltT, nltF, neqT, neqF, ileT, ileF, iltT, iltF, ieqT, ieqF, or_false, or_true, false_or, true_or, and_true, true_and, and_false, false_and, not_false_eq_true, not_true_eq_false, ↓reduceIte, if_true, if_false, f3]) ?_
    exact w_s ⟨σ, rfl, hR, fr_rfl⟩
end
