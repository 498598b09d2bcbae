section
variable {k : Nat} {σ τ : aN} {S : aS} {m : vM} {E : Nat → List (Int × Int)} {Lw : Nat → Int}
theorem isPat {p : Int} (h : 1 ≤ p ∧ p ≤ 20) : f_X3_isPatience m (xI p) = some (xI 1) := by
  unfold f_X3_isPatience
  rw [show f_X3_isIn m (xI p) 1 20 = some (xI 1) from isIn_y (a := 1) (b := 20) (by omega)]
  rfl
theorem isRul {p : Int} (h : 0 ≤ p ∧ p ≤ 3) : f_X3_isRule m (xI p) = some (xI 1) := by
  unfold f_X3_isRule
  rw [show f_X3_isIn m (xI p) 0 3 = some (xI 1) from isIn_y (a := 0) (b := 3) (by omega)]
  rfl
theorem S_X3build {s p r : Int} (hV : VV m) (hR : RS 1 σ S) (hn : S.1 < 10) (hZ : Zr 1 σ S.1) (hs : 0 ≤ s ∧ s ≤ 99) (hp : 1 ≤ p ∧ p ≤ 20) (hr : 0 ≤ r ∧ r ≤ 3) : wq (f_X3_build (xW m σ) 0 (xI s) (xI p) (xI r)) (fun z => ∃ τ, z = (xI S.1, xW m τ) ∧ RS 1 τ (a_build S s p r) ∧ Zr 1 τ (S.1 + 1) ∧ fr 1 74 σ τ) := by
  obtain ⟨a0, a1, a2, hV1, hV2⟩ := hV
  obtain ⟨v0, v2, v3, v4, v5, v6, v7, _, v9⟩ := hV1
  obtain ⟨hr1, hdB⟩ := v9 S.1 (by omega)
  have hr2 : mr m (1 + 1) (xI (S.1 : Nat)).toNatClampNeg = some (1 + 14 + 6 * S.1) := by rw [← hr1]; simp (disch := omega) only [vin, mk_xW, ml_xW, mr_xW, mi_xW, mI_xW, mC_xW, up_eq, up_na, up_nj, xL0, xL1, xL2, xL3, xL4, xL5, xL6, xL7, xL8, xL9, xL10, xL12, xL16, xL20, xL24, xL31, xL50, xL60, xL89, xL99, xL100, xL200, xI_add, xI_sub, xI_mul, xI_neg, xI_nat, xI_cl, Int.toNat_natCast, Int.reduceToNat, xltT, xltF, xleT, xleF, xeqT, xeqF, nleT, nleF, nltT, nltF, neqT, neqF, ileT, ileF, iltT, iltF, ieqT, ieqF, or_false, or_true, false_or, true_or, and_true, true_and, and_false, false_and, not_false_eq_true, not_true_eq_false, ↓reduceIte, if_true, if_false]
  have f1 := hR.2.1
  unfold f_X3_build; simp only [mk_xW, ml_xW, mr_xW, mi_xW, mI_xW, mC_xW]
  refine w_b (x := xI 1) (isIn_y (a := 0) (b := 99) (by omega)) ?_
  refine w_n (by decide) ?_
  refine w_b (isPat hp) ?_
  refine w_n (by decide) ?_
  refine w_b (isRul hr) ?_
  refine w_n (by decide) ?_
  refine w_i a0 ?_
  refine w_b a1 ?_
  refine w_i v0 ?_
  refine w_i (by simp (disch := omega) only [vin, mk_xW, ml_xW, mr_xW, mi_xW, mI_xW, mC_xW, up_eq, up_na, up_nj, xL0, xL1, xL2, xL3, xL4, xL5, xL6, xL7, xL8, xL9, xL10, xL12, xL16, xL20, xL24, xL31, xL50, xL60, xL89, xL99, xL100, xL200, xI_add, xI_sub, xI_mul, xI_neg, xI_nat, xI_cl, Int.toNat_natCast, Int.reduceToNat, xltT, xltF, xleT, xleF, xeqT, xeqF, nleT, nleF, nltT, nltF, neqT, neqF, ileT, ileF, iltT, iltF, ieqT, ieqF, or_false, or_true, false_or, true_or, and_true, true_and, and_false, false_and, not_false_eq_true, not_true_eq_false, ↓reduceIte, if_true, if_false, f1]) ?_
  refine w_b a1 ?_
  refine w_i v0 ?_
  refine w_c (P := fun z => ∃ τ, z = (xI S.1, xW m τ) ∧ RS 1 τ (a_build S s p r) ∧ Zr 1 τ (S.1 + 1) ∧ fr 1 74 σ τ) ?_ (fun z h => w_s h)
  unfold f_X1_addDoor; simp only [mk_xW, ml_xW, mr_xW, mi_xW, mI_xW, mC_xW]
  refine w_i v0 ?_
  refine w_n (by simp (disch := omega) only [vin, mk_xW, ml_xW, mr_xW, mi_xW, mI_xW, mC_xW, up_eq, up_na, up_nj, xL0, xL1, xL2, xL3, xL4, xL5, xL6, xL7, xL8, xL9, xL10, xL12, xL16, xL20, xL24, xL31, xL50, xL60, xL89, xL99, xL100, xL200, xI_add, xI_sub, xI_mul, xI_neg, xI_nat, xI_cl, Int.toNat_natCast, Int.reduceToNat, xltT, xltF, xleT, xleF, xeqT, xeqF, nleT, nleF, nltT, nltF, neqT, neqF, ileT, ileF, iltT, iltF, ieqT, ieqF, or_false, or_true, false_or, true_or, and_true, true_and, and_false, false_and, not_false_eq_true, not_true_eq_false, ↓reduceIte, if_true, if_false, f1]) ?_
  have hr3 : mr m (1 + 1) (σ 1 1).toNatClampNeg = some (1 + 14 + 6 * S.1) := by rw [f1]; exact hr2
  refine w_b v2 ?_
  refine w_i v5 ?_
  refine w_i (by simp (disch := omega) only [vin, mk_xW, ml_xW, mr_xW, mi_xW, mI_xW, mC_xW, up_eq, up_na, up_nj, xL0, xL1, xL2, xL3, xL4, xL5, xL6, xL7, xL8, xL9, xL10, xL12, xL16, xL20, xL24, xL31, xL50, xL60, xL89, xL99, xL100, xL200, xI_add, xI_sub, xI_mul, xI_neg, xI_nat, xI_cl, Int.toNat_natCast, Int.reduceToNat, xltT, xltF, xleT, xleF, xeqT, xeqF, nleT, nleF, nltT, nltF, neqT, neqF, ileT, ileF, iltT, iltF, ieqT, ieqF, or_false, or_true, false_or, true_or, and_true, true_and, and_false, false_and, not_false_eq_true, not_true_eq_false, ↓reduceIte, if_true, if_false, v6, f1]) ?_
  refine w_b hr3 ?_
  refine w_i hdB.1 ?_
  refine w_b v2 ?_
  refine w_i v5 ?_
  refine w_i (by simp (disch := omega) only [vin, mk_xW, ml_xW, mr_xW, mi_xW, mI_xW, mC_xW, up_eq, up_na, up_nj, xL0, xL1, xL2, xL3, xL4, xL5, xL6, xL7, xL8, xL9, xL10, xL12, xL16, xL20, xL24, xL31, xL50, xL60, xL89, xL99, xL100, xL200, xI_add, xI_sub, xI_mul, xI_neg, xI_nat, xI_cl, Int.toNat_natCast, Int.reduceToNat, xltT, xltF, xleT, xleF, xeqT, xeqF, nleT, nleF, nltT, nltF, neqT, neqF, ileT, ileF, iltT, iltF, ieqT, ieqF, or_false, or_true, false_or, true_or, and_true, true_and, and_false, false_and, not_false_eq_true, not_true_eq_false, ↓reduceIte, if_true, if_false, v6, f1]) ?_
  refine w_b hr3 ?_
  refine w_i hdB.1 ?_
  refine w_b v2 ?_
  refine w_i v5 ?_
  refine w_i (by simp (disch := omega) only [vin, mk_xW, ml_xW, mr_xW, mi_xW, mI_xW, mC_xW, up_eq, up_na, up_nj, xL0, xL1, xL2, xL3, xL4, xL5, xL6, xL7, xL8, xL9, xL10, xL12, xL16, xL20, xL24, xL31, xL50, xL60, xL89, xL99, xL100, xL200, xI_add, xI_sub, xI_mul, xI_neg, xI_nat, xI_cl, Int.toNat_natCast, Int.reduceToNat, xltT, xltF, xleT, xleF, xeqT, xeqF, nleT, nleF, nltT, nltF, neqT, neqF, ileT, ileF, iltT, iltF, ieqT, ieqF, or_false, or_true, false_or, true_or, and_true, true_and, and_false, false_and, not_false_eq_true, not_true_eq_false, ↓reduceIte, if_true, if_false, v6, f1]) ?_
  refine w_b hr3 ?_
  refine w_i hdB.1 ?_
  simp (disch := omega) only [vin, mk_xW, ml_xW, mr_xW, mi_xW, mI_xW, mC_xW, up_eq, up_na, up_nj, xL0, xL1, xL2, xL3, xL4, xL5, xL6, xL7, xL8, xL9, xL10, xL12, xL16, xL20, xL24, xL31, xL50, xL60, xL89, xL99, xL100, xL200, xI_add, xI_sub, xI_mul, xI_neg, xI_nat, xI_cl, Int.toNat_natCast, Int.reduceToNat, xltT, xltF, xleT, xleF, xeqT, xeqF, nleT, nleF, nltT, nltF, neqT, neqF, ileT, ileF, iltT, iltF, ieqT, ieqF, or_false, or_true, false_or, true_or, and_true, true_and, and_false, false_and, not_false_eq_true, not_true_eq_false, ↓reduceIte, if_true, if_false, f1]
  obtain ⟨z3, z4, z5, z6, z7, z11⟩ := hZ S.1 (Nat.le_refl _) hn
  obtain ⟨h1, h2, h3, h4, h5⟩ := hR
  refine w_s ⟨_, rfl, ⟨?_, ?_, fun j hj => ?_, ?_, ?_⟩, fun j hj1 hj2 => ?_, by repeat (first | exact fr_rfl | refine fr_ups ?_ (by omega))⟩
  · simp (disch := omega) only [vin, mk_xW, ml_xW, mr_xW, mi_xW, mI_xW, mC_xW, up_eq, up_na, up_nj, xL0, xL1, xL2, xL3, xL4, xL5, xL6, xL7, xL8, xL9, xL10, xL12, xL16, xL20, xL24, xL31, xL50, xL60, xL89, xL99, xL100, xL200, xI_add, xI_sub, xI_mul, xI_neg, xI_nat, xI_cl, Int.toNat_natCast, Int.reduceToNat, xltT, xltF, xleT, xleF, xeqT, xeqF, nleT, nleF, nltT, nltF, neqT, neqF, ileT, ileF, iltT, iltF, ieqT, ieqF, or_false, or_true, false_or, true_or, and_true, true_and, and_false, false_and, not_false_eq_true, not_true_eq_false, ↓reduceIte, if_true, if_false, h1]; rfl
  · simp (disch := omega) only [vin, mk_xW, ml_xW, mr_xW, mi_xW, mI_xW, mC_xW, up_eq, up_na, up_nj, xL0, xL1, xL2, xL3, xL4, xL5, xL6, xL7, xL8, xL9, xL10, xL12, xL16, xL20, xL24, xL31, xL50, xL60, xL89, xL99, xL100, xL200, xI_add, xI_sub, xI_mul, xI_neg, xI_nat, xI_cl, Int.toNat_natCast, Int.reduceToNat, xltT, xltF, xleT, xleF, xeqT, xeqF, nleT, nleF, nltT, nltF, neqT, neqF, ileT, ileF, iltT, iltF, ieqT, ieqF, or_false, or_true, false_or, true_or, and_true, true_and, and_false, false_and, not_false_eq_true, not_true_eq_false, ↓reduceIte, if_true, if_false]; rfl
  · have hj : j < S.1 + 1 := hj
    show RDr _ _ (mkd (du S.2.2.1 S.1 (a_new s p r) j))
    by_cases e : j = S.1
    · subst e
      rw [du_eq]
      refine ⟨fun i hi => ?_, ?_, ?_, fun i a h => ?_, fun i a h => ?_⟩
      · have hi2 : i = 0 ∨ i = 1 ∨ i = 2 ∨ i = 3 ∨ i = 4 ∨ i = 5 ∨ i = 6 := by omega
        rcases hi2 with e | e | e | e | e | e | e <;> subst e <;> simp (disch := omega) only [vin, mk_xW, ml_xW, mr_xW, mi_xW, mI_xW, mC_xW, up_eq, up_na, up_nj, xL0, xL1, xL2, xL3, xL4, xL5, xL6, xL7, xL8, xL9, xL10, xL12, xL16, xL20, xL24, xL31, xL50, xL60, xL89, xL99, xL100, xL200, xI_add, xI_sub, xI_mul, xI_neg, xI_nat, xI_cl, Int.toNat_natCast, Int.reduceToNat, xltT, xltF, xleT, xleF, xeqT, xeqF, nleT, nleF, nltT, nltF, neqT, neqF, ileT, ileF, iltT, iltF, ieqT, ieqF, or_false, or_true, false_or, true_or, and_true, true_and, and_false, false_and, not_false_eq_true, not_true_eq_false, ↓reduceIte, if_true, if_false, z3, z4, z5, z6] <;> rfl
      · simp (disch := omega) only [vin, mk_xW, ml_xW, mr_xW, mi_xW, mI_xW, mC_xW, up_eq, up_na, up_nj, xL0, xL1, xL2, xL3, xL4, xL5, xL6, xL7, xL8, xL9, xL10, xL12, xL16, xL20, xL24, xL31, xL50, xL60, xL89, xL99, xL100, xL200, xI_add, xI_sub, xI_mul, xI_neg, xI_nat, xI_cl, Int.toNat_natCast, Int.reduceToNat, xltT, xltF, xleT, xleF, xeqT, xeqF, nleT, nleF, nltT, nltF, neqT, neqF, ileT, ileF, iltT, iltF, ieqT, ieqF, or_false, or_true, false_or, true_or, and_true, true_and, and_false, false_and, not_false_eq_true, not_true_eq_false, ↓reduceIte, if_true, if_false, z7]; rfl
      · simp (disch := omega) only [vin, mk_xW, ml_xW, mr_xW, mi_xW, mI_xW, mC_xW, up_eq, up_na, up_nj, xL0, xL1, xL2, xL3, xL4, xL5, xL6, xL7, xL8, xL9, xL10, xL12, xL16, xL20, xL24, xL31, xL50, xL60, xL89, xL99, xL100, xL200, xI_add, xI_sub, xI_mul, xI_neg, xI_nat, xI_cl, Int.toNat_natCast, Int.reduceToNat, xltT, xltF, xleT, xleF, xeqT, xeqF, nleT, nleF, nltT, nltF, neqT, neqF, ileT, ileF, iltT, iltF, ieqT, ieqF, or_false, or_true, false_or, true_or, and_true, true_and, and_false, false_and, not_false_eq_true, not_true_eq_false, ↓reduceIte, if_true, if_false, z11]; rfl
      · simp [mkd, a_new] at h
      · simp [mkd, a_new] at h
    · rw [du_ne e]
      refine RDr_fr (h3 j (by omega)) (fun x g1 g2 => ?_)
      rw [up_row (by omega), up_row (by omega), up_row (by omega), up_row (by omega)]
  · refine RVr_fr h4 (fun x g1 g2 => ?_)
    rw [up_row (by omega), up_row (by omega), up_row (by omega), up_row (by omega)]
  · simp (disch := omega) only [vin, mk_xW, ml_xW, mr_xW, mi_xW, mI_xW, mC_xW, up_eq, up_na, up_nj, xL0, xL1, xL2, xL3, xL4, xL5, xL6, xL7, xL8, xL9, xL10, xL12, xL16, xL20, xL24, xL31, xL50, xL60, xL89, xL99, xL100, xL200, xI_add, xI_sub, xI_mul, xI_neg, xI_nat, xI_cl, Int.toNat_natCast, Int.reduceToNat, xltT, xltF, xleT, xleF, xeqT, xeqF, nleT, nleF, nltT, nltF, neqT, neqF, ileT, ileF, iltT, iltF, ieqT, ieqF, or_false, or_true, false_or, true_or, and_true, true_and, and_false, false_and, not_false_eq_true, not_true_eq_false, ↓reduceIte, if_true, if_false, h5]; rfl
  · have := hZ j (by omega) hj2
    rw [up_na (by omega), up_na (by omega), up_na (by omega), up_na (by omega)]
    rw [up_na (by omega), up_na (by omega), up_na (by omega), up_na (by omega)]
    rw [up_na (by omega), up_na (by omega), up_na (by omega), up_na (by omega)]
    rw [up_na (by omega), up_na (by omega), up_na (by omega), up_na (by omega)]
    rw [up_na (by omega), up_na (by omega), up_na (by omega), up_na (by omega)]
    rw [up_na (by omega), up_na (by omega), up_na (by omega), up_na (by omega)]
    exact this
theorem S_X3ask {o t : Int} (hV : VV m) (hR : RS 1 σ S) (hn : S.1 ≤ 10) (hk : k < S.1) (hW : WDr (S.2.2.1 k)) (ho : 0 ≤ o ∧ o < S.1 ∧ o ≠ k) (ht : 1 ≤ t ∧ t ≤ 5) (h3 : (S.2.2.1 k).1 3 = 0) (hno : ∀ a ∈ (S.2.2.1 k).2.1, a 0 ≠ o) (hl : (S.2.2.1 k).2.1.length < 4) : wq (f_X3_ask (xW m σ) 0 (xI (k : Nat)) (xI o) (xI t)) (fun z => ∃ τ, z = (xI ((S.2.2.1 k).2.1.length + 1), xW m τ) ∧ RS 1 τ (a_link S k o t) ∧ fr 1 74 σ τ) := by
  obtain ⟨a0, a1, a2, hV1, hV2⟩ := hV
  have hid := S_isDoor (x := (k : Nat)) hV1 hR hn (by omega)
  rw [if_pos (by omega)] at hid
  have hio := S_isDoor (x := o) hV1 hR hn (by omega)
  rw [if_pos (by omega)] at hio
  obtain ⟨v0, v2, v3, v4, v5, v6, v7, _, v9⟩ := hV1
  obtain ⟨hr1, hdB⟩ := v9 k (by omega)
  have hr2 : mr m (1 + 1) (xI (k : Nat)).toNatClampNeg = some (1 + 14 + 6 * k) := by rw [← hr1]; simp (disch := omega) only [vin, mk_xW, ml_xW, mr_xW, mi_xW, mI_xW, mC_xW, up_eq, up_na, up_nj, xL0, xL1, xL2, xL3, xL4, xL5, xL6, xL7, xL8, xL9, xL10, xL12, xL16, xL20, xL24, xL31, xL50, xL60, xL89, xL99, xL100, xL200, xI_add, xI_sub, xI_mul, xI_neg, xI_nat, xI_cl, Int.toNat_natCast, Int.reduceToNat, xltT, xltF, xleT, xleF, xeqT, xeqF, nleT, nleF, nltT, nltF, neqT, neqF, ileT, ileF, iltT, iltF, ieqT, ieqF, or_false, or_true, false_or, true_or, and_true, true_and, and_false, false_and, not_false_eq_true, not_true_eq_false, ↓reduceIte, if_true, if_false]
  have hd := hR.2.2.1 k hk
  have f3 : σ (1 + 14 + 6 * k) 3 = xI ((S.2.2.1 k).1 3) := hd.1 3 (by omega)
  have hml : (mkd (S.2.2.1 k)).2.1.length = (S.2.2.1 k).2.1.length := by unfold mkd; rw [List.length_map]
  have f7 : σ (1 + 14 + 6 * k) 7 = xI (S.2.2.1 k).2.1.length := by rw [← hml]; exact hd.2.1
  obtain ⟨pl, hp1, hp2⟩ := S_placeOf (o := o) hdB hd (WD_mkd hW) (by omega)
  have hpl : pl = -1 := by
    rcases hp2 with ⟨e, _⟩ | ⟨j, a, e, hj, h0⟩
    · exact e
    · exfalso
      obtain ⟨c, hc, rfl⟩ := List.mem_map.mp (dr_mem hj)
      rw [fu_ne (by omega)] at h0
      exact hno c hc h0
  subst hpl
  unfold f_X3_ask; simp only [mk_xW, ml_xW, mr_xW, mi_xW, mI_xW, mC_xW]
  refine w_i a0 ?_
  refine w_b a1 ?_
  refine w_i v0 ?_
  refine w_b hid ?_
  refine w_n (by decide) ?_
  refine w_b a1 ?_
  refine w_i v0 ?_
  refine w_b hio ?_
  refine w_n (by decide) ?_
  refine w_n (by simp (disch := omega) only [vin, mk_xW, ml_xW, mr_xW, mi_xW, mI_xW, mC_xW, up_eq, up_na, up_nj, xL0, xL1, xL2, xL3, xL4, xL5, xL6, xL7, xL8, xL9, xL10, xL12, xL16, xL20, xL24, xL31, xL50, xL60, xL89, xL99, xL100, xL200, xI_add, xI_sub, xI_mul, xI_neg, xI_nat, xI_cl, Int.toNat_natCast, Int.reduceToNat, xltT, xltF, xleT, xleF, xeqT, xeqF, nleT, nleF, nltT, nltF, neqT, neqF, ileT, ileF, iltT, iltF, ieqT, ieqF, or_false, or_true, false_or, true_or, and_true, true_and, and_false, false_and, not_false_eq_true, not_true_eq_false, ↓reduceIte, if_true, if_false]) ?_
  refine w_b (x := xI 1) (isIn_y (a := 1) (b := 5) (by omega)) ?_
  refine w_n (by decide) ?_
  refine w_b a1 ?_
  refine w_i v0 ?_
  refine w_b v2 ?_
  refine w_i v5 ?_
  refine w_i (by simp (disch := omega) only [vin, mk_xW, ml_xW, mr_xW, mi_xW, mI_xW, mC_xW, up_eq, up_na, up_nj, xL0, xL1, xL2, xL3, xL4, xL5, xL6, xL7, xL8, xL9, xL10, xL12, xL16, xL20, xL24, xL31, xL50, xL60, xL89, xL99, xL100, xL200, xI_add, xI_sub, xI_mul, xI_neg, xI_nat, xI_cl, Int.toNat_natCast, Int.reduceToNat, xltT, xltF, xleT, xleF, xeqT, xeqF, nleT, nleF, nltT, nltF, neqT, neqF, ileT, ileF, iltT, iltF, ieqT, ieqF, or_false, or_true, false_or, true_or, and_true, true_and, and_false, false_and, not_false_eq_true, not_true_eq_false, ↓reduceIte, if_true, if_false, v6]) ?_
  refine w_b hr2 ?_
  refine w_i hdB.1 ?_
  refine w_i (by simp (disch := omega) only [vin, mk_xW, ml_xW, mr_xW, mi_xW, mI_xW, mC_xW, up_eq, up_na, up_nj, xL0, xL1, xL2, xL3, xL4, xL5, xL6, xL7, xL8, xL9, xL10, xL12, xL16, xL20, xL24, xL31, xL50, xL60, xL89, xL99, xL100, xL200, xI_add, xI_sub, xI_mul, xI_neg, xI_nat, xI_cl, Int.toNat_natCast, Int.reduceToNat, xltT, xltF, xleT, xleF, xeqT, xeqF, nleT, nleF, nltT, nltF, neqT, neqF, ileT, ileF, iltT, iltF, ieqT, ieqF, or_false, or_true, false_or, true_or, and_true, true_and, and_false, false_and, not_false_eq_true, not_true_eq_false, ↓reduceIte, if_true, if_false, f3]) ?_
  refine w_b hp1 ?_
  refine w_n (by decide) ?_
  refine w_i (by simp (disch := omega) only [vin, mk_xW, ml_xW, mr_xW, mi_xW, mI_xW, mC_xW, up_eq, up_na, up_nj, xL0, xL1, xL2, xL3, xL4, xL5, xL6, xL7, xL8, xL9, xL10, xL12, xL16, xL20, xL24, xL31, xL50, xL60, xL89, xL99, xL100, xL200, xI_add, xI_sub, xI_mul, xI_neg, xI_nat, xI_cl, Int.toNat_natCast, Int.reduceToNat, xltT, xltF, xleT, xleF, xeqT, xeqF, nleT, nleF, nltT, nltF, neqT, neqF, ileT, ileF, iltT, iltF, ieqT, ieqF, or_false, or_true, false_or, true_or, and_true, true_and, and_false, false_and, not_false_eq_true, not_true_eq_false, ↓reduceIte, if_true, if_false, f7]) ?_
  refine w_c (S_addAsked (r := r6 o t (-1) 0 0 0) hdB hd (by rw [hml]; exact hl) rfl rfl rfl) ?_
  rintro z ⟨τ, rfl, t1, t2⟩
  refine w_i hdB.1 ?_
  refine w_s ⟨τ, ?_, RS_set hR hn hk ?_ t2, fr_w t2 (by omega)⟩
  · have := t1.2.1
    rw [mi_xW, this]
    congr 2
    rw [List.length_append, hml]; simp
  · have e9 : mkd ((S.2.2.1 k).1, (S.2.2.1 k).2.1 ++ [r6 o t (-1) 0 0 0], (S.2.2.1 k).2.2) = ((mkd (S.2.2.1 k)).1, (mkd (S.2.2.1 k)).2.1 ++ [r6 o t (-1) 0 0 0], (mkd (S.2.2.1 k)).2.2) := by
      unfold mkd
      simp only [List.map_append, List.map_cons, List.map_nil]
      congr 4
      funext x
      by_cases g : x = 2
      · subst g
        rw [fu_eq, if_neg (by omega)]; rfl
      · rw [fu_ne g]
    rw [e9]; exact t1
theorem S_X3set {r p : Int} (hV : VV m) (hR : RS 1 σ S) (hn : S.1 ≤ 10) (hk : k < S.1) (hr : 0 ≤ r ∧ r ≤ 3) (hp : 1 ≤ p ∧ p ≤ 20) : wq (f_X3_set (xW m σ) 0 (xI (k : Nat)) (xI r) (xI p)) (fun z => ∃ τ, z = (xI (100 * (S.2.2.1 k).1 2 + (S.2.2.1 k).1 1), xW m τ) ∧ RS 1 τ (a_rule S k r p) ∧ fr 1 74 σ τ) := by
  obtain ⟨a0, a1, a2, hV1, hV2⟩ := hV
  have hid := S_isDoor (x := (k : Nat)) hV1 hR hn (by omega)
  rw [if_pos (by omega)] at hid
  obtain ⟨v0, v2, v3, v4, v5, v6, v7, _, v9⟩ := hV1
  obtain ⟨hr1, hdB⟩ := v9 k (by omega)
  have hr2 : mr m (1 + 1) (xI (k : Nat)).toNatClampNeg = some (1 + 14 + 6 * k) := by rw [← hr1]; simp (disch := omega) only [vin, mk_xW, ml_xW, mr_xW, mi_xW, mI_xW, mC_xW, up_eq, up_na, up_nj, xL0, xL1, xL2, xL3, xL4, xL5, xL6, xL7, xL8, xL9, xL10, xL12, xL16, xL20, xL24, xL31, xL50, xL60, xL89, xL99, xL100, xL200, xI_add, xI_sub, xI_mul, xI_neg, xI_nat, xI_cl, Int.toNat_natCast, Int.reduceToNat, xltT, xltF, xleT, xleF, xeqT, xeqF, nleT, nleF, nltT, nltF, neqT, neqF, ileT, ileF, iltT, iltF, ieqT, ieqF, or_false, or_true, false_or, true_or, and_true, true_and, and_false, false_and, not_false_eq_true, not_true_eq_false, ↓reduceIte, if_true, if_false]
  have hd := hR.2.2.1 k hk
  have f1 : σ (1 + 14 + 6 * k) 1 = xI ((S.2.2.1 k).1 1) := hd.1 1 (by omega)
  have f2 : σ (1 + 14 + 6 * k) 2 = xI ((S.2.2.1 k).1 2) := hd.1 2 (by omega)
  unfold f_X3_set; simp only [mk_xW, ml_xW, mr_xW, mi_xW, mI_xW, mC_xW]
  refine w_i a0 ?_
  refine w_b a1 ?_
  refine w_i v0 ?_
  refine w_b hid ?_
  refine w_n (by decide) ?_
  refine w_b (isRul hr) ?_
  refine w_n (by decide) ?_
  refine w_b (isPat hp) ?_
  refine w_n (by decide) ?_
  refine w_b a1 ?_
  refine w_i v0 ?_
  refine w_b v2 ?_
  refine w_i v5 ?_
  refine w_i (by simp (disch := omega) only [vin, mk_xW, ml_xW, mr_xW, mi_xW, mI_xW, mC_xW, up_eq, up_na, up_nj, xL0, xL1, xL2, xL3, xL4, xL5, xL6, xL7, xL8, xL9, xL10, xL12, xL16, xL20, xL24, xL31, xL50, xL60, xL89, xL99, xL100, xL200, xI_add, xI_sub, xI_mul, xI_neg, xI_nat, xI_cl, Int.toNat_natCast, Int.reduceToNat, xltT, xltF, xleT, xleF, xeqT, xeqF, nleT, nleF, nltT, nltF, neqT, neqF, ileT, ileF, iltT, iltF, ieqT, ieqF, or_false, or_true, false_or, true_or, and_true, true_and, and_false, false_and, not_false_eq_true, not_true_eq_false, ↓reduceIte, if_true, if_false, v6]) ?_
  refine w_b hr2 ?_
  refine w_i hdB.1 ?_
  refine w_s ⟨up (up σ (1 + 14 + 6 * k) 2 (xI r)) (1 + 14 + 6 * k) 1 (xI p), ?_, RS_set hR hn hk ?_ (fr_ups (fr_up (by omega)) (by omega)), by repeat (first | exact fr_rfl | refine fr_ups ?_ (by omega))⟩
  · rw [f1, f2, xL100, xI_mul, xI_add]
  · have h9 := RDr_up (v := p) (RDr_up (v := r) hd (show 2 < 7 by omega)) (show 1 < 7 by omega)
    have e9 : mkd (fu (fu (S.2.2.1 k).1 2 r) 1 p, (S.2.2.1 k).2) = (fu (fu (S.2.2.1 k).1 2 r) 1 p, (mkd (S.2.2.1 k)).2) := by
      unfold mkd
      simp only [fu_ne (show (3 : Nat) ≠ 1 by decide), fu_ne (show (3 : Nat) ≠ 2 by decide)]
    rw [e9]; exact h9
/-! what the main line's calls keep -/
theorem IN_build {s p r : Int} (h : INm E Lw S [] (fun _ => 20)) (hn : S.1 < 10) (h0 : S.2.1 2 = 0) (hs : 0 ≤ s ∧ s ≤ 99) (hp : 1 ≤ p ∧ p ≤ 20) (hr : 0 ≤ r ∧ r ≤ 3) : INm (fun j => if j = S.1 then [] else E j) (fun j => if j = S.1 then -4 else Lw j) (a_build S s p r) [] (fun _ => 20) := by
  obtain ⟨g1, g2, g3, g4, g5, g6, g7, g8⟩ := h
  have hqn : ∀ q : Int, 0 ≤ q → q < S.1 → q.toNat ≠ S.1 := fun q a b => by omega
  refine ⟨⟨hn, fun j hj => ?_, fun _ _ => show (20 : Int) ≤ 21 by decide⟩, fun j hj => ?_, g3, g4, g5, fun v hv => ?_, g7, fun v hv => ?_⟩
  · by_cases e : j = S.1
    · simp only [if_pos e]
      exact ⟨Nat.zero_le _, fun p hp => (by cases hp), List.Pairwise.nil⟩
    · simp only [if_neg e]
      have hj : j < S.1 + 1 := hj
      obtain ⟨e1, e2, e3⟩ := g1.2.1 j (by omega)
      refine ⟨e1, fun p hp => ?_, e3⟩
      obtain ⟨b1, b2, b3⟩ := e2 p hp
      exact ⟨b1, by show p.1 < ((S.1 + 1 : Nat) : Int); omega, b3⟩
  · have hj : j < S.1 + 1 := hj
    show DI _ _ _ _ _ _ (du S.2.2.1 S.1 (a_new s p r) j)
    by_cases e : j = S.1
    · subst e
      rw [du_eq]
      refine ⟨⟨⟨hs, hp, hr⟩, ?_, .inl ⟨rfl, rfl, ?_⟩⟩, ⟨?_, fun a ha => (by cases ha)⟩, fun _ => rfl, ⟨fun q hq => (by cases hq), List.Pairwise.nil⟩⟩
      · simp [a_new]
      · show (if S.1 = S.1 then (-4 : Int) else _) + 4 ≤ S.2.1 2
        rw [if_pos rfl, h0]; decide
      · simp; rfl
    · rw [du_ne e]
      obtain ⟨d1, d2, d3, d4, d5⟩ := g2 j (by omega)
      refine ⟨by simp only [if_neg e]; exact d1, by simp only [if_neg e]; exact d2, d3, fun q hq => ?_, d5⟩
      obtain ⟨b1, b2, b3, b4, b5⟩ := d4 q hq
      have := hqn (q 0) b1.1 b1.2
      simp only [if_neg e, if_neg this]
      exact ⟨⟨b1.1, by show q 0 < ((S.1 + 1 : Nat) : Int); omega⟩, b2, b3, b4, b5⟩
  · obtain ⟨b1, b2⟩ := g6 v hv
    have h00 := hqn (v 0) b1.1 b1.2.1
    have h01 := hqn (v 1) b1.2.2.1 b1.2.2.2
    unfold VQ
    simp only [if_neg h00, if_neg h01]
    refine ⟨⟨b1.1, ?_, b1.2.2.1, ?_⟩, b2⟩
    · show v 0 < ((S.1 + 1 : Nat) : Int); omega
    · show v 1 < ((S.1 + 1 : Nat) : Int); omega
  · have b1 := (g6 v hv).1
    have h01 := hqn (v 1) b1.2.2.1 b1.2.2.2
    show XI v (du S.2.2.1 S.1 (a_new s p r) (v 1).toNat).2.2
    rw [du_ne h01]; exact g8 v hv
theorem IN_link {o t : Int} (h : INm E Lw S [] (fun _ => 20)) (hk : k < S.1) (ho : 0 ≤ o ∧ o < S.1 ∧ o ≠ k) (ht : 1 ≤ t ∧ t ≤ 5) (hno : ∀ a ∈ (S.2.2.1 k).2.1, a 0 ≠ o) (hl : (S.2.2.1 k).2.1.length < 4) : INm (fun j => if j = k then E j ++ [(o, t)] else E j) Lw (a_link S k o t) [] (fun _ => 20) := by
  obtain ⟨g1, g2, g3, g4, g5, g6, g7, g8⟩ := h
  have hsk := (g2 k hk).2.1.1
  have hm : ∀ j p, p ∈ E j → p ∈ (if j = k then E j ++ [(o, t)] else E j) := by
    intro j p hp
    by_cases e : j = k
    · rw [if_pos e]; exact List.mem_append.mpr (.inl hp)
    · rw [if_neg e]; exact hp
  have hlen : (E k).length = (S.2.2.1 k).2.1.length := by rw [← hsk]; unfold sk; rw [List.length_map]
  refine ⟨⟨g1.1, fun j hj => ?_, fun _ _ => show (20 : Int) ≤ 21 by decide⟩, fun j hj => ?_, g3, g4, g5, fun v hv => ?_, g7, fun v hv => ?_⟩
  · obtain ⟨e1, e2, e3⟩ := g1.2.1 j hj
    by_cases e : j = k
    · subst e
      simp only [if_true]
      refine ⟨by rw [List.length_append]; simp; omega, fun p hp => ?_, ?_⟩
      · rcases List.mem_append.mp hp with g | g
        · exact e2 p g
        · rw [List.mem_singleton.mp g]; exact ⟨ho.1, ho.2.1, ho.2.2, ht.1, ht.2⟩
      · rw [List.pairwise_append]
        refine ⟨e3, List.pairwise_singleton _ _, fun a ha b hb => ?_⟩
        rw [List.mem_singleton.mp hb]
        rw [← hsk] at ha
        obtain ⟨c, hc, rfl⟩ := List.mem_map.mp ha
        exact hno c hc
    · simp only [if_neg e]; exact ⟨e1, e2, e3⟩
  · show DI _ _ _ _ _ _ (du S.2.2.1 k _ j)
    by_cases e : j = k
    · subst e
      rw [du_eq]
      obtain ⟨d1, d2, d3, d4, d5⟩ := g2 j hj
      refine ⟨d1, ⟨?_, fun a ha => ?_⟩, d3, fun q hq => ?_, d5⟩
      · simp only [if_true]
        rw [← d2.1]; unfold sk; rw [List.map_append]; rfl
      · rcases List.mem_append.mp ha with g | g
        · exact d2.2 a g
        · rw [List.mem_singleton.mp g]; simp [r6]
      · obtain ⟨b1, b2, b3⟩ := d4 q hq
        exact ⟨b1, hm _ _ b2, b3⟩
    · rw [du_ne e]
      obtain ⟨d1, d2, d3, d4, d5⟩ := g2 j hj
      refine ⟨d1, by simp only [if_neg e]; exact d2, d3, fun q hq => ?_, d5⟩
      obtain ⟨b1, b2, b3⟩ := d4 q hq
      exact ⟨b1, hm _ _ b2, b3⟩
  · obtain ⟨b1, b2⟩ := g6 v hv
    refine ⟨b1, ?_⟩
    rcases b2 with ⟨c1, c2, c3⟩ | ⟨c1, c2⟩
    · exact .inl ⟨c1, hm _ _ c2, c3⟩
    · exact .inr ⟨c1, hm _ _ c2⟩
  · show XI v (du S.2.2.1 k _ (v 1).toNat).2.2
    by_cases e : (v 1).toNat = k
    · rw [e, du_eq]
      have := g8 v hv
      rw [e] at this; exact this
    · rw [du_ne e]; exact g8 v hv
theorem IN_rule {r p : Int} (h : INm E Lw S [] (fun _ => 20)) (hk : k < S.1) (hr : 0 ≤ r ∧ r ≤ 3) (hp : 1 ≤ p ∧ p ≤ 20) : INm E Lw (a_rule S k r p) [] (fun _ => 20) := by
  have hd : DI S.1 (S.2.1 2) E Lw 20 k (S.2.2.1 k) := h.2.1 k hk
  obtain ⟨⟨⟨b1, b2, b3⟩, b4, hq⟩, g2, g3, g4⟩ := hd
  have hd2 : DI S.1 (S.2.1 2) E Lw 20 k (fu (fu (S.2.2.1 k).1 2 r) 1 p, (S.2.2.1 k).2) := by
    refine ⟨⟨?_, ?_, ?_⟩, g2, fun g => g3 (by simpa [fu] using g), g4⟩
    · simp [fu]; exact ⟨b1, hp, hr⟩
    · simp [fu]; exact b4
    · simp [fu]; omega
  refine IN_door h hd2 (fun v hv e3 => ?_)
  have := h.2.2.2.2.2.2.2 v hv
  rw [e3] at this; exact this
end
