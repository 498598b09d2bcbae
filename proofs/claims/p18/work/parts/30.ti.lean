/-- the end of a tick -/
def a_fin (S : aS) : aS := (S.1, fu S.2.1 0 (S.2.1 0 + 1), S.2.2)
/-- the first doors have spent their time -/
def a_sp (S : aS) (i : Nat) : aS := (S.1, S.2.1, fun k => if k < i then (a_spend (S.2.2.1 k).1, (S.2.2.1 k).2) else S.2.2.1 k, S.2.2.2)
section
variable {b k : Nat} {σ τ : aN} {S T : aS} {d : aD} {m : vM} {E : Nat → List (Int × Int)} {Lw : Nat → Int}
theorem RS_fin (h : RS b σ S) : RS b (up σ b 0 (xI (S.2.1 0 + 1))) (a_fin S) := by
  obtain ⟨h1, h2, h3, h4, h5⟩ := h
  refine ⟨?_, ?_, fun j hj => RDr_fr (h3 j hj) (fun x g1 g2 => up_row (by omega)), RVr_fr h4 (fun x g1 g2 => up_row (by omega)), ?_⟩
  · rw [up_eq]; show _ = xI (fu S.2.1 0 (S.2.1 0 + 1) 0); rw [fu_eq]
  · rw [up_nj (by omega)]; exact h2
  · rw [up_na (by omega)]; show _ = xI (fu S.2.1 0 (S.2.1 0 + 1) 1); rw [fu_ne (by omega)]; exact h5
theorem sp_0 : a_sp S 0 = S := by
  unfold a_sp; simp
theorem sp_s {i : Nat} : a_set (a_sp S i) i (a_spend (S.2.2.1 i).1, (S.2.2.1 i).2) = a_sp S (i + 1) := by
  unfold a_sp a_set
  simp only
  congr 3
  funext x
  by_cases e : x = i
  · subst e; simp [du]
  · by_cases g : x < i
    · have g2 : x < i + 1 := by omega
      simp [du, e, g, g2]
    · have g2 : ¬ x < i + 1 := by omega
      simp [du, e, g, g2]
theorem mkd_sp : mkd (a_spend d.1, d.2) = (a_spend d.1, (mkd d).2) := by
  by_cases e : d.1 3 = 1
  · have e2 : a_spend d.1 = d.1 := by unfold a_spend; rw [if_pos (by omega)]
    rw [e2]; rfl
  · have e2 : a_spend d.1 3 ≠ 1 := by
      unfold a_spend
      split
      · exact e
      · split
        · simp [fu]
        · simp [fu]; exact e
    rw [mkd_o (by exact e2), mkd_o e]
/-- deciding, door by door -/
theorem L_t3 (hV : VB b m) : ∀ r k, ∀ (σ : aN) (T : aS) (c : Nat → Int) (cnt : Int), k + r = T.1 → RS b σ T → INm E Lw T [] c → ∀ f, r < f → wq (fL_X1_tickOn f 99 (xW m σ) b (xI cnt) (xI (k : Nat))) (fun z => ∃ τ, z = (xI (cnt + (a_dks T k r).1), xW m τ) ∧ RS b τ (a_fin (a_dks T k r).2) ∧ fr b 74 σ τ) := by
  have hV0 := hV
  obtain ⟨v0, v2, v3, v4, v5, v6, v7, _, v9⟩ := hV
  intro r
  induction r with
  | zero =>
    intro k σ T c cnt hk hR hI f hf
    obtain ⟨g, rfl⟩ : ∃ g, f = g + 1 := ⟨f - 1, by omega⟩
    have hn := hI.1.1
    have f1 := hR.2.1
    have f0 := hR.1
    show wq (fB_X1_tickOn_99 (fL_X1_tickOn g) (xW m σ) b (xI cnt) (xI (k : Nat))) _
    unfold fB_X1_tickOn_99; simp only [mk_xW, ml_xW, mr_xW, mi_xW, mI_xW, mC_xW]
    repeat first | refine w_b v2 ?_ | (refine w_i ?_ ?_; · (simp (disch := omega) only [vin, mk_xW, ml_xW, mr_xW, mi_xW, mI_xW, mC_xW, up_eq, up_na, up_nj, xL0, xL1, xL2, xL3, xL4, xL5, xL6, xL7, xL8, xL9, xL10, xL12, xL16, xL20, xL24, xL31, xL50, xL60, xL89, xL99, xL100, xL200, xI_add, xI_sub, xI_mul, xI_neg, xI_nat, xI_cl, Int.toNat_natCast, Int.reduceToNat, xltT, xltF, xleT, xleF, xeqT, xeqF, nleT, nleF, nltT, nltF, neqT, neqF, ileT, ileF, iltT, iltF, ieqT, ieqF, or_false, or_true, false_or, true_or, and_true, true_and, and_false, false_and, not_false_eq_true, not_true_eq_false, ↓reduceIte, if_true, if_false, v0, f1])) | (refine w_n ?_ ?_; · (simp (disch := omega) only [vin, mk_xW, ml_xW, mr_xW, mi_xW, mI_xW, mC_xW, up_eq, up_na, up_nj, xL0, xL1, xL2, xL3, xL4, xL5, xL6, xL7, xL8, xL9, xL10, xL12, xL16, xL20, xL24, xL31, xL50, xL60, xL89, xL99, xL100, xL200, xI_add, xI_sub, xI_mul, xI_neg, xI_nat, xI_cl, Int.toNat_natCast, Int.reduceToNat, xltT, xltF, xleT, xleF, xeqT, xeqF, nleT, nleF, nltT, nltF, neqT, neqF, ileT, ileF, iltT, iltF, ieqT, ieqF, or_false, or_true, false_or, true_or, and_true, true_and, and_false, false_and, not_false_eq_true, not_true_eq_false, ↓reduceIte, if_true, if_false, v0, f1]))
    simp (disch := omega) only [vin, mk_xW, ml_xW, mr_xW, mi_xW, mI_xW, mC_xW, up_eq, up_na, up_nj, xL0, xL1, xL2, xL3, xL4, xL5, xL6, xL7, xL8, xL9, xL10, xL12, xL16, xL20, xL24, xL31, xL50, xL60, xL89, xL99, xL100, xL200, xI_add, xI_sub, xI_mul, xI_neg, xI_nat, xI_cl, Int.toNat_natCast, Int.reduceToNat, xltT, xltF, xleT, xleF, xeqT, xeqF, nleT, nleF, nltT, nltF, neqT, neqF, ileT, ileF, iltT, iltF, ieqT, ieqF, or_false, or_true, false_or, true_or, and_true, true_and, and_false, false_and, not_false_eq_true, not_true_eq_false, ↓reduceIte, if_true, if_false, f0]
    refine w_s ⟨up σ b 0 (xI (T.2.1 0 + 1)), ?_, RS_fin hR, fr_up (by omega)⟩
    show (xI cnt, _) = (xI (cnt + 0), _); rw [Int.add_zero]
  | succ r ih =>
    intro k σ T c cnt hk hR hI f hf
    obtain ⟨g, rfl⟩ : ∃ g, f = g + 1 := ⟨f - 1, by omega⟩
    have hn := hI.1.1
    have f1 := hR.2.1
    obtain ⟨hr, hdB⟩ := v9 k (by omega)
    have f3 : σ (b + 14 + 6 * k) 3 = xI ((T.2.2.1 k).1 3) := (hR.2.2.1 k (by omega)).1 3 (by omega)
    have hst := (hI.2.1 k (by omega)).1.2.2
    have hr2 : mr m (b + 1) (xI (k : Nat)).toNatClampNeg = some (b + 14 + 6 * k) := by rw [← hr]; simp (disch := omega) only [vin, mk_xW, ml_xW, mr_xW, mi_xW, mI_xW, mC_xW, up_eq, up_na, up_nj, xL0, xL1, xL2, xL3, xL4, xL5, xL6, xL7, xL8, xL9, xL10, xL12, xL16, xL20, xL24, xL31, xL50, xL60, xL89, xL99, xL100, xL200, xI_add, xI_sub, xI_mul, xI_neg, xI_nat, xI_cl, Int.toNat_natCast, Int.reduceToNat, xltT, xltF, xleT, xleF, xeqT, xeqF, nleT, nleF, nltT, nltF, neqT, neqF, ileT, ileF, iltT, iltF, ieqT, ieqF, or_false, or_true, false_or, true_or, and_true, true_and, and_false, false_and, not_false_eq_true, not_true_eq_false, ↓reduceIte, if_true, if_false]
    show wq (fB_X1_tickOn_99 (fL_X1_tickOn g) (xW m σ) b (xI cnt) (xI (k : Nat))) _
    unfold fB_X1_tickOn_99; simp only [mk_xW, ml_xW, mr_xW, mi_xW, mI_xW, mC_xW]
    refine w_i v0 ?_
    refine w_n (by simp (disch := omega) only [vin, mk_xW, ml_xW, mr_xW, mi_xW, mI_xW, mC_xW, up_eq, up_na, up_nj, xL0, xL1, xL2, xL3, xL4, xL5, xL6, xL7, xL8, xL9, xL10, xL12, xL16, xL20, xL24, xL31, xL50, xL60, xL89, xL99, xL100, xL200, xI_add, xI_sub, xI_mul, xI_neg, xI_nat, xI_cl, Int.toNat_natCast, Int.reduceToNat, xltT, xltF, xleT, xleF, xeqT, xeqF, nleT, nleF, nltT, nltF, neqT, neqF, ileT, ileF, iltT, iltF, ieqT, ieqF, or_false, or_true, false_or, true_or, and_true, true_and, and_false, false_and, not_false_eq_true, not_true_eq_false, ↓reduceIte, if_true, if_false, f1]) ?_
    refine w_b v2 ?_
    refine w_i v5 ?_
    refine w_i (by simp (disch := omega) only [vin, mk_xW, ml_xW, mr_xW, mi_xW, mI_xW, mC_xW, up_eq, up_na, up_nj, xL0, xL1, xL2, xL3, xL4, xL5, xL6, xL7, xL8, xL9, xL10, xL12, xL16, xL20, xL24, xL31, xL50, xL60, xL89, xL99, xL100, xL200, xI_add, xI_sub, xI_mul, xI_neg, xI_nat, xI_cl, Int.toNat_natCast, Int.reduceToNat, xltT, xltF, xleT, xleF, xeqT, xeqF, nleT, nleF, nltT, nltF, neqT, neqF, ileT, ileF, iltT, iltF, ieqT, ieqF, or_false, or_true, false_or, true_or, and_true, true_and, and_false, false_and, not_false_eq_true, not_true_eq_false, ↓reduceIte, if_true, if_false, v6]) ?_
    refine w_b hr2 ?_
    refine w_i hdB.1 ?_
    have hstep : a_dks T k (r + 1) = (a_up T k + (a_dks (a_dk T k) (k + 1) r).1, (a_dks (a_dk T k) (k + 1) r).2) := rfl
    have hI2 := IN_dk hI (k := k) (by omega)
    by_cases e : (T.2.2.1 k).1 3 = 1
    · refine w_i (by simp (disch := omega) only [vin, mk_xW, ml_xW, mr_xW, mi_xW, mI_xW, mC_xW, up_eq, up_na, up_nj, xL0, xL1, xL2, xL3, xL4, xL5, xL6, xL7, xL8, xL9, xL10, xL12, xL16, xL20, xL24, xL31, xL50, xL60, xL89, xL99, xL100, xL200, xI_add, xI_sub, xI_mul, xI_neg, xI_nat, xI_cl, Int.toNat_natCast, Int.reduceToNat, xltT, xltF, xleT, xleF, xeqT, xeqF, nleT, nleF, nltT, nltF, neqT, neqF, ileT, ileF, iltT, iltF, ieqT, ieqF, or_false, or_true, false_or, true_or, and_true, true_and, and_false, false_and, not_false_eq_true, not_true_eq_false, ↓reduceIte, if_true, if_false, f3]) ?_
      refine w_c (S_waitOn hV0 hR hI (by omega) e) ?_
      rintro z ⟨τ, rfl, t1, t2⟩
      have hu : a_up T k = 0 ∨ a_up T k = 1 := by
        unfold a_up; split
        · exact a_yes01
        · exact .inl rfl
      rcases hu with g9 | g9
      · refine w_i (by simp only [g9]; rfl) ?_
        refine w_r ?_ (w_m (ih (k + 1) τ _ _ cnt (by rw [dk_n]; omega) t1 hI2 g (by omega)) ?_)
        · simp (disch := omega) only [vin, mk_xW, ml_xW, mr_xW, mi_xW, mI_xW, mC_xW, up_eq, up_na, up_nj, xL0, xL1, xL2, xL3, xL4, xL5, xL6, xL7, xL8, xL9, xL10, xL12, xL16, xL20, xL24, xL31, xL50, xL60, xL89, xL99, xL100, xL200, xI_add, xI_sub, xI_mul, xI_neg, xI_nat, xI_cl, Int.toNat_natCast, Int.reduceToNat, xltT, xltF, xleT, xleF, xeqT, xeqF, nleT, nleF, nltT, nltF, neqT, neqF, ileT, ileF, iltT, iltF, ieqT, ieqF, or_false, or_true, false_or, true_or, and_true, true_and, and_false, false_and, not_false_eq_true, not_true_eq_false, ↓reduceIte, if_true, if_false, Int.natCast_add, Int.cast_ofNat_Int]
        · rintro z ⟨ρ, e1, p1, p2⟩
          refine ⟨ρ, ?_, p1, fr_trans (frV_fr t2) p2⟩
          rw [e1, hstep, g9, Int.zero_add]
      · refine w_n (by simp only [g9]; decide) ?_
        refine w_r ?_ (w_m (ih (k + 1) τ _ _ (cnt + 1) (by rw [dk_n]; omega) t1 hI2 g (by omega)) ?_)
        · simp (disch := omega) only [vin, mk_xW, ml_xW, mr_xW, mi_xW, mI_xW, mC_xW, up_eq, up_na, up_nj, xL0, xL1, xL2, xL3, xL4, xL5, xL6, xL7, xL8, xL9, xL10, xL12, xL16, xL20, xL24, xL31, xL50, xL60, xL89, xL99, xL100, xL200, xI_add, xI_sub, xI_mul, xI_neg, xI_nat, xI_cl, Int.toNat_natCast, Int.reduceToNat, xltT, xltF, xleT, xleF, xeqT, xeqF, nleT, nleF, nltT, nltF, neqT, neqF, ileT, ileF, iltT, iltF, ieqT, ieqF, or_false, or_true, false_or, true_or, and_true, true_and, and_false, false_and, not_false_eq_true, not_true_eq_false, ↓reduceIte, if_true, if_false, Int.natCast_add, Int.cast_ofNat_Int]
        · rintro z ⟨ρ, e1, p1, p2⟩
          refine ⟨ρ, ?_, p1, fr_trans (frV_fr t2) p2⟩
          rw [e1, hstep, g9, Int.add_assoc]
    · refine w_n (by simp (disch := omega) only [vin, mk_xW, ml_xW, mr_xW, mi_xW, mI_xW, mC_xW, up_eq, up_na, up_nj, xL0, xL1, xL2, xL3, xL4, xL5, xL6, xL7, xL8, xL9, xL10, xL12, xL16, xL20, xL24, xL31, xL50, xL60, xL89, xL99, xL100, xL200, xI_add, xI_sub, xI_mul, xI_neg, xI_nat, xI_cl, Int.toNat_natCast, Int.reduceToNat, xltT, xltF, xleT, xleF, xeqT, xeqF, nleT, nleF, nltT, nltF, neqT, neqF, ileT, ileF, iltT, iltF, ieqT, ieqF, or_false, or_true, false_or, true_or, and_true, true_and, and_false, false_and, not_false_eq_true, not_true_eq_false, ↓reduceIte, if_true, if_false, f3]) ?_
      have e9 : ¬ a_now (T.2.2.1 k) := fun g => e g.1
      have ed : a_dk T k = T := by unfold a_dk; rw [if_neg e9, if_neg e]
      have eu : a_up T k = 0 := by unfold a_up; rw [if_neg e9]
      rw [hstep, eu, ed, Int.zero_add]
      rw [ed] at hI2
      refine w_r ?_ (ih (k + 1) σ T _ cnt (by omega) hR hI2 g (by omega))
      simp (disch := omega) only [vin, mk_xW, ml_xW, mr_xW, mi_xW, mI_xW, mC_xW, up_eq, up_na, up_nj, xL0, xL1, xL2, xL3, xL4, xL5, xL6, xL7, xL8, xL9, xL10, xL12, xL16, xL20, xL24, xL31, xL50, xL60, xL89, xL99, xL100, xL200, xI_add, xI_sub, xI_mul, xI_neg, xI_nat, xI_cl, Int.toNat_natCast, Int.reduceToNat, xltT, xltF, xleT, xleF, xeqT, xeqF, nleT, nleF, nltT, nltF, neqT, neqF, ileT, ileF, iltT, iltF, ieqT, ieqF, or_false, or_true, false_or, true_or, and_true, true_and, and_false, false_and, not_false_eq_true, not_true_eq_false, ↓reduceIte, if_true, if_false, Int.natCast_add, Int.cast_ofNat_Int]
theorem hear_n {v : aR} : (a_hear S v).1 = S.1 := by
  unfold a_hear
  split
  · split <;> rfl
  · split
    · exact send_n
    · show (if _ then a_wake _ _ else _ : aS).1 = _
      split
      · exact asks_n
      · rfl
/-- hearing, voice by voice -/
theorem L_t2 {A : List aR} (hV : VB b m) (hA : A.length ≤ 60) : ∀ r i, i + r = A.length → ∀ (σ : aN) (T : aS) (Lw : Nat → Int), RS b σ T → RAr (b + 8) σ A → INm E Lw T (A.drop i) (fun _ => 21) → ∀ f, r + 12 < f → wq (fL_X1_tickOn f 38 (xW m σ) b (xI (i : Nat)) (xI 0)) (fun z => ∃ τ, z = (xI (a_dks (a_hears T (A.drop i)) 0 T.1).1, xW m τ) ∧ RS b τ (a_fin (a_dks (a_hears T (A.drop i)) 0 T.1).2) ∧ fr b 74 σ τ) := by
  have hV0 := hV
  obtain ⟨v0, v2, v3, v4, v5, v6, v7, v8, v9⟩ := hV
  obtain ⟨k0, r2, r3, r4, r5, r6, k1, k2, k3, k4, k5, l1, l2, l3, l4, l5⟩ := v8
  intro r
  induction r with
  | zero =>
    intro i hi σ T Lw hR hRA hI f hf
    obtain ⟨g, rfl⟩ : ∃ g, f = g + 1 := ⟨f - 1, by omega⟩
    have hn := hI.1.1
    have f0 := hRA.1
    rw [List.drop_of_length_le (by omega)] at hI ⊢
    show wq (fB_X1_tickOn_38 (fL_X1_tickOn g) (xW m σ) b (xI (i : Nat)) (xI 0)) _
    unfold fB_X1_tickOn_38; simp only [mk_xW, ml_xW, mr_xW, mi_xW, mI_xW, mC_xW]
    repeat first | refine w_b v4 ?_ | (refine w_i ?_ ?_; · (simp (disch := omega) only [vin, mk_xW, ml_xW, mr_xW, mi_xW, mI_xW, mC_xW, up_eq, up_na, up_nj, xL0, xL1, xL2, xL3, xL4, xL5, xL6, xL7, xL8, xL9, xL10, xL12, xL16, xL20, xL24, xL31, xL50, xL60, xL89, xL99, xL100, xL200, xI_add, xI_sub, xI_mul, xI_neg, xI_nat, xI_cl, Int.toNat_natCast, Int.reduceToNat, xltT, xltF, xleT, xleF, xeqT, xeqF, nleT, nleF, nltT, nltF, neqT, neqF, ileT, ileF, iltT, iltF, ieqT, ieqF, or_false, or_true, false_or, true_or, and_true, true_and, and_false, false_and, not_false_eq_true, not_true_eq_false, ↓reduceIte, if_true, if_false, v0, k0, f0])) | (refine w_n ?_ ?_; · (simp (disch := omega) only [vin, mk_xW, ml_xW, mr_xW, mi_xW, mI_xW, mC_xW, up_eq, up_na, up_nj, xL0, xL1, xL2, xL3, xL4, xL5, xL6, xL7, xL8, xL9, xL10, xL12, xL16, xL20, xL24, xL31, xL50, xL60, xL89, xL99, xL100, xL200, xI_add, xI_sub, xI_mul, xI_neg, xI_nat, xI_cl, Int.toNat_natCast, Int.reduceToNat, xltT, xltF, xleT, xleF, xeqT, xeqF, nleT, nleF, nltT, nltF, neqT, neqF, ileT, ileF, iltT, iltF, ieqT, ieqF, or_false, or_true, false_or, true_or, and_true, true_and, and_false, false_and, not_false_eq_true, not_true_eq_false, ↓reduceIte, if_true, if_false, v0, k0, f0]))
    have h9 := L_t3 hV0 T.1 0 σ T _ 0 (by omega) hR hI g (by omega)
    refine w_r (by simp (disch := omega) only [xL0, xL1, xL2, xL3, xL4, xL5, xL6, xL7, xL8, xL9, xL10, xL12, xL16, xL20, xL24, xL31, xL50, xL60, xL89, xL99, xL100, xL200]; rfl) (w_m h9 ?_)
    rintro z ⟨τ, e, t1, t2⟩
    rw [Int.zero_add] at e
    exact ⟨τ, e, t1, t2⟩
  | succ r ih =>
    intro i hi σ T Lw hR hRA hI f hf
    obtain ⟨g, rfl⟩ : ∃ g, f = g + 1 := ⟨f - 1, by omega⟩
    obtain ⟨v, h1, h2⟩ := dr_at (l := A) (i := i) (by omega)
    have f0 := hRA.1
    have g0 : σ (b + 8 + 1) i = xI (v 0) := hRA.2.1 i v h1 0 (by omega)
    have g1 : σ (b + 8 + 2) i = xI (v 1) := hRA.2.1 i v h1 1 (by omega)
    have g2 : σ (b + 8 + 3) i = xI (v 2) := hRA.2.1 i v h1 2 (by omega)
    have g4 : σ (b + 8 + 5) i = xI (v 4) := hRA.2.2 i v h1
    rw [h2] at hI ⊢
    obtain ⟨Lw', hI2⟩ := IN_hear hI (fun _ _ => by decide)
    show wq (fB_X1_tickOn_38 (fL_X1_tickOn g) (xW m σ) b (xI (i : Nat)) (xI 0)) _
    unfold fB_X1_tickOn_38; simp only [mk_xW, ml_xW, mr_xW, mi_xW, mI_xW, mC_xW]
    repeat first | refine w_b v4 ?_ | refine w_b r2 ?_ | refine w_b r3 ?_ | refine w_b r4 ?_ | refine w_b r6 ?_ | (refine w_i ?_ ?_; · (simp (disch := omega) only [vin, mk_xW, ml_xW, mr_xW, mi_xW, mI_xW, mC_xW, up_eq, up_na, up_nj, xL0, xL1, xL2, xL3, xL4, xL5, xL6, xL7, xL8, xL9, xL10, xL12, xL16, xL20, xL24, xL31, xL50, xL60, xL89, xL99, xL100, xL200, xI_add, xI_sub, xI_mul, xI_neg, xI_nat, xI_cl, Int.toNat_natCast, Int.reduceToNat, xltT, xltF, xleT, xleF, xeqT, xeqF, nleT, nleF, nltT, nltF, neqT, neqF, ileT, ileF, iltT, iltF, ieqT, ieqF, or_false, or_true, false_or, true_or, and_true, true_and, and_false, false_and, not_false_eq_true, not_true_eq_false, ↓reduceIte, if_true, if_false, v0, k0, k1, k2, k3, k5, l1, l2, l3, l5, f0])) | (refine w_n ?_ ?_; · (simp (disch := omega) only [vin, mk_xW, ml_xW, mr_xW, mi_xW, mI_xW, mC_xW, up_eq, up_na, up_nj, xL0, xL1, xL2, xL3, xL4, xL5, xL6, xL7, xL8, xL9, xL10, xL12, xL16, xL20, xL24, xL31, xL50, xL60, xL89, xL99, xL100, xL200, xI_add, xI_sub, xI_mul, xI_neg, xI_nat, xI_cl, Int.toNat_natCast, Int.reduceToNat, xltT, xltF, xleT, xleF, xeqT, xeqF, nleT, nleF, nltT, nltF, neqT, neqF, ileT, ileF, iltT, iltF, ieqT, ieqF, or_false, or_true, false_or, true_or, and_true, true_and, and_false, false_and, not_false_eq_true, not_true_eq_false, ↓reduceIte, if_true, if_false, v0, k0, k1, k2, k3, k5, l1, l2, l3, l5, f0]))
    refine w_c (w_r (by simp (disch := omega) only [vin, mk_xW, ml_xW, mr_xW, mi_xW, mI_xW, mC_xW, up_eq, up_na, up_nj, xL0, xL1, xL2, xL3, xL4, xL5, xL6, xL7, xL8, xL9, xL10, xL12, xL16, xL20, xL24, xL31, xL50, xL60, xL89, xL99, xL100, xL200, xI_add, xI_sub, xI_mul, xI_neg, xI_nat, xI_cl, Int.toNat_natCast, Int.reduceToNat, xltT, xltF, xleT, xleF, xeqT, xeqF, nleT, nleF, nltT, nltF, neqT, neqF, ileT, ileF, iltT, iltF, ieqT, ieqF, or_false, or_true, false_or, true_or, and_true, true_and, and_false, false_and, not_false_eq_true, not_true_eq_false, ↓reduceIte, if_true, if_false, g0, g1, g2, g4]) (S_hear hV0 hR hI (fun _ _ => by decide))) ?_
    rintro z ⟨τ, rfl, t1, t2⟩
    have h9 := ih (i + 1) (by omega) τ _ Lw' t1 (RAr_fr hRA (fun x e1 e2 => t2 x (by omega))) hI2 g (by omega)
    rw [hear_n] at h9
    refine w_r ?_ (w_m h9 ?_)
    · simp (disch := omega) only [vin, mk_xW, ml_xW, mr_xW, mi_xW, mI_xW, mC_xW, up_eq, up_na, up_nj, xL0, xL1, xL2, xL3, xL4, xL5, xL6, xL7, xL8, xL9, xL10, xL12, xL16, xL20, xL24, xL31, xL50, xL60, xL89, xL99, xL100, xL200, xI_add, xI_sub, xI_mul, xI_neg, xI_nat, xI_cl, Int.toNat_natCast, Int.reduceToNat, xltT, xltF, xleT, xleF, xeqT, xeqF, nleT, nleF, nltT, nltF, neqT, neqF, ileT, ileF, iltT, iltF, ieqT, ieqF, or_false, or_true, false_or, true_or, and_true, true_and, and_false, false_and, not_false_eq_true, not_true_eq_false, ↓reduceIte, if_true, if_false, Int.natCast_add, Int.cast_ofNat_Int]
    · rintro z ⟨ρ, e1, p1, p2⟩
      exact ⟨ρ, e1, p1, fr_trans (frV_fr t2) p2⟩
/-- spending, door by door; then all the rest -/
theorem L_t1 (hV : VB b m) (hI : INm E Lw S [] (fun _ => 20)) : ∀ r i, i + r = S.1 → ∀ (σ : aN), RS b σ (a_sp S i) → ∀ f, r + 80 < f → wq (fL_X1_tickOn f 2 (xW m σ) b (xI (i : Nat)) (xI 0)) (fun z => ∃ τ, z = (xI (a_t3 S).1, xW m τ) ∧ RS b τ (a_tick S) ∧ fr b 74 σ τ) := by
  have hV0 := hV
  have hn := hI.1.1
  obtain ⟨v0, v2, v3, v4, v5, v6, v7, v8, v9⟩ := hV
  intro r
  induction r with
  | zero =>
    intro i hi σ hR f hf
    obtain ⟨g, rfl⟩ : ∃ g, f = g + 1 := ⟨f - 1, by omega⟩
    have f1 : σ b 1 = xI (S.1 : Nat) := hR.2.1
    have hlen := hI.2.2.1
    have hv : ∀ v ∈ S.2.2.2, 1 ≤ v 3 ∧ v 3 ≤ 5 := by
      intro v hv
      have h3 := hI.2.2.2.1 v hv
      have h6 := hI.2.2.2.2.2.1 v (by exact hv)
      have h61 := h6.1
      rcases h6.2 with h7 | h7
      · have := (hI.1.2.1 (v 0).toNat (by omega)).2.1 _ h7.2.1
        simp only at this; omega
      · have := (hI.1.2.1 (v 1).toNat (by omega)).2.1 _ h7.2
        simp only at this; omega
    show wq (fB_X1_tickOn_2 (fL_X1_tickOn g) (xW m σ) b (xI (i : Nat)) (xI 0)) _
    unfold fB_X1_tickOn_2; simp only [mk_xW, ml_xW, mr_xW, mi_xW, mI_xW, mC_xW]
    refine w_i v0 ?_
    refine w_i (by simp (disch := omega) only [vin, mk_xW, ml_xW, mr_xW, mi_xW, mI_xW, mC_xW, up_eq, up_na, up_nj, xL0, xL1, xL2, xL3, xL4, xL5, xL6, xL7, xL8, xL9, xL10, xL12, xL16, xL20, xL24, xL31, xL50, xL60, xL89, xL99, xL100, xL200, xI_add, xI_sub, xI_mul, xI_neg, xI_nat, xI_cl, Int.toNat_natCast, Int.reduceToNat, xltT, xltF, xleT, xleF, xeqT, xeqF, nleT, nleF, nltT, nltF, neqT, neqF, ileT, ileF, iltT, iltF, ieqT, ieqF, or_false, or_true, false_or, true_or, and_true, true_and, and_false, false_and, not_false_eq_true, not_true_eq_false, ↓reduceIte, if_true, if_false, f1]) ?_
    refine w_b v3 ?_
    refine w_b v4 ?_
    refine w_i v7.1 ?_
    refine w_c (S_moveOn (q := b + 2) v7 v8 hlen hv hR.2.2.2.1) ?_
    rintro z ⟨τ, rfl, t1, t2, t3, t4⟩
    have ei : i = S.1 := by omega
    subst ei
    have hR1 : RS b τ (a_t1 S) := by
      obtain ⟨h1, h2, h3, h4, h5⟩ := hR
      refine ⟨?_, ?_, fun j hj => ?_, t1, ?_⟩
      · rw [t4 b (by omega)]; show _ = xI (fu S.2.1 2 (S.2.1 2 + 1) 0); rw [fu_ne (by omega)]; exact h1
      · rw [t4 b (by omega)]; exact h2
      · exact RDr_fr (h3 j hj) (fun x g1 g2 => t4 x (by omega))
      · rw [t3]; show _ = xI (fu S.2.1 2 (S.2.1 2 + 1) 1); rw [fu_ne (by omega)]; exact h5
    have hdl := due_len (l := S.2.2.2)
    have h9 := L_t2 (A := a_due S.2.2.2) hV0 (by omega) (a_due S.2.2.2).length 0 (by omega) τ (a_t1 S) Lw hR1 t2 (IN_t1 hI) g (by omega)
    refine w_r (by simp (disch := omega) only [xL0, xL1, xL2, xL3, xL4, xL5, xL6, xL7, xL8, xL9, xL10, xL12, xL16, xL20, xL24, xL31, xL50, xL60, xL89, xL99, xL100, xL200]; rfl) (w_m h9 ?_)
    rintro z ⟨ρ, e1, p1, p2⟩
    have e2 : a_dks (a_hears (a_t1 S) ((a_due S.2.2.2).drop 0)) 0 (a_t1 S).1 = a_t3 S := by
      unfold a_t3; rw [a_t2_n]; rfl
    rw [e2] at e1 p1
    exact ⟨ρ, e1, p1, fr_trans (fr_w t4 (by omega)) p2⟩
  | succ r ih =>
    intro i hi σ hR f hf
    obtain ⟨g, rfl⟩ : ∃ g, f = g + 1 := ⟨f - 1, by omega⟩
    have f1 : σ b 1 = xI (S.1 : Nat) := hR.2.1
    obtain ⟨hr, hdB⟩ := v9 i (by omega)
    have hr2 : mr m (b + 1) (xI (i : Nat)).toNatClampNeg = some (b + 14 + 6 * i) := by rw [← hr]; simp (disch := omega) only [vin, mk_xW, ml_xW, mr_xW, mi_xW, mI_xW, mC_xW, up_eq, up_na, up_nj, xL0, xL1, xL2, xL3, xL4, xL5, xL6, xL7, xL8, xL9, xL10, xL12, xL16, xL20, xL24, xL31, xL50, xL60, xL89, xL99, xL100, xL200, xI_add, xI_sub, xI_mul, xI_neg, xI_nat, xI_cl, Int.toNat_natCast, Int.reduceToNat, xltT, xltF, xleT, xleF, xeqT, xeqF, nleT, nleF, nltT, nltF, neqT, neqF, ileT, ileF, iltT, iltF, ieqT, ieqF, or_false, or_true, false_or, true_or, and_true, true_and, and_false, false_and, not_false_eq_true, not_true_eq_false, ↓reduceIte, if_true, if_false]
    have hd := hR.2.2.1 i (show i < S.1 by omega)
    have e0 : (a_sp S i).2.2.1 i = S.2.2.1 i := if_neg (by omega)
    rw [e0] at hd
    have hW := WD_mkd (IN_W hI (k := i) (by omega)).1
    show wq (fB_X1_tickOn_2 (fL_X1_tickOn g) (xW m σ) b (xI (i : Nat)) (xI 0)) _
    unfold fB_X1_tickOn_2; simp only [mk_xW, ml_xW, mr_xW, mi_xW, mI_xW, mC_xW]
    refine w_i v0 ?_
    refine w_n (by simp (disch := omega) only [vin, mk_xW, ml_xW, mr_xW, mi_xW, mI_xW, mC_xW, up_eq, up_na, up_nj, xL0, xL1, xL2, xL3, xL4, xL5, xL6, xL7, xL8, xL9, xL10, xL12, xL16, xL20, xL24, xL31, xL50, xL60, xL89, xL99, xL100, xL200, xI_add, xI_sub, xI_mul, xI_neg, xI_nat, xI_cl, Int.toNat_natCast, Int.reduceToNat, xltT, xltF, xleT, xleF, xeqT, xeqF, nleT, nleF, nltT, nltF, neqT, neqF, ileT, ileF, iltT, iltF, ieqT, ieqF, or_false, or_true, false_or, true_or, and_true, true_and, and_false, false_and, not_false_eq_true, not_true_eq_false, ↓reduceIte, if_true, if_false, f1]) ?_
    refine w_b v2 ?_
    refine w_i v5 ?_
    refine w_i (by simp (disch := omega) only [vin, mk_xW, ml_xW, mr_xW, mi_xW, mI_xW, mC_xW, up_eq, up_na, up_nj, xL0, xL1, xL2, xL3, xL4, xL5, xL6, xL7, xL8, xL9, xL10, xL12, xL16, xL20, xL24, xL31, xL50, xL60, xL89, xL99, xL100, xL200, xI_add, xI_sub, xI_mul, xI_neg, xI_nat, xI_cl, Int.toNat_natCast, Int.reduceToNat, xltT, xltF, xleT, xleF, xeqT, xeqF, nleT, nleF, nltT, nltF, neqT, neqF, ileT, ileF, iltT, iltF, ieqT, ieqF, or_false, or_true, false_or, true_or, and_true, true_and, and_false, false_and, not_false_eq_true, not_true_eq_false, ↓reduceIte, if_true, if_false, v6]) ?_
    refine w_b hr2 ?_
    refine w_i hdB.1 ?_
    refine w_c (S_spend hdB hd hW) ?_
    rintro z ⟨τ, rfl, t1, t2⟩
    have hR1 : RS b τ (a_sp S (i + 1)) := by
      rw [← sp_s]
      exact RS_set hR hn (show i < S.1 by omega) (by rw [mkd_sp]; exact t1) t2
    refine w_r ?_ (w_m (ih (i + 1) (by omega) τ hR1 g (by omega)) ?_)
    · simp (disch := omega) only [vin, mk_xW, ml_xW, mr_xW, mi_xW, mI_xW, mC_xW, up_eq, up_na, up_nj, xL0, xL1, xL2, xL3, xL4, xL5, xL6, xL7, xL8, xL9, xL10, xL12, xL16, xL20, xL24, xL31, xL50, xL60, xL89, xL99, xL100, xL200, xI_add, xI_sub, xI_mul, xI_neg, xI_nat, xI_cl, Int.toNat_natCast, Int.reduceToNat, xltT, xltF, xleT, xleF, xeqT, xeqF, nleT, nleF, nltT, nltF, neqT, neqF, ileT, ileF, iltT, iltF, ieqT, ieqF, or_false, or_true, false_or, true_or, and_true, true_and, and_false, false_and, not_false_eq_true, not_true_eq_false, ↓reduceIte, if_true, if_false, Int.natCast_add, Int.cast_ofNat_Int]
    · rintro z ⟨ρ, e1, p1, p2⟩
      exact ⟨ρ, e1, p1, fr_trans (fr_w t2 (by omega)) p2⟩
theorem S_tick (hV : VB b m) (hR : RS b σ S) (hI : INm E Lw S [] (fun _ => 20)) : wq (f_X1_tickOn (xW m σ) b) (fun z => ∃ τ, z = (xI (a_t3 S).1, xW m τ) ∧ RS b τ (a_tick S) ∧ fr b 74 σ τ) := by
  have hn := hI.1.1
  exact L_t1 hV hI S.1 0 (by omega) σ (by rw [sp_0]; exact hR) vF (by unfold vF; omega)
end
