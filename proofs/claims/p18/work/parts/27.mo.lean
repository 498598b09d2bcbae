section
variable {m : vM} {σ τ : aN} {q : Nat} {l : List aR}
theorem tk_at {α : Type} {l : List α} {i : Nat} {a : α} (h : l[i]? = some a) : l.take (i + 1) = l.take i ++ [a] := by
  induction l generalizing i with
  | nil => simp at h
  | cons b l ih =>
    cases i with
    | zero => simp at h; simp [h]
    | succ i =>
      have h : l[i]? = some a := by simpa using h
      rw [List.take_succ_cons, List.take_succ_cons, ih h]; rfl
theorem stay_snoc {v : aR} : a_stay (l ++ [v]) = a_stay l ++ (if 0 < v 3 - 1 then [a_dec v] else []) := by
  unfold a_stay
  rw [List.map_append, List.filter_append]
  congr 1
  by_cases e : 0 < v 3 - 1
  · rw [if_pos e]; simp [dec_3]; omega
  · rw [if_neg e]; simp [dec_3]; omega
theorem due_snoc {v : aR} : a_due (l ++ [v]) = a_due l ++ (if 0 < v 3 - 1 then [] else [a_dec v]) := by
  unfold a_due
  rw [List.map_append, List.filter_append]
  congr 1
  by_cases e : 0 < v 3 - 1
  · rw [if_pos e]; simp [dec_3]; omega
  · rw [if_neg e]; simp [dec_3]; omega
theorem stay_len : (a_stay l).length ≤ l.length := by
  refine Nat.le_trans (List.length_filter_le _ _) ?_
  rw [List.length_map]; exact Nat.le_refl _
theorem due_len : (a_due l).length ≤ l.length := by
  refine Nat.le_trans (List.length_filter_le _ _) ?_
  rw [List.length_map]; exact Nat.le_refl _
/-- what has arrived: all but the ticks to go -/
def RAr (q : Nat) (σ : aN) (l : List aR) : Prop := σ q 0 = xI l.length ∧ AR σ (q + 1) l 3 ∧ ∀ i v, l[i]? = some v → σ (q + 5) i = xI (v 4)
theorem RAr_fr (h : RAr q σ l) (e : ∀ x, q ≤ x → x < q + 6 → τ x = σ x) : RAr q τ l := ⟨by rw [e q (by omega) (by omega)]; exact h.1, AR_fr h.2.1 (fun r hr => e _ (by omega) (by omega)), fun i v hv => by rw [e _ (by omega) (by omega)]; exact h.2.2 i v hv⟩
theorem RAr_add {v : aR} (h : RAr q σ l) : RAr q (vadd σ q l.length (xI (v 0)) (xI (v 1)) (xI (v 2)) (xI (v 4))) (l ++ [a_dec v]) := by
  refine ⟨?_, AR_push h.2.1 (fun r hr => ?_) (fun r hr i hi => ?_), fun i w hw => ?_⟩
  · unfold vadd; rw [up_eq, List.length_append]; rfl
  · have hr2 : r = 0 ∨ r = 1 ∨ r = 2 := by omega
    unfold vadd
    rcases hr2 with g | g | g <;> subst g <;> simp (disch := omega) only [vin, mk_xW, ml_xW, mr_xW, mi_xW, mI_xW, mC_xW, up_eq, up_na, up_nj, xL0, xL1, xL2, xL3, xL4, xL5, xL6, xL7, xL8, xL9, xL10, xL12, xL16, xL20, xL24, xL31, xL50, xL60, xL89, xL99, xL100, xL200, xI_add, xI_sub, xI_mul, xI_neg, xI_nat, xI_cl, Int.toNat_natCast, Int.reduceToNat, xltT, xltF, xleT, xleF, xeqT, xeqF, nleT, nleF, nltT, nltF, neqT, neqF, ileT, ileF, iltT, iltF, ieqT, ieqF, or_false, or_true, false_or, true_or, and_true, true_and, and_false, false_and, not_false_eq_true, not_true_eq_false, ↓reduceIte, if_true, if_false, Nat.add_assoc, Nat.reduceAdd, dec_o]
  · unfold vadd
    rw [up_na (by omega), up_nj (by omega), up_nj (by omega), up_nj (by omega), up_nj (by omega), up_nj (by omega)]
  · unfold vadd
    by_cases c : i < l.length
    · rw [List.getElem?_append_left c] at hw
      rw [up_na (by omega), up_nj (by omega), up_nj (by omega), up_nj (by omega), up_nj (by omega), up_nj (by omega)]
      exact h.2.2 i w hw
    · have hi := dr_lt hw
      rw [List.length_append] at hi
      have e : i = l.length := by simp at hi; omega
      subst e
      rw [List.getElem?_append_right (Nat.le_refl _), Nat.sub_self] at hw
      have e : a_dec v = w := by simpa using hw
      subst e
      simp (disch := omega) only [vin, mk_xW, ml_xW, mr_xW, mi_xW, mI_xW, mC_xW, up_eq, up_na, up_nj, xL0, xL1, xL2, xL3, xL4, xL5, xL6, xL7, xL8, xL9, xL10, xL12, xL16, xL20, xL24, xL31, xL50, xL60, xL89, xL99, xL100, xL200, xI_add, xI_sub, xI_mul, xI_neg, xI_nat, xI_cl, Int.toNat_natCast, Int.reduceToNat, xltT, xltF, xleT, xleF, xeqT, xeqF, nleT, nleF, nltT, nltF, neqT, neqF, ileT, ileF, iltT, iltF, ieqT, ieqF, or_false, or_true, false_or, true_or, and_true, true_and, and_false, false_and, not_false_eq_true, not_true_eq_false, ↓reduceIte, if_true, if_false, dec_o]
/-- half way: i voices are looked at -/
def MO (q : Nat) (σ : aN) (vs : List aR) (i : Nat) : Prop := σ q 0 = xI vs.length ∧ AR σ (q + 1) (a_stay (vs.take i)) 5 ∧ (∀ j v, i ≤ j → vs[j]? = some v → ∀ r, r < 5 → σ (q + 1 + r) j = xI (v r)) ∧ RAr (q + 6) σ (a_due (vs.take i))
theorem L_moveOn {vs : List aR} (hB : vB q m) (hB2 : vB (q + 6) m) (hl : vs.length ≤ 60) (hv : ∀ v ∈ vs, 1 ≤ v 3 ∧ v 3 ≤ 5) : ∀ r i, i + r = vs.length → ∀ f, r < f → ∀ σ : aN, MO q σ vs i → wq (fL_X2_moveOn f 9 (xW m σ) q (q + 6) (xI ((a_stay (vs.take i)).length : Nat)) (xI (i : Nat))) (fun z => ∃ τ, z = xW m τ ∧ RVr q τ (a_stay vs) ∧ RAr (q + 6) τ (a_due vs) ∧ τ q 1 = σ q 1 ∧ fr q 12 σ τ) := by
  have hB0 := hB
  have hB20 := hB2
  obtain ⟨k0, r2, r3, r4, r5, r6, k1, k2, k3, k4, k5, l1, l2, l3, l4, l5⟩ := hB; obtain ⟨K0, R2, R3, R4, R5, R6, K1, K2, K3, K4, K5, L1, L2, L3, L4, L5⟩ := hB2
  intro r
  induction r with
  | zero =>
    intro i hi f hf σ ⟨m1, m2, m3, m4⟩
    have e : vs.take i = vs := List.take_of_length_le (by omega)
    rw [e] at m2 m4 ⊢
    have hs := stay_len (l := vs)
    obtain ⟨g, rfl⟩ : ∃ g, f = g + 1 := ⟨f - 1, by omega⟩
    show wq (fB_X2_moveOn_9 (fL_X2_moveOn g) (xW m σ) q (q + 6) _ _) _
    unfold fB_X2_moveOn_9; simp only [mk_xW, ml_xW, mr_xW, mi_xW, mI_xW, mC_xW]
    repeat first | refine w_b r2 ?_ | (refine w_i ?_ ?_; · (simp (disch := omega) only [vin, mk_xW, ml_xW, mr_xW, mi_xW, mI_xW, mC_xW, up_eq, up_na, up_nj, xL0, xL1, xL2, xL3, xL4, xL5, xL6, xL7, xL8, xL9, xL10, xL12, xL16, xL20, xL24, xL31, xL50, xL60, xL89, xL99, xL100, xL200, xI_add, xI_sub, xI_mul, xI_neg, xI_nat, xI_cl, Int.toNat_natCast, Int.reduceToNat, xltT, xltF, xleT, xleF, xeqT, xeqF, nleT, nleF, nltT, nltF, neqT, neqF, ileT, ileF, iltT, iltF, ieqT, ieqF, or_false, or_true, false_or, true_or, and_true, true_and, and_false, false_and, not_false_eq_true, not_true_eq_false, ↓reduceIte, if_true, if_false, k0, m1])) | (refine w_n ?_ ?_; · (simp (disch := omega) only [vin, mk_xW, ml_xW, mr_xW, mi_xW, mI_xW, mC_xW, up_eq, up_na, up_nj, xL0, xL1, xL2, xL3, xL4, xL5, xL6, xL7, xL8, xL9, xL10, xL12, xL16, xL20, xL24, xL31, xL50, xL60, xL89, xL99, xL100, xL200, xI_add, xI_sub, xI_mul, xI_neg, xI_nat, xI_cl, Int.toNat_natCast, Int.reduceToNat, xltT, xltF, xleT, xleF, xeqT, xeqF, nleT, nleF, nltT, nltF, neqT, neqF, ileT, ileF, iltT, iltF, ieqT, ieqF, or_false, or_true, false_or, true_or, and_true, true_and, and_false, false_and, not_false_eq_true, not_true_eq_false, ↓reduceIte, if_true, if_false, k0, m1]))
    refine w_s ⟨_, rfl, ⟨up_eq, AR_fr m2 (fun r hr => up_row (by omega))⟩, RAr_fr m4 (fun x h1 h2 => up_row (by omega)), by rw [up_nj (by omega)], fr_up (by omega)⟩
  | succ r ih =>
    intro i hi f hf σ ⟨m1, m2, m3, m4⟩
    obtain ⟨g, rfl⟩ : ∃ g, f = g + 1 := ⟨f - 1, by omega⟩
    obtain ⟨v, h1, h2⟩ := dr_at (l := vs) (i := i) (by omega)
    have hv1 := hv v (dr_mem h1)
    have htk := tk_at h1
    have hsl : (a_stay (vs.take i)).length ≤ i := Nat.le_trans stay_len (by rw [List.length_take]; omega)
    have hdl : (a_due (vs.take i)).length ≤ i := Nat.le_trans due_len (by rw [List.length_take]; omega)
    have q0 : σ (q + 1) i = xI (v 0) := m3 i v (Nat.le_refl _) h1 0 (by omega)
    have q1 : σ (q + 2) i = xI (v 1) := m3 i v (Nat.le_refl _) h1 1 (by omega)
    have q2 : σ (q + 3) i = xI (v 2) := m3 i v (Nat.le_refl _) h1 2 (by omega)
    have q3 : σ (q + 4) i = xI (v 3) := m3 i v (Nat.le_refl _) h1 3 (by omega)
    have q4 : σ (q + 5) i = xI (v 4) := m3 i v (Nat.le_refl _) h1 4 (by omega)
    show wq (fB_X2_moveOn_9 (fL_X2_moveOn g) (xW m σ) q (q + 6) _ _) _
    unfold fB_X2_moveOn_9; simp only [mk_xW, ml_xW, mr_xW, mi_xW, mI_xW, mC_xW]
    by_cases c : 0 < v 3 - 1
    · repeat first | refine w_b r2 ?_ | refine w_b r3 ?_ | refine w_b r4 ?_ | refine w_b r5 ?_ | refine w_b r6 ?_ | (refine w_i ?_ ?_; · (simp (disch := omega) only [vin, mk_xW, ml_xW, mr_xW, mi_xW, mI_xW, mC_xW, up_eq, up_na, up_nj, xL0, xL1, xL2, xL3, xL4, xL5, xL6, xL7, xL8, xL9, xL10, xL12, xL16, xL20, xL24, xL31, xL50, xL60, xL89, xL99, xL100, xL200, xI_add, xI_sub, xI_mul, xI_neg, xI_nat, xI_cl, Int.toNat_natCast, Int.reduceToNat, xltT, xltF, xleT, xleF, xeqT, xeqF, nleT, nleF, nltT, nltF, neqT, neqF, ileT, ileF, iltT, iltF, ieqT, ieqF, or_false, or_true, false_or, true_or, and_true, true_and, and_false, false_and, not_false_eq_true, not_true_eq_false, ↓reduceIte, if_true, if_false, k0, k1, k2, k3, k4, k5, l1, l2, l3, l4, l5, m1, q3])) | (refine w_n ?_ ?_; · (simp (disch := omega) only [vin, mk_xW, ml_xW, mr_xW, mi_xW, mI_xW, mC_xW, up_eq, up_na, up_nj, xL0, xL1, xL2, xL3, xL4, xL5, xL6, xL7, xL8, xL9, xL10, xL12, xL16, xL20, xL24, xL31, xL50, xL60, xL89, xL99, xL100, xL200, xI_add, xI_sub, xI_mul, xI_neg, xI_nat, xI_cl, Int.toNat_natCast, Int.reduceToNat, xltT, xltF, xleT, xleF, xeqT, xeqF, nleT, nleF, nltT, nltF, neqT, neqF, ileT, ileF, iltT, iltF, ieqT, ieqF, or_false, or_true, false_or, true_or, and_true, true_and, and_false, false_and, not_false_eq_true, not_true_eq_false, ↓reduceIte, if_true, if_false, k0, k1, k2, k3, k4, k5, l1, l2, l3, l4, l5, m1, q3]))
      refine w_c (w_r (by simp (disch := omega) only [vin, mk_xW, ml_xW, mr_xW, mi_xW, mI_xW, mC_xW, up_eq, up_na, up_nj, xL0, xL1, xL2, xL3, xL4, xL5, xL6, xL7, xL8, xL9, xL10, xL12, xL16, xL20, xL24, xL31, xL50, xL60, xL89, xL99, xL100, xL200, xI_add, xI_sub, xI_mul, xI_neg, xI_nat, xI_cl, Int.toNat_natCast, Int.reduceToNat, xltT, xltF, xleT, xleF, xeqT, xeqF, nleT, nleF, nltT, nltF, neqT, neqF, ileT, ileF, iltT, iltF, ieqT, ieqF, or_false, or_true, false_or, true_or, and_true, true_and, and_false, false_and, not_false_eq_true, not_true_eq_false, ↓reduceIte, if_true, if_false, q3]) (S_moveUp (σ := up σ (q + 4) i (xI (v 3 - 1))) (i := i) (p := (a_stay (vs.take i)).length) hB0 (by omega) (by omega))) ?_
      rintro z ⟨τ, rfl, t1, t2, t3, t4⟩
      have e1 : a_stay (vs.take (i + 1)) = a_stay (vs.take i) ++ [a_dec v] := by rw [htk, stay_snoc, if_pos c]
      have e2 : a_due (vs.take (i + 1)) = a_due (vs.take i) := by rw [htk, due_snoc, if_pos c, List.append_nil]
      have hM : MO q τ vs (i + 1) := by
        refine ⟨?_, ?_, fun j w hj hw r hr => ?_, ?_⟩
        · rw [t3, up_na (by omega)]; exact m1
        · rw [e1]
          refine AR_push m2 (fun r hr => ?_) (fun r hr j hj => ?_)
          · rw [t1 r hr]
            have hr2 : r = 0 ∨ r = 1 ∨ r = 2 ∨ r = 3 ∨ r = 4 := by omega
            rcases hr2 with g | g | g | g | g <;> subst g <;> simp (disch := omega) only [vin, mk_xW, ml_xW, mr_xW, mi_xW, mI_xW, mC_xW, up_eq, up_na, up_nj, xL0, xL1, xL2, xL3, xL4, xL5, xL6, xL7, xL8, xL9, xL10, xL12, xL16, xL20, xL24, xL31, xL50, xL60, xL89, xL99, xL100, xL200, xI_add, xI_sub, xI_mul, xI_neg, xI_nat, xI_cl, Int.toNat_natCast, Int.reduceToNat, xltT, xltF, xleT, xleF, xeqT, xeqF, nleT, nleF, nltT, nltF, neqT, neqF, ileT, ileF, iltT, iltF, ieqT, ieqF, or_false, or_true, false_or, true_or, and_true, true_and, and_false, false_and, not_false_eq_true, not_true_eq_false, ↓reduceIte, if_true, if_false, Nat.add_assoc, Nat.reduceAdd, dec_o, dec_3, Nat.add_zero] <;> assumption
          · rw [t2 _ _ (by omega), up_nj (by omega)]
        · rw [t2 _ _ (by omega), up_nj (by omega)]; exact m3 j w (by omega) hw r hr
        · rw [e2]
          refine RAr_fr m4 (fun x g1 g2 => ?_)
          rw [t4 x (by omega), up_row (by omega)]
      have h9 := ih (i + 1) (by omega) g (by omega) τ hM
      rw [e1, List.length_append] at h9
      refine w_r ?_ (w_m h9 ?_)
      · simp (disch := omega) only [vin, mk_xW, ml_xW, mr_xW, mi_xW, mI_xW, mC_xW, up_eq, up_na, up_nj, xL0, xL1, xL2, xL3, xL4, xL5, xL6, xL7, xL8, xL9, xL10, xL12, xL16, xL20, xL24, xL31, xL50, xL60, xL89, xL99, xL100, xL200, xI_add, xI_sub, xI_mul, xI_neg, xI_nat, xI_cl, Int.toNat_natCast, Int.reduceToNat, xltT, xltF, xleT, xleF, xeqT, xeqF, nleT, nleF, nltT, nltF, neqT, neqF, ileT, ileF, iltT, iltF, ieqT, ieqF, or_false, or_true, false_or, true_or, and_true, true_and, and_false, false_and, not_false_eq_true, not_true_eq_false, ↓reduceIte, if_true, if_false, List.length_singleton, Int.natCast_add, Int.cast_ofNat_Int]
      · rintro z ⟨ρ, p1, p2, p3, p4, p5⟩
        refine ⟨ρ, p1, p2, p3, ?_, ?_⟩
        · rw [p4, t3, up_na (by omega)]
        · exact fr_trans (fr_trans (fr_up (by omega)) (fr_w t4 (by omega))) p5
    · repeat first | refine w_b r2 ?_ | refine w_b r3 ?_ | refine w_b r4 ?_ | refine w_b r5 ?_ | refine w_b r6 ?_ | (refine w_i ?_ ?_; · (simp (disch := omega) only [vin, mk_xW, ml_xW, mr_xW, mi_xW, mI_xW, mC_xW, up_eq, up_na, up_nj, xL0, xL1, xL2, xL3, xL4, xL5, xL6, xL7, xL8, xL9, xL10, xL12, xL16, xL20, xL24, xL31, xL50, xL60, xL89, xL99, xL100, xL200, xI_add, xI_sub, xI_mul, xI_neg, xI_nat, xI_cl, Int.toNat_natCast, Int.reduceToNat, xltT, xltF, xleT, xleF, xeqT, xeqF, nleT, nleF, nltT, nltF, neqT, neqF, ileT, ileF, iltT, iltF, ieqT, ieqF, or_false, or_true, false_or, true_or, and_true, true_and, and_false, false_and, not_false_eq_true, not_true_eq_false, ↓reduceIte, if_true, if_false, k0, k1, k2, k3, k4, k5, l1, l2, l3, l4, l5, K0, m1, q3])) | (refine w_n ?_ ?_; · (simp (disch := omega) only [vin, mk_xW, ml_xW, mr_xW, mi_xW, mI_xW, mC_xW, up_eq, up_na, up_nj, xL0, xL1, xL2, xL3, xL4, xL5, xL6, xL7, xL8, xL9, xL10, xL12, xL16, xL20, xL24, xL31, xL50, xL60, xL89, xL99, xL100, xL200, xI_add, xI_sub, xI_mul, xI_neg, xI_nat, xI_cl, Int.toNat_natCast, Int.reduceToNat, xltT, xltF, xleT, xleF, xeqT, xeqF, nleT, nleF, nltT, nltF, neqT, neqF, ileT, ileF, iltT, iltF, ieqT, ieqF, or_false, or_true, false_or, true_or, and_true, true_and, and_false, false_and, not_false_eq_true, not_true_eq_false, ↓reduceIte, if_true, if_false, k0, k1, k2, k3, k4, k5, l1, l2, l3, l4, l5, K0, m1, q3]))
      have a1 := S_add1 (m := m) (σ := up σ (q + 4) i (xI (v 3 - 1))) (q := q + 6) (n := (a_due (vs.take i)).length) (a := xI (v 0)) (b := xI (v 1)) (c := xI (v 2)) (e := xI (v 4)) hB20 (by omega) (by rw [up_na (by omega)]; exact m4.1)
      refine w_b (x := xW m (vadd (up σ (q + 4) i (xI (v 3 - 1))) (q + 6) (a_due (vs.take i)).length (xI (v 0)) (xI (v 1)) (xI (v 2)) (xI (v 4)))) ?_ ?_
      · rw [← a1]; simp (disch := omega) only [vin, mk_xW, ml_xW, mr_xW, mi_xW, mI_xW, mC_xW, up_eq, up_na, up_nj, xL0, xL1, xL2, xL3, xL4, xL5, xL6, xL7, xL8, xL9, xL10, xL12, xL16, xL20, xL24, xL31, xL50, xL60, xL89, xL99, xL100, xL200, xI_add, xI_sub, xI_mul, xI_neg, xI_nat, xI_cl, Int.toNat_natCast, Int.reduceToNat, xltT, xltF, xleT, xleF, xeqT, xeqF, nleT, nleF, nltT, nltF, neqT, neqF, ileT, ileF, iltT, iltF, ieqT, ieqF, or_false, or_true, false_or, true_or, and_true, true_and, and_false, false_and, not_false_eq_true, not_true_eq_false, ↓reduceIte, if_true, if_false, q0, q1, q2, q3, q4]
      have e1 : a_stay (vs.take (i + 1)) = a_stay (vs.take i) := by rw [htk, stay_snoc, if_neg c, List.append_nil]
      have e2 : a_due (vs.take (i + 1)) = a_due (vs.take i) ++ [a_dec v] := by rw [htk, due_snoc, if_neg c]
      have hfv : fr (q + 6) 6 (up σ (q + 4) i (xI (v 3 - 1))) (vadd (up σ (q + 4) i (xI (v 3 - 1))) (q + 6) (a_due (vs.take i)).length (xI (v 0)) (xI (v 1)) (xI (v 2)) (xI (v 4))) := fr_vadd
      have hM : MO q (vadd (up σ (q + 4) i (xI (v 3 - 1))) (q + 6) (a_due (vs.take i)).length (xI (v 0)) (xI (v 1)) (xI (v 2)) (xI (v 4))) vs (i + 1) := by
        refine ⟨?_, ?_, fun j w hj hw r hr => ?_, ?_⟩
        · rw [hfv q (by omega), up_na (by omega)]; exact m1
        · rw [e1]
          intro j w hw r hr
          have hj := dr_lt hw
          rw [hfv _ (by omega), up_nj (by omega)]; exact m2 j w hw r hr
        · rw [hfv _ (by omega), up_nj (by omega)]; exact m3 j w (by omega) hw r hr
        · rw [e2]
          exact RAr_add (RAr_fr m4 (fun x g1 g2 => up_row (by omega)))
      have h9 := ih (i + 1) (by omega) g (by omega) _ hM
      rw [e1] at h9
      refine w_r ?_ (w_m h9 ?_)
      · simp (disch := omega) only [vin, mk_xW, ml_xW, mr_xW, mi_xW, mI_xW, mC_xW, up_eq, up_na, up_nj, xL0, xL1, xL2, xL3, xL4, xL5, xL6, xL7, xL8, xL9, xL10, xL12, xL16, xL20, xL24, xL31, xL50, xL60, xL89, xL99, xL100, xL200, xI_add, xI_sub, xI_mul, xI_neg, xI_nat, xI_cl, Int.toNat_natCast, Int.reduceToNat, xltT, xltF, xleT, xleF, xeqT, xeqF, nleT, nleF, nltT, nltF, neqT, neqF, ileT, ileF, iltT, iltF, ieqT, ieqF, or_false, or_true, false_or, true_or, and_true, true_and, and_false, false_and, not_false_eq_true, not_true_eq_false, ↓reduceIte, if_true, if_false, Int.natCast_add, Int.cast_ofNat_Int]
      · rintro z ⟨ρ, p1, p2, p3, p4, p5⟩
        refine ⟨ρ, p1, p2, p3, ?_, ?_⟩
        · rw [p4, hfv q (by omega), up_na (by omega)]
        · exact fr_trans (fr_trans (fr_up (by omega)) (fr_w hfv (by omega))) p5
theorem S_moveOn {vs : List aR} (hB : vB q m) (hB2 : vB (q + 6) m) (hl : vs.length ≤ 60) (hv : ∀ v ∈ vs, 1 ≤ v 3 ∧ v 3 ≤ 5) (hR : RVr q σ vs) : wq (f_X2_moveOn (xW m σ) q (q + 6)) (fun z => ∃ τ, z = xW m τ ∧ RVr q τ (a_stay vs) ∧ RAr (q + 6) τ (a_due vs) ∧ τ q 1 = σ q 1 ∧ fr q 12 σ τ) := by
  unfold f_X2_moveOn; simp only [mk_xW, ml_xW, mr_xW, mi_xW, mI_xW, mC_xW]
  refine w_i hB2.1 ?_
  refine w_m (L_moveOn hB hB2 hl hv vs.length 0 (by omega) vF (by unfold vF; omega) _ ⟨?_, ?_, fun j v _ h r hr => ?_, ?_, ?_, ?_⟩) ?_
  · rw [up_na (by omega)]; exact hR.1
  · intro i v h; simp [a_stay] at h
  · rw [up_na (by omega)]; exact hR.2 j v h r hr
  · rw [up_eq]; rfl
  · intro i v h; simp [a_due] at h
  · intro i v h; simp [a_due] at h
  · rintro z ⟨ρ, p1, p2, p3, p4, p5⟩
    exact ⟨ρ, p1, p2, p3, by rw [p4, up_na (by omega)], fr_trans (fr_up (by omega)) p5⟩
end
