section
variable {m m' : vM} {N N' s k y b q c : Nat} {F : Nat → Int} {v : Int32} {X : Nat → Prop} {D : zD} {Z : zS} {S : aS} {E : Nat → List (Int × Int)} {Lw : Nat → Int}
variable {Q : Int32 × Nat × vM → Prop}
theorem L_same302 {i2 i3 : Int32} {kc ks g : Nat} {z : Nat × aR} (h : PS N m s Z) (hI : INm E Lw (uz Z) [] (fun _ => 20)) (hz : Z.2.2.2.2.2[k]? = some z) (hQ : wq (fL_X5_isSame g 289 N m kc ks s 0 i2 i3 (xI ((k + 1 : Nat) : Int)) 0 0 0 0 0) Q) : ∀ r i, i + r = 4 → wq (fL_X5_isSame (r + 1 + g) 302 N m kc ks s 0 i2 i3 (xI (k : Nat)) 0 (xI (i : Nat)) 0 0 0) Q := by
  have hlv : (uz Z).2.2.2.length ≤ 60 := hI.2.2.1
  have hlz : Z.2.2.2.2.2.length ≤ 60 := by
    have : (uz Z).2.2.2.length = Z.2.2.2.2.2.length := by unfold uz; rw [List.length_map]
    omega
  have hkl := dr_lt' hz
  have hzS : (uz Z).2.2.2[k]? = some z.2 := by
    show (Z.2.2.2.2.2.map Prod.snd)[k]? = _
    rw [List.getElem?_map, hz]; rfl
  obtain ⟨⟨⟨a1, a2, a3, a4, a5, a6, a7⟩, ⟨b1, b2, b3, b4, b5⟩⟩, c0, ⟨⟨d0, d8, dl, dr⟩, d2⟩, e⟩ := h.2.1
  obtain ⟨z1, z3, z4, z5⟩ := d2 z (List.mem_of_getElem? hz)
  have hrz : mr m Z.2.2.2.1 (xI (k : Nat)).toNatClampNeg = some z.1 := by rw [← dr k z hz]; simp (disch := omega) only [vin, mk_I, ml_I, mr_I, mk_R, ml_R, mi_R, mkN_eq, mlN_eq, miN_eq, mkN_ne, mlN_ne, miN_ne, mrN_ne, mi_eq, mi_na, mi_nj, mr_eq, mr_na, mr_nj, xL0, xL1, xL2, xL3, xL4, xL5, xL6, xL7, xL8, xL9, xL10, xL12, xL16, xL20, xL24, xL31, xL50, xL60, xL89, xL99, xL100, xL200, xI_add, xI_sub, xI_mul, xI_neg, xI_nat, xI_cl, Int.toNat_natCast, Int.reduceToNat, xltT, xltF, xleT, xleF, xeqT, xeqF, nleT, nleF, nltT, nltF, neqT, neqF, ileT, ileF, iltT, iltF, ieqT, ieqF, or_false, or_true, false_or, true_or, and_true, true_and, and_false, false_and, not_false_eq_true, not_true_eq_false, ↓reduceIte, if_true, if_false]
  intro r
  induction r with
  | zero =>
    intro i hi
    rw [show 0 + 1 + g = g + 1 by omega]
    show wq (fB_X5_isSame_302 (fL_X5_isSame g) N m kc ks s 0 i2 i3 (xI (k : Nat)) 0 (xI (i : Nat)) 0 0 0) Q
    unfold fB_X5_isSame_302
    refine w_i (by simp (disch := omega) only [vin, mk_I, ml_I, mr_I, mk_R, ml_R, mi_R, mkN_eq, mlN_eq, miN_eq, mkN_ne, mlN_ne, miN_ne, mrN_ne, mi_eq, mi_na, mi_nj, mr_eq, mr_na, mr_nj, xL0, xL1, xL2, xL3, xL4, xL5, xL6, xL7, xL8, xL9, xL10, xL12, xL16, xL20, xL24, xL31, xL50, xL60, xL89, xL99, xL100, xL200, xI_add, xI_sub, xI_mul, xI_neg, xI_nat, xI_cl, Int.toNat_natCast, Int.reduceToNat, xltT, xltF, xleT, xleF, xeqT, xeqF, nleT, nleF, nltT, nltF, neqT, neqF, ileT, ileF, iltT, iltF, ieqT, ieqF, or_false, or_true, false_or, true_or, and_true, true_and, and_false, false_and, not_false_eq_true, not_true_eq_false, ↓reduceIte, if_true, if_false]) ?_
    rw [show xI (k : Nat) + 1 = xI ((k + 1 : Nat) : Int) by rw [xL1, xI_add]; rfl]
    exact hQ
  | succ r ih =>
    intro i hi
    rw [show r + 1 + 1 + g = (r + 1 + g) + 1 by omega]
    have hv := S_X3voice (w := (i : Nat)) h.1.1 h.1.2 hlv hzS (by omega)
    rw [xW_self] at hv
    have et : mi m z.1 (xI (i : Nat)).toNatClampNeg = xI (z.2 i) := by rw [← z5 i (by omega)]; simp (disch := omega) only [vin, mk_I, ml_I, mr_I, mk_R, ml_R, mi_R, mkN_eq, mlN_eq, miN_eq, mkN_ne, mlN_ne, miN_ne, mrN_ne, mi_eq, mi_na, mi_nj, mr_eq, mr_na, mr_nj, xL0, xL1, xL2, xL3, xL4, xL5, xL6, xL7, xL8, xL9, xL10, xL12, xL16, xL20, xL24, xL31, xL50, xL60, xL89, xL99, xL100, xL200, xI_add, xI_sub, xI_mul, xI_neg, xI_nat, xI_cl, Int.toNat_natCast, Int.reduceToNat, xltT, xltF, xleT, xleF, xeqT, xeqF, nleT, nleF, nltT, nltF, neqT, neqF, ileT, ileF, iltT, iltF, ieqT, ieqF, or_false, or_true, false_or, true_or, and_true, true_and, and_false, false_and, not_false_eq_true, not_true_eq_false, ↓reduceIte, if_true, if_false]
    show wq (fB_X5_isSame_302 (fL_X5_isSame (r + 1 + g)) N m kc ks s 0 i2 i3 (xI (k : Nat)) 0 (xI (i : Nat)) 0 0 0) Q
    unfold fB_X5_isSame_302
    refine w_n (by simp (disch := omega) only [vin, mk_I, ml_I, mr_I, mk_R, ml_R, mi_R, mkN_eq, mlN_eq, miN_eq, mkN_ne, mlN_ne, miN_ne, mrN_ne, mi_eq, mi_na, mi_nj, mr_eq, mr_na, mr_nj, xL0, xL1, xL2, xL3, xL4, xL5, xL6, xL7, xL8, xL9, xL10, xL12, xL16, xL20, xL24, xL31, xL50, xL60, xL89, xL99, xL100, xL200, xI_add, xI_sub, xI_mul, xI_neg, xI_nat, xI_cl, Int.toNat_natCast, Int.reduceToNat, xltT, xltF, xleT, xleF, xeqT, xeqF, nleT, nleF, nltT, nltF, neqT, neqF, ileT, ileF, iltT, iltF, ieqT, ieqF, or_false, or_true, false_or, true_or, and_true, true_and, and_false, false_and, not_false_eq_true, not_true_eq_false, ↓reduceIte, if_true, if_false]) ?_
    refine w_i h.1.1.1 ?_
    refine w_b hv ?_
    refine w_i a3 ?_
    refine w_b a5 ?_
    refine w_i d8 ?_
    refine w_i (by simp (disch := omega) only [vin, mk_I, ml_I, mr_I, mk_R, ml_R, mi_R, mkN_eq, mlN_eq, miN_eq, mkN_ne, mlN_ne, miN_ne, mrN_ne, mi_eq, mi_na, mi_nj, mr_eq, mr_na, mr_nj, xL0, xL1, xL2, xL3, xL4, xL5, xL6, xL7, xL8, xL9, xL10, xL12, xL16, xL20, xL24, xL31, xL50, xL60, xL89, xL99, xL100, xL200, xI_add, xI_sub, xI_mul, xI_neg, xI_nat, xI_cl, Int.toNat_natCast, Int.reduceToNat, xltT, xltF, xleT, xleF, xeqT, xeqF, nleT, nleF, nltT, nltF, neqT, neqF, ileT, ileF, iltT, iltF, ieqT, ieqF, or_false, or_true, false_or, true_or, and_true, true_and, and_false, false_and, not_false_eq_true, not_true_eq_false, ↓reduceIte, if_true, if_false, dl]) ?_
    refine w_b hrz ?_
    refine w_i z3 ?_
    refine w_i (by simp (disch := omega) only [vin, mk_I, ml_I, mr_I, mk_R, ml_R, mi_R, mkN_eq, mlN_eq, miN_eq, mkN_ne, mlN_ne, miN_ne, mrN_ne, mi_eq, mi_na, mi_nj, mr_eq, mr_na, mr_nj, xL0, xL1, xL2, xL3, xL4, xL5, xL6, xL7, xL8, xL9, xL10, xL12, xL16, xL20, xL24, xL31, xL50, xL60, xL89, xL99, xL100, xL200, xI_add, xI_sub, xI_mul, xI_neg, xI_nat, xI_cl, Int.toNat_natCast, Int.reduceToNat, xltT, xltF, xleT, xleF, xeqT, xeqF, nleT, nleF, nltT, nltF, neqT, neqF, ileT, ileF, iltT, iltF, ieqT, ieqF, or_false, or_true, false_or, true_or, and_true, true_and, and_false, false_and, not_false_eq_true, not_true_eq_false, ↓reduceIte, if_true, if_false, z4]) ?_
    refine w_i et.symm ?_
    rw [show xI (i : Nat) + 1 = xI ((i + 1 : Nat) : Int) by rw [xL1, xI_add]; rfl]
    exact ih (i + 1) (by omega)
theorem L_same424 {A B : Int} {r4 kc ks : Nat} (h : PS N m s Z) (hI : INm E Lw (uz Z) [] (fun _ => 20)) (hc : ∀ k, k < Z.1 → (0 ≤ ((uz Z).2.2.1 k).1 5 ∧ ((uz Z).2.2.1 k).1 5 ≤ 1000) ∧ 0 ≤ ((uz Z).2.2.1 k).1 6 ∧ ((uz Z).2.2.1 k).1 6 ≤ 1000) (hA : A = a_sum (uz Z) 5 0 Z.1) (hB : B = a_sum (uz Z) 5 0 Z.1 + a_sum (uz Z) 6 0 Z.1) (h6 : mk m r4 = 6) (hl : ml m r4 = 9) (ht : ∀ w, w < 9 → mi m r4 w = xI (cF (uz Z) w)) : ∀ r i, i + r = 9 → ∀ f, r < f → wq (fL_X5_isSame f 424 N m kc ks s 0 (xI A) (xI B) 0 r4 (xI (i : Nat)) 0 0 0) (fun z => z.1 = xI 1) := by
  have hn : Z.1 ≤ 10 := hI.1.1
  intro r
  induction r with
  | zero =>
    intro i hi f hf
    obtain ⟨g, rfl⟩ : ∃ g, f = g + 1 := ⟨f - 1, by omega⟩
    have hm := S_mean h.1 hn hc
    have l5 := a_sum_le (S := uz Z) (j := 5) Z.1 0 (fun i _ g => (hc i (by omega)).1)
    have l6 := a_sum_le (S := uz Z) (j := 6) Z.1 0 (fun i _ g => (hc i (by omega)).2)
    have hm : f_X3_mean m 0 = some (a_mean (a_sum (uz Z) 5 0 Z.1) (a_sum (uz Z) 6 0 Z.1)) := hm
    show wq (fB_X5_isSame_424 (fL_X5_isSame g) N m kc ks s 0 (xI A) (xI B) 0 r4 (xI (i : Nat)) 0 0 0) _
    unfold fB_X5_isSame_424
    refine w_i (by simp (disch := omega) only [vin, mk_I, ml_I, mr_I, mk_R, ml_R, mi_R, mkN_eq, mlN_eq, miN_eq, mkN_ne, mlN_ne, miN_ne, mrN_ne, mi_eq, mi_na, mi_nj, mr_eq, mr_na, mr_nj, xL0, xL1, xL2, xL3, xL4, xL5, xL6, xL7, xL8, xL9, xL10, xL12, xL16, xL20, xL24, xL31, xL50, xL60, xL89, xL99, xL100, xL200, xI_add, xI_sub, xI_mul, xI_neg, xI_nat, xI_cl, Int.toNat_natCast, Int.reduceToNat, xltT, xltF, xleT, xleF, xeqT, xeqF, nleT, nleF, nltT, nltF, neqT, neqF, ileT, ileF, iltT, iltF, ieqT, ieqF, or_false, or_true, false_or, true_or, and_true, true_and, and_false, false_and, not_false_eq_true, not_true_eq_false, ↓reduceIte, if_true, if_false]) ?_
    refine w_i h.1.1.1 ?_
    refine w_b hm ?_
    subst hA hB
    generalize a_sum (uz Z) 5 0 Z.1 = a at l5 ⊢
    generalize a_sum (uz Z) 6 0 Z.1 = b at l6 ⊢
    unfold a_mean
    by_cases g0 : a + b ≤ 0
    · rw [if_pos g0]
      refine w_i (by simp (disch := omega) only [vin, mk_I, ml_I, mr_I, mk_R, ml_R, mi_R, mkN_eq, mlN_eq, miN_eq, mkN_ne, mlN_ne, miN_ne, mrN_ne, mi_eq, mi_na, mi_nj, mr_eq, mr_na, mr_nj, xL0, xL1, xL2, xL3, xL4, xL5, xL6, xL7, xL8, xL9, xL10, xL12, xL16, xL20, xL24, xL31, xL50, xL60, xL89, xL99, xL100, xL200, xI_add, xI_sub, xI_mul, xI_neg, xI_nat, xI_cl, Int.toNat_natCast, Int.reduceToNat, xltT, xltF, xleT, xleF, xeqT, xeqF, nleT, nleF, nltT, nltF, neqT, neqF, ileT, ileF, iltT, iltF, ieqT, ieqF, or_false, or_true, false_or, true_or, and_true, true_and, and_false, false_and, not_false_eq_true, not_true_eq_false, ↓reduceIte, if_true, if_false]) ?_
      refine w_i fp_c0 ?_
      exact w_s rfl
    · rw [if_neg g0]
      refine w_n (by simp (disch := omega) only [vin, mk_I, ml_I, mr_I, mk_R, ml_R, mi_R, mkN_eq, mlN_eq, miN_eq, mkN_ne, mlN_ne, miN_ne, mrN_ne, mi_eq, mi_na, mi_nj, mr_eq, mr_na, mr_nj, xL0, xL1, xL2, xL3, xL4, xL5, xL6, xL7, xL8, xL9, xL10, xL12, xL16, xL20, xL24, xL31, xL50, xL60, xL89, xL99, xL100, xL200, xI_add, xI_sub, xI_mul, xI_neg, xI_nat, xI_cl, Int.toNat_natCast, Int.reduceToNat, xltT, xltF, xleT, xleF, xeqT, xeqF, nleT, nleF, nltT, nltF, neqT, neqF, ileT, ileF, iltT, iltF, ieqT, ieqF, or_false, or_true, false_or, true_or, and_true, true_and, and_false, false_and, not_false_eq_true, not_true_eq_false, ↓reduceIte, if_true, if_false]) ?_
      have hd := fp_div (a := a) (b := a + b) (by omega) (by omega)
      refine w_i (@decide_eq_true _ (Classical.propDecidable _) (fp_n64 hd)) ?_
      refine w_i (fp_cmp hd) ?_
      exact w_s rfl
  | succ r ih =>
    intro i hi f hf
    obtain ⟨g, rfl⟩ : ∃ g, f = g + 1 := ⟨f - 1, by omega⟩
    have hv := S_X3count (w := (i : Nat)) h.1.1 h.1.2 hn (IN_st hI) (by omega)
    rw [xW_self] at hv
    have et : mi m r4 (xI (i : Nat)).toNatClampNeg = xI (cF (uz Z) i) := by rw [← ht i (by omega)]; simp (disch := omega) only [vin, mk_I, ml_I, mr_I, mk_R, ml_R, mi_R, mkN_eq, mlN_eq, miN_eq, mkN_ne, mlN_ne, miN_ne, mrN_ne, mi_eq, mi_na, mi_nj, mr_eq, mr_na, mr_nj, xL0, xL1, xL2, xL3, xL4, xL5, xL6, xL7, xL8, xL9, xL10, xL12, xL16, xL20, xL24, xL31, xL50, xL60, xL89, xL99, xL100, xL200, xI_add, xI_sub, xI_mul, xI_neg, xI_nat, xI_cl, Int.toNat_natCast, Int.reduceToNat, xltT, xltF, xleT, xleF, xeqT, xeqF, nleT, nleF, nltT, nltF, neqT, neqF, ileT, ileF, iltT, iltF, ieqT, ieqF, or_false, or_true, false_or, true_or, and_true, true_and, and_false, false_and, not_false_eq_true, not_true_eq_false, ↓reduceIte, if_true, if_false]
    show wq (fB_X5_isSame_424 (fL_X5_isSame g) N m kc ks s 0 (xI A) (xI B) 0 r4 (xI (i : Nat)) 0 0 0) _
    unfold fB_X5_isSame_424
    refine w_n (by simp (disch := omega) only [vin, mk_I, ml_I, mr_I, mk_R, ml_R, mi_R, mkN_eq, mlN_eq, miN_eq, mkN_ne, mlN_ne, miN_ne, mrN_ne, mi_eq, mi_na, mi_nj, mr_eq, mr_na, mr_nj, xL0, xL1, xL2, xL3, xL4, xL5, xL6, xL7, xL8, xL9, xL10, xL12, xL16, xL20, xL24, xL31, xL50, xL60, xL89, xL99, xL100, xL200, xI_add, xI_sub, xI_mul, xI_neg, xI_nat, xI_cl, Int.toNat_natCast, Int.reduceToNat, xltT, xltF, xleT, xleF, xeqT, xeqF, nleT, nleF, nltT, nltF, neqT, neqF, ileT, ileF, iltT, iltF, ieqT, ieqF, or_false, or_true, false_or, true_or, and_true, true_and, and_false, false_and, not_false_eq_true, not_true_eq_false, ↓reduceIte, if_true, if_false]) ?_
    refine w_i h.1.1.1 ?_
    refine w_b hv ?_
    refine w_i h6 ?_
    refine w_i (by simp (disch := omega) only [vin, mk_I, ml_I, mr_I, mk_R, ml_R, mi_R, mkN_eq, mlN_eq, miN_eq, mkN_ne, mlN_ne, miN_ne, mrN_ne, mi_eq, mi_na, mi_nj, mr_eq, mr_na, mr_nj, xL0, xL1, xL2, xL3, xL4, xL5, xL6, xL7, xL8, xL9, xL10, xL12, xL16, xL20, xL24, xL31, xL50, xL60, xL89, xL99, xL100, xL200, xI_add, xI_sub, xI_mul, xI_neg, xI_nat, xI_cl, Int.toNat_natCast, Int.reduceToNat, xltT, xltF, xleT, xleF, xeqT, xeqF, nleT, nleF, nltT, nltF, neqT, neqF, ileT, ileF, iltT, iltF, ieqT, ieqF, or_false, or_true, false_or, true_or, and_true, true_and, and_false, false_and, not_false_eq_true, not_true_eq_false, ↓reduceIte, if_true, if_false, hl]) ?_
    refine w_i et.symm ?_
    rw [show xI (i : Nat) + 1 = xI ((i + 1 : Nat) : Int) by rw [xL1, xI_add]; rfl]
    exact ih (i + 1) (by omega) g (by omega)
set_option maxHeartbeats 1000000 in
theorem L_same289 {A B : Int} {kc ks : Nat} (h : PS N m s Z) (hI : INm E Lw (uz Z) [] (fun _ => 20)) (hc : ∀ k, k < Z.1 → (0 ≤ ((uz Z).2.2.1 k).1 5 ∧ ((uz Z).2.2.1 k).1 5 ≤ 1000) ∧ 0 ≤ ((uz Z).2.2.1 k).1 6 ∧ ((uz Z).2.2.1 k).1 6 ≤ 1000) (hA : A = a_sum (uz Z) 5 0 Z.1) (hB : B = a_sum (uz Z) 5 0 Z.1 + a_sum (uz Z) 6 0 Z.1) (hkc : kc ≤ 10) (hks : ks ≤ 90) : ∀ r i, i + r = Z.2.2.2.2.2.length → ∀ f, 6 * r + 20 < f → wq (fL_X5_isSame f 289 N m kc ks s 0 (xI A) (xI B) (xI (i : Nat)) 0 0 0 0 0) (fun z => z.1 = xI 1) := by
  have hn : Z.1 ≤ 10 := hI.1.1
  have hlz : Z.2.2.2.2.2.length ≤ 60 := by
    have : (uz Z).2.2.2.length = Z.2.2.2.2.2.length := by unfold uz; rw [List.length_map]
    have hlv : (uz Z).2.2.2.length ≤ 60 := hI.2.2.1
    omega
  have hs : ∀ k, k < Z.1 → 0 ≤ (Z.2.2.2.2.1 k).2.2.2.1 3 ∧ (Z.2.2.2.2.1 k).2.2.2.1 3 ≤ 3 := fun k hk => IN_st hI k hk
  obtain ⟨⟨⟨a1, a2, a3, a4, a5, a6, a7⟩, ⟨b1, b2, b3, b4, b5⟩⟩, c0, ⟨⟨d0, d8, dl, dr⟩, d2⟩, e⟩ := h.2.1
  intro r
  induction r with
  | zero =>
    intro i hi f hf
    obtain ⟨g, rfl⟩ : ∃ g, f = g + 1 := ⟨f - 1, by omega⟩
    have hfin := fun (m10 : vM) (t : TR N m m10 (fun w => cF (uz Z) (w : Nat)) 9) => L_same424 (s := s) (kc := kc + 1) (ks := ks + 9) (TR_P h hn t) hI hc hA hB t.2.1.1 t.2.1.2 t.2.2 9 0 (by omega) g (by omega)
    generalize hF : (fun w : Nat => cF (uz Z) (w : Nat)) = F at hfin
    show wq (fB_X5_isSame_289 (fL_X5_isSame g) N m kc ks s 0 (xI A) (xI B) (xI (i : Nat)) 0 0 0 0 0) _
    unfold fB_X5_isSame_289
    refine w_i a3 ?_
    refine w_b a5 ?_
    refine w_i d8 ?_
    refine w_i (by simp (disch := omega) only [vin, mk_I, ml_I, mr_I, mk_R, ml_R, mi_R, mkN_eq, mlN_eq, miN_eq, mkN_ne, mlN_ne, miN_ne, mrN_ne, mi_eq, mi_na, mi_nj, mr_eq, mr_na, mr_nj, xL0, xL1, xL2, xL3, xL4, xL5, xL6, xL7, xL8, xL9, xL10, xL12, xL16, xL20, xL24, xL31, xL50, xL60, xL89, xL99, xL100, xL200, xI_add, xI_sub, xI_mul, xI_neg, xI_nat, xI_cl, Int.toNat_natCast, Int.reduceToNat, xltT, xltF, xleT, xleF, xeqT, xeqF, nleT, nleF, nltT, nltF, neqT, neqF, ileT, ileF, iltT, iltF, ieqT, ieqF, or_false, or_true, false_or, true_or, and_true, true_and, and_false, false_and, not_false_eq_true, not_true_eq_false, ↓reduceIte, if_true, if_false, dl]) ?_
    refine w_i (by omega) ?_
    refine w_i (by omega) ?_
    generalize hm1 : mN m N 6 9 = m1
    have t1 : TR N m m1 F 0 := by rw [← hm1]; exact TR0
    clear hm1
    refine w_i (by simp (disch := omega) only [vin, mk_I, ml_I, mr_I, mk_R, ml_R, mi_R, mkN_eq, mlN_eq, miN_eq, mkN_ne, mlN_ne, miN_ne, mrN_ne, mi_eq, mi_na, mi_nj, mr_eq, mr_na, mr_nj, xL0, xL1, xL2, xL3, xL4, xL5, xL6, xL7, xL8, xL9, xL10, xL12, xL16, xL20, xL24, xL31, xL50, xL60, xL89, xL99, xL100, xL200, xI_add, xI_sub, xI_mul, xI_neg, xI_nat, xI_cl, Int.toNat_natCast, Int.reduceToNat, xltT, xltF, xleT, xleF, xeqT, xeqF, nleT, nleF, nltT, nltF, neqT, neqF, ileT, ileF, iltT, iltF, ieqT, ieqF, or_false, or_true, false_or, true_or, and_true, true_and, and_false, false_and, not_false_eq_true, not_true_eq_false, ↓reduceIte, if_true, if_false, t1.2.1.2]) ?_
    generalize hm2 : mI m1 N 0 (mi m1 s 2) = m2; have t2 : TR N m m2 F (0 + 1) := (by rw [← hm2]; exact TRs t1 ((TR_P h hn t1).2.1.1.1.2.2.2.2.2.1.trans (by rw [← hF]; rfl))); clear hm2
    refine w_b (TR_P h hn t2).2.1.1.1.2.2.2.1 ?_
    refine w_i (TR_P h hn t2).2.1.1.2.2.2.1 ?_
    refine w_i (by simp (disch := omega) only [vin, mk_I, ml_I, mr_I, mk_R, ml_R, mi_R, mkN_eq, mlN_eq, miN_eq, mkN_ne, mlN_ne, miN_ne, mrN_ne, mi_eq, mi_na, mi_nj, mr_eq, mr_na, mr_nj, xL0, xL1, xL2, xL3, xL4, xL5, xL6, xL7, xL8, xL9, xL10, xL12, xL16, xL20, xL24, xL31, xL50, xL60, xL89, xL99, xL100, xL200, xI_add, xI_sub, xI_mul, xI_neg, xI_nat, xI_cl, Int.toNat_natCast, Int.reduceToNat, xltT, xltF, xleT, xleF, xeqT, xeqF, nleT, nleF, nltT, nltF, neqT, neqF, ileT, ileF, iltT, iltF, ieqT, ieqF, or_false, or_true, false_or, true_or, and_true, true_and, and_false, false_and, not_false_eq_true, not_true_eq_false, ↓reduceIte, if_true, if_false, t2.2.1.2]) ?_
    generalize hm3 : mI m2 N 1 (Int32.ofNat (ml m2 Z.2.2.1)) = m3; have t3 : TR N m m3 F (1 + 1) := (by rw [← hm3]; exact TRs t2 (by rw [(TR_P h hn t2).2.1.1.2.2.2.2.1, xI_nat, ← hF]; rfl)); clear hm3
    refine w_b (S_zwith (w := 0) (TR_P h hn t3).2.1 hn hs (by omega)) ?_
    refine w_i (by simp (disch := omega) only [vin, mk_I, ml_I, mr_I, mk_R, ml_R, mi_R, mkN_eq, mlN_eq, miN_eq, mkN_ne, mlN_ne, miN_ne, mrN_ne, mi_eq, mi_na, mi_nj, mr_eq, mr_na, mr_nj, xL0, xL1, xL2, xL3, xL4, xL5, xL6, xL7, xL8, xL9, xL10, xL12, xL16, xL20, xL24, xL31, xL50, xL60, xL89, xL99, xL100, xL200, xI_add, xI_sub, xI_mul, xI_neg, xI_nat, xI_cl, Int.toNat_natCast, Int.reduceToNat, xltT, xltF, xleT, xleF, xeqT, xeqF, nleT, nleF, nltT, nltF, neqT, neqF, ileT, ileF, iltT, iltF, ieqT, ieqF, or_false, or_true, false_or, true_or, and_true, true_and, and_false, false_and, not_false_eq_true, not_true_eq_false, ↓reduceIte, if_true, if_false, t3.2.1.2]) ?_
    generalize hm4 : mI m3 N 2 (xI (a_cnt (uz Z) 0 0 Z.1)) = m4; have t4 : TR N m m4 F (2 + 1) := (by rw [← hm4]; exact TRs t3 (by rw [← hF]; rfl)); clear hm4
    refine w_b (S_zwith (w := 1) (TR_P h hn t4).2.1 hn hs (by omega)) ?_
    refine w_i (by simp (disch := omega) only [vin, mk_I, ml_I, mr_I, mk_R, ml_R, mi_R, mkN_eq, mlN_eq, miN_eq, mkN_ne, mlN_ne, miN_ne, mrN_ne, mi_eq, mi_na, mi_nj, mr_eq, mr_na, mr_nj, xL0, xL1, xL2, xL3, xL4, xL5, xL6, xL7, xL8, xL9, xL10, xL12, xL16, xL20, xL24, xL31, xL50, xL60, xL89, xL99, xL100, xL200, xI_add, xI_sub, xI_mul, xI_neg, xI_nat, xI_cl, Int.toNat_natCast, Int.reduceToNat, xltT, xltF, xleT, xleF, xeqT, xeqF, nleT, nleF, nltT, nltF, neqT, neqF, ileT, ileF, iltT, iltF, ieqT, ieqF, or_false, or_true, false_or, true_or, and_true, true_and, and_false, false_and, not_false_eq_true, not_true_eq_false, ↓reduceIte, if_true, if_false, t4.2.1.2]) ?_
    generalize hm5 : mI m4 N 3 (xI (a_cnt (uz Z) 1 0 Z.1)) = m5; have t5 : TR N m m5 F (3 + 1) := (by rw [← hm5]; exact TRs t4 (by rw [← hF]; rfl)); clear hm5
    refine w_b (S_zwith (w := 2) (TR_P h hn t5).2.1 hn hs (by omega)) ?_
    refine w_i (by simp (disch := omega) only [vin, mk_I, ml_I, mr_I, mk_R, ml_R, mi_R, mkN_eq, mlN_eq, miN_eq, mkN_ne, mlN_ne, miN_ne, mrN_ne, mi_eq, mi_na, mi_nj, mr_eq, mr_na, mr_nj, xL0, xL1, xL2, xL3, xL4, xL5, xL6, xL7, xL8, xL9, xL10, xL12, xL16, xL20, xL24, xL31, xL50, xL60, xL89, xL99, xL100, xL200, xI_add, xI_sub, xI_mul, xI_neg, xI_nat, xI_cl, Int.toNat_natCast, Int.reduceToNat, xltT, xltF, xleT, xleF, xeqT, xeqF, nleT, nleF, nltT, nltF, neqT, neqF, ileT, ileF, iltT, iltF, ieqT, ieqF, or_false, or_true, false_or, true_or, and_true, true_and, and_false, false_and, not_false_eq_true, not_true_eq_false, ↓reduceIte, if_true, if_false, t5.2.1.2]) ?_
    generalize hm6 : mI m5 N 4 (xI (a_cnt (uz Z) 2 0 Z.1)) = m6; have t6 : TR N m m6 F (4 + 1) := (by rw [← hm6]; exact TRs t5 (by rw [← hF]; rfl)); clear hm6
    refine w_b (S_zwith (w := 3) (TR_P h hn t6).2.1 hn hs (by omega)) ?_
    refine w_i (by simp (disch := omega) only [vin, mk_I, ml_I, mr_I, mk_R, ml_R, mi_R, mkN_eq, mlN_eq, miN_eq, mkN_ne, mlN_ne, miN_ne, mrN_ne, mi_eq, mi_na, mi_nj, mr_eq, mr_na, mr_nj, xL0, xL1, xL2, xL3, xL4, xL5, xL6, xL7, xL8, xL9, xL10, xL12, xL16, xL20, xL24, xL31, xL50, xL60, xL89, xL99, xL100, xL200, xI_add, xI_sub, xI_mul, xI_neg, xI_nat, xI_cl, Int.toNat_natCast, Int.reduceToNat, xltT, xltF, xleT, xleF, xeqT, xeqF, nleT, nleF, nltT, nltF, neqT, neqF, ileT, ileF, iltT, iltF, ieqT, ieqF, or_false, or_true, false_or, true_or, and_true, true_and, and_false, false_and, not_false_eq_true, not_true_eq_false, ↓reduceIte, if_true, if_false, t6.2.1.2]) ?_
    generalize hm7 : mI m6 N 5 (xI (a_cnt (uz Z) 3 0 Z.1)) = m7; have t7 : TR N m m7 F (5 + 1) := (by rw [← hm7]; exact TRs t6 (by rw [← hF]; rfl)); clear hm7
    refine w_b (TR_P h hn t7).2.1.1.1.2.2.2.2.1 ?_
    refine w_i (TR_P h hn t7).2.1.2.2.1.1.2.1 ?_
    refine w_i (by simp (disch := omega) only [vin, mk_I, ml_I, mr_I, mk_R, ml_R, mi_R, mkN_eq, mlN_eq, miN_eq, mkN_ne, mlN_ne, miN_ne, mrN_ne, mi_eq, mi_na, mi_nj, mr_eq, mr_na, mr_nj, xL0, xL1, xL2, xL3, xL4, xL5, xL6, xL7, xL8, xL9, xL10, xL12, xL16, xL20, xL24, xL31, xL50, xL60, xL89, xL99, xL100, xL200, xI_add, xI_sub, xI_mul, xI_neg, xI_nat, xI_cl, Int.toNat_natCast, Int.reduceToNat, xltT, xltF, xleT, xleF, xeqT, xeqF, nleT, nleF, nltT, nltF, neqT, neqF, ileT, ileF, iltT, iltF, ieqT, ieqF, or_false, or_true, false_or, true_or, and_true, true_and, and_false, false_and, not_false_eq_true, not_true_eq_false, ↓reduceIte, if_true, if_false, t7.2.1.2]) ?_
    generalize hm8 : mI m7 N 6 (Int32.ofNat (ml m7 Z.2.2.2.1)) = m8; have t8 : TR N m m8 F (6 + 1) := (by rw [← hm8]; exact TRs t7 (by rw [(TR_P h hn t7).2.1.2.2.1.1.2.2.1, xI_nat, ← hF]; unfold cF uz; simp)); clear hm8
    refine w_i (by simp (disch := omega) only [vin, mk_I, ml_I, mr_I, mk_R, ml_R, mi_R, mkN_eq, mlN_eq, miN_eq, mkN_ne, mlN_ne, miN_ne, mrN_ne, mi_eq, mi_na, mi_nj, mr_eq, mr_na, mr_nj, xL0, xL1, xL2, xL3, xL4, xL5, xL6, xL7, xL8, xL9, xL10, xL12, xL16, xL20, xL24, xL31, xL50, xL60, xL89, xL99, xL100, xL200, xI_add, xI_sub, xI_mul, xI_neg, xI_nat, xI_cl, Int.toNat_natCast, Int.reduceToNat, xltT, xltF, xleT, xleF, xeqT, xeqF, nleT, nleF, nltT, nltF, neqT, neqF, ileT, ileF, iltT, iltF, ieqT, ieqF, or_false, or_true, false_or, true_or, and_true, true_and, and_false, false_and, not_false_eq_true, not_true_eq_false, ↓reduceIte, if_true, if_false, t8.2.1.2]) ?_
    generalize hm9 : mI m8 N 7 (mi m8 s 3) = m9; have t9 : TR N m m9 F (7 + 1) := (by rw [← hm9]; exact TRs t8 ((TR_P h hn t8).2.1.1.1.2.2.2.2.2.2.trans (by rw [← hF]; rfl))); clear hm9
    refine w_b (S_zopen (TR_P h hn t9).2.1 hn hs) ?_
    refine w_i (by simp (disch := omega) only [vin, mk_I, ml_I, mr_I, mk_R, ml_R, mi_R, mkN_eq, mlN_eq, miN_eq, mkN_ne, mlN_ne, miN_ne, mrN_ne, mi_eq, mi_na, mi_nj, mr_eq, mr_na, mr_nj, xL0, xL1, xL2, xL3, xL4, xL5, xL6, xL7, xL8, xL9, xL10, xL12, xL16, xL20, xL24, xL31, xL50, xL60, xL89, xL99, xL100, xL200, xI_add, xI_sub, xI_mul, xI_neg, xI_nat, xI_cl, Int.toNat_natCast, Int.reduceToNat, xltT, xltF, xleT, xleF, xeqT, xeqF, nleT, nleF, nltT, nltF, neqT, neqF, ileT, ileF, iltT, iltF, ieqT, ieqF, or_false, or_true, false_or, true_or, and_true, true_and, and_false, false_and, not_false_eq_true, not_true_eq_false, ↓reduceIte, if_true, if_false, t9.2.1.2]) ?_
    generalize hm10 : mI m9 N 8 (xI (a_opn (uz Z) 0 Z.1)) = m10; have t10 : TR N m m10 F (8 + 1) := (by rw [← hm10]; exact TRs t9 (by rw [← hF]; rfl)); clear hm10
    exact hfin m10 t10
  | succ r ih =>
    intro i hi f hf
    obtain ⟨z, h1, h2⟩ := dr_at (l := Z.2.2.2.2.2) (i := i) (by omega)
    obtain ⟨g, rfl⟩ : ∃ g, f = (4 + 1 + g) + 1 := ⟨f - 6, by omega⟩
    have h9 := L_same302 (s := s) h hI h1 (ih (i + 1) (by omega) g (by omega)) 4 0 (by omega)
    show wq (fB_X5_isSame_289 (fL_X5_isSame (4 + 1 + g)) N m kc ks s 0 (xI A) (xI B) (xI (i : Nat)) 0 0 0 0 0) _
    unfold fB_X5_isSame_289
    refine w_i a3 ?_
    refine w_b a5 ?_
    refine w_i d8 ?_
    refine w_n (by simp (disch := omega) only [vin, mk_I, ml_I, mr_I, mk_R, ml_R, mi_R, mkN_eq, mlN_eq, miN_eq, mkN_ne, mlN_ne, miN_ne, mrN_ne, mi_eq, mi_na, mi_nj, mr_eq, mr_na, mr_nj, xL0, xL1, xL2, xL3, xL4, xL5, xL6, xL7, xL8, xL9, xL10, xL12, xL16, xL20, xL24, xL31, xL50, xL60, xL89, xL99, xL100, xL200, xI_add, xI_sub, xI_mul, xI_neg, xI_nat, xI_cl, Int.toNat_natCast, Int.reduceToNat, xltT, xltF, xleT, xleF, xeqT, xeqF, nleT, nleF, nltT, nltF, neqT, neqF, ileT, ileF, iltT, iltF, ieqT, ieqF, or_false, or_true, false_or, true_or, and_true, true_and, and_false, false_and, not_false_eq_true, not_true_eq_false, ↓reduceIte, if_true, if_false, dl]) ?_
    exact h9
theorem S_same (h : PS N m s Z) (hI : INm E Lw (uz Z) [] (fun _ => 20)) (hc : ∀ k, k < Z.1 → (0 ≤ ((uz Z).2.2.1 k).1 5 ∧ ((uz Z).2.2.1 k).1 5 ≤ 1000) ∧ 0 ≤ ((uz Z).2.2.1 k).1 6 ∧ ((uz Z).2.2.1 k).1 6 ≤ 1000) : wq (f_X5_isSame N m s 0) (fun z => z.1 = xI 1) := by
  have hn : Z.1 ≤ 10 := hI.1.1
  have hlz : Z.2.2.2.2.2.length ≤ 60 := by
    have : (uz Z).2.2.2.length = Z.2.2.2.2.2.length := by unfold uz; rw [List.length_map]
    have hlv : (uz Z).2.2.2.length ≤ 60 := hI.2.2.1
    omega
  exact L_same7 (G := 1000) (A := a_sum (uz Z) 5 0 Z.1) (B := a_sum (uz Z) 5 0 Z.1 + a_sum (uz Z) 6 0 Z.1) hI (fun g hg N' m' h' => L_same289 h' hI hc rfl rfl hn (by omega) _ 0 (Nat.zero_add _) g (by omega)) Z.1 0 (Nat.zero_add _) N m h 0 0 (by omega) (by omega) vF (by unfold vF; omega)
end
