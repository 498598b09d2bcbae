theorem add_bit : ∀ k, k < 10 → (xI 1 <<< (xI ((k : Nat) : Int) &&& xI 31)) = xI ((2 : Int) ^ k) := by decide +kernel
section
variable {m m' : vM} {N N' s k y : Nat} {X : Nat → Prop} {D : zD} {Z : zS} {v : aR}
/-- how many answers: of one kind, or of any -/
def nW (w : Int) (l : List (Nat × aR)) : Nat := l.countP (fun z => decide (if 0 ≤ w then z.2 2 = w else 0 ≤ z.2 2))
theorem L_zans {w : Int} (hd : dR N m D) (hl : D.2.2.2.2.1.length ≤ 4) (ha : ∀ z ∈ D.2.2.2.2.1, -1 ≤ z.2 2 ∧ z.2 2 ≤ 1) (hst : 0 ≤ D.2.2.2.1 3 ∧ D.2.2.2.1 3 ≤ 3) (hw : -1 ≤ w ∧ w ≤ 1) : ∀ r i, i + r = D.2.2.2.2.1.length → ∀ f, r < f → ∀ c : Int, fL_X4_answers f 14 m D.1 (xI w) (xI c) D.2.1 (xI (D.2.2.2.2.1.length : Nat)) (xI (i : Nat)) = some (xI (c + if D.2.2.2.1 3 = 1 then nW w (D.2.2.2.2.1.drop i) else 0)) := by
  obtain ⟨⟨q1, q2, q3, q4, q5⟩, ⟨b1, b2, b3⟩, ⟨⟨cN, c8, cl, cr⟩, c2⟩, d⟩ := hd
  have p3 := b1 3 (by omega)
  intro r
  induction r with
  | zero =>
    intro i hi f hf c
    obtain ⟨g, rfl⟩ : ∃ g, f = g + 1 := ⟨f - 1, by omega⟩
    rw [List.drop_of_length_le (by omega)]
    show fB_X4_answers_14 (fL_X4_answers g) m D.1 _ _ _ _ _ = _
    unfold fB_X4_answers_14
    rw [if_pos (by simp (disch := omega) only [vin, mk_I, ml_I, mr_I, mk_R, ml_R, mi_R, mkN_eq, mlN_eq, miN_eq, mkN_ne, mlN_ne, miN_ne, mrN_ne, mi_eq, mi_na, mi_nj, mr_eq, mr_na, mr_nj, xL0, xL1, xL2, xL3, xL4, xL5, xL6, xL7, xL8, xL9, xL10, xL12, xL16, xL20, xL24, xL31, xL50, xL60, xL89, xL99, xL100, xL200, xI_add, xI_sub, xI_mul, xI_neg, xI_nat, xI_cl, Int.toNat_natCast, Int.reduceToNat, xltT, xltF, xleT, xleF, xeqT, xeqF, nleT, nleF, nltT, nltF, neqT, neqF, ileT, ileF, iltT, iltF, ieqT, ieqF, or_false, or_true, false_or, true_or, and_true, true_and, and_false, false_and, not_false_eq_true, not_true_eq_false, ↓reduceIte, if_true, if_false])]
    simp [nW]
  | succ r ih =>
    intro i hi f hf c
    obtain ⟨g, rfl⟩ : ∃ g, f = g + 1 := ⟨f - 1, by omega⟩
    obtain ⟨z, h1, h2⟩ := dr_at (l := D.2.2.2.2.1) (i := i) (by omega)
    have hz := c2 z (List.mem_of_getElem? h1)
    obtain ⟨z1, z3, z4, z5⟩ := hz
    have i2 := z5 2 (by omega)
    have hz2 := ha z (List.mem_of_getElem? h1)
    have hr : mr m D.2.1 (xI (i : Nat)).toNatClampNeg = some z.1 := by rw [← cr i z h1]; simp (disch := omega) only [vin, mk_I, ml_I, mr_I, mk_R, ml_R, mi_R, mkN_eq, mlN_eq, miN_eq, mkN_ne, mlN_ne, miN_ne, mrN_ne, mi_eq, mi_na, mi_nj, mr_eq, mr_na, mr_nj, xL0, xL1, xL2, xL3, xL4, xL5, xL6, xL7, xL8, xL9, xL10, xL12, xL16, xL20, xL24, xL31, xL50, xL60, xL89, xL99, xL100, xL200, xI_add, xI_sub, xI_mul, xI_neg, xI_nat, xI_cl, Int.toNat_natCast, Int.reduceToNat, xltT, xltF, xleT, xleF, xeqT, xeqF, nleT, nleF, nltT, nltF, neqT, neqF, ileT, ileF, iltT, iltF, ieqT, ieqF, or_false, or_true, false_or, true_or, and_true, true_and, and_false, false_and, not_false_eq_true, not_true_eq_false, ↓reduceIte, if_true, if_false]
    have h9 := ih (i + 1) (by omega) g (by omega)
    show fB_X4_answers_14 (fL_X4_answers g) m D.1 _ _ _ _ _ = _
    apply wq_eq
    unfold fB_X4_answers_14
    refine w_n (by simp (disch := omega) only [vin, mk_I, ml_I, mr_I, mk_R, ml_R, mi_R, mkN_eq, mlN_eq, miN_eq, mkN_ne, mlN_ne, miN_ne, mrN_ne, mi_eq, mi_na, mi_nj, mr_eq, mr_na, mr_nj, xL0, xL1, xL2, xL3, xL4, xL5, xL6, xL7, xL8, xL9, xL10, xL12, xL16, xL20, xL24, xL31, xL50, xL60, xL89, xL99, xL100, xL200, xI_add, xI_sub, xI_mul, xI_neg, xI_nat, xI_cl, Int.toNat_natCast, Int.reduceToNat, xltT, xltF, xleT, xleF, xeqT, xeqF, nleT, nleF, nltT, nltF, neqT, neqF, ileT, ileF, iltT, iltF, ieqT, ieqF, or_false, or_true, false_or, true_or, and_true, true_and, and_false, false_and, not_false_eq_true, not_true_eq_false, ↓reduceIte, if_true, if_false]) ?_
    refine w_i c8 ?_
    refine w_i (by simp (disch := omega) only [vin, mk_I, ml_I, mr_I, mk_R, ml_R, mi_R, mkN_eq, mlN_eq, miN_eq, mkN_ne, mlN_ne, miN_ne, mrN_ne, mi_eq, mi_na, mi_nj, mr_eq, mr_na, mr_nj, xL0, xL1, xL2, xL3, xL4, xL5, xL6, xL7, xL8, xL9, xL10, xL12, xL16, xL20, xL24, xL31, xL50, xL60, xL89, xL99, xL100, xL200, xI_add, xI_sub, xI_mul, xI_neg, xI_nat, xI_cl, Int.toNat_natCast, Int.reduceToNat, xltT, xltF, xleT, xleF, xeqT, xeqF, nleT, nleF, nltT, nltF, neqT, neqF, ileT, ileF, iltT, iltF, ieqT, ieqF, or_false, or_true, false_or, true_or, and_true, true_and, and_false, false_and, not_false_eq_true, not_true_eq_false, ↓reduceIte, if_true, if_false, cl]) ?_
    refine w_b hr ?_
    refine w_i q3 ?_
    rw [h2]
    have hc0 : nW w (z :: D.2.2.2.2.1.drop (i + 1)) = nW w (D.2.2.2.2.1.drop (i + 1)) + if (if 0 ≤ w then z.2 2 = w else 0 ≤ z.2 2) then 1 else 0 := by
      unfold nW
      rw [List.countP_cons]
      congr 1
      simp
    have hk : ∀ c2 : Int, (c2 = c + if D.2.2.2.1 3 = 1 ∧ (if 0 ≤ w then z.2 2 = w else 0 ≤ z.2 2) then 1 else 0) → wq (fL_X4_answers g 14 m D.1 (xI w) (xI c2) D.2.1 (xI (D.2.2.2.2.1.length : Nat)) (xI (i : Nat) + 1)) (fun y => y = xI (c + ((if D.2.2.2.1 3 = 1 then nW w (z :: D.2.2.2.2.1.drop (i + 1)) else 0 : Nat) : Int))) := by
      intro c2 hc2
      refine ⟨_, (by rw [xL1, xI_add]; exact h9 c2), ?_⟩
      congr 1
      rw [hc2, hc0]
      by_cases e1 : D.2.2.2.1 3 = 1
      · by_cases e2 : (if 0 ≤ w then z.2 2 = w else 0 ≤ z.2 2)
        · rw [if_pos ⟨e1, e2⟩, if_pos e1, if_pos e1, if_pos e2]; omega
        · rw [if_neg (fun g => e2 g.2), if_pos e1, if_pos e1, if_neg e2]; omega
      · rw [if_neg (fun g => e1 g.1), if_neg e1, if_neg e1]; omega
    by_cases e1 : D.2.2.2.1 3 = 1
    · refine w_i (by simp (disch := omega) only [vin, mk_I, ml_I, mr_I, mk_R, ml_R, mi_R, mkN_eq, mlN_eq, miN_eq, mkN_ne, mlN_ne, miN_ne, mrN_ne, mi_eq, mi_na, mi_nj, mr_eq, mr_na, mr_nj, xL0, xL1, xL2, xL3, xL4, xL5, xL6, xL7, xL8, xL9, xL10, xL12, xL16, xL20, xL24, xL31, xL50, xL60, xL89, xL99, xL100, xL200, xI_add, xI_sub, xI_mul, xI_neg, xI_nat, xI_cl, Int.toNat_natCast, Int.reduceToNat, xltT, xltF, xleT, xleF, xeqT, xeqF, nleT, nleF, nltT, nltF, neqT, neqF, ileT, ileF, iltT, iltF, ieqT, ieqF, or_false, or_true, false_or, true_or, and_true, true_and, and_false, false_and, not_false_eq_true, not_true_eq_false, ↓reduceIte, if_true, if_false, p3]) ?_
      by_cases e0 : 0 ≤ w
      · refine w_i (by simp (disch := omega) only [vin, mk_I, ml_I, mr_I, mk_R, ml_R, mi_R, mkN_eq, mlN_eq, miN_eq, mkN_ne, mlN_ne, miN_ne, mrN_ne, mi_eq, mi_na, mi_nj, mr_eq, mr_na, mr_nj, xL0, xL1, xL2, xL3, xL4, xL5, xL6, xL7, xL8, xL9, xL10, xL12, xL16, xL20, xL24, xL31, xL50, xL60, xL89, xL99, xL100, xL200, xI_add, xI_sub, xI_mul, xI_neg, xI_nat, xI_cl, Int.toNat_natCast, Int.reduceToNat, xltT, xltF, xleT, xleF, xeqT, xeqF, nleT, nleF, nltT, nltF, neqT, neqF, ileT, ileF, iltT, iltF, ieqT, ieqF, or_false, or_true, false_or, true_or, and_true, true_and, and_false, false_and, not_false_eq_true, not_true_eq_false, ↓reduceIte, if_true, if_false]) ?_
        refine w_i z3 ?_
        refine w_i (by simp (disch := omega) only [vin, mk_I, ml_I, mr_I, mk_R, ml_R, mi_R, mkN_eq, mlN_eq, miN_eq, mkN_ne, mlN_ne, miN_ne, mrN_ne, mi_eq, mi_na, mi_nj, mr_eq, mr_na, mr_nj, xL0, xL1, xL2, xL3, xL4, xL5, xL6, xL7, xL8, xL9, xL10, xL12, xL16, xL20, xL24, xL31, xL50, xL60, xL89, xL99, xL100, xL200, xI_add, xI_sub, xI_mul, xI_neg, xI_nat, xI_cl, Int.toNat_natCast, Int.reduceToNat, xltT, xltF, xleT, xleF, xeqT, xeqF, nleT, nleF, nltT, nltF, neqT, neqF, ileT, ileF, iltT, iltF, ieqT, ieqF, or_false, or_true, false_or, true_or, and_true, true_and, and_false, false_and, not_false_eq_true, not_true_eq_false, ↓reduceIte, if_true, if_false, z4]) ?_
        by_cases e2 : z.2 2 = w
        · refine w_i (by simp (disch := omega) only [vin, mk_I, ml_I, mr_I, mk_R, ml_R, mi_R, mkN_eq, mlN_eq, miN_eq, mkN_ne, mlN_ne, miN_ne, mrN_ne, mi_eq, mi_na, mi_nj, mr_eq, mr_na, mr_nj, xL0, xL1, xL2, xL3, xL4, xL5, xL6, xL7, xL8, xL9, xL10, xL12, xL16, xL20, xL24, xL31, xL50, xL60, xL89, xL99, xL100, xL200, xI_add, xI_sub, xI_mul, xI_neg, xI_nat, xI_cl, Int.toNat_natCast, Int.reduceToNat, xltT, xltF, xleT, xleF, xeqT, xeqF, nleT, nleF, nltT, nltF, neqT, neqF, ileT, ileF, iltT, iltF, ieqT, ieqF, or_false, or_true, false_or, true_or, and_true, true_and, and_false, false_and, not_false_eq_true, not_true_eq_false, ↓reduceIte, if_true, if_false, i2]) ?_
          rw [show xI c + 1 = xI (c + 1) by rw [xL1, xI_add]]
          exact hk (c + 1) (by rw [if_pos ⟨e1, by rw [if_pos e0]; exact e2⟩])
        · refine w_n (by simp (disch := omega) only [vin, mk_I, ml_I, mr_I, mk_R, ml_R, mi_R, mkN_eq, mlN_eq, miN_eq, mkN_ne, mlN_ne, miN_ne, mrN_ne, mi_eq, mi_na, mi_nj, mr_eq, mr_na, mr_nj, xL0, xL1, xL2, xL3, xL4, xL5, xL6, xL7, xL8, xL9, xL10, xL12, xL16, xL20, xL24, xL31, xL50, xL60, xL89, xL99, xL100, xL200, xI_add, xI_sub, xI_mul, xI_neg, xI_nat, xI_cl, Int.toNat_natCast, Int.reduceToNat, xltT, xltF, xleT, xleF, xeqT, xeqF, nleT, nleF, nltT, nltF, neqT, neqF, ileT, ileF, iltT, iltF, ieqT, ieqF, or_false, or_true, false_or, true_or, and_true, true_and, and_false, false_and, not_false_eq_true, not_true_eq_false, ↓reduceIte, if_true, if_false, i2]) ?_
          rw [show xI c + 0 = xI (c + 0) by rw [xL0, xI_add]]
          exact hk (c + 0) (by rw [if_neg (fun g => e2 (by have := g.2; rwa [if_pos e0] at this))])
      · refine w_n (by simp (disch := omega) only [vin, mk_I, ml_I, mr_I, mk_R, ml_R, mi_R, mkN_eq, mlN_eq, miN_eq, mkN_ne, mlN_ne, miN_ne, mrN_ne, mi_eq, mi_na, mi_nj, mr_eq, mr_na, mr_nj, xL0, xL1, xL2, xL3, xL4, xL5, xL6, xL7, xL8, xL9, xL10, xL12, xL16, xL20, xL24, xL31, xL50, xL60, xL89, xL99, xL100, xL200, xI_add, xI_sub, xI_mul, xI_neg, xI_nat, xI_cl, Int.toNat_natCast, Int.reduceToNat, xltT, xltF, xleT, xleF, xeqT, xeqF, nleT, nleF, nltT, nltF, neqT, neqF, ileT, ileF, iltT, iltF, ieqT, ieqF, or_false, or_true, false_or, true_or, and_true, true_and, and_false, false_and, not_false_eq_true, not_true_eq_false, ↓reduceIte, if_true, if_false]) ?_
        refine w_i z3 ?_
        refine w_i (by simp (disch := omega) only [vin, mk_I, ml_I, mr_I, mk_R, ml_R, mi_R, mkN_eq, mlN_eq, miN_eq, mkN_ne, mlN_ne, miN_ne, mrN_ne, mi_eq, mi_na, mi_nj, mr_eq, mr_na, mr_nj, xL0, xL1, xL2, xL3, xL4, xL5, xL6, xL7, xL8, xL9, xL10, xL12, xL16, xL20, xL24, xL31, xL50, xL60, xL89, xL99, xL100, xL200, xI_add, xI_sub, xI_mul, xI_neg, xI_nat, xI_cl, Int.toNat_natCast, Int.reduceToNat, xltT, xltF, xleT, xleF, xeqT, xeqF, nleT, nleF, nltT, nltF, neqT, neqF, ileT, ileF, iltT, iltF, ieqT, ieqF, or_false, or_true, false_or, true_or, and_true, true_and, and_false, false_and, not_false_eq_true, not_true_eq_false, ↓reduceIte, if_true, if_false, z4]) ?_
        by_cases e2 : 0 ≤ z.2 2
        · refine w_n (by simp (disch := omega) only [vin, mk_I, ml_I, mr_I, mk_R, ml_R, mi_R, mkN_eq, mlN_eq, miN_eq, mkN_ne, mlN_ne, miN_ne, mrN_ne, mi_eq, mi_na, mi_nj, mr_eq, mr_na, mr_nj, xL0, xL1, xL2, xL3, xL4, xL5, xL6, xL7, xL8, xL9, xL10, xL12, xL16, xL20, xL24, xL31, xL50, xL60, xL89, xL99, xL100, xL200, xI_add, xI_sub, xI_mul, xI_neg, xI_nat, xI_cl, Int.toNat_natCast, Int.reduceToNat, xltT, xltF, xleT, xleF, xeqT, xeqF, nleT, nleF, nltT, nltF, neqT, neqF, ileT, ileF, iltT, iltF, ieqT, ieqF, or_false, or_true, false_or, true_or, and_true, true_and, and_false, false_and, not_false_eq_true, not_true_eq_false, ↓reduceIte, if_true, if_false, i2]) ?_
          rw [show xI c + 1 = xI (c + 1) by rw [xL1, xI_add]]
          exact hk (c + 1) (by rw [if_pos ⟨e1, by rw [if_neg e0]; exact e2⟩])
        · refine w_i (by simp (disch := omega) only [vin, mk_I, ml_I, mr_I, mk_R, ml_R, mi_R, mkN_eq, mlN_eq, miN_eq, mkN_ne, mlN_ne, miN_ne, mrN_ne, mi_eq, mi_na, mi_nj, mr_eq, mr_na, mr_nj, xL0, xL1, xL2, xL3, xL4, xL5, xL6, xL7, xL8, xL9, xL10, xL12, xL16, xL20, xL24, xL31, xL50, xL60, xL89, xL99, xL100, xL200, xI_add, xI_sub, xI_mul, xI_neg, xI_nat, xI_cl, Int.toNat_natCast, Int.reduceToNat, xltT, xltF, xleT, xleF, xeqT, xeqF, nleT, nleF, nltT, nltF, neqT, neqF, ileT, ileF, iltT, iltF, ieqT, ieqF, or_false, or_true, false_or, true_or, and_true, true_and, and_false, false_and, not_false_eq_true, not_true_eq_false, ↓reduceIte, if_true, if_false, i2]) ?_
          rw [show xI c + 0 = xI (c + 0) by rw [xL0, xI_add]]
          exact hk (c + 0) (by rw [if_neg (fun g => e2 (by have := g.2; rwa [if_neg e0] at this))])
    · refine w_n (by simp (disch := omega) only [vin, mk_I, ml_I, mr_I, mk_R, ml_R, mi_R, mkN_eq, mlN_eq, miN_eq, mkN_ne, mlN_ne, miN_ne, mrN_ne, mi_eq, mi_na, mi_nj, mr_eq, mr_na, mr_nj, xL0, xL1, xL2, xL3, xL4, xL5, xL6, xL7, xL8, xL9, xL10, xL12, xL16, xL20, xL24, xL31, xL50, xL60, xL89, xL99, xL100, xL200, xI_add, xI_sub, xI_mul, xI_neg, xI_nat, xI_cl, Int.toNat_natCast, Int.reduceToNat, xltT, xltF, xleT, xleF, xeqT, xeqF, nleT, nleF, nltT, nltF, neqT, neqF, ileT, ileF, iltT, iltF, ieqT, ieqF, or_false, or_true, false_or, true_or, and_true, true_and, and_false, false_and, not_false_eq_true, not_true_eq_false, ↓reduceIte, if_true, if_false, p3]) ?_
      rw [show xI c + 0 = xI (c + 0) by rw [xL0, xI_add]]
      exact hk (c + 0) (by rw [if_neg (fun g => e1 g.1)])
theorem nW_1 : ∀ l : List (Nat × aR), nW 1 l = nA 1 (l.map Prod.snd) := by
  intro l
  unfold nW nA
  rw [List.countP_map]
  rfl
theorem nW_m : ∀ l : List (Nat × aR), (∀ z ∈ l, -1 ≤ z.2 2 ∧ z.2 2 ≤ 1) → nW (-1) l = nA 0 (l.map Prod.snd) + nA 1 (l.map Prod.snd) := by
  intro l
  induction l with
  | nil => intro _; rfl
  | cons z l ih =>
    intro h
    have hz := h z List.mem_cons_self
    have h9 := ih (fun w hw => h w (List.mem_cons_of_mem _ hw))
    unfold nW nA at h9 ⊢
    rw [List.map_cons, List.countP_cons, List.countP_cons, List.countP_cons, h9]
    by_cases e0 : z.2 2 = 0
    · simp [e0]; omega
    · by_cases e1 : z.2 2 = 1
      · simp [e1]; omega
      · have e2 : z.2 2 = -1 := by omega
        simp [e2]
theorem S_zans1 (hd : dR N m D) (hl : D.2.2.2.2.1.length ≤ 4) (ha : ∀ z ∈ D.2.2.2.2.1, -1 ≤ z.2 2 ∧ z.2 2 ≤ 1) (hst : 0 ≤ D.2.2.2.1 3 ∧ D.2.2.2.1 3 ≤ 3) : f_X4_answers m D.1 1 = some (xI ((if D.2.2.2.1 3 = 1 then nA 1 (ud D).2.1 else 0 : Nat) : Int)) := by
  have h9 := L_zans (w := 1) hd hl ha hst (by omega) D.2.2.2.2.1.length 0 (by omega) vF (by unfold vF; omega) 0
  rw [List.drop_zero, nW_1, Int.zero_add] at h9
  obtain ⟨⟨q1, q2, q3, q4, q5⟩, b, ⟨⟨cN, c8, cl, cr⟩, c2⟩, d⟩ := hd
  apply wq_eq
  unfold f_X4_answers
  refine w_i q3 ?_
  refine w_b q4 ?_
  refine w_i c8 ?_
  rw [cl, xI_nat]
  exact ⟨_, h9, rfl⟩
theorem S_zansm (hd : dR N m D) (hl : D.2.2.2.2.1.length ≤ 4) (ha : ∀ z ∈ D.2.2.2.2.1, -1 ≤ z.2 2 ∧ z.2 2 ≤ 1) (hst : 0 ≤ D.2.2.2.1 3 ∧ D.2.2.2.1 3 ≤ 3) : f_X4_answers m D.1 (-1) = some (xI ((if D.2.2.2.1 3 = 1 then nA 0 (ud D).2.1 + nA 1 (ud D).2.1 else 0 : Nat) : Int)) := by
  have h9 := L_zans (w := -1) hd hl ha hst (by omega) D.2.2.2.2.1.length 0 (by omega) vF (by unfold vF; omega) 0
  rw [List.drop_zero, nW_m _ ha, Int.zero_add] at h9
  obtain ⟨⟨q1, q2, q3, q4, q5⟩, b, ⟨⟨cN, c8, cl, cr⟩, c2⟩, d⟩ := hd
  apply wq_eq
  unfold f_X4_answers
  refine w_i q3 ?_
  refine w_b q4 ?_
  refine w_i c8 ?_
  rw [cl, xI_nat]
  exact ⟨_, h9, rfl⟩
/-! doors counted -/
theorem L_zopen (h : ZR N m s Z) (hn : Z.1 ≤ 10) (hs : ∀ k, k < Z.1 → 0 ≤ (Z.2.2.2.2.1 k).2.2.2.1 3 ∧ (Z.2.2.2.2.1 k).2.2.2.1 3 ≤ 3) : ∀ r i, i + r = Z.1 → ∀ f, r < f → ∀ x : Int, fL_X5_open f 4 m s (xI x) (xI (i : Nat)) = some (xI (x + a_opn (uz Z) i r)) := by
  obtain ⟨⟨⟨a1, a2, a3, a4, a5, a6, a7⟩, ⟨b1, b2, b3, b4, b5⟩⟩, c, d, e⟩ := h
  intro r
  induction r with
  | zero =>
    intro i hi f hf x
    obtain ⟨g, rfl⟩ : ∃ g, f = g + 1 := ⟨f - 1, by omega⟩
    show fB_X5_open_4 (fL_X5_open g) m s _ _ = _
    apply wq_eq
    unfold fB_X5_open_4
    refine w_i a3 ?_
    refine w_b a4 ?_
    refine w_i b3 ?_
    refine w_i (by simp (disch := omega) only [vin, mk_I, ml_I, mr_I, mk_R, ml_R, mi_R, mkN_eq, mlN_eq, miN_eq, mkN_ne, mlN_ne, miN_ne, mrN_ne, mi_eq, mi_na, mi_nj, mr_eq, mr_na, mr_nj, xL0, xL1, xL2, xL3, xL4, xL5, xL6, xL7, xL8, xL9, xL10, xL12, xL16, xL20, xL24, xL31, xL50, xL60, xL89, xL99, xL100, xL200, xI_add, xI_sub, xI_mul, xI_neg, xI_nat, xI_cl, Int.toNat_natCast, Int.reduceToNat, xltT, xltF, xleT, xleF, xeqT, xeqF, nleT, nleF, nltT, nltF, neqT, neqF, ileT, ileF, iltT, iltF, ieqT, ieqF, or_false, or_true, false_or, true_or, and_true, true_and, and_false, false_and, not_false_eq_true, not_true_eq_false, ↓reduceIte, if_true, if_false, b4]) ?_
    refine w_s ?_
    show _ = xI (x + 0); rw [Int.add_zero]
  | succ r ih =>
    intro i hi f hf x
    obtain ⟨g, rfl⟩ : ∃ g, f = g + 1 := ⟨f - 1, by omega⟩
    have hd := c i (by omega)
    have h3 := hs i (by omega)
    have p3 := hd.2.1.1 3 (by omega)
    have hr : mr m Z.2.2.1 (xI (i : Nat)).toNatClampNeg = some (Z.2.2.2.2.1 i).1 := by rw [← b5 i (by omega)]; simp (disch := omega) only [vin, mk_I, ml_I, mr_I, mk_R, ml_R, mi_R, mkN_eq, mlN_eq, miN_eq, mkN_ne, mlN_ne, miN_ne, mrN_ne, mi_eq, mi_na, mi_nj, mr_eq, mr_na, mr_nj, xL0, xL1, xL2, xL3, xL4, xL5, xL6, xL7, xL8, xL9, xL10, xL12, xL16, xL20, xL24, xL31, xL50, xL60, xL89, xL99, xL100, xL200, xI_add, xI_sub, xI_mul, xI_neg, xI_nat, xI_cl, Int.toNat_natCast, Int.reduceToNat, xltT, xltF, xleT, xleF, xeqT, xeqF, nleT, nleF, nltT, nltF, neqT, neqF, ileT, ileF, iltT, iltF, ieqT, ieqF, or_false, or_true, false_or, true_or, and_true, true_and, and_false, false_and, not_false_eq_true, not_true_eq_false, ↓reduceIte, if_true, if_false]
    have e0 : a_opn (uz Z) i (r + 1) = (if (Z.2.2.2.2.1 i).2.2.2.1 3 = 2 then (2 : Int) ^ i else 0) + a_opn (uz Z) (i + 1) r := rfl
    have hb := add_bit i (by omega)
    show fB_X5_open_4 (fL_X5_open g) m s _ _ = _
    apply wq_eq
    unfold fB_X5_open_4
    refine w_i a3 ?_
    refine w_b a4 ?_
    refine w_i b3 ?_
    refine w_n (by simp (disch := omega) only [vin, mk_I, ml_I, mr_I, mk_R, ml_R, mi_R, mkN_eq, mlN_eq, miN_eq, mkN_ne, mlN_ne, miN_ne, mrN_ne, mi_eq, mi_na, mi_nj, mr_eq, mr_na, mr_nj, xL0, xL1, xL2, xL3, xL4, xL5, xL6, xL7, xL8, xL9, xL10, xL12, xL16, xL20, xL24, xL31, xL50, xL60, xL89, xL99, xL100, xL200, xI_add, xI_sub, xI_mul, xI_neg, xI_nat, xI_cl, Int.toNat_natCast, Int.reduceToNat, xltT, xltF, xleT, xleF, xeqT, xeqF, nleT, nleF, nltT, nltF, neqT, neqF, ileT, ileF, iltT, iltF, ieqT, ieqF, or_false, or_true, false_or, true_or, and_true, true_and, and_false, false_and, not_false_eq_true, not_true_eq_false, ↓reduceIte, if_true, if_false, b4]) ?_
    refine w_b a4 ?_
    refine w_i b3 ?_
    refine w_i (by simp (disch := omega) only [vin, mk_I, ml_I, mr_I, mk_R, ml_R, mi_R, mkN_eq, mlN_eq, miN_eq, mkN_ne, mlN_ne, miN_ne, mrN_ne, mi_eq, mi_na, mi_nj, mr_eq, mr_na, mr_nj, xL0, xL1, xL2, xL3, xL4, xL5, xL6, xL7, xL8, xL9, xL10, xL12, xL16, xL20, xL24, xL31, xL50, xL60, xL89, xL99, xL100, xL200, xI_add, xI_sub, xI_mul, xI_neg, xI_nat, xI_cl, Int.toNat_natCast, Int.reduceToNat, xltT, xltF, xleT, xleF, xeqT, xeqF, nleT, nleF, nltT, nltF, neqT, neqF, ileT, ileF, iltT, iltF, ieqT, ieqF, or_false, or_true, false_or, true_or, and_true, true_and, and_false, false_and, not_false_eq_true, not_true_eq_false, ↓reduceIte, if_true, if_false, b4]) ?_
    refine w_b hr ?_
    refine w_i hd.1.2.2.1 ?_
    by_cases e : (Z.2.2.2.2.1 i).2.2.2.1 3 = 2
    · refine w_i (by simp (disch := omega) only [vin, mk_I, ml_I, mr_I, mk_R, ml_R, mi_R, mkN_eq, mlN_eq, miN_eq, mkN_ne, mlN_ne, miN_ne, mrN_ne, mi_eq, mi_na, mi_nj, mr_eq, mr_na, mr_nj, xL0, xL1, xL2, xL3, xL4, xL5, xL6, xL7, xL8, xL9, xL10, xL12, xL16, xL20, xL24, xL31, xL50, xL60, xL89, xL99, xL100, xL200, xI_add, xI_sub, xI_mul, xI_neg, xI_nat, xI_cl, Int.toNat_natCast, Int.reduceToNat, xltT, xltF, xleT, xleF, xeqT, xeqF, nleT, nleF, nltT, nltF, neqT, neqF, ileT, ileF, iltT, iltF, ieqT, ieqF, or_false, or_true, false_or, true_or, and_true, true_and, and_false, false_and, not_false_eq_true, not_true_eq_false, ↓reduceIte, if_true, if_false, p3]) ?_
      have h9 := ih (i + 1) (by omega) g (by omega) (x + 2 ^ i)
      refine ⟨_, ?_, rfl⟩
      rw [show ((1 : Int32) <<< (xI (i : Nat) &&& 31)) = xI ((2 : Int) ^ i) from hb, xI_add]
      rw [show xI (i : Nat) + 1 = xI ((i + 1 : Nat) : Int) by rw [xL1, xI_add]; rfl, h9, e0, if_pos e, Int.add_assoc]
    · refine w_n (by simp (disch := omega) only [vin, mk_I, ml_I, mr_I, mk_R, ml_R, mi_R, mkN_eq, mlN_eq, miN_eq, mkN_ne, mlN_ne, miN_ne, mrN_ne, mi_eq, mi_na, mi_nj, mr_eq, mr_na, mr_nj, xL0, xL1, xL2, xL3, xL4, xL5, xL6, xL7, xL8, xL9, xL10, xL12, xL16, xL20, xL24, xL31, xL50, xL60, xL89, xL99, xL100, xL200, xI_add, xI_sub, xI_mul, xI_neg, xI_nat, xI_cl, Int.toNat_natCast, Int.reduceToNat, xltT, xltF, xleT, xleF, xeqT, xeqF, nleT, nleF, nltT, nltF, neqT, neqF, ileT, ileF, iltT, iltF, ieqT, ieqF, or_false, or_true, false_or, true_or, and_true, true_and, and_false, false_and, not_false_eq_true, not_true_eq_false, ↓reduceIte, if_true, if_false, p3]) ?_
      have h9 := ih (i + 1) (by omega) g (by omega) x
      refine ⟨_, ?_, rfl⟩
      rw [show xI (i : Nat) + 1 = xI ((i + 1 : Nat) : Int) by rw [xL1, xI_add]; rfl, h9, e0, if_neg e, Int.zero_add]
theorem S_zopen (h : ZR N m s Z) (hn : Z.1 ≤ 10) (hs : ∀ k, k < Z.1 → 0 ≤ (Z.2.2.2.2.1 k).2.2.2.1 3 ∧ (Z.2.2.2.2.1 k).2.2.2.1 3 ≤ 3) : f_X5_open m s = some (xI (a_opn (uz Z) 0 Z.1)) := by
  have h9 := L_zopen h hn hs Z.1 0 (by omega) vF (by unfold vF; omega) 0
  rw [Int.zero_add] at h9
  exact h9
theorem L_zwith {w : Int} (h : ZR N m s Z) (hn : Z.1 ≤ 10) (hs : ∀ k, k < Z.1 → 0 ≤ (Z.2.2.2.2.1 k).2.2.2.1 3 ∧ (Z.2.2.2.2.1 k).2.2.2.1 3 ≤ 3) (hw : 0 ≤ w ∧ w ≤ 3) : ∀ r i, i + r = Z.1 → ∀ f, r < f → ∀ x : Int, fL_X5_with f 14 m s (xI w) (xI x) Z.2.2.1 (xI (Z.1 : Nat)) (xI (i : Nat)) = some (xI (x + a_cnt (uz Z) w i r)) := by
  obtain ⟨⟨⟨a1, a2, a3, a4, a5, a6, a7⟩, ⟨b1, b2, b3, b4, b5⟩⟩, c, d, e⟩ := h
  intro r
  induction r with
  | zero =>
    intro i hi f hf x
    obtain ⟨g, rfl⟩ : ∃ g, f = g + 1 := ⟨f - 1, by omega⟩
    show fB_X5_with_14 (fL_X5_with g) m s _ _ _ _ _ = _
    apply wq_eq
    unfold fB_X5_with_14
    refine w_i (by simp (disch := omega) only [vin, mk_I, ml_I, mr_I, mk_R, ml_R, mi_R, mkN_eq, mlN_eq, miN_eq, mkN_ne, mlN_ne, miN_ne, mrN_ne, mi_eq, mi_na, mi_nj, mr_eq, mr_na, mr_nj, xL0, xL1, xL2, xL3, xL4, xL5, xL6, xL7, xL8, xL9, xL10, xL12, xL16, xL20, xL24, xL31, xL50, xL60, xL89, xL99, xL100, xL200, xI_add, xI_sub, xI_mul, xI_neg, xI_nat, xI_cl, Int.toNat_natCast, Int.reduceToNat, xltT, xltF, xleT, xleF, xeqT, xeqF, nleT, nleF, nltT, nltF, neqT, neqF, ileT, ileF, iltT, iltF, ieqT, ieqF, or_false, or_true, false_or, true_or, and_true, true_and, and_false, false_and, not_false_eq_true, not_true_eq_false, ↓reduceIte, if_true, if_false]) ?_
    refine w_s ?_
    show _ = xI (x + 0); rw [Int.add_zero]
  | succ r ih =>
    intro i hi f hf x
    obtain ⟨g, rfl⟩ : ∃ g, f = g + 1 := ⟨f - 1, by omega⟩
    have hd := c i (by omega)
    have h3 := hs i (by omega)
    have p3 := hd.2.1.1 3 (by omega)
    have hr : mr m Z.2.2.1 (xI (i : Nat)).toNatClampNeg = some (Z.2.2.2.2.1 i).1 := by rw [← b5 i (by omega)]; simp (disch := omega) only [vin, mk_I, ml_I, mr_I, mk_R, ml_R, mi_R, mkN_eq, mlN_eq, miN_eq, mkN_ne, mlN_ne, miN_ne, mrN_ne, mi_eq, mi_na, mi_nj, mr_eq, mr_na, mr_nj, xL0, xL1, xL2, xL3, xL4, xL5, xL6, xL7, xL8, xL9, xL10, xL12, xL16, xL20, xL24, xL31, xL50, xL60, xL89, xL99, xL100, xL200, xI_add, xI_sub, xI_mul, xI_neg, xI_nat, xI_cl, Int.toNat_natCast, Int.reduceToNat, xltT, xltF, xleT, xleF, xeqT, xeqF, nleT, nleF, nltT, nltF, neqT, neqF, ileT, ileF, iltT, iltF, ieqT, ieqF, or_false, or_true, false_or, true_or, and_true, true_and, and_false, false_and, not_false_eq_true, not_true_eq_false, ↓reduceIte, if_true, if_false]
    have e0 : a_cnt (uz Z) w i (r + 1) = (if (Z.2.2.2.2.1 i).2.2.2.1 3 = w then 1 else 0) + a_cnt (uz Z) w (i + 1) r := rfl
    show fB_X5_with_14 (fL_X5_with g) m s _ _ _ _ _ = _
    apply wq_eq
    unfold fB_X5_with_14
    refine w_n (by simp (disch := omega) only [vin, mk_I, ml_I, mr_I, mk_R, ml_R, mi_R, mkN_eq, mlN_eq, miN_eq, mkN_ne, mlN_ne, miN_ne, mrN_ne, mi_eq, mi_na, mi_nj, mr_eq, mr_na, mr_nj, xL0, xL1, xL2, xL3, xL4, xL5, xL6, xL7, xL8, xL9, xL10, xL12, xL16, xL20, xL24, xL31, xL50, xL60, xL89, xL99, xL100, xL200, xI_add, xI_sub, xI_mul, xI_neg, xI_nat, xI_cl, Int.toNat_natCast, Int.reduceToNat, xltT, xltF, xleT, xleF, xeqT, xeqF, nleT, nleF, nltT, nltF, neqT, neqF, ileT, ileF, iltT, iltF, ieqT, ieqF, or_false, or_true, false_or, true_or, and_true, true_and, and_false, false_and, not_false_eq_true, not_true_eq_false, ↓reduceIte, if_true, if_false]) ?_
    refine w_i b3 ?_
    refine w_i (by simp (disch := omega) only [vin, mk_I, ml_I, mr_I, mk_R, ml_R, mi_R, mkN_eq, mlN_eq, miN_eq, mkN_ne, mlN_ne, miN_ne, mrN_ne, mi_eq, mi_na, mi_nj, mr_eq, mr_na, mr_nj, xL0, xL1, xL2, xL3, xL4, xL5, xL6, xL7, xL8, xL9, xL10, xL12, xL16, xL20, xL24, xL31, xL50, xL60, xL89, xL99, xL100, xL200, xI_add, xI_sub, xI_mul, xI_neg, xI_nat, xI_cl, Int.toNat_natCast, Int.reduceToNat, xltT, xltF, xleT, xleF, xeqT, xeqF, nleT, nleF, nltT, nltF, neqT, neqF, ileT, ileF, iltT, iltF, ieqT, ieqF, or_false, or_true, false_or, true_or, and_true, true_and, and_false, false_and, not_false_eq_true, not_true_eq_false, ↓reduceIte, if_true, if_false, b4]) ?_
    refine w_b hr ?_
    refine w_i hd.1.2.2.1 ?_
    by_cases e : (Z.2.2.2.2.1 i).2.2.2.1 3 = w
    · refine w_i (by simp (disch := omega) only [vin, mk_I, ml_I, mr_I, mk_R, ml_R, mi_R, mkN_eq, mlN_eq, miN_eq, mkN_ne, mlN_ne, miN_ne, mrN_ne, mi_eq, mi_na, mi_nj, mr_eq, mr_na, mr_nj, xL0, xL1, xL2, xL3, xL4, xL5, xL6, xL7, xL8, xL9, xL10, xL12, xL16, xL20, xL24, xL31, xL50, xL60, xL89, xL99, xL100, xL200, xI_add, xI_sub, xI_mul, xI_neg, xI_nat, xI_cl, Int.toNat_natCast, Int.reduceToNat, xltT, xltF, xleT, xleF, xeqT, xeqF, nleT, nleF, nltT, nltF, neqT, neqF, ileT, ileF, iltT, iltF, ieqT, ieqF, or_false, or_true, false_or, true_or, and_true, true_and, and_false, false_and, not_false_eq_true, not_true_eq_false, ↓reduceIte, if_true, if_false, p3]) ?_
      have h9 := ih (i + 1) (by omega) g (by omega) (x + 1)
      refine ⟨_, ?_, rfl⟩
      rw [show xI x + 1 = xI (x + 1) by rw [xL1, xI_add], show xI (i : Nat) + 1 = xI ((i + 1 : Nat) : Int) by rw [xL1, xI_add]; rfl, h9, e0, if_pos e, Int.add_assoc]
    · refine w_n (by simp (disch := omega) only [vin, mk_I, ml_I, mr_I, mk_R, ml_R, mi_R, mkN_eq, mlN_eq, miN_eq, mkN_ne, mlN_ne, miN_ne, mrN_ne, mi_eq, mi_na, mi_nj, mr_eq, mr_na, mr_nj, xL0, xL1, xL2, xL3, xL4, xL5, xL6, xL7, xL8, xL9, xL10, xL12, xL16, xL20, xL24, xL31, xL50, xL60, xL89, xL99, xL100, xL200, xI_add, xI_sub, xI_mul, xI_neg, xI_nat, xI_cl, Int.toNat_natCast, Int.reduceToNat, xltT, xltF, xleT, xleF, xeqT, xeqF, nleT, nleF, nltT, nltF, neqT, neqF, ileT, ileF, iltT, iltF, ieqT, ieqF, or_false, or_true, false_or, true_or, and_true, true_and, and_false, false_and, not_false_eq_true, not_true_eq_false, ↓reduceIte, if_true, if_false, p3]) ?_
      have h9 := ih (i + 1) (by omega) g (by omega) x
      refine ⟨_, ?_, rfl⟩
      rw [show xI x + 0 = xI x by rw [xL0, xI_add, Int.add_zero], show xI (i : Nat) + 1 = xI ((i + 1 : Nat) : Int) by rw [xL1, xI_add]; rfl, h9, e0, if_neg e, Int.zero_add]
theorem S_zwith {w : Int} (h : ZR N m s Z) (hn : Z.1 ≤ 10) (hs : ∀ k, k < Z.1 → 0 ≤ (Z.2.2.2.2.1 k).2.2.2.1 3 ∧ (Z.2.2.2.2.1 k).2.2.2.1 3 ≤ 3) (hw : 0 ≤ w ∧ w ≤ 3) : f_X5_with m s (xI w) = some (xI (a_cnt (uz Z) w 0 Z.1)) := by
  have h9 := L_zwith h hn hs hw Z.1 0 (by omega) vF (by unfold vF; omega) 0
  rw [Int.zero_add] at h9
  apply wq_eq
  unfold f_X5_with
  refine w_i h.1.1.2.2.1 ?_
  refine w_b h.1.1.2.2.2.1 ?_
  refine w_i h.1.2.2.2.1 ?_
  rw [h.1.2.2.2.2.1, xI_nat]
  exact ⟨_, h9, rfl⟩
end
