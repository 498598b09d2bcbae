section
variable {L N r9 r14 kc ks s k : Nat} {xs : Nat → Int32} {m : vM} {i3 i4 i5 i6 i7 i8 i10 i11 i12 i13 i15 i16 i17 i18 i19 i20 i21 i22 i23 i24 i25 i26 : Int32} {S : aS} {E : Nat → List (Int × Int)} {Lw : Nat → Int} {Q : Int32 × Nat × vM → Prop}
theorem L_850 {G : Nat} (h : CV m S) (hI : INm E Lw S [] (fun _ => 20)) (h6 : mk m r14 = 6) (hl : ml m r14 = 4) (ht : ∀ j, j < 4 → mi m r14 j = xI (a_cnt S (j : Nat) 0 S.1)) (hQ : ∀ g, G ≤ g → wq (fL_L_law L xs (g) 883 N m kc ks 0 s i3 i4 i5 i6 i7 i8 r9 i10 i11 i12 i13 r14 i15 0 0 0 0 0 0 0 0 0 0 0) Q) : ∀ r i, i + r = 4 → ∀ f, G + r < f → wq (fL_L_law L xs (f) 850 N m kc ks 0 s i3 i4 i5 i6 i7 i8 r9 i10 i11 i12 i13 r14 i15 (xI (i : Nat)) 0 0 0 0 0 0 0 0 0 0) Q := by
  intro r
  induction r with
  | zero =>
    intro i hi f hf
    obtain ⟨g, rfl⟩ : ∃ g, f = g + 1 := ⟨f - 1, by omega⟩
    refine w_r fE_L_law_850 ?_
    unfold fB_L_law_850
    refine w_i (by simp (disch := omega) only [vin, mk_I, ml_I, mr_I, mk_R, ml_R, mi_R, mkN_eq, mlN_eq, miN_eq, mkN_ne, mlN_ne, miN_ne, mrN_ne, mi_eq, mi_na, mi_nj, mr_eq, mr_na, mr_nj, xL0, xL1, xL2, xL3, xL4, xL5, xL6, xL7, xL8, xL9, xL10, xL12, xL16, xL20, xL24, xL31, xL50, xL60, xL89, xL99, xL100, xL200, xI_add, xI_sub, xI_mul, xI_neg, xI_nat, xI_cl, Int.toNat_natCast, Int.reduceToNat, xltT, xltF, xleT, xleF, xeqT, xeqF, nleT, nleF, nltT, nltF, neqT, neqF, ileT, ileF, iltT, iltF, ieqT, ieqF, or_false, or_true, false_or, true_or, and_true, true_and, and_false, false_and, not_false_eq_true, not_true_eq_false, ↓reduceIte, if_true, if_false]) ?_
    exact hQ g (by omega)
  | succ r ih =>
    intro i hi f hf
    obtain ⟨g, rfl⟩ : ∃ g, f = g + 1 := ⟨f - 1, by omega⟩
    have hc := C_count (w := 2 + (i : Nat)) h hI (by omega)
    have ec : cF S (2 + (i : Nat)) = a_cnt S (i : Nat) 0 S.1 := by
      have : i = 0 ∨ i = 1 ∨ i = 2 ∨ i = 3 := by omega
      rcases this with e | e | e | e <;> subst e <;> rfl
    rw [ec] at hc
    have et : mi m r14 (xI (i : Nat)).toNatClampNeg = xI (a_cnt S (i : Nat) 0 S.1) := by rw [← ht i (by omega)]; simp (disch := omega) only [vin, mk_I, ml_I, mr_I, mk_R, ml_R, mi_R, mkN_eq, mlN_eq, miN_eq, mkN_ne, mlN_ne, miN_ne, mrN_ne, mi_eq, mi_na, mi_nj, mr_eq, mr_na, mr_nj, xL0, xL1, xL2, xL3, xL4, xL5, xL6, xL7, xL8, xL9, xL10, xL12, xL16, xL20, xL24, xL31, xL50, xL60, xL89, xL99, xL100, xL200, xI_add, xI_sub, xI_mul, xI_neg, xI_nat, xI_cl, Int.toNat_natCast, Int.reduceToNat, xltT, xltF, xleT, xleF, xeqT, xeqF, nleT, nleF, nltT, nltF, neqT, neqF, ileT, ileF, iltT, iltF, ieqT, ieqF, or_false, or_true, false_or, true_or, and_true, true_and, and_false, false_and, not_false_eq_true, not_true_eq_false, ↓reduceIte, if_true, if_false]
    refine w_r fE_L_law_850 ?_
    unfold fB_L_law_850
    refine w_n (by simp (disch := omega) only [vin, mk_I, ml_I, mr_I, mk_R, ml_R, mi_R, mkN_eq, mlN_eq, miN_eq, mkN_ne, mlN_ne, miN_ne, mrN_ne, mi_eq, mi_na, mi_nj, mr_eq, mr_na, mr_nj, xL0, xL1, xL2, xL3, xL4, xL5, xL6, xL7, xL8, xL9, xL10, xL12, xL16, xL20, xL24, xL31, xL50, xL60, xL89, xL99, xL100, xL200, xI_add, xI_sub, xI_mul, xI_neg, xI_nat, xI_cl, Int.toNat_natCast, Int.reduceToNat, xltT, xltF, xleT, xleF, xeqT, xeqF, nleT, nleF, nltT, nltF, neqT, neqF, ileT, ileF, iltT, iltF, ieqT, ieqF, or_false, or_true, false_or, true_or, and_true, true_and, and_false, false_and, not_false_eq_true, not_true_eq_false, ↓reduceIte, if_true, if_false]) ?_
    refine w_i h.1.1 ?_
    rw [show (2 : Int32) + xI (i : Nat) = xI (2 + (i : Nat)) by rw [xL2, xI_add]]
    refine w_b hc ?_
    refine w_i h6 ?_
    refine w_i (by simp (disch := omega) only [vin, mk_I, ml_I, mr_I, mk_R, ml_R, mi_R, mkN_eq, mlN_eq, miN_eq, mkN_ne, mlN_ne, miN_ne, mrN_ne, mi_eq, mi_na, mi_nj, mr_eq, mr_na, mr_nj, xL0, xL1, xL2, xL3, xL4, xL5, xL6, xL7, xL8, xL9, xL10, xL12, xL16, xL20, xL24, xL31, xL50, xL60, xL89, xL99, xL100, xL200, xI_add, xI_sub, xI_mul, xI_neg, xI_nat, xI_cl, Int.toNat_natCast, Int.reduceToNat, xltT, xltF, xleT, xleF, xeqT, xeqF, nleT, nleF, nltT, nltF, neqT, neqF, ileT, ileF, iltT, iltF, ieqT, ieqF, or_false, or_true, false_or, true_or, and_true, true_and, and_false, false_and, not_false_eq_true, not_true_eq_false, ↓reduceIte, if_true, if_false, hl]) ?_
    refine w_i et.symm ?_
    rw [show xI (i : Nat) + 1 = xI ((i + 1 : Nat) : Int) by rw [xL1, xI_add]; rfl]
    exact ih (i + 1) (by omega) g (by omega)
theorem L_749 {G : Nat} (h : CV m S) (hI : INm E Lw S [] (fun _ => 20)) (hk : k < S.1) (hQ : ∀ g, G ≤ g → wq (fL_L_law L xs (g) 286 N m kc ks 0 s i3 i4 i5 i6 i7 i8 r9 i10 i11 i12 i13 r14 i15 (xI ((k + 1 : Nat) : Int)) 0 0 0 0 0 0 0 0 0 0) Q) : ∀ r i, i + r = (S.2.2.1 k).2.1.length → ∀ f, G + r < f → wq (fL_L_law L xs (f) 749 N m kc ks 0 s i3 i4 i5 i6 i7 i8 r9 i10 i11 i12 i13 r14 i15 (xI (k : Nat)) i17 i18 i19 i20 i21 (xI ((S.2.2.1 k).2.1.length : Nat)) i23 i24 i25 (xI (i : Nat))) Q := by
  have hlen : (S.2.2.1 k).2.1.length ≤ 4 := (IN_Wa hI k hk).2.2.2.2.2.1
  have hn : S.1 ≤ 10 := hI.1.1
  have hall : ∀ j, j < S.1 → ∀ a ∈ (S.2.2.1 j).2.1, (a 0).toNat < S.1 := fun j hj a ha => by
    have := (C_ask hI hj ha).1; omega
  intro r
  induction r with
  | zero =>
    intro i hi f hf
    obtain ⟨g, rfl⟩ : ∃ g, f = g + 1 := ⟨f - 1, by omega⟩
    refine w_r fE_L_law_749 ?_
    unfold fB_L_law_749
    refine w_i (by simp (disch := omega) only [vin, mk_I, ml_I, mr_I, mk_R, ml_R, mi_R, mkN_eq, mlN_eq, miN_eq, mkN_ne, mlN_ne, miN_ne, mrN_ne, mi_eq, mi_na, mi_nj, mr_eq, mr_na, mr_nj, xL0, xL1, xL2, xL3, xL4, xL5, xL6, xL7, xL8, xL9, xL10, xL12, xL16, xL20, xL24, xL31, xL50, xL60, xL89, xL99, xL100, xL200, xI_add, xI_sub, xI_mul, xI_neg, xI_nat, xI_cl, Int.toNat_natCast, Int.reduceToNat, xltT, xltF, xleT, xleF, xeqT, xeqF, nleT, nleF, nltT, nltF, neqT, neqF, ileT, ileF, iltT, iltF, ieqT, ieqF, or_false, or_true, false_or, true_or, and_true, true_and, and_false, false_and, not_false_eq_true, not_true_eq_false, ↓reduceIte, if_true, if_false]) ?_
    rw [show xI (k : Nat) + 1 = xI ((k + 1 : Nat) : Int) by rw [xL1, xI_add]; rfl]
    exact hQ g (by omega)
  | succ r ih =>
    intro i hi f hf
    obtain ⟨g, rfl⟩ : ∃ g, f = g + 1 := ⟨f - 1, by omega⟩
    obtain ⟨a, h1, h2⟩ := dr_at (l := (S.2.2.1 k).2.1) (i := i) (by omega)
    have ham := List.mem_of_getElem? h1
    have hca := C_ask hI hk ham
    have ha0 := C_asks (w := 0) h hI hk h1 (by omega)
    rw [show (0 : Int).toNat = 0 by rfl, fu_ne (by omega)] at ha0
    have e0 : xI (a 0) = xI (((a 0).toNat : Nat) : Int) := by rw [Int.toNat_of_nonneg hca.1.1]
    rw [e0] at ha0
    have hr1 := C_reach h hI hk
    have hr2 := C_reach (k := (a 0).toNat) h hI (by omega)
    have hb := bit_in (a 0).toNat (by omega) (a_rch S k) (rch_lt hn hk hall) (rch_asked ham)
    have hs := sub_bits (rch_sub hk hall ham)
    refine w_r fE_L_law_749 ?_
    unfold fB_L_law_749
    refine w_n (by simp (disch := omega) only [vin, mk_I, ml_I, mr_I, mk_R, ml_R, mi_R, mkN_eq, mlN_eq, miN_eq, mkN_ne, mlN_ne, miN_ne, mrN_ne, mi_eq, mi_na, mi_nj, mr_eq, mr_na, mr_nj, xL0, xL1, xL2, xL3, xL4, xL5, xL6, xL7, xL8, xL9, xL10, xL12, xL16, xL20, xL24, xL31, xL50, xL60, xL89, xL99, xL100, xL200, xI_add, xI_sub, xI_mul, xI_neg, xI_nat, xI_cl, Int.toNat_natCast, Int.reduceToNat, xltT, xltF, xleT, xleF, xeqT, xeqF, nleT, nleF, nltT, nltF, neqT, neqF, ileT, ileF, iltT, iltF, ieqT, ieqF, or_false, or_true, false_or, true_or, and_true, true_and, and_false, false_and, not_false_eq_true, not_true_eq_false, ↓reduceIte, if_true, if_false]) ?_
    refine w_i h.1.1 ?_
    refine w_b hr1 ?_
    refine w_b ha0 ?_
    refine w_n hb ?_
    refine w_b ha0 ?_
    refine w_b hr2 ?_
    refine w_b hr1 ?_
    refine w_i hs ?_
    rw [show xI (i : Nat) + 1 = xI ((i + 1 : Nat) : Int) by rw [xL1, xI_add]; rfl]
    exact ih (i + 1) (by omega) g (by omega)
def nT (l : List aR) : Nat := l.countP (fun a => decide (0 ≤ a 2))
theorem nT_A : ∀ l : List aR, (∀ a ∈ l, -1 ≤ a 2 ∧ a 2 ≤ 1) → nT l = nA 0 l + nA 1 l := by
  intro l
  induction l with
  | nil => intro _; rfl
  | cons a l ih =>
    intro h
    have h1 := ih (fun b hb => h b (List.mem_cons_of_mem _ hb))
    have h2 := h a List.mem_cons_self
    unfold nT nA at h1 ⊢
    rw [List.countP_cons, List.countP_cons, List.countP_cons, h1]
    have h3 : a 2 = -1 ∨ a 2 = 0 ∨ a 2 = 1 := by omega
    rcases h3 with g | g | g <;> simp [g] <;> omega
theorem L_702 {g : Nat} {has : Int} (h : CV m S) (hI : INm E Lw S [] (fun _ => 20)) (hk : k < S.1) (hr : 0 ≤ has ∧ has ≤ 4) (hQ : wq (fL_L_law L xs (g) 749 N m kc ks 0 s i3 i4 i5 i6 i7 i8 r9 i10 i11 i12 i13 r14 i15 (xI (k : Nat)) i17 i18 i19 i20 i21 (xI ((S.2.2.1 k).2.1.length : Nat)) (xI has) i24 (xI has) 0) Q) : ∀ r i, i + r = (S.2.2.1 k).2.1.length → ∀ c : Int, 0 ≤ c → c + (if (S.2.2.1 k).1 3 = 1 then nT ((S.2.2.1 k).2.1.drop i) else 0 : Nat) = has → wq (fL_L_law L xs (r + 1 + g) 702 N m kc ks 0 s i3 i4 i5 i6 i7 i8 r9 i10 i11 i12 i13 r14 i15 (xI (k : Nat)) i17 i18 i19 i20 i21 (xI ((S.2.2.1 k).2.1.length : Nat)) (xI has) i24 (xI c) (xI (i : Nat))) Q := by
  have hlen : (S.2.2.1 k).2.1.length ≤ 4 := (IN_Wa hI k hk).2.2.2.2.2.1
  intro r
  induction r with
  | zero =>
    intro i hi c hc0 hc
    rw [List.drop_of_length_le (by omega)] at hc
    have hc : c = has := by
      have e : (if (S.2.2.1 k).1 3 = 1 then nT [] else 0 : Nat) = 0 := by split <;> rfl
      rw [e] at hc; omega
    subst hc
    rw [show 0 + 1 + g = g + 1 by omega]
    refine w_r fE_L_law_702 ?_
    unfold fB_L_law_702
    refine w_i (by simp (disch := omega) only [vin, mk_I, ml_I, mr_I, mk_R, ml_R, mi_R, mkN_eq, mlN_eq, miN_eq, mkN_ne, mlN_ne, miN_ne, mrN_ne, mi_eq, mi_na, mi_nj, mr_eq, mr_na, mr_nj, xL0, xL1, xL2, xL3, xL4, xL5, xL6, xL7, xL8, xL9, xL10, xL12, xL16, xL20, xL24, xL31, xL50, xL60, xL89, xL99, xL100, xL200, xI_add, xI_sub, xI_mul, xI_neg, xI_nat, xI_cl, Int.toNat_natCast, Int.reduceToNat, xltT, xltF, xleT, xleF, xeqT, xeqF, nleT, nleF, nltT, nltF, neqT, neqF, ileT, ileF, iltT, iltF, ieqT, ieqF, or_false, or_true, false_or, true_or, and_true, true_and, and_false, false_and, not_false_eq_true, not_true_eq_false, ↓reduceIte, if_true, if_false]) ?_
    refine w_i rfl ?_
    exact hQ
  | succ r ih =>
    intro i hi c hc0 hc
    have ek : xI (i : Nat) + 1 = xI ((i + 1 : Nat) : Int) := by rw [xL1, xI_add]; rfl
    obtain ⟨a, h1, h2⟩ := dr_at (l := (S.2.2.1 k).2.1) (i := i) (by omega)
    have hca := C_ask hI hk (List.mem_of_getElem? h1)
    have ha2 := C_asks (w := 2) h hI hk h1 (by omega)
    rw [show (2 : Int).toNat = 2 by rfl, fu_eq] at ha2
    have hct : nT ((S.2.2.1 k).2.1.drop i) = nT ((S.2.2.1 k).2.1.drop (i + 1)) + if 0 ≤ a 2 then 1 else 0 := by
      rw [h2]; unfold nT; rw [List.countP_cons]; simp
    rw [hct] at hc
    rw [show r + 1 + 1 + g = (r + 1 + g) + 1 by omega]
    refine w_r fE_L_law_702 ?_
    unfold fB_L_law_702
    refine w_n (by simp (disch := omega) only [vin, mk_I, ml_I, mr_I, mk_R, ml_R, mi_R, mkN_eq, mlN_eq, miN_eq, mkN_ne, mlN_ne, miN_ne, mrN_ne, mi_eq, mi_na, mi_nj, mr_eq, mr_na, mr_nj, xL0, xL1, xL2, xL3, xL4, xL5, xL6, xL7, xL8, xL9, xL10, xL12, xL16, xL20, xL24, xL31, xL50, xL60, xL89, xL99, xL100, xL200, xI_add, xI_sub, xI_mul, xI_neg, xI_nat, xI_cl, Int.toNat_natCast, Int.reduceToNat, xltT, xltF, xleT, xleF, xeqT, xeqF, nleT, nleF, nltT, nltF, neqT, neqF, ileT, ileF, iltT, iltF, ieqT, ieqF, or_false, or_true, false_or, true_or, and_true, true_and, and_false, false_and, not_false_eq_true, not_true_eq_false, ↓reduceIte, if_true, if_false]) ?_
    refine w_i h.1.1 ?_
    refine w_b ha2 ?_
    by_cases e : (S.2.2.1 k).1 3 = 1
    · rw [if_pos e]
      rw [if_pos e] at hc
      by_cases e2 : a 2 < 0
      · refine w_i (by simp (disch := omega) only [vin, mk_I, ml_I, mr_I, mk_R, ml_R, mi_R, mkN_eq, mlN_eq, miN_eq, mkN_ne, mlN_ne, miN_ne, mrN_ne, mi_eq, mi_na, mi_nj, mr_eq, mr_na, mr_nj, xL0, xL1, xL2, xL3, xL4, xL5, xL6, xL7, xL8, xL9, xL10, xL12, xL16, xL20, xL24, xL31, xL50, xL60, xL89, xL99, xL100, xL200, xI_add, xI_sub, xI_mul, xI_neg, xI_nat, xI_cl, Int.toNat_natCast, Int.reduceToNat, xltT, xltF, xleT, xleF, xeqT, xeqF, nleT, nleF, nltT, nltF, neqT, neqF, ileT, ileF, iltT, iltF, ieqT, ieqF, or_false, or_true, false_or, true_or, and_true, true_and, and_false, false_and, not_false_eq_true, not_true_eq_false, ↓reduceIte, if_true, if_false]) ?_
        rw [if_neg (by omega)] at hc
        rw [ek, show xI c + 0 = xI (c + 0) by rw [xL0, xI_add]]
        exact ih (i + 1) (by omega) (c + 0) (by omega) (by rw [if_pos e]; omega)
      · refine w_n (by simp (disch := omega) only [vin, mk_I, ml_I, mr_I, mk_R, ml_R, mi_R, mkN_eq, mlN_eq, miN_eq, mkN_ne, mlN_ne, miN_ne, mrN_ne, mi_eq, mi_na, mi_nj, mr_eq, mr_na, mr_nj, xL0, xL1, xL2, xL3, xL4, xL5, xL6, xL7, xL8, xL9, xL10, xL12, xL16, xL20, xL24, xL31, xL50, xL60, xL89, xL99, xL100, xL200, xI_add, xI_sub, xI_mul, xI_neg, xI_nat, xI_cl, Int.toNat_natCast, Int.reduceToNat, xltT, xltF, xleT, xleF, xeqT, xeqF, nleT, nleF, nltT, nltF, neqT, neqF, ileT, ileF, iltT, iltF, ieqT, ieqF, or_false, or_true, false_or, true_or, and_true, true_and, and_false, false_and, not_false_eq_true, not_true_eq_false, ↓reduceIte, if_true, if_false]) ?_
        rw [if_pos (by omega)] at hc
        rw [ek, show xI c + 1 = xI (c + 1) by rw [xL1, xI_add]]
        exact ih (i + 1) (by omega) (c + 1) (by omega) (by rw [if_pos e]; omega)
    · rw [if_neg e]
      rw [if_neg e] at hc
      refine w_i (by decide) ?_
      rw [ek, show xI c + 0 = xI (c + 0) by rw [xL0, xI_add]]
      exact ih (i + 1) (by omega) (c + 0) (by omega) (by rw [if_neg e]; omega)
theorem L_608 {G : Nat} (h : CV m S) (hI : INm E Lw S [] (fun _ => 20)) (hk : k < S.1) (hna : (S.2.2.1 k).1 3 = 1 → nA 0 (S.2.2.1 k).2.1 + nA 1 (S.2.2.1 k).2.1 ≠ (S.2.2.1 k).2.1.length) (hQ : ∀ g, G ≤ g → wq (fL_L_law L xs (g) 286 N m kc ks 0 s i3 i4 i5 i6 i7 i8 r9 i10 i11 i12 i13 r14 i15 (xI ((k + 1 : Nat) : Int)) 0 0 0 0 0 0 0 0 0 0) Q) : ∀ f, G + 20 < f → wq (fL_L_law L xs (f) 608 N m kc ks 0 s i3 i4 i5 i6 i7 i8 r9 i10 i11 i12 i13 r14 i15 (xI (k : Nat)) (xI ((S.2.2.1 k).1 3)) i18 i19 i20 i21 0 0 0 0 0) Q := by
  intro f hf
  have hlen : (S.2.2.1 k).2.1.length ≤ 4 := (IN_Wa hI k hk).2.2.2.2.2.1
  have hst := IN_st hI k hk
  have hd : DI S.1 (S.2.1 2) E Lw 20 k (S.2.2.1 k) := hI.2.1 k hk
  have h3 : f_X3_door m 0 (xI (k : Nat)) (xI 3) = some (xI ((S.2.2.1 k).2.1.length : Nat)) := C_door (w := 3) h hI hk (by omega)
  have h4 : f_X3_door m 0 (xI (k : Nat)) (xI 4) = some (xI ((if (S.2.2.1 k).1 3 = 1 then nA 0 (S.2.2.1 k).2.1 + nA 1 (S.2.2.1 k).2.1 else 0 : Nat) : Int)) := C_door (w := 4) h hI hk (by omega)
  have h5 : f_X3_door m 0 (xI (k : Nat)) (xI 5) = some (xI ((if (S.2.2.1 k).1 3 = 1 then nA 1 (S.2.2.1 k).2.1 else 0 : Nat) : Int)) := C_door (w := 5) h hI hk (by omega)
  have h6 : f_X3_door m 0 (xI (k : Nat)) (xI 6) = some (xI ((S.2.2.1 k).2.2.length : Nat)) := C_door (w := 6) h hI hk (by omega)
  have hnT := nT_A (S.2.2.1 k).2.1 hd.2.1.2
  have hle : nT (S.2.2.1 k).2.1 ≤ (S.2.2.1 k).2.1.length := List.countP_le_length
  have h702 := fun (i24 : Int32) (has : Int) (hr : 0 ≤ has ∧ has ≤ 4) (g : Nat) (hg : G + 10 < g) (he : (0 : Int) + (if (S.2.2.1 k).1 3 = 1 then nT ((S.2.2.1 k).2.1.drop 0) else 0 : Nat) = has) => L_702 (i3 := i3) (i4 := i4) (i5 := i5) (i6 := i6) (i7 := i7) (i8 := i8) (i10 := i10) (i11 := i11) (i12 := i12) (i13 := i13) (i15 := i15) (i17 := xI ((S.2.2.1 k).1 3)) (i18 := i18) (i19 := i19) (i20 := i20) (i21 := i21) (i24 := i24) (N := N) (r9 := r9) (r14 := r14) (kc := kc) (ks := ks) (s := s) (L := L) (xs := xs) h hI hk hr (L_749 (G := G) h hI hk hQ _ 0 (Nat.zero_add _) g (by omega)) _ 0 (Nat.zero_add _) 0 (by omega) he
  rw [List.drop_zero] at h702
  obtain ⟨g, rfl⟩ : ∃ g, f = (S.2.2.1 k).2.1.length + 1 + g + 2 := ⟨f - ((S.2.2.1 k).2.1.length + 3), by omega⟩
  refine w_r fE_L_law_608 ?_
  unfold fB_L_law_608
  refine w_i h.1.1 ?_
  refine w_b h3 ?_
  refine w_b h4 ?_
  refine w_b h5 ?_
  by_cases e : (S.2.2.1 k).1 3 = 1
  · have hna := hna e
    have h9 := h702 (xI ((nA 1 (S.2.2.1 k).2.1 : Nat) : Int)) ((nA 0 (S.2.2.1 k).2.1 + nA 1 (S.2.2.1 k).2.1 : Nat) : Int) (by omega) g (by omega) (by rw [if_pos e]; omega)
    rw [if_pos e, if_pos e]
    generalize nA 0 (S.2.2.1 k).2.1 = n0 at *
    generalize nA 1 (S.2.2.1 k).2.1 = n1 at *
    refine w_n (by simp (disch := omega) only [vin, mk_I, ml_I, mr_I, mk_R, ml_R, mi_R, mkN_eq, mlN_eq, miN_eq, mkN_ne, mlN_ne, miN_ne, mrN_ne, mi_eq, mi_na, mi_nj, mr_eq, mr_na, mr_nj, xL0, xL1, xL2, xL3, xL4, xL5, xL6, xL7, xL8, xL9, xL10, xL12, xL16, xL20, xL24, xL31, xL50, xL60, xL89, xL99, xL100, xL200, xI_add, xI_sub, xI_mul, xI_neg, xI_nat, xI_cl, Int.toNat_natCast, Int.reduceToNat, xltT, xltF, xleT, xleF, xeqT, xeqF, nleT, nleF, nltT, nltF, neqT, neqF, ileT, ileF, iltT, iltF, ieqT, ieqF, or_false, or_true, false_or, true_or, and_true, true_and, and_false, false_and, not_false_eq_true, not_true_eq_false, ↓reduceIte, if_true, if_false]) ?_
    refine w_n (by simp (disch := omega) only [vin, mk_I, ml_I, mr_I, mk_R, ml_R, mi_R, mkN_eq, mlN_eq, miN_eq, mkN_ne, mlN_ne, miN_ne, mrN_ne, mi_eq, mi_na, mi_nj, mr_eq, mr_na, mr_nj, xL0, xL1, xL2, xL3, xL4, xL5, xL6, xL7, xL8, xL9, xL10, xL12, xL16, xL20, xL24, xL31, xL50, xL60, xL89, xL99, xL100, xL200, xI_add, xI_sub, xI_mul, xI_neg, xI_nat, xI_cl, Int.toNat_natCast, Int.reduceToNat, xltT, xltF, xleT, xleF, xeqT, xeqF, nleT, nleF, nltT, nltF, neqT, neqF, ileT, ileF, iltT, iltF, ieqT, ieqF, or_false, or_true, false_or, true_or, and_true, true_and, and_false, false_and, not_false_eq_true, not_true_eq_false, ↓reduceIte, if_true, if_false]) ?_
    refine w_n (by simp (disch := omega) only [vin, mk_I, ml_I, mr_I, mk_R, ml_R, mi_R, mkN_eq, mlN_eq, miN_eq, mkN_ne, mlN_ne, miN_ne, mrN_ne, mi_eq, mi_na, mi_nj, mr_eq, mr_na, mr_nj, xL0, xL1, xL2, xL3, xL4, xL5, xL6, xL7, xL8, xL9, xL10, xL12, xL16, xL20, xL24, xL31, xL50, xL60, xL89, xL99, xL100, xL200, xI_add, xI_sub, xI_mul, xI_neg, xI_nat, xI_cl, Int.toNat_natCast, Int.reduceToNat, xltT, xltF, xleT, xleF, xeqT, xeqF, nleT, nleF, nltT, nltF, neqT, neqF, ileT, ileF, iltT, iltF, ieqT, ieqF, or_false, or_true, false_or, true_or, and_true, true_and, and_false, false_and, not_false_eq_true, not_true_eq_false, ↓reduceIte, if_true, if_false]) ?_
    refine w_n (by simp (disch := omega) only [vin, mk_I, ml_I, mr_I, mk_R, ml_R, mi_R, mkN_eq, mlN_eq, miN_eq, mkN_ne, mlN_ne, miN_ne, mrN_ne, mi_eq, mi_na, mi_nj, mr_eq, mr_na, mr_nj, xL0, xL1, xL2, xL3, xL4, xL5, xL6, xL7, xL8, xL9, xL10, xL12, xL16, xL20, xL24, xL31, xL50, xL60, xL89, xL99, xL100, xL200, xI_add, xI_sub, xI_mul, xI_neg, xI_nat, xI_cl, Int.toNat_natCast, Int.reduceToNat, xltT, xltF, xleT, xleF, xeqT, xeqF, nleT, nleF, nltT, nltF, neqT, neqF, ileT, ileF, iltT, iltF, ieqT, ieqF, or_false, or_true, false_or, true_or, and_true, true_and, and_false, false_and, not_false_eq_true, not_true_eq_false, ↓reduceIte, if_true, if_false]) ?_
    refine w_i (by simp (disch := omega) only [vin, mk_I, ml_I, mr_I, mk_R, ml_R, mi_R, mkN_eq, mlN_eq, miN_eq, mkN_ne, mlN_ne, miN_ne, mrN_ne, mi_eq, mi_na, mi_nj, mr_eq, mr_na, mr_nj, xL0, xL1, xL2, xL3, xL4, xL5, xL6, xL7, xL8, xL9, xL10, xL12, xL16, xL20, xL24, xL31, xL50, xL60, xL89, xL99, xL100, xL200, xI_add, xI_sub, xI_mul, xI_neg, xI_nat, xI_cl, Int.toNat_natCast, Int.reduceToNat, xltT, xltF, xleT, xleF, xeqT, xeqF, nleT, nleF, nltT, nltF, neqT, neqF, ileT, ileF, iltT, iltF, ieqT, ieqF, or_false, or_true, false_or, true_or, and_true, true_and, and_false, false_and, not_false_eq_true, not_true_eq_false, ↓reduceIte, if_true, if_false]) ?_
    refine w_i (by simp (disch := omega) only [vin, mk_I, ml_I, mr_I, mk_R, ml_R, mi_R, mkN_eq, mlN_eq, miN_eq, mkN_ne, mlN_ne, miN_ne, mrN_ne, mi_eq, mi_na, mi_nj, mr_eq, mr_na, mr_nj, xL0, xL1, xL2, xL3, xL4, xL5, xL6, xL7, xL8, xL9, xL10, xL12, xL16, xL20, xL24, xL31, xL50, xL60, xL89, xL99, xL100, xL200, xI_add, xI_sub, xI_mul, xI_neg, xI_nat, xI_cl, Int.toNat_natCast, Int.reduceToNat, xltT, xltF, xleT, xleF, xeqT, xeqF, nleT, nleF, nltT, nltF, neqT, neqF, ileT, ileF, iltT, iltF, ieqT, ieqF, or_false, or_true, false_or, true_or, and_true, true_and, and_false, false_and, not_false_eq_true, not_true_eq_false, ↓reduceIte, if_true, if_false]) ?_
    refine w_n (by simp (disch := omega) only [vin, mk_I, ml_I, mr_I, mk_R, ml_R, mi_R, mkN_eq, mlN_eq, miN_eq, mkN_ne, mlN_ne, miN_ne, mrN_ne, mi_eq, mi_na, mi_nj, mr_eq, mr_na, mr_nj, xL0, xL1, xL2, xL3, xL4, xL5, xL6, xL7, xL8, xL9, xL10, xL12, xL16, xL20, xL24, xL31, xL50, xL60, xL89, xL99, xL100, xL200, xI_add, xI_sub, xI_mul, xI_neg, xI_nat, xI_cl, Int.toNat_natCast, Int.reduceToNat, xltT, xltF, xleT, xleF, xeqT, xeqF, nleT, nleF, nltT, nltF, neqT, neqF, ileT, ileF, iltT, iltF, ieqT, ieqF, or_false, or_true, false_or, true_or, and_true, true_and, and_false, false_and, not_false_eq_true, not_true_eq_false, ↓reduceIte, if_true, if_false]) ?_
    refine w_r fE_L_law_696 ?_
    unfold fB_L_law_696
    exact h9
  · have hk0 : (S.2.2.1 k).2.2 = [] := hd.2.2.1 e
    rw [hk0] at h6
    have h9 := h702 (xI ((0 : Nat) : Int)) ((0 : Nat) : Int) (by omega) g (by omega) (by rw [if_neg e]; rfl)
    rw [if_neg e, if_neg e]
    refine w_n (by simp (disch := omega) only [vin, mk_I, ml_I, mr_I, mk_R, ml_R, mi_R, mkN_eq, mlN_eq, miN_eq, mkN_ne, mlN_ne, miN_ne, mrN_ne, mi_eq, mi_na, mi_nj, mr_eq, mr_na, mr_nj, xL0, xL1, xL2, xL3, xL4, xL5, xL6, xL7, xL8, xL9, xL10, xL12, xL16, xL20, xL24, xL31, xL50, xL60, xL89, xL99, xL100, xL200, xI_add, xI_sub, xI_mul, xI_neg, xI_nat, xI_cl, Int.toNat_natCast, Int.reduceToNat, xltT, xltF, xleT, xleF, xeqT, xeqF, nleT, nleF, nltT, nltF, neqT, neqF, ileT, ileF, iltT, iltF, ieqT, ieqF, or_false, or_true, false_or, true_or, and_true, true_and, and_false, false_and, not_false_eq_true, not_true_eq_false, ↓reduceIte, if_true, if_false]) ?_
    refine w_n (by simp (disch := omega) only [vin, mk_I, ml_I, mr_I, mk_R, ml_R, mi_R, mkN_eq, mlN_eq, miN_eq, mkN_ne, mlN_ne, miN_ne, mrN_ne, mi_eq, mi_na, mi_nj, mr_eq, mr_na, mr_nj, xL0, xL1, xL2, xL3, xL4, xL5, xL6, xL7, xL8, xL9, xL10, xL12, xL16, xL20, xL24, xL31, xL50, xL60, xL89, xL99, xL100, xL200, xI_add, xI_sub, xI_mul, xI_neg, xI_nat, xI_cl, Int.toNat_natCast, Int.reduceToNat, xltT, xltF, xleT, xleF, xeqT, xeqF, nleT, nleF, nltT, nltF, neqT, neqF, ileT, ileF, iltT, iltF, ieqT, ieqF, or_false, or_true, false_or, true_or, and_true, true_and, and_false, false_and, not_false_eq_true, not_true_eq_false, ↓reduceIte, if_true, if_false]) ?_
    refine w_n (by simp (disch := omega) only [vin, mk_I, ml_I, mr_I, mk_R, ml_R, mi_R, mkN_eq, mlN_eq, miN_eq, mkN_ne, mlN_ne, miN_ne, mrN_ne, mi_eq, mi_na, mi_nj, mr_eq, mr_na, mr_nj, xL0, xL1, xL2, xL3, xL4, xL5, xL6, xL7, xL8, xL9, xL10, xL12, xL16, xL20, xL24, xL31, xL50, xL60, xL89, xL99, xL100, xL200, xI_add, xI_sub, xI_mul, xI_neg, xI_nat, xI_cl, Int.toNat_natCast, Int.reduceToNat, xltT, xltF, xleT, xleF, xeqT, xeqF, nleT, nleF, nltT, nltF, neqT, neqF, ileT, ileF, iltT, iltF, ieqT, ieqF, or_false, or_true, false_or, true_or, and_true, true_and, and_false, false_and, not_false_eq_true, not_true_eq_false, ↓reduceIte, if_true, if_false]) ?_
    refine w_n (by simp (disch := omega) only [vin, mk_I, ml_I, mr_I, mk_R, ml_R, mi_R, mkN_eq, mlN_eq, miN_eq, mkN_ne, mlN_ne, miN_ne, mrN_ne, mi_eq, mi_na, mi_nj, mr_eq, mr_na, mr_nj, xL0, xL1, xL2, xL3, xL4, xL5, xL6, xL7, xL8, xL9, xL10, xL12, xL16, xL20, xL24, xL31, xL50, xL60, xL89, xL99, xL100, xL200, xI_add, xI_sub, xI_mul, xI_neg, xI_nat, xI_cl, Int.toNat_natCast, Int.reduceToNat, xltT, xltF, xleT, xleF, xeqT, xeqF, nleT, nleF, nltT, nltF, neqT, neqF, ileT, ileF, iltT, iltF, ieqT, ieqF, or_false, or_true, false_or, true_or, and_true, true_and, and_false, false_and, not_false_eq_true, not_true_eq_false, ↓reduceIte, if_true, if_false]) ?_
    refine w_n (by simp (disch := omega) only [vin, mk_I, ml_I, mr_I, mk_R, ml_R, mi_R, mkN_eq, mlN_eq, miN_eq, mkN_ne, mlN_ne, miN_ne, mrN_ne, mi_eq, mi_na, mi_nj, mr_eq, mr_na, mr_nj, xL0, xL1, xL2, xL3, xL4, xL5, xL6, xL7, xL8, xL9, xL10, xL12, xL16, xL20, xL24, xL31, xL50, xL60, xL89, xL99, xL100, xL200, xI_add, xI_sub, xI_mul, xI_neg, xI_nat, xI_cl, Int.toNat_natCast, Int.reduceToNat, xltT, xltF, xleT, xleF, xeqT, xeqF, nleT, nleF, nltT, nltF, neqT, neqF, ileT, ileF, iltT, iltF, ieqT, ieqF, or_false, or_true, false_or, true_or, and_true, true_and, and_false, false_and, not_false_eq_true, not_true_eq_false, ↓reduceIte, if_true, if_false]) ?_
    refine w_i (by rfl) ?_
    refine w_b h6 ?_
    refine w_i (by rfl) ?_
    refine w_n (by simp (disch := omega) only [vin, mk_I, ml_I, mr_I, mk_R, ml_R, mi_R, mkN_eq, mlN_eq, miN_eq, mkN_ne, mlN_ne, miN_ne, mrN_ne, mi_eq, mi_na, mi_nj, mr_eq, mr_na, mr_nj, xL0, xL1, xL2, xL3, xL4, xL5, xL6, xL7, xL8, xL9, xL10, xL12, xL16, xL20, xL24, xL31, xL50, xL60, xL89, xL99, xL100, xL200, xI_add, xI_sub, xI_mul, xI_neg, xI_nat, xI_cl, Int.toNat_natCast, Int.reduceToNat, xltT, xltF, xleT, xleF, xeqT, xeqF, nleT, nleF, nltT, nltF, neqT, neqF, ileT, ileF, iltT, iltF, ieqT, ieqF, or_false, or_true, false_or, true_or, and_true, true_and, and_false, false_and, not_false_eq_true, not_true_eq_false, ↓reduceIte, if_true, if_false]) ?_
    refine w_r fE_L_law_696 ?_
    unfold fB_L_law_696
    exact h9
end
