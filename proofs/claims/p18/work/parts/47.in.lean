section
variable {m m' : vM} {N N' s k y b q : Nat} {X : Nat → Prop}
theorem S_X0init (h : mk m q = 0) : wq (f_X0_init (q + 1) m q) (fun z => z.1 = q + 6 ∧ dB q z.2 ∧ (∀ j, mi z.2 q j = mi m q j) ∧ fM (q + 1) (fun x => x = q) m z.2) := by
  unfold f_X0_init
  refine w_i (by simp (disch := omega) only [vin, mk_I, ml_I, mr_I, mk_R, ml_R, mi_R, mkN_eq, mlN_eq, miN_eq, mkN_ne, mlN_ne, miN_ne, mrN_ne, mi_eq, mi_na, mi_nj, mr_eq, mr_na, mr_nj, xL0, xL1, xL2, xL3, xL4, xL5, xL6, xL7, xL8, xL9, xL10, xL12, xL16, xL20, xL24, xL31, xL50, xL60, xL89, xL99, xL100, xL200, xI_add, xI_sub, xI_mul, xI_neg, xI_nat, xI_cl, Int.toNat_natCast, Int.reduceToNat, xltT, xltF, xleT, xleF, xeqT, xeqF, nleT, nleF, nltT, nltF, neqT, neqF, ileT, ileF, iltT, iltF, ieqT, ieqF, or_false, or_true, false_or, true_or, and_true, true_and, and_false, false_and, not_false_eq_true, not_true_eq_false, ↓reduceIte, if_true, if_false, h]) ?_
  refine w_s ⟨by show q + 1 + 1 + 1 + 1 + 1 + 1 = q + 6; omega, ?_, fun j => ?_, ?_⟩
  · refine ⟨?_, ?_, ?_, ?_, ?_, ?_, ?_, ?_, ?_, ?_, ?_, ?_, ?_, ?_, ?_, ?_⟩ <;> simp (disch := omega) only [vin, mk_I, ml_I, mr_I, mk_R, ml_R, mi_R, mkN_eq, mlN_eq, miN_eq, mkN_ne, mlN_ne, miN_ne, mrN_ne, mi_eq, mi_na, mi_nj, mr_eq, mr_na, mr_nj, xL0, xL1, xL2, xL3, xL4, xL5, xL6, xL7, xL8, xL9, xL10, xL12, xL16, xL20, xL24, xL31, xL50, xL60, xL89, xL99, xL100, xL200, xI_add, xI_sub, xI_mul, xI_neg, xI_nat, xI_cl, Int.toNat_natCast, Int.reduceToNat, xltT, xltF, xleT, xleF, xeqT, xeqF, nleT, nleF, nltT, nltF, neqT, neqF, ileT, ileF, iltT, iltF, ieqT, ieqF, or_false, or_true, false_or, true_or, and_true, true_and, and_false, false_and, not_false_eq_true, not_true_eq_false, ↓reduceIte, if_true, if_false, h]
  · simp (disch := omega) only [mk_I, ml_I, mr_I, mk_R, ml_R, mi_R, mkN_eq, mlN_eq, miN_eq, mkN_ne, mlN_ne, miN_ne, mrN_ne, mi_eq, mi_na, mi_nj, mr_eq, mr_na, mr_nj]
  · refine fM_trans (fM_trans (fM_trans (fM_trans (fM_trans (fM_trans (fM_trans (fM_trans (fM_trans (fM_N (by omega)) (fM_R (X := fun x => x = q) rfl) (Nat.le_refl _) (fun _ _ h => h)) (fM_N (X := fun x => x = q) (by omega)) (Nat.le_refl _) (fun _ _ h => h)) (fM_R (X := fun x => x = q) rfl) (Nat.le_refl _) (fun _ _ h => h)) (fM_N (X := fun x => x = q) (by omega)) (Nat.le_refl _) (fun _ _ h => h)) (fM_R (X := fun x => x = q) rfl) (Nat.le_refl _) (fun _ _ h => h)) (fM_N (X := fun x => x = q) (by omega)) (Nat.le_refl _) (fun _ _ h => h)) (fM_R (X := fun x => x = q) rfl) (Nat.le_refl _) (fun _ _ h => h)) (fM_N (X := fun x => x = q) (by omega)) (Nat.le_refl _) (fun _ _ h => h)) (fM_R (X := fun x => x = q) rfl) (Nat.le_refl _) (fun _ _ h => h)
theorem S_X2init (h : mk m q = 2) : wq (f_X2_init (q + 1) m q) (fun z => z.1 = q + 6 ∧ vB q z.2 ∧ (∀ j, mi z.2 q j = mi m q j) ∧ fM (q + 1) (fun x => x = q) m z.2) := by
  unfold f_X2_init
  refine w_i (by simp (disch := omega) only [vin, mk_I, ml_I, mr_I, mk_R, ml_R, mi_R, mkN_eq, mlN_eq, miN_eq, mkN_ne, mlN_ne, miN_ne, mrN_ne, mi_eq, mi_na, mi_nj, mr_eq, mr_na, mr_nj, xL0, xL1, xL2, xL3, xL4, xL5, xL6, xL7, xL8, xL9, xL10, xL12, xL16, xL20, xL24, xL31, xL50, xL60, xL89, xL99, xL100, xL200, xI_add, xI_sub, xI_mul, xI_neg, xI_nat, xI_cl, Int.toNat_natCast, Int.reduceToNat, xltT, xltF, xleT, xleF, xeqT, xeqF, nleT, nleF, nltT, nltF, neqT, neqF, ileT, ileF, iltT, iltF, ieqT, ieqF, or_false, or_true, false_or, true_or, and_true, true_and, and_false, false_and, not_false_eq_true, not_true_eq_false, ↓reduceIte, if_true, if_false, h]) ?_
  refine w_s ⟨by show q + 1 + 1 + 1 + 1 + 1 + 1 = q + 6; omega, ?_, fun j => ?_, ?_⟩
  · refine ⟨?_, ?_, ?_, ?_, ?_, ?_, ?_, ?_, ?_, ?_, ?_, ?_, ?_, ?_, ?_, ?_⟩ <;> simp (disch := omega) only [vin, mk_I, ml_I, mr_I, mk_R, ml_R, mi_R, mkN_eq, mlN_eq, miN_eq, mkN_ne, mlN_ne, miN_ne, mrN_ne, mi_eq, mi_na, mi_nj, mr_eq, mr_na, mr_nj, xL0, xL1, xL2, xL3, xL4, xL5, xL6, xL7, xL8, xL9, xL10, xL12, xL16, xL20, xL24, xL31, xL50, xL60, xL89, xL99, xL100, xL200, xI_add, xI_sub, xI_mul, xI_neg, xI_nat, xI_cl, Int.toNat_natCast, Int.reduceToNat, xltT, xltF, xleT, xleF, xeqT, xeqF, nleT, nleF, nltT, nltF, neqT, neqF, ileT, ileF, iltT, iltF, ieqT, ieqF, or_false, or_true, false_or, true_or, and_true, true_and, and_false, false_and, not_false_eq_true, not_true_eq_false, ↓reduceIte, if_true, if_false, h]
  · simp (disch := omega) only [mk_I, ml_I, mr_I, mk_R, ml_R, mi_R, mkN_eq, mlN_eq, miN_eq, mkN_ne, mlN_ne, miN_ne, mrN_ne, mi_eq, mi_na, mi_nj, mr_eq, mr_na, mr_nj]
  · refine fM_trans (fM_trans (fM_trans (fM_trans (fM_trans (fM_trans (fM_trans (fM_trans (fM_trans (fM_N (by omega)) (fM_R (X := fun x => x = q) rfl) (Nat.le_refl _) (fun _ _ h => h)) (fM_N (X := fun x => x = q) (by omega)) (Nat.le_refl _) (fun _ _ h => h)) (fM_R (X := fun x => x = q) rfl) (Nat.le_refl _) (fun _ _ h => h)) (fM_N (X := fun x => x = q) (by omega)) (Nat.le_refl _) (fun _ _ h => h)) (fM_R (X := fun x => x = q) rfl) (Nat.le_refl _) (fun _ _ h => h)) (fM_N (X := fun x => x = q) (by omega)) (Nat.le_refl _) (fun _ _ h => h)) (fM_R (X := fun x => x = q) rfl) (Nat.le_refl _) (fun _ _ h => h)) (fM_N (X := fun x => x = q) (by omega)) (Nat.le_refl _) (fun _ _ h => h)) (fM_R (X := fun x => x = q) rfl) (Nat.le_refl _) (fun _ _ h => h)
/-- a vault half made: i doors are there; all its numbers are 0 -/
def VBi (b : Nat) (m : vM) (i : Nat) : Prop := (mk m b = 1 ∧ mr m b 2 = some (b + 1) ∧ mr m b 3 = some (b + 2) ∧ mr m b 4 = some (b + 8) ∧ mk m (b + 1) = 7 ∧ ml m (b + 1) = 10 ∧ vB (b + 2) m ∧ vB (b + 8) m ∧ ∀ k, k < i → mr m (b + 1) k = some (b + 14 + 6 * k) ∧ dB (b + 14 + 6 * k) m) ∧ (∀ j, mi m b j = 0) ∧ (∀ j, mi m (b + 2) j = 0) ∧ ∀ k, k < i → ∀ j, mi m (b + 14 + 6 * k) j = 0
theorem VBi_fr {i : Nat} (h : VBi b m i) (f : fM N X m m') (hN : b + 14 + 6 * i ≤ N) (hX : ∀ x, b ≤ x → x < N → X x → x = b + 1) (hr : ∀ k, k < i → mr m' (b + 1) k = mr m (b + 1) k) : VBi b m' i := by
  obtain ⟨⟨h0, h1, h2, h3, h4, h5, h6, h7, h8⟩, g0, g2, g3⟩ := h
  have e : ∀ x, b ≤ x → x < N → x ≠ b + 1 → m'.1 x = m.1 x ∧ m'.2.1 x = m.2.1 x ∧ m'.2.2.2 x = m.2.2.2 x := by
    intro x hb hx hne
    have g := f x hx
    have g2 := g.2 (fun hxx => hne (hX x hb hx hxx))
    exact ⟨g.1.1, g.1.2, g2.2⟩
  have nx : ∀ x, b ≤ x → x < N → x ≠ b + 1 → ¬ X x := fun x hb hx hne hxx => hne (hX x hb hx hxx)
  refine ⟨⟨?_, ?_, ?_, ?_, ?_, ?_, vB_fr h6 (fun x g1 g2 => e x (by omega) (by omega) (by omega)), vB_fr h7 (fun x g1 g2 => e x (by omega) (by omega) (by omega)), fun k hk => ⟨by rw [hr k hk]; exact (h8 k hk).1, dB_fr (h8 k hk).2 (fun x g1 g2 => e x (by omega) (by omega) (by omega))⟩⟩, fun j => ?_, fun j => ?_, fun k hk j => ?_⟩
  · rw [fM_k f (by omega)]; exact h0
  · rw [fM_r f (by omega) (nx b (by omega) (by omega) (by omega))]; exact h1
  · rw [fM_r f (by omega) (nx b (by omega) (by omega) (by omega))]; exact h2
  · rw [fM_r f (by omega) (nx b (by omega) (by omega) (by omega))]; exact h3
  · rw [fM_k f (by omega)]; exact h4
  · rw [fM_l f (by omega)]; exact h5
  · rw [fM_i f (by omega) (nx b (by omega) (by omega) (by omega))]; exact g0 j
  · rw [fM_i f (by omega) (nx (b + 2) (by omega) (by omega) (by omega))]; exact g2 j
  · rw [fM_i f (by omega) (nx _ (by omega) (by omega) (by omega))]; exact g3 k hk j
theorem L_X1init : ∀ r i, i + r = 10 → ∀ (m : vM) (kc ks : Nat), VBi b m i → kc = 13 + 6 * i → ks = 624 + 146 * i → ∀ f, r < f → wq (fL_X1_init f 37 (b + 14 + 6 * i) m kc ks b (xI (i : Nat))) (fun z => z.1 = b + 74 ∧ VBi b z.2 10 ∧ fM (b + 14 + 6 * i) (fun x => x = b + 1) m z.2) := by
  intro r
  induction r with
  | zero =>
    intro i hi m kc ks h hc1 hc2 f hf
    obtain ⟨g, rfl⟩ : ∃ g, f = g + 1 := ⟨f - 1, by omega⟩
    have hi : i = 10 := by omega
    subst hi
    show wq (fB_X1_init_37 (fL_X1_init g) (b + 14 + 6 * 10) m kc ks b (xI ((10 : Nat) : Int))) _
    unfold fB_X1_init_37
    refine w_i (by decide) ?_
    exact w_s ⟨rfl, h, fM_rfl⟩
  | succ r ih =>
    intro i hi m kc ks h hc1 hc2 f hf
    obtain ⟨g, rfl⟩ : ∃ g, f = g + 1 := ⟨f - 1, by omega⟩
    have h0 := h
    obtain ⟨⟨h0', h1, h2, h3, h4, h5, h6, h7, h8⟩, g0, g2, g3⟩ := h
    show wq (fB_X1_init_37 (fL_X1_init g) (b + 14 + 6 * i) m kc ks b (xI (i : Nat))) _
    unfold fB_X1_init_37
    refine w_n (by simp (disch := omega) only [vin, mk_I, ml_I, mr_I, mk_R, ml_R, mi_R, mkN_eq, mlN_eq, miN_eq, mkN_ne, mlN_ne, miN_ne, mrN_ne, mi_eq, mi_na, mi_nj, mr_eq, mr_na, mr_nj, xL0, xL1, xL2, xL3, xL4, xL5, xL6, xL7, xL8, xL9, xL10, xL12, xL16, xL20, xL24, xL31, xL50, xL60, xL89, xL99, xL100, xL200, xI_add, xI_sub, xI_mul, xI_neg, xI_nat, xI_cl, Int.toNat_natCast, Int.reduceToNat, xltT, xltF, xleT, xleF, xeqT, xeqF, nleT, nleF, nltT, nltF, neqT, neqF, ileT, ileF, iltT, iltF, ieqT, ieqF, or_false, or_true, false_or, true_or, and_true, true_and, and_false, false_and, not_false_eq_true, not_true_eq_false, ↓reduceIte, if_true, if_false]) ?_
    refine w_i h0' ?_
    refine w_b h1 ?_
    refine w_i (by omega) ?_
    refine w_i (by omega) ?_
    refine w_c (S_X0init (q := b + 14 + 6 * i) (m := mN m (b + 14 + 6 * i) 0 0) mkN_eq) ?_
    rintro ⟨N1, m1⟩ ⟨e1, e2, e3, e4⟩
    have e1 : N1 = b + 14 + 6 * i + 6 := e1
    subst e1
    dsimp only at e2 e3 e4 ⊢
    refine w_i (by omega) ?_
    refine w_i (by omega) ?_
    have f1 : fM (b + 14 + 6 * i) (fun x => x = b + 14 + 6 * i) m m1 := fM_trans (fM_N (Nat.le_refl _)) e4 (Nat.le_succ _) (fun _ _ h => h)
    have i7 : mk m1 (b + 1) = 7 := by rw [fM_k f1 (by omega)]; exact h4
    have i10 : ml m1 (b + 1) = 10 := by rw [fM_l f1 (by omega)]; exact h5
    refine w_i i7 ?_
    refine w_i e2.1 ?_
    refine w_i (by simp (disch := omega) only [vin, mk_I, ml_I, mr_I, mk_R, ml_R, mi_R, mkN_eq, mlN_eq, miN_eq, mkN_ne, mlN_ne, miN_ne, mrN_ne, mi_eq, mi_na, mi_nj, mr_eq, mr_na, mr_nj, xL0, xL1, xL2, xL3, xL4, xL5, xL6, xL7, xL8, xL9, xL10, xL12, xL16, xL20, xL24, xL31, xL50, xL60, xL89, xL99, xL100, xL200, xI_add, xI_sub, xI_mul, xI_neg, xI_nat, xI_cl, Int.toNat_natCast, Int.reduceToNat, xltT, xltF, xleT, xleF, xeqT, xeqF, nleT, nleF, nltT, nltF, neqT, neqF, ileT, ileF, iltT, iltF, ieqT, ieqF, or_false, or_true, false_or, true_or, and_true, true_and, and_false, false_and, not_false_eq_true, not_true_eq_false, ↓reduceIte, if_true, if_false, i10]) ?_
    rw [show xI (i : Nat) + 1 = xI ((i + 1 : Nat) : Int) by rw [xL1, xI_add]; rfl, show (xI (i : Nat)).toNatClampNeg = i by simp (disch := omega) only [vin, mk_I, ml_I, mr_I, mk_R, ml_R, mi_R, mkN_eq, mlN_eq, miN_eq, mkN_ne, mlN_ne, miN_ne, mrN_ne, mi_eq, mi_na, mi_nj, mr_eq, mr_na, mr_nj, xL0, xL1, xL2, xL3, xL4, xL5, xL6, xL7, xL8, xL9, xL10, xL12, xL16, xL20, xL24, xL31, xL50, xL60, xL89, xL99, xL100, xL200, xI_add, xI_sub, xI_mul, xI_neg, xI_nat, xI_cl, Int.toNat_natCast, Int.reduceToNat, xltT, xltF, xleT, xleF, xeqT, xeqF, nleT, nleF, nltT, nltF, neqT, neqF, ileT, ileF, iltT, iltF, ieqT, ieqF, or_false, or_true, false_or, true_or, and_true, true_and, and_false, false_and, not_false_eq_true, not_true_eq_false, ↓reduceIte, if_true, if_false]]
    have f2 : fM (b + 14 + 6 * i) (fun x => x = b + 1) m (mR m1 (b + 1) i (some (b + 14 + 6 * i))) := fM_trans (fM_w (Y := fun x => x = b + 1) f1 (fun x hx g => by omega)) (fM_R (X := fun x => x = b + 1) rfl) (Nat.le_refl _) (fun _ _ h => h)
    have hb1 : b + 14 + 6 * i ≠ b + 1 := by omega
    have hV : VBi b (mR m1 (b + 1) i (some (b + 14 + 6 * i))) (i + 1) := by
      have h9 := VBi_fr h0 f2 (Nat.le_refl _) (fun x _ _ h => h) (fun k hk => by rw [mr_nj (by omega), fM_r f1 (by omega) (by omega)])
      obtain ⟨⟨a0, a1, a2, a3, a4, a5, a6, a7, a8⟩, c0, c2, c3⟩ := h9
      refine ⟨⟨a0, a1, a2, a3, a4, a5, a6, a7, fun k hk => ?_⟩, c0, c2, fun k hk j => ?_⟩
      · by_cases e : k = i
        · subst e
          refine ⟨mr_eq, dB_fr e2 (fun x g1 g2 => ⟨rfl, rfl, ?_⟩)⟩
          funext y; exact mr_na (by omega)
        · exact a8 k (by omega)
      · by_cases e : k = i
        · subst e
          rw [mi_R, e3]; exact miN_eq
        · exact c3 k (by omega) j
    have h9 := ih (i + 1) (by omega) (mR m1 (b + 1) i (some (b + 14 + 6 * i))) (kc + 1 + 5) (ks + 14 + 132) hV (by omega) (by omega) g (by omega)
    rw [show b + 14 + 6 * (i + 1) = b + 14 + 6 * i + 6 by omega] at h9
    refine w_m h9 ?_
    rintro z ⟨p1, p2, p3⟩
    exact ⟨p1, p2, fM_trans f2 p3 (by omega) (fun x _ h => h)⟩
theorem S_X1init (h : mk m b = 1) (h0 : ∀ j, mi m b j = 0) : wq (f_X1_init (b + 1) m b) (fun z => z.1 = b + 74 ∧ VBi b z.2 10 ∧ fM (b + 1) (fun x => x = b) m z.2) := by
  unfold f_X1_init
  refine w_i (by simp (disch := omega) only [vin, mk_I, ml_I, mr_I, mk_R, ml_R, mi_R, mkN_eq, mlN_eq, miN_eq, mkN_ne, mlN_ne, miN_ne, mrN_ne, mi_eq, mi_na, mi_nj, mr_eq, mr_na, mr_nj, xL0, xL1, xL2, xL3, xL4, xL5, xL6, xL7, xL8, xL9, xL10, xL12, xL16, xL20, xL24, xL31, xL50, xL60, xL89, xL99, xL100, xL200, xI_add, xI_sub, xI_mul, xI_neg, xI_nat, xI_cl, Int.toNat_natCast, Int.reduceToNat, xltT, xltF, xleT, xleF, xeqT, xeqF, nleT, nleF, nltT, nltF, neqT, neqF, ileT, ileF, iltT, iltF, ieqT, ieqF, or_false, or_true, false_or, true_or, and_true, true_and, and_false, false_and, not_false_eq_true, not_true_eq_false, ↓reduceIte, if_true, if_false, h]) ?_
  generalize hm1 : mN (mR (mN m (b + 1) 7 10) b 2 (some (b + 1))) (b + 1 + 1) 2 0 = m1
  have f1 : fM (b + 1) (fun x => x = b) m m1 := by
    rw [← hm1]
    exact fM_trans (fM_trans (fM_N (Nat.le_refl _)) (fM_R (X := fun x => x = b) rfl) (Nat.le_refl _) (fun _ _ h => h)) (fM_N (X := fun x => x = b) (by omega)) (Nat.le_refl _) (fun _ _ h => h)
  have a1 : mk m1 b = 1 := by rw [← hm1]; simp (disch := omega) only [vin, mk_I, ml_I, mr_I, mk_R, ml_R, mi_R, mkN_eq, mlN_eq, miN_eq, mkN_ne, mlN_ne, miN_ne, mrN_ne, mi_eq, mi_na, mi_nj, mr_eq, mr_na, mr_nj, xL0, xL1, xL2, xL3, xL4, xL5, xL6, xL7, xL8, xL9, xL10, xL12, xL16, xL20, xL24, xL31, xL50, xL60, xL89, xL99, xL100, xL200, xI_add, xI_sub, xI_mul, xI_neg, xI_nat, xI_cl, Int.toNat_natCast, Int.reduceToNat, xltT, xltF, xleT, xleF, xeqT, xeqF, nleT, nleF, nltT, nltF, neqT, neqF, ileT, ileF, iltT, iltF, ieqT, ieqF, or_false, or_true, false_or, true_or, and_true, true_and, and_false, false_and, not_false_eq_true, not_true_eq_false, ↓reduceIte, if_true, if_false, h]
  have a2 : mr m1 b 2 = some (b + 1) := by rw [← hm1]; simp (disch := omega) only [vin, mk_I, ml_I, mr_I, mk_R, ml_R, mi_R, mkN_eq, mlN_eq, miN_eq, mkN_ne, mlN_ne, miN_ne, mrN_ne, mi_eq, mi_na, mi_nj, mr_eq, mr_na, mr_nj, xL0, xL1, xL2, xL3, xL4, xL5, xL6, xL7, xL8, xL9, xL10, xL12, xL16, xL20, xL24, xL31, xL50, xL60, xL89, xL99, xL100, xL200, xI_add, xI_sub, xI_mul, xI_neg, xI_nat, xI_cl, Int.toNat_natCast, Int.reduceToNat, xltT, xltF, xleT, xleF, xeqT, xeqF, nleT, nleF, nltT, nltF, neqT, neqF, ileT, ileF, iltT, iltF, ieqT, ieqF, or_false, or_true, false_or, true_or, and_true, true_and, and_false, false_and, not_false_eq_true, not_true_eq_false, ↓reduceIte, if_true, if_false]
  have a3 : ∀ j, mi m1 b j = 0 := fun j => by rw [← hm1]; simp (disch := omega) only [mk_I, ml_I, mr_I, mk_R, ml_R, mi_R, mkN_eq, mlN_eq, miN_eq, mkN_ne, mlN_ne, miN_ne, mrN_ne, mi_eq, mi_na, mi_nj, mr_eq, mr_na, mr_nj, h0]
  have a4 : mk m1 (b + 1) = 7 := by rw [← hm1]; simp (disch := omega) only [vin, mk_I, ml_I, mr_I, mk_R, ml_R, mi_R, mkN_eq, mlN_eq, miN_eq, mkN_ne, mlN_ne, miN_ne, mrN_ne, mi_eq, mi_na, mi_nj, mr_eq, mr_na, mr_nj, xL0, xL1, xL2, xL3, xL4, xL5, xL6, xL7, xL8, xL9, xL10, xL12, xL16, xL20, xL24, xL31, xL50, xL60, xL89, xL99, xL100, xL200, xI_add, xI_sub, xI_mul, xI_neg, xI_nat, xI_cl, Int.toNat_natCast, Int.reduceToNat, xltT, xltF, xleT, xleF, xeqT, xeqF, nleT, nleF, nltT, nltF, neqT, neqF, ileT, ileF, iltT, iltF, ieqT, ieqF, or_false, or_true, false_or, true_or, and_true, true_and, and_false, false_and, not_false_eq_true, not_true_eq_false, ↓reduceIte, if_true, if_false]
  have a5 : ml m1 (b + 1) = 10 := by rw [← hm1]; simp (disch := omega) only [vin, mk_I, ml_I, mr_I, mk_R, ml_R, mi_R, mkN_eq, mlN_eq, miN_eq, mkN_ne, mlN_ne, miN_ne, mrN_ne, mi_eq, mi_na, mi_nj, mr_eq, mr_na, mr_nj, xL0, xL1, xL2, xL3, xL4, xL5, xL6, xL7, xL8, xL9, xL10, xL12, xL16, xL20, xL24, xL31, xL50, xL60, xL89, xL99, xL100, xL200, xI_add, xI_sub, xI_mul, xI_neg, xI_nat, xI_cl, Int.toNat_natCast, Int.reduceToNat, xltT, xltF, xleT, xleF, xeqT, xeqF, nleT, nleF, nltT, nltF, neqT, neqF, ileT, ileF, iltT, iltF, ieqT, ieqF, or_false, or_true, false_or, true_or, and_true, true_and, and_false, false_and, not_false_eq_true, not_true_eq_false, ↓reduceIte, if_true, if_false]
  have a6 : mk m1 (b + 2) = 2 := by rw [← hm1]; show mk (mN _ (b + 2) 2 0) (b + 2) = 2; exact mkN_eq
  have a7 : ∀ j, mi m1 (b + 2) j = 0 := fun j => by rw [← hm1]; show mi (mN _ (b + 2) 2 0) (b + 2) j = 0; exact miN_eq
  clear hm1
  refine w_c (S_X2init (q := b + 2) a6) ?_
  rintro ⟨N2, m2⟩ ⟨e1, e2, e3, e4⟩
  have e1 : N2 = b + 8 := e1
  subst e1
  dsimp only at e2 e3 e4 ⊢
  refine w_i (by rw [fM_k e4 (by omega)]; exact a1) ?_
  generalize hm3 : mN (mR m2 b 3 (some (b + 1 + 1))) (b + 8) 2 0 = m3
  have f3 : fM (b + 8) (fun x => x = b) m2 m3 := by
    rw [← hm3]; exact fM_trans (fM_R (X := fun x => x = b) rfl) (fM_N (X := fun x => x = b) (Nat.le_refl _)) (Nat.le_refl _) (fun _ _ h => h)
  have b3 : mr m3 b 3 = some (b + 2) := by rw [← hm3]; simp (disch := omega) only [vin, mk_I, ml_I, mr_I, mk_R, ml_R, mi_R, mkN_eq, mlN_eq, miN_eq, mkN_ne, mlN_ne, miN_ne, mrN_ne, mi_eq, mi_na, mi_nj, mr_eq, mr_na, mr_nj, xL0, xL1, xL2, xL3, xL4, xL5, xL6, xL7, xL8, xL9, xL10, xL12, xL16, xL20, xL24, xL31, xL50, xL60, xL89, xL99, xL100, xL200, xI_add, xI_sub, xI_mul, xI_neg, xI_nat, xI_cl, Int.toNat_natCast, Int.reduceToNat, xltT, xltF, xleT, xleF, xeqT, xeqF, nleT, nleF, nltT, nltF, neqT, neqF, ileT, ileF, iltT, iltF, ieqT, ieqF, or_false, or_true, false_or, true_or, and_true, true_and, and_false, false_and, not_false_eq_true, not_true_eq_false, ↓reduceIte, if_true, if_false]
  have b2 : mr m3 b 2 = some (b + 1) := by
    rw [← hm3, mrN_ne (by omega), mr_nj (by omega), fM_r e4 (by omega) (by omega)]; exact a2
  have bi : ∀ j, mi m3 b j = 0 := fun j => by rw [← hm3, miN_ne (by omega), mi_R, fM_i e4 (by omega) (by omega)]; exact a3 j
  have b8 : mk m3 (b + 8) = 2 := by rw [← hm3]; exact mkN_eq
  clear hm3
  have f23 : fM (b + 3) (fun x => x = b + 2 ∨ x = b) m1 m3 := fM_trans (fM_w e4 (fun x _ h => .inl h)) (fM_w f3 (fun x _ h => .inr h)) (by omega) (fun x _ h => h)
  refine w_c (S_X2init (q := b + 8) b8) ?_
  rintro ⟨N4, m4⟩ ⟨p1, p2, p3, p4⟩
  have p1 : N4 = b + 14 := p1
  subst p1
  dsimp only at p2 p3 p4 ⊢
  have f14 : fM (b + 3) (fun x => x = b + 2 ∨ x = b) m1 m4 := fM_trans f23 (fM_w (Y := fun x => x = b + 8) p4 (fun x _ h => h)) (by omega) (fun x hx h => by omega)
  refine w_i (by rw [fM_k f14 (by omega)]; exact a1) ?_
  have hV : VBi b (mR m4 b 4 (some (b + 8))) 0 := by
    refine ⟨⟨?_, ?_, ?_, mr_eq, ?_, ?_, ?_, ?_, fun k hk => by omega⟩, fun j => ?_, fun j => ?_, fun k hk => by omega⟩
    · show mk m4 b = 1; rw [fM_k f14 (by omega)]; exact a1
    · rw [mr_nj (by omega), fM_r p4 (by omega) (by omega)]; exact b2
    · rw [mr_nj (by omega), fM_r p4 (by omega) (by omega)]; exact b3
    · show mk m4 (b + 1) = 7; rw [fM_k f14 (by omega)]; exact a4
    · show ml m4 (b + 1) = 10; rw [fM_l f14 (by omega)]; exact a5
    · refine vB_fr e2 (fun x g1 g2 => ?_)
      have g3 := f3 x (by omega)
      have g4 := p4 x (by omega)
      refine ⟨g4.1.1.trans g3.1.1, g4.1.2.trans g3.1.2, ?_⟩
      rw [← (g3.2 (by omega)).2, ← (g4.2 (by omega)).2]
      funext y; exact mr_na (by omega)
    · refine vB_fr p2 (fun x g1 g2 => ⟨rfl, rfl, ?_⟩)
      funext y; exact mr_na (by omega)
    · rw [mi_R, fM_i p4 (by omega) (by omega)]; exact bi j
    · rw [mi_R, fM_i p4 (by omega) (by omega), fM_i f3 (by omega) (by omega), e3]; exact a7 j
  have h9 := L_X1init (b := b) 10 0 (by omega) _ (0 + 1 + 1 + 5 + 1 + 5) (0 + 10 + 7 + 300 + 7 + 300) hV (by omega) (by omega) vF (by unfold vF; omega)
  refine w_m h9 ?_
  rintro z ⟨t1, t2, t3⟩
  refine ⟨t1, t2, ?_⟩
  have f5 : fM (b + 1) (fun x => x = b) m (mR m4 b 4 (some (b + 8))) := fM_trans (fM_trans f1 f14 (by omega) (fun x hx h => by omega)) (fM_R (X := fun x => x = b) rfl) (Nat.le_refl _) (fun _ _ h => h)
  exact fM_trans f5 t3 (by omega) (fun x hx h => by omega)
theorem VBi_VB (h : VBi b m 10) : VB b m := h.1
theorem S_X3init : wq (f_X3_init 1 (mN m 0 3 0) 0) (fun z => z.1 = 149 ∧ VV z.2 ∧ (∀ j, mi z.2 1 j = 0) ∧ (∀ j, mi z.2 3 j = 0) ∧ ∀ k, k < 10 → ∀ j, mi z.2 (1 + 14 + 6 * k) j = 0) := by
  unfold f_X3_init
  refine w_c (S_X1init (b := 1) (m := mN (mN m 0 3 0) 1 1 0) mkN_eq (fun _ => miN_eq)) ?_
  rintro ⟨N1, m1⟩ ⟨e1, e2, e3⟩
  have e1 : N1 = 75 := e1
  subst e1
  dsimp only at e2 e3 ⊢
  have a0 : mk m1 0 = 3 := by rw [fM_k e3 (by omega), mkN_ne (by omega)]; exact mkN_eq
  refine w_i a0 ?_
  generalize hm2 : mN (mR m1 0 0 (some 1)) 75 1 0 = m2
  have f2 : fM 75 (fun x => x = 0) m1 m2 := by
    rw [← hm2]; exact fM_trans (fM_R (X := fun x => x = 0) rfl) (fM_N (X := fun x => x = 0) (Nat.le_refl _)) (Nat.le_refl _) (fun _ _ h => h)
  have h2 : VBi 1 m2 10 := VBi_fr e2 f2 (by omega) (fun x _ _ h => by omega) (fun k hk => by rw [fM_r f2 (by omega) (by omega)])
  have b0 : mr m2 0 0 = some 1 := by rw [← hm2]; simp (disch := omega) only [vin, mk_I, ml_I, mr_I, mk_R, ml_R, mi_R, mkN_eq, mlN_eq, miN_eq, mkN_ne, mlN_ne, miN_ne, mrN_ne, mi_eq, mi_na, mi_nj, mr_eq, mr_na, mr_nj, xL0, xL1, xL2, xL3, xL4, xL5, xL6, xL7, xL8, xL9, xL10, xL12, xL16, xL20, xL24, xL31, xL50, xL60, xL89, xL99, xL100, xL200, xI_add, xI_sub, xI_mul, xI_neg, xI_nat, xI_cl, Int.toNat_natCast, Int.reduceToNat, xltT, xltF, xleT, xleF, xeqT, xeqF, nleT, nleF, nltT, nltF, neqT, neqF, ileT, ileF, iltT, iltF, ieqT, ieqF, or_false, or_true, false_or, true_or, and_true, true_and, and_false, false_and, not_false_eq_true, not_true_eq_false, ↓reduceIte, if_true, if_false]
  have b1 : mk m2 75 = 1 := by rw [← hm2]; exact mkN_eq
  have b2 : ∀ j, mi m2 75 j = 0 := fun j => by rw [← hm2]; exact miN_eq
  have b3 : mk m2 0 = 3 := by rw [fM_k f2 (by omega)]; exact a0
  clear hm2
  refine w_c (S_X1init (b := 75) b1 b2) ?_
  rintro ⟨N3, m3⟩ ⟨p1, p2, p3⟩
  have p1 : N3 = 149 := p1
  subst p1
  dsimp only at p2 p3 ⊢
  refine w_i (by rw [fM_k p3 (by omega)]; exact b3) ?_
  have h3 : VBi 1 m3 10 := VBi_fr (N := 75) h2 (fM_w (Y := fun _ => False) (fun x hx => p3 x (by omega)) (fun x hx h => by have h : x = 75 := h; omega)) (by omega) (fun x _ _ h => h.elim) (fun k hk => by rw [fM_r p3 (by omega) (by omega)])
  have f4 : fM 149 (fun x => x = 0) m3 (mR m3 0 1 (some 75)) := fM_R rfl
  have h4 : VBi 1 (mR m3 0 1 (some 75)) 10 := VBi_fr (N := 75) h3 (fun x hx => f4 x (by omega)) (by omega) (fun x _ _ h => by have h : x = 0 := h; omega) (fun k hk => by rw [mr_na (by omega)])
  have h5 : VBi 75 (mR m3 0 1 (some 75)) 10 := VBi_fr (N := 149) p2 f4 (by omega) (fun x _ _ h => by have h : x = 0 := h; omega) (fun k hk => by rw [mr_na (by omega)])
  refine w_s ⟨rfl, ⟨?_, ?_, mr_eq, h4.1, h5.1⟩, h4.2.1, h4.2.2.1, h4.2.2.2⟩
  · show mk m3 0 = 3; rw [fM_k p3 (by omega)]; exact b3
  · rw [mr_nj (by omega), fM_r p3 (by omega) (by omega)]; exact b0
end
