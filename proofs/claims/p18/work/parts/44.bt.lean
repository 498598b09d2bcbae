/-! numbers out of cells -/
def lb (x : Int32) (n : Int) : Nat := ((x &&& 2147483647) - (x &&& 2147483647) / xI n * xI n).toNatClampNeg
theorem and_pos (x : Int32) : 0 ≤ (x &&& 2147483647).toInt := by
  show 0 ≤ (x &&& 2147483647).toBitVec.toInt
  apply BitVec.toInt_nonneg_of_msb_false
  rw [Int32.toBitVec_and, BitVec.msb_and]
  have : (2147483647 : Int32).toBitVec.msb = false := by decide
  rw [this, Bool.and_false]
theorem lb_eq (x : Int32) {n : Int} (hn : 0 < n ∧ n ≤ 1000) : (x &&& 2147483647) - (x &&& 2147483647) / xI n * xI n = xI ((lb x n : Nat) : Int) ∧ ((lb x n : Nat) : Int) < n := by
  have h0 := and_pos x
  have h1 := (x &&& 2147483647).toInt_lt
  have e0 : (x &&& 2147483647) = xI (x &&& 2147483647).toInt := (Int32.ofInt_toInt _).symm
  unfold lb
  generalize (x &&& 2147483647).toInt = y at h0 h1 e0
  rw [e0]
  have hy : y < 2147483648 := h1
  have e1 : xI y / xI n = xI (y / n) := by
    have h9 := Int32.ofInt_tdiv (a := y) (b := n) (by show (-2147483648 : Int) ≤ y; omega) (by show y ≤ 2147483647; omega) (by show (-2147483648 : Int) ≤ n; omega) (by show n ≤ 2147483647; omega)
    rw [Int.tdiv_eq_ediv_of_nonneg h0] at h9
    exact h9.symm
  have h2 := Int.emod_nonneg y (show n ≠ 0 by omega)
  have h3 := Int.emod_lt_of_pos y hn.1
  have e2 : y - y / n * n = y % n := by
    have := Int.emod_add_mul_ediv y n
    rw [Int.mul_comm n (y / n)] at this
    omega
  rw [e1, xI_mul, xI_sub, e2, xI_cl (by omega)]
  have e3 : (((y % n).toNat : Nat) : Int) = y % n := Int.toNat_of_nonneg h2
  rw [e3]
  exact ⟨rfl, h3⟩
theorem S_below {m : vM} {x : Int32} {n : Int} (hn : 0 < n ∧ n ≤ 1000) : f_L_below m x (xI n) = some (xI ((lb x n : Nat) : Int)) := by
  unfold f_L_below
  rw [if_pos (by rw [xL0, xeqF (by omega)]; exact fun h => h), (lb_eq x hn).1]
def lc (L : Nat) (xs : Nat → Int32) (i : Int) : Int32 := if (L : Int) ≤ i then 790386105 * (xI i + 3) else xs i.toNat
theorem S_cell {m : vM} {L : Nat} {xs : Nat → Int32} {i : Int} (hL : L ≤ 1000) (hi : 0 ≤ i ∧ i ≤ 1000) : f_L_cell L xs m (xI i) = some (lc L xs i) := by
  unfold f_L_cell lc
  by_cases e : (L : Int) ≤ i
  · rw [if_pos e, if_pos (by simp (disch := omega) only [vin, mk_I, ml_I, mr_I, mk_R, ml_R, mi_R, mkN_eq, mlN_eq, miN_eq, mkN_ne, mlN_ne, miN_ne, mrN_ne, mi_eq, mi_na, mi_nj, mr_eq, mr_na, mr_nj, xL0, xL1, xL2, xL3, xL4, xL5, xL6, xL7, xL8, xL9, xL10, xL12, xL16, xL20, xL24, xL31, xL50, xL60, xL89, xL99, xL100, xL200, xI_add, xI_sub, xI_mul, xI_neg, xI_nat, xI_cl, Int.toNat_natCast, Int.reduceToNat, xltT, xltF, xleT, xleF, xeqT, xeqF, nleT, nleF, nltT, nltF, neqT, neqF, ileT, ileF, iltT, iltF, ieqT, ieqF, or_false, or_true, false_or, true_or, and_true, true_and, and_false, false_and, not_false_eq_true, not_true_eq_false, ↓reduceIte, if_true, if_false])]
  · rw [if_neg e, if_neg (by simp (disch := omega) only [vin, mk_I, ml_I, mr_I, mk_R, ml_R, mi_R, mkN_eq, mlN_eq, miN_eq, mkN_ne, mlN_ne, miN_ne, mrN_ne, mi_eq, mi_na, mi_nj, mr_eq, mr_na, mr_nj, xL0, xL1, xL2, xL3, xL4, xL5, xL6, xL7, xL8, xL9, xL10, xL12, xL16, xL20, xL24, xL31, xL50, xL60, xL89, xL99, xL100, xL200, xI_add, xI_sub, xI_mul, xI_neg, xI_nat, xI_cl, Int.toNat_natCast, Int.reduceToNat, xltT, xltF, xleT, xleF, xeqT, xeqF, nleT, nleF, nltT, nltF, neqT, neqF, ileT, ileF, iltT, iltF, ieqT, ieqF, or_false, or_true, false_or, true_or, and_true, true_and, and_false, false_and, not_false_eq_true, not_true_eq_false, ↓reduceIte, if_true, if_false]), if_pos (by simp (disch := omega) only [vin, mk_I, ml_I, mr_I, mk_R, ml_R, mi_R, mkN_eq, mlN_eq, miN_eq, mkN_ne, mlN_ne, miN_ne, mrN_ne, mi_eq, mi_na, mi_nj, mr_eq, mr_na, mr_nj, xL0, xL1, xL2, xL3, xL4, xL5, xL6, xL7, xL8, xL9, xL10, xL12, xL16, xL20, xL24, xL31, xL50, xL60, xL89, xL99, xL100, xL200, xI_add, xI_sub, xI_mul, xI_neg, xI_nat, xI_cl, Int.toNat_natCast, Int.reduceToNat, xltT, xltF, xleT, xleF, xeqT, xeqF, nleT, nleF, nltT, nltF, neqT, neqF, ileT, ileF, iltT, iltF, ieqT, ieqF, or_false, or_true, false_or, true_or, and_true, true_and, and_false, false_and, not_false_eq_true, not_true_eq_false, ↓reduceIte, if_true, if_false]), xI_cl (by omega)]
/-! class and reference side by side -/
def CV (m : vM) (S : aS) : Prop := VV m ∧ RS 1 m.2.2.1 S
section
variable {m m' : vM} {N N' s k y b q : Nat} {X : Nat → Prop} {D : zD} {Z : zS} {S : aS} {τ : aN}
theorem dB_fr (h : dB q m) (e : ∀ x, q ≤ x → x < q + 6 → m'.1 x = m.1 x ∧ m'.2.1 x = m.2.1 x ∧ m'.2.2.2 x = m.2.2.2 x) : dB q m' := by
  have e0 := e q (by omega) (by omega)
  have e1 := e (q + 1) (by omega) (by omega)
  have e2 := e (q + 2) (by omega) (by omega)
  have e3 := e (q + 3) (by omega) (by omega)
  have e4 := e (q + 4) (by omega) (by omega)
  have e5 := e (q + 5) (by omega) (by omega)
  unfold dB at h ⊢
  unfold mk ml mr at h ⊢
  simp only [e0.1, e0.2.2, e1.1, e1.2.1, e2.1, e2.2.1, e3.1, e3.2.1, e4.1, e4.2.1, e5.1, e5.2.1]
  exact h
theorem vB_fr (h : vB q m) (e : ∀ x, q ≤ x → x < q + 6 → m'.1 x = m.1 x ∧ m'.2.1 x = m.2.1 x ∧ m'.2.2.2 x = m.2.2.2 x) : vB q m' := by
  have e0 := e q (by omega) (by omega)
  have e1 := e (q + 1) (by omega) (by omega)
  have e2 := e (q + 2) (by omega) (by omega)
  have e3 := e (q + 3) (by omega) (by omega)
  have e4 := e (q + 4) (by omega) (by omega)
  have e5 := e (q + 5) (by omega) (by omega)
  unfold vB at h ⊢
  unfold mk ml mr at h ⊢
  simp only [e0.1, e0.2.2, e1.1, e1.2.1, e2.1, e2.2.1, e3.1, e3.2.1, e4.1, e4.2.1, e5.1, e5.2.1]
  exact h
theorem VB_fr (h : VB b m) (e : ∀ x, b ≤ x → x < b + 74 → m'.1 x = m.1 x ∧ m'.2.1 x = m.2.1 x ∧ m'.2.2.2 x = m.2.2.2 x) : VB b m' := by
  obtain ⟨h0, h1, h2, h3, h4, h5, h6, h7, h8⟩ := h
  have e0 := e b (by omega) (by omega)
  have e1 := e (b + 1) (by omega) (by omega)
  refine ⟨?_, ?_, ?_, ?_, ?_, ?_, vB_fr h6 (fun x g1 g2 => e x (by omega) (by omega)), vB_fr h7 (fun x g1 g2 => e x (by omega) (by omega)), fun k hk => ⟨?_, dB_fr (h8 k hk).2 (fun x g1 g2 => e x (by omega) (by omega))⟩⟩
  · show m'.1 b = 1; rw [e0.1]; exact h0
  · show m'.2.2.2 b 2 = _; rw [e0.2.2]; exact h1
  · show m'.2.2.2 b 3 = _; rw [e0.2.2]; exact h2
  · show m'.2.2.2 b 4 = _; rw [e0.2.2]; exact h3
  · show m'.1 (b + 1) = 7; rw [e1.1]; exact h4
  · show m'.2.1 (b + 1) = 10; rw [e1.2.1]; exact h5
  · show m'.2.2.2 (b + 1) k = _; rw [e1.2.2]; exact (h8 k hk).1
theorem CV_fr (h : CV m S) (hn : S.1 ≤ 10) (f : fM N X m m') (hN : 149 ≤ N) (hX : ∀ x, x < N → X x → 149 ≤ x) : CV m' S := by
  have e : ∀ x, x < 149 → m'.1 x = m.1 x ∧ m'.2.1 x = m.2.1 x ∧ m'.2.2.2 x = m.2.2.2 x ∧ m'.2.2.1 x = m.2.2.1 x := by
    intro x hx
    have g := f x (by omega)
    have g2 := g.2 (fun hxx => by have := hX x (by omega) hxx; omega)
    exact ⟨g.1.1, g.1.2, g2.2, g2.1⟩
  obtain ⟨⟨v1, v2, v3, v4, v5⟩, hR⟩ := h
  refine ⟨⟨?_, ?_, ?_, VB_fr v4 (fun x g1 g2 => ⟨(e x (by omega)).1, (e x (by omega)).2.1, (e x (by omega)).2.2.1⟩), VB_fr v5 (fun x g1 g2 => ⟨(e x (by omega)).1, (e x (by omega)).2.1, (e x (by omega)).2.2.1⟩)⟩, RS_fr hR hn (fun x g1 g2 => (e x (by omega)).2.2.2)⟩
  · show m'.1 0 = 3; rw [(e 0 (by omega)).1]; exact v1
  · show m'.2.2.2 0 0 = _; rw [(e 0 (by omega)).2.2.1]; exact v2
  · show m'.2.2.2 0 1 = _; rw [(e 0 (by omega)).2.2.1]; exact v3
theorem ZR_cl (h : ZR N m s Z) (hf : ∀ x, 149 ≤ x → τ x = m.2.2.1 x) : ZR N (xW m τ) s Z := by
  have f : fM N (fun x => x < 149) m (xW m τ) := fun x hx => ⟨⟨rfl, rfl⟩, fun hn => ⟨hf x (by omega), rfl⟩⟩
  exact ZR_fr h f (Nat.le_refl _) (fun x h1 h2 => by omega) (fun x h1 h2 h3 => by omega)
theorem fM_cl (hf : ∀ x, 149 ≤ x → τ x = m.2.2.1 x) : fM N (fun x => x < 149) m (xW m τ) := fun x hx => ⟨⟨rfl, rfl⟩, fun hn => ⟨hf x (by omega), rfl⟩⟩
/-- a door is built -/
def zbd (Z : zS) (dA : Nat) (D : zD) : zS := (Z.1 + 1, Z.2.1, dA, Z.2.2.2.1, fun x => if x = Z.1 then D else Z.2.2.2.2.1 x, Z.2.2.2.2.2)
theorem L_zbuild {a b c : Int} (hn : Z.1 < 10) (h : ZR N m s Z) (hN : 149 ≤ N) {kc ks : Nat} (hc1 : kc ≤ 1) (hc2 : ks ≤ 11) : ∀ r i, i + r = Z.1 → ∀ m', fM N (fun _ => False) m m' → mk m' N = 9 → ml m' N = Z.1 + 1 → (∀ j, j < i → mr m' N j = some (Z.2.2.2.2.1 j).1) → ∀ f, r < f → wq (fL_X5_build f 15 (N + 1) m' kc ks s (xI a) (xI b) (xI c) N (xI (i : Nat))) (fun z => ∃ Z', ZR z.1 z.2 s Z' ∧ uz Z' = a_build (uz Z) a b c ∧ N ≤ z.1 ∧ fM N (fun x => 149 ≤ x) m z.2) := by
  obtain ⟨⟨⟨a1, a2, a3, a4, a5, a6, a7⟩, ⟨b1, b2, b3, b4, b5⟩⟩, c0, ⟨d1, d2⟩, s1, s2, s3, s4⟩ := h
  intro r
  induction r with
  | zero =>
    intro i hi m' f1 k9 l9 hr f hf
    obtain ⟨g, rfl⟩ : ∃ g, f = g + 1 := ⟨f - 1, by omega⟩
    have i3 : mk m' s = 5 := by rw [fM_k f1 a2]; exact a3
    have i4 : mr m' s 0 = some Z.2.2.1 := by rw [fM_r f1 a2 (fun h => h)]; exact a4
    have j3 : mk m' Z.2.2.1 = 9 := by rw [fM_k f1 b2]; exact b3
    have j4 : ml m' Z.2.2.1 = Z.1 := by rw [fM_l f1 b2]; exact b4
    show wq (fB_X5_build_15 (fL_X5_build g) (N + 1) m' kc ks s (xI a) (xI b) (xI c) N (xI (i : Nat))) _
    unfold fB_X5_build_15
    refine w_i i3 ?_
    refine w_b i4 ?_
    refine w_i j3 ?_
    refine w_i (by simp (disch := omega) only [vin, mk_I, ml_I, mr_I, mk_R, ml_R, mi_R, mkN_eq, mlN_eq, miN_eq, mkN_ne, mlN_ne, miN_ne, mrN_ne, mi_eq, mi_na, mi_nj, mr_eq, mr_na, mr_nj, xL0, xL1, xL2, xL3, xL4, xL5, xL6, xL7, xL8, xL9, xL10, xL12, xL16, xL20, xL24, xL31, xL50, xL60, xL89, xL99, xL100, xL200, xI_add, xI_sub, xI_mul, xI_neg, xI_nat, xI_cl, Int.toNat_natCast, Int.reduceToNat, xltT, xltF, xleT, xleF, xeqT, xeqF, nleT, nleF, nltT, nltF, neqT, neqF, ileT, ileF, iltT, iltF, ieqT, ieqF, or_false, or_true, false_or, true_or, and_true, true_and, and_false, false_and, not_false_eq_true, not_true_eq_false, ↓reduceIte, if_true, if_false, j4]) ?_
    refine w_i (by omega) ?_
    refine w_i (by omega) ?_
    -- the new door
    generalize hm1 : mR (mN (mR (mN (mN m' (N + 1) 4 0) (N + 1 + 1) 8 0) (N + 1) 5 (some (N + 1 + 1))) (N + 1 + 1 + 1) 8 0) (N + 1) 6 (some (N + 1 + 1 + 1)) = m1
    have hini : f_X4_init (N + 1 + 1) (mN m' (N + 1) 4 0) (N + 1) = some (N + 1 + 1 + 1 + 1, m1) := by
      unfold f_X4_init
      rw [if_pos (by simp (disch := omega) only [vin, mk_I, ml_I, mr_I, mk_R, ml_R, mi_R, mkN_eq, mlN_eq, miN_eq, mkN_ne, mlN_ne, miN_ne, mrN_ne, mi_eq, mi_na, mi_nj, mr_eq, mr_na, mr_nj, xL0, xL1, xL2, xL3, xL4, xL5, xL6, xL7, xL8, xL9, xL10, xL12, xL16, xL20, xL24, xL31, xL50, xL60, xL89, xL99, xL100, xL200, xI_add, xI_sub, xI_mul, xI_neg, xI_nat, xI_cl, Int.toNat_natCast, Int.reduceToNat, xltT, xltF, xleT, xleF, xeqT, xeqF, nleT, nleF, nltT, nltF, neqT, neqF, ileT, ileF, iltT, iltF, ieqT, ieqF, or_false, or_true, false_or, true_or, and_true, true_and, and_false, false_and, not_false_eq_true, not_true_eq_false, ↓reduceIte, if_true, if_false]), hm1]
    refine w_b hini ?_
    refine w_i (by omega) ?_
    refine w_i (by omega) ?_
    have f2 : fM (N + 1) (fun _ => False) m' m1 := by
      rw [← hm1]
      refine fM_trans (fM_trans (fM_trans (fM_trans (fM_N (Nat.le_refl _)) (fM_N (by omega)) (Nat.le_refl _) (fun _ _ h => h)) (fM_R0 (Nat.le_refl _)) (Nat.le_refl _) (fun _ _ h => h)) (fM_N (by omega)) (Nat.le_refl _) (fun _ _ h => h)) (fM_R0 (Nat.le_refl _)) (Nat.le_refl _) (fun _ _ h => h)
    have u4 : mk m1 (N + 1) = 4 := by rw [← hm1]; simp (disch := omega) only [vin, mk_I, ml_I, mr_I, mk_R, ml_R, mi_R, mkN_eq, mlN_eq, miN_eq, mkN_ne, mlN_ne, miN_ne, mrN_ne, mi_eq, mi_na, mi_nj, mr_eq, mr_na, mr_nj, xL0, xL1, xL2, xL3, xL4, xL5, xL6, xL7, xL8, xL9, xL10, xL12, xL16, xL20, xL24, xL31, xL50, xL60, xL89, xL99, xL100, xL200, xI_add, xI_sub, xI_mul, xI_neg, xI_nat, xI_cl, Int.toNat_natCast, Int.reduceToNat, xltT, xltF, xleT, xleF, xeqT, xeqF, nleT, nleF, nltT, nltF, neqT, neqF, ileT, ileF, iltT, iltF, ieqT, ieqF, or_false, or_true, false_or, true_or, and_true, true_and, and_false, false_and, not_false_eq_true, not_true_eq_false, ↓reduceIte, if_true, if_false]
    have u5 : mr m1 (N + 1) 5 = some (N + 1 + 1) := by rw [← hm1]; simp (disch := omega) only [vin, mk_I, ml_I, mr_I, mk_R, ml_R, mi_R, mkN_eq, mlN_eq, miN_eq, mkN_ne, mlN_ne, miN_ne, mrN_ne, mi_eq, mi_na, mi_nj, mr_eq, mr_na, mr_nj, xL0, xL1, xL2, xL3, xL4, xL5, xL6, xL7, xL8, xL9, xL10, xL12, xL16, xL20, xL24, xL31, xL50, xL60, xL89, xL99, xL100, xL200, xI_add, xI_sub, xI_mul, xI_neg, xI_nat, xI_cl, Int.toNat_natCast, Int.reduceToNat, xltT, xltF, xleT, xleF, xeqT, xeqF, nleT, nleF, nltT, nltF, neqT, neqF, ileT, ileF, iltT, iltF, ieqT, ieqF, or_false, or_true, false_or, true_or, and_true, true_and, and_false, false_and, not_false_eq_true, not_true_eq_false, ↓reduceIte, if_true, if_false]
    have u6 : mr m1 (N + 1) 6 = some (N + 1 + 1 + 1) := by rw [← hm1]; simp (disch := omega) only [vin, mk_I, ml_I, mr_I, mk_R, ml_R, mi_R, mkN_eq, mlN_eq, miN_eq, mkN_ne, mlN_ne, miN_ne, mrN_ne, mi_eq, mi_na, mi_nj, mr_eq, mr_na, mr_nj, xL0, xL1, xL2, xL3, xL4, xL5, xL6, xL7, xL8, xL9, xL10, xL12, xL16, xL20, xL24, xL31, xL50, xL60, xL89, xL99, xL100, xL200, xI_add, xI_sub, xI_mul, xI_neg, xI_nat, xI_cl, Int.toNat_natCast, Int.reduceToNat, xltT, xltF, xleT, xleF, xeqT, xeqF, nleT, nleF, nltT, nltF, neqT, neqF, ileT, ileF, iltT, iltF, ieqT, ieqF, or_false, or_true, false_or, true_or, and_true, true_and, and_false, false_and, not_false_eq_true, not_true_eq_false, ↓reduceIte, if_true, if_false]
    have ui : ∀ j, mi m1 (N + 1) j = 0 := by intro j; rw [← hm1]; simp (disch := omega) only [mi_R, miN_ne, miN_eq]
    have w8 : mk m1 (N + 1 + 1) = 8 := by rw [← hm1]; simp (disch := omega) only [vin, mk_I, ml_I, mr_I, mk_R, ml_R, mi_R, mkN_eq, mlN_eq, miN_eq, mkN_ne, mlN_ne, miN_ne, mrN_ne, mi_eq, mi_na, mi_nj, mr_eq, mr_na, mr_nj, xL0, xL1, xL2, xL3, xL4, xL5, xL6, xL7, xL8, xL9, xL10, xL12, xL16, xL20, xL24, xL31, xL50, xL60, xL89, xL99, xL100, xL200, xI_add, xI_sub, xI_mul, xI_neg, xI_nat, xI_cl, Int.toNat_natCast, Int.reduceToNat, xltT, xltF, xleT, xleF, xeqT, xeqF, nleT, nleF, nltT, nltF, neqT, neqF, ileT, ileF, iltT, iltF, ieqT, ieqF, or_false, or_true, false_or, true_or, and_true, true_and, and_false, false_and, not_false_eq_true, not_true_eq_false, ↓reduceIte, if_true, if_false]
    have w0 : ml m1 (N + 1 + 1) = 0 := by rw [← hm1]; simp (disch := omega) only [vin, mk_I, ml_I, mr_I, mk_R, ml_R, mi_R, mkN_eq, mlN_eq, miN_eq, mkN_ne, mlN_ne, miN_ne, mrN_ne, mi_eq, mi_na, mi_nj, mr_eq, mr_na, mr_nj, xL0, xL1, xL2, xL3, xL4, xL5, xL6, xL7, xL8, xL9, xL10, xL12, xL16, xL20, xL24, xL31, xL50, xL60, xL89, xL99, xL100, xL200, xI_add, xI_sub, xI_mul, xI_neg, xI_nat, xI_cl, Int.toNat_natCast, Int.reduceToNat, xltT, xltF, xleT, xleF, xeqT, xeqF, nleT, nleF, nltT, nltF, neqT, neqF, ileT, ileF, iltT, iltF, ieqT, ieqF, or_false, or_true, false_or, true_or, and_true, true_and, and_false, false_and, not_false_eq_true, not_true_eq_false, ↓reduceIte, if_true, if_false]
    have x8 : mk m1 (N + 1 + 1 + 1) = 8 := by rw [← hm1]; simp (disch := omega) only [vin, mk_I, ml_I, mr_I, mk_R, ml_R, mi_R, mkN_eq, mlN_eq, miN_eq, mkN_ne, mlN_ne, miN_ne, mrN_ne, mi_eq, mi_na, mi_nj, mr_eq, mr_na, mr_nj, xL0, xL1, xL2, xL3, xL4, xL5, xL6, xL7, xL8, xL9, xL10, xL12, xL16, xL20, xL24, xL31, xL50, xL60, xL89, xL99, xL100, xL200, xI_add, xI_sub, xI_mul, xI_neg, xI_nat, xI_cl, Int.toNat_natCast, Int.reduceToNat, xltT, xltF, xleT, xleF, xeqT, xeqF, nleT, nleF, nltT, nltF, neqT, neqF, ileT, ileF, iltT, iltF, ieqT, ieqF, or_false, or_true, false_or, true_or, and_true, true_and, and_false, false_and, not_false_eq_true, not_true_eq_false, ↓reduceIte, if_true, if_false]
    have x0 : ml m1 (N + 1 + 1 + 1) = 0 := by rw [← hm1]; simp (disch := omega) only [vin, mk_I, ml_I, mr_I, mk_R, ml_R, mi_R, mkN_eq, mlN_eq, miN_eq, mkN_ne, mlN_ne, miN_ne, mrN_ne, mi_eq, mi_na, mi_nj, mr_eq, mr_na, mr_nj, xL0, xL1, xL2, xL3, xL4, xL5, xL6, xL7, xL8, xL9, xL10, xL12, xL16, xL20, xL24, xL31, xL50, xL60, xL89, xL99, xL100, xL200, xI_add, xI_sub, xI_mul, xI_neg, xI_nat, xI_cl, Int.toNat_natCast, Int.reduceToNat, xltT, xltF, xleT, xleF, xeqT, xeqF, nleT, nleF, nltT, nltF, neqT, neqF, ileT, ileF, iltT, iltF, ieqT, ieqF, or_false, or_true, false_or, true_or, and_true, true_and, and_false, false_and, not_false_eq_true, not_true_eq_false, ↓reduceIte, if_true, if_false]
    clear hm1 hini
    refine w_i u4 ?_
    generalize hm2 : mI (mI (mI m1 (N + 1) 0 (xI a)) (N + 1) 1 (xI b)) (N + 1) 2 (xI c) = m2
    have f3 : fM (N + 1) (fun _ => False) m1 m2 := by
      rw [← hm2]
      exact fM_trans (fM_trans (fM_I0 (Nat.le_refl _)) (fM_I0 (Nat.le_refl _)) (Nat.le_refl _) (fun _ _ h => h)) (fM_I0 (Nat.le_refl _)) (Nat.le_refl _) (fun _ _ h => h)
    have f13 : fM N (fun _ => False) m m2 := fM_trans f1 (fM_trans f2 f3 (Nat.le_refl _) (fun _ _ h => h)) (Nat.le_succ _) (fun _ _ h => h)
    have v9 : mk m2 N = 9 := by rw [fM_k f3 (Nat.lt_succ_self N), fM_k f2 (Nat.lt_succ_self N)]; exact k9
    have vl : ml m2 N = Z.1 + 1 := by rw [fM_l f3 (Nat.lt_succ_self N), fM_l f2 (Nat.lt_succ_self N)]; exact l9
    have vr : ∀ j, j < Z.1 → mr m2 N j = some (Z.2.2.2.2.1 j).1 := fun j hj => by rw [fM_r f3 (Nat.lt_succ_self N) (fun h => h), fM_r f2 (Nat.lt_succ_self N) (fun h => h)]; exact hr j (by omega)
    have i3' : mk m2 s = 5 := by rw [fM_k f13 a2]; exact a3
    have i4' : mr m2 s 0 = some Z.2.2.1 := by rw [fM_r f13 a2 (fun h => h)]; exact a4
    have j3' : mk m2 Z.2.2.1 = 9 := by rw [fM_k f13 b2]; exact b3
    have j4' : ml m2 Z.2.2.1 = Z.1 := by rw [fM_l f13 b2]; exact b4
    refine w_i i3' ?_
    refine w_b i4' ?_
    refine w_i j3' ?_
    refine w_i v9 ?_
    refine w_i (by simp (disch := omega) only [vin, mk_I, ml_I, mr_I, mk_R, ml_R, mi_R, mkN_eq, mlN_eq, miN_eq, mkN_ne, mlN_ne, miN_ne, mrN_ne, mi_eq, mi_na, mi_nj, mr_eq, mr_na, mr_nj, xL0, xL1, xL2, xL3, xL4, xL5, xL6, xL7, xL8, xL9, xL10, xL12, xL16, xL20, xL24, xL31, xL50, xL60, xL89, xL99, xL100, xL200, xI_add, xI_sub, xI_mul, xI_neg, xI_nat, xI_cl, Int.toNat_natCast, Int.reduceToNat, xltT, xltF, xleT, xleF, xeqT, xeqF, nleT, nleF, nltT, nltF, neqT, neqF, ileT, ileF, iltT, iltF, ieqT, ieqF, or_false, or_true, false_or, true_or, and_true, true_and, and_false, false_and, not_false_eq_true, not_true_eq_false, ↓reduceIte, if_true, if_false, j4', vl]) ?_
    rw [show (Int32.ofNat (ml m2 Z.2.2.1)).toNatClampNeg = Z.1 by rw [j4', xI_nat, xI_cl (by omega)]; simp]
    generalize hm3 : mR (mR m2 N Z.1 (some (N + 1))) s 0 (some N) = m3
    have f4 : fM N (fun x => x = s) m m3 := by
      rw [← hm3]
      exact fM_trans (fM_trans (fM_w f13 (fun _ _ h => h.elim)) (fM_R0 (Nat.le_refl _)) (Nat.le_refl _) (fun _ _ h => h)) (fM_R (X := fun x => x = s) rfl) (Nat.le_refl _) (fun _ _ h => h)
    have hsN : s ≠ N := by omega
    have hsN1 : N + 1 ≠ s := by omega
    have hne : ∀ x, mk m x = 4 ∨ mk m x = 6 ∨ mk m x = 8 → x ≠ s := fun x hx e => by rw [e, a3] at hx; omega
    have t3 : ∀ x, mk m3 x = mk m2 x := fun x => by rw [← hm3]; rfl
    have t3l : ∀ x, ml m3 x = ml m2 x := fun x => by rw [← hm3]; rfl
    have t3i : ∀ x j, mi m3 x j = mi m2 x j := fun x j => by rw [← hm3]; rfl
    have hD : dR (N + 1 + 1 + 1 + 1) m3 (N + 1, N + 1 + 1, N + 1 + 1 + 1, (a_new a b c).1, [], []) := by
      have g5 : ∀ j, mr m3 (N + 1) j = mr m1 (N + 1) j := by
        intro j; rw [← hm3, mr_na hsN1, mr_na (by omega), ← hm2]; rfl
      have gi : ∀ j, mi m3 (N + 1) j = mi (mI (mI (mI m1 (N + 1) 0 (xI a)) (N + 1) 1 (xI b)) (N + 1) 2 (xI c)) (N + 1) j := by
        intro j; rw [t3i, ← hm2]
      refine ⟨⟨by show 149 ≤ N + 1; omega, by show N + 1 < _; omega, by rw [t3, ← hm2]; exact u4, by rw [g5]; exact u5, by rw [g5]; exact u6⟩, ⟨fun j hj => ?_, ?_, ?_⟩, ⟨⟨⟨by show 149 ≤ N + 1 + 1; omega, by show N + 1 + 1 < _; omega⟩, by rw [t3, ← hm2]; exact w8, by rw [t3l, ← hm2]; exact w0, fun i z hz => by simp at hz⟩, fun z hz => by cases hz⟩, ⟨⟨by show 149 ≤ N + 1 + 1 + 1; omega, by show N + 1 + 1 + 1 < _; omega⟩, by rw [t3, ← hm2]; exact x8, by rw [t3l, ← hm2]; exact x0, fun i z hz => by simp at hz⟩, fun z hz => by cases hz⟩
      · show mi m3 (N + 1) j = _
        rw [gi]
        have hj2 : j = 0 ∨ j = 1 ∨ j = 2 ∨ j = 3 ∨ j = 4 := by omega
        rcases hj2 with g | g | g | g | g <;> subst g <;> simp (disch := omega) only [mi_eq, mi_nj, ui] <;> rfl
      · show mi m3 (N + 1) 7 = _
        rw [gi]; simp (disch := omega) only [mi_nj, ui]; rfl
      · show mi m3 (N + 1) 8 = _
        rw [gi]; simp (disch := omega) only [mi_nj, ui]; rfl
    refine w_s ⟨zbd Z N (N + 1, N + 1 + 1, N + 1 + 1 + 1, (a_new a b c).1, [], []), ⟨⟨⟨a1, by show s < N + 1 + 1 + 1 + 1; omega, by rw [fM_k f4 a2]; exact a3, by rw [← hm3]; exact mr_eq, ?_, ?_, ?_⟩, ⟨hN, by show N < N + 1 + 1 + 1 + 1; omega, by show mk m3 N = 9; rw [t3]; exact v9, by show ml m3 N = Z.1 + 1; rw [t3l]; exact vl, fun k hk => ?_⟩⟩, fun k hk => ?_, ⟨?_, fun z hz => ?_⟩, ?_, ?_, ?_, s4⟩, ?_, by omega, fM_w f4 (fun x _ hx => by rw [hx]; exact a1)⟩
    · rw [← hm3, mr_nj (by omega), mr_na hsN, fM_r f13 a2 (fun h => h)]; exact a5
    · rw [t3i, fM_i f13 a2 (fun h => h)]; exact a6
    · rw [t3i, fM_i f13 a2 (fun h => h)]; exact a7
    · have hk : k < Z.1 + 1 := hk
      show mr m3 N k = some (if k = Z.1 then _ else Z.2.2.2.2.1 k).1
      rw [← hm3, mr_na (Ne.symm hsN)]
      by_cases e : k = Z.1
      · subst e; rw [mr_eq, if_pos rfl]
      · rw [mr_nj e, if_neg e]; exact vr k (by omega)
    · have hk : k < Z.1 + 1 := hk
      show dR _ m3 (if k = Z.1 then _ else Z.2.2.2.2.1 k)
      by_cases e : k = Z.1
      · rw [if_pos e]; exact hD
      · rw [if_neg e]
        have hck := c0 k (by omega)
        exact dR_fr hck f4 (by omega) (hne _ (.inl hck.1.2.2.1)) (fun x hx => hne x (.inr (.inr hx))) (fun z hz => hne _ (.inr (.inl (hck.2.2.1.2 z hz).2.1))) (fun x hx _ => hne x (.inr (.inl hx)))
    · exact a8_fr d1 f4 (by omega) (hne _ (.inr (.inr d1.2.1)))
    · exact ro_fr (d2 z hz) f4 (by omega) (hne _ (.inr (.inl (d2 z hz).2.1)))
    · intro j k hj hk hjk
      have hj : j < Z.1 + 1 := hj
      have hk : k < Z.1 + 1 := hk
      show (if j = Z.1 then _ else Z.2.2.2.2.1 j).1 ≠ (if k = Z.1 then _ else Z.2.2.2.2.1 k).1
      by_cases ej : j = Z.1
      · rw [if_pos ej, if_neg (by omega)]
        have := (c0 k (by omega)).1.2.1
        show N + 1 ≠ _; omega
      · rw [if_neg ej]
        have := (c0 j (by omega)).1.2.1
        by_cases ek : k = Z.1
        · rw [if_pos ek]; show _ ≠ N + 1; omega
        · rw [if_neg ek]; exact s1 j k (by omega) (by omega) hjk
    · intro k hk
      have hk : k < Z.1 + 1 := hk
      show (if k = Z.1 then _ else Z.2.2.2.2.1 k).2.2.2.2.1.Pairwise _
      by_cases e : k = Z.1
      · rw [if_pos e]; exact List.Pairwise.nil
      · rw [if_neg e]; exact s2 k (by omega)
    · intro j k hj hk hjk z hz w hw
      have hj : j < Z.1 + 1 := hj
      have hk : k < Z.1 + 1 := hk
      have hz : z ∈ (if j = Z.1 then _ else Z.2.2.2.2.1 j).2.2.2.2.1 := hz
      have hw : w ∈ (if k = Z.1 then _ else Z.2.2.2.2.1 k).2.2.2.2.1 := hw
      by_cases ej : j = Z.1
      · rw [if_pos ej] at hz; cases hz
      · rw [if_neg ej] at hz
        by_cases ek : k = Z.1
        · rw [if_pos ek] at hw; cases hw
        · rw [if_neg ek] at hw
          exact s3 j k (by omega) (by omega) hjk z hz w hw
    · unfold uz zbd a_build
      simp only
      congr 3
      funext x
      by_cases e : x = Z.1
      · subst e; rw [du_eq, if_pos rfl]; rfl
      · rw [du_ne e, if_neg e]
  | succ r ih =>
    intro i hi m' f1 k9 l9 hr f hf
    obtain ⟨g, rfl⟩ : ∃ g, f = g + 1 := ⟨f - 1, by omega⟩
    have i3 : mk m' s = 5 := by rw [fM_k f1 a2]; exact a3
    have i4 : mr m' s 0 = some Z.2.2.1 := by rw [fM_r f1 a2 (fun h => h)]; exact a4
    have j3 : mk m' Z.2.2.1 = 9 := by rw [fM_k f1 b2]; exact b3
    have j4 : ml m' Z.2.2.1 = Z.1 := by rw [fM_l f1 b2]; exact b4
    have hrk : mr m' Z.2.2.1 (xI (i : Nat)).toNatClampNeg = some (Z.2.2.2.2.1 i).1 := by
      rw [← b5 i (by omega), ← fM_r (y := i) f1 b2 (fun h => h)]; simp (disch := omega) only [vin, mk_I, ml_I, mr_I, mk_R, ml_R, mi_R, mkN_eq, mlN_eq, miN_eq, mkN_ne, mlN_ne, miN_ne, mrN_ne, mi_eq, mi_na, mi_nj, mr_eq, mr_na, mr_nj, xL0, xL1, xL2, xL3, xL4, xL5, xL6, xL7, xL8, xL9, xL10, xL12, xL16, xL20, xL24, xL31, xL50, xL60, xL89, xL99, xL100, xL200, xI_add, xI_sub, xI_mul, xI_neg, xI_nat, xI_cl, Int.toNat_natCast, Int.reduceToNat, xltT, xltF, xleT, xleF, xeqT, xeqF, nleT, nleF, nltT, nltF, neqT, neqF, ileT, ileF, iltT, iltF, ieqT, ieqF, or_false, or_true, false_or, true_or, and_true, true_and, and_false, false_and, not_false_eq_true, not_true_eq_false, ↓reduceIte, if_true, if_false]
    have hci := c0 i (by omega)
    show wq (fB_X5_build_15 (fL_X5_build g) (N + 1) m' kc ks s (xI a) (xI b) (xI c) N (xI (i : Nat))) _
    unfold fB_X5_build_15
    refine w_i i3 ?_
    refine w_b i4 ?_
    refine w_i j3 ?_
    refine w_n (by simp (disch := omega) only [vin, mk_I, ml_I, mr_I, mk_R, ml_R, mi_R, mkN_eq, mlN_eq, miN_eq, mkN_ne, mlN_ne, miN_ne, mrN_ne, mi_eq, mi_na, mi_nj, mr_eq, mr_na, mr_nj, xL0, xL1, xL2, xL3, xL4, xL5, xL6, xL7, xL8, xL9, xL10, xL12, xL16, xL20, xL24, xL31, xL50, xL60, xL89, xL99, xL100, xL200, xI_add, xI_sub, xI_mul, xI_neg, xI_nat, xI_cl, Int.toNat_natCast, Int.reduceToNat, xltT, xltF, xleT, xleF, xeqT, xeqF, nleT, nleF, nltT, nltF, neqT, neqF, ileT, ileF, iltT, iltF, ieqT, ieqF, or_false, or_true, false_or, true_or, and_true, true_and, and_false, false_and, not_false_eq_true, not_true_eq_false, ↓reduceIte, if_true, if_false, j4]) ?_
    refine w_b i4 ?_
    refine w_i j3 ?_
    refine w_i (by simp (disch := omega) only [vin, mk_I, ml_I, mr_I, mk_R, ml_R, mi_R, mkN_eq, mlN_eq, miN_eq, mkN_ne, mlN_ne, miN_ne, mrN_ne, mi_eq, mi_na, mi_nj, mr_eq, mr_na, mr_nj, xL0, xL1, xL2, xL3, xL4, xL5, xL6, xL7, xL8, xL9, xL10, xL12, xL16, xL20, xL24, xL31, xL50, xL60, xL89, xL99, xL100, xL200, xI_add, xI_sub, xI_mul, xI_neg, xI_nat, xI_cl, Int.toNat_natCast, Int.reduceToNat, xltT, xltF, xleT, xleF, xeqT, xeqF, nleT, nleF, nltT, nltF, neqT, neqF, ileT, ileF, iltT, iltF, ieqT, ieqF, or_false, or_true, false_or, true_or, and_true, true_and, and_false, false_and, not_false_eq_true, not_true_eq_false, ↓reduceIte, if_true, if_false, j4]) ?_
    refine w_b hrk ?_
    refine w_i k9 ?_
    refine w_i (by rw [fM_k f1 hci.1.2.1]; exact hci.1.2.2.1) ?_
    refine w_i (by simp (disch := omega) only [vin, mk_I, ml_I, mr_I, mk_R, ml_R, mi_R, mkN_eq, mlN_eq, miN_eq, mkN_ne, mlN_ne, miN_ne, mrN_ne, mi_eq, mi_na, mi_nj, mr_eq, mr_na, mr_nj, xL0, xL1, xL2, xL3, xL4, xL5, xL6, xL7, xL8, xL9, xL10, xL12, xL16, xL20, xL24, xL31, xL50, xL60, xL89, xL99, xL100, xL200, xI_add, xI_sub, xI_mul, xI_neg, xI_nat, xI_cl, Int.toNat_natCast, Int.reduceToNat, xltT, xltF, xleT, xleF, xeqT, xeqF, nleT, nleF, nltT, nltF, neqT, neqF, ileT, ileF, iltT, iltF, ieqT, ieqF, or_false, or_true, false_or, true_or, and_true, true_and, and_false, false_and, not_false_eq_true, not_true_eq_false, ↓reduceIte, if_true, if_false, l9]) ?_
    rw [show xI (i : Nat) + 1 = xI ((i + 1 : Nat) : Int) by rw [xL1, xI_add]; rfl, show (xI (i : Nat)).toNatClampNeg = i by simp (disch := omega) only [vin, mk_I, ml_I, mr_I, mk_R, ml_R, mi_R, mkN_eq, mlN_eq, miN_eq, mkN_ne, mlN_ne, miN_ne, mrN_ne, mi_eq, mi_na, mi_nj, mr_eq, mr_na, mr_nj, xL0, xL1, xL2, xL3, xL4, xL5, xL6, xL7, xL8, xL9, xL10, xL12, xL16, xL20, xL24, xL31, xL50, xL60, xL89, xL99, xL100, xL200, xI_add, xI_sub, xI_mul, xI_neg, xI_nat, xI_cl, Int.toNat_natCast, Int.reduceToNat, xltT, xltF, xleT, xleF, xeqT, xeqF, nleT, nleF, nltT, nltF, neqT, neqF, ileT, ileF, iltT, iltF, ieqT, ieqF, or_false, or_true, false_or, true_or, and_true, true_and, and_false, false_and, not_false_eq_true, not_true_eq_false, ↓reduceIte, if_true, if_false]]
    refine ih (i + 1) (by omega) (mR m' N i (some (Z.2.2.2.2.1 i).1)) (fM_trans f1 (fM_R0 (Nat.le_refl _)) (Nat.le_refl _) (fun _ _ h => h)) k9 l9 (fun j hj => ?_) g (by omega)
    by_cases e : j = i
    · subst e; exact mr_eq
    · rw [mr_nj e]; exact hr j (by omega)
theorem S_zbuild {a b c : Int} (hn : Z.1 < 10) (h : ZR N m s Z) (hN : 149 ≤ N) : wq (f_X5_build N m s (xI a) (xI b) (xI c)) (fun z => ∃ Z', ZR z.1 z.2 s Z' ∧ uz Z' = a_build (uz Z) a b c ∧ N ≤ z.1 ∧ fM N (fun x => 149 ≤ x) m z.2) := by
  unfold f_X5_build
  have b4 := h.1.2.2.2.2.1
  have e9 : (Int32.ofNat (ml m Z.2.2.1) + 1).toNatClampNeg = Z.1 + 1 := by
    rw [b4, xI_nat, xL1, xI_add, xI_cl (by omega)]; omega
  refine w_i h.1.1.2.2.1 ?_
  refine w_b h.1.1.2.2.2.1 ?_
  refine w_i h.1.2.2.2.1 ?_
  refine w_i (by simp (disch := omega) only [vin, mk_I, ml_I, mr_I, mk_R, ml_R, mi_R, mkN_eq, mlN_eq, miN_eq, mkN_ne, mlN_ne, miN_ne, mrN_ne, mi_eq, mi_na, mi_nj, mr_eq, mr_na, mr_nj, xL0, xL1, xL2, xL3, xL4, xL5, xL6, xL7, xL8, xL9, xL10, xL12, xL16, xL20, xL24, xL31, xL50, xL60, xL89, xL99, xL100, xL200, xI_add, xI_sub, xI_mul, xI_neg, xI_nat, xI_cl, Int.toNat_natCast, Int.reduceToNat, xltT, xltF, xleT, xleF, xeqT, xeqF, nleT, nleF, nltT, nltF, neqT, neqF, ileT, ileF, iltT, iltF, ieqT, ieqF, or_false, or_true, false_or, true_or, and_true, true_and, and_false, false_and, not_false_eq_true, not_true_eq_false, ↓reduceIte, if_true, if_false, b4]) ?_
  rw [e9]
  refine w_i (by omega) ?_
  refine w_i (by omega) ?_
  exact L_zbuild hn h hN (by omega) (by omega) Z.1 0 (by omega) (mN m N 9 (Z.1 + 1)) (fM_N (Nat.le_refl _)) mkN_eq mlN_eq (fun j hj => by omega) vF (by unfold vF; omega)
end
