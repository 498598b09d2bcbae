/-- rows of nine numbers that are being filled, to door k and there to cell w -/
def PG (N : Nat) (m : vM) (q n : Nat) (F : Nat → Nat → Int) (k w : Nat) : Prop := (mk m q = 8 ∧ ml m q = n ∧ q + n < N) ∧ (∀ j, j < n → mr m q j = some (q + 1 + j) ∧ mk m (q + 1 + j) = 6 ∧ ml m (q + 1 + j) = 9) ∧ ∀ j u, j < n → u < 9 → (j < k ∨ j = k ∧ u < w) → mi m (q + 1 + j) u = xI (F j u)
section
variable {L N r9 r14 kc ks s k : Nat} {xs : Nat → Int32} {m : vM} {i3 i4 i5 i6 i7 i8 i10 i11 i12 i13 i15 i16 i17 i18 i19 i20 i21 i22 i23 i24 i25 i26 : Int32} {S : aS} {E : Nat → List (Int × Int)} {Lw : Nat → Int} {Q : Int32 × Nat × vM → Prop}
variable {m' : vM} {N' n w : Nat} {X : Nat → Prop} {F : Nat → Nat → Int} {Z : zS} {S1 : aS}
theorem PG_0 : PG (r9 + (1 + n)) (mQ m r9 n) r9 n F 0 0 := by
  refine ⟨⟨if_pos rfl, if_pos rfl, by omega⟩, fun j hj => ⟨?_, ?_, ?_⟩, fun j u _ _ h => by omega⟩
  · show (if r9 = r9 then (if j < n then some (r9 + (1 + j)) else none) else _) = _
    rw [if_pos rfl, if_pos hj, Nat.add_assoc]
  · show (if r9 + 1 + j = r9 then 8 else if r9 < r9 + 1 + j ∧ r9 + 1 + j ≤ r9 + n then 6 else _) = 6
    rw [if_neg (by omega), if_pos (by omega)]
  · show (if r9 + 1 + j = r9 then n else if r9 < r9 + 1 + j ∧ r9 + 1 + j ≤ r9 + n then 9 else _) = 9
    rw [if_neg (by omega), if_pos (by omega)]
theorem fM_Q : fM r9 X m (mQ m r9 n) := by
  intro x hx
  refine ⟨⟨?_, ?_⟩, fun _ => ⟨?_, ?_⟩⟩
  · show (if x = r9 then 8 else if r9 < x ∧ x ≤ r9 + n then 6 else m.1 x) = _
    rw [if_neg (by omega), if_neg (by omega)]
  · show (if x = r9 then n else if r9 < x ∧ x ≤ r9 + n then 9 else m.2.1 x) = _
    rw [if_neg (by omega), if_neg (by omega)]
  · funext y
    show (if r9 ≤ x ∧ x ≤ r9 + n then 0 else m.2.2.1 x y) = _
    rw [if_neg (by omega)]
  · funext y
    show (if x = r9 then (if y < n then some (r9 + (1 + y)) else none) else if r9 < x ∧ x ≤ r9 + n then none else m.2.2.2 x y) = _
    rw [if_neg (by omega), if_neg (by omega)]
theorem PG_s (h : PG N m r9 n F k w) (hk : k < n) : PG N (mI m (r9 + 1 + k) w (xI (F k w))) r9 n F k (w + 1) := by
  refine ⟨h.1, h.2.1, fun j u hj hu h9 => ?_⟩
  by_cases g : j = k ∧ u = w
  · rw [g.1, g.2, mi_eq]
  · by_cases g2 : j = k
    · rw [g2, mi_nj (fun e => g ⟨g2, e⟩), ← g2]
      exact h.2.2 j u hj hu (by omega)
    · rw [mi_na (by omega)]
      exact h.2.2 j u hj hu (by omega)
theorem PG_9 (h : PG N m r9 n F k 9) : PG N m r9 n F (k + 1) 0 := ⟨h.1, h.2.1, fun j u hj hu h9 => h.2.2 j u hj hu (by omega)⟩
theorem PG_W (h : PG N m r9 n F n 0) : WR N m r9 n F := ⟨h.1, fun j hj => ⟨(h.2.1 j hj).1, (h.2.1 j hj).2.1, (h.2.1 j hj).2.2, fun u hu => h.2.2 j u hj hu (.inl hj)⟩⟩
theorem L_132 {g : Nat} (hI : INm E Lw (uz Z) [] (fun _ => 20)) (hn : n = Z.1) (hF : ∀ k w, F k w = tl ((uz Z).2.2.1 k) w) (hk : k < n) (hQ : ∀ m, PS r9 m s Z → PG N m r9 n F (k + 1) 0 → wq (fL_L_law L xs g 123 N m kc ks 0 s i3 i4 i5 i6 i7 i8 r9 (xI ((k + 1 : Nat) : Int)) 0 0 0 0 0 0 0 0 0 0 0 0 0 0 0 0) Q) : ∀ r w, w + r = 9 → ∀ m, PS r9 m s Z → PG N m r9 n F k w → wq (fL_L_law L xs (r + 1 + g) 132 N m kc ks 0 s i3 i4 i5 i6 i7 i8 r9 (xI (k : Nat)) (xI (w : Nat)) 0 0 0 0 0 0 0 0 0 0 0 0 0 0 0) Q := by
  have hn10 : Z.1 ≤ 10 := hI.1.1
  intro r
  induction r with
  | zero =>
    intro w hw m hP hG
    obtain rfl : w = 9 := by omega
    rw [show 0 + 1 + g = g + 1 by omega]
    refine w_r fE_L_law_132 ?_
    unfold fB_L_law_132
    refine w_i (by simp (disch := omega) only [vin, mk_I, ml_I, mr_I, mk_R, ml_R, mi_R, mkN_eq, mlN_eq, miN_eq, mkN_ne, mlN_ne, miN_ne, mrN_ne, mi_eq, mi_na, mi_nj, mr_eq, mr_na, mr_nj, xL0, xL1, xL2, xL3, xL4, xL5, xL6, xL7, xL8, xL9, xL10, xL12, xL16, xL20, xL24, xL31, xL50, xL60, xL89, xL99, xL100, xL200, xI_add, xI_sub, xI_mul, xI_neg, xI_nat, xI_cl, Int.toNat_natCast, Int.reduceToNat, xltT, xltF, xleT, xleF, xeqT, xeqF, nleT, nleF, nltT, nltF, neqT, neqF, ileT, ileF, iltT, iltF, ieqT, ieqF, or_false, or_true, false_or, true_or, and_true, true_and, and_false, false_and, not_false_eq_true, not_true_eq_false, ↓reduceIte, if_true, if_false]) ?_
    rw [show xI (k : Nat) + 1 = xI ((k + 1 : Nat) : Int) by rw [xL1, xI_add]; rfl]
    exact hQ m hP (PG_9 hG)
  | succ r ih =>
    intro w hw m hP hG
    have hd := C_door (w := (w : Nat)) hP.1 hI (by show k < Z.1; omega) (by omega)
    rw [Int.toNat_natCast, ← hF] at hd
    obtain ⟨a1, a2, a3⟩ := hG.2.1 k hk
    have hr : mr m r9 (xI (k : Nat)).toNatClampNeg = some (r9 + 1 + k) := by rw [← a1]; simp (disch := omega) only [vin, mk_I, ml_I, mr_I, mk_R, ml_R, mi_R, mkN_eq, mlN_eq, miN_eq, mkN_ne, mlN_ne, miN_ne, mrN_ne, mi_eq, mi_na, mi_nj, mr_eq, mr_na, mr_nj, xL0, xL1, xL2, xL3, xL4, xL5, xL6, xL7, xL8, xL9, xL10, xL12, xL16, xL20, xL24, xL31, xL50, xL60, xL89, xL99, xL100, xL200, xI_add, xI_sub, xI_mul, xI_neg, xI_nat, xI_cl, Int.toNat_natCast, Int.reduceToNat, xltT, xltF, xleT, xleF, xeqT, xeqF, nleT, nleF, nltT, nltF, neqT, neqF, ileT, ileF, iltT, iltF, ieqT, ieqF, or_false, or_true, false_or, true_or, and_true, true_and, and_false, false_and, not_false_eq_true, not_true_eq_false, ↓reduceIte, if_true, if_false]
    have hcl : (xI (w : Nat)).toNatClampNeg = w := by simp (disch := omega) only [vin, mk_I, ml_I, mr_I, mk_R, ml_R, mi_R, mkN_eq, mlN_eq, miN_eq, mkN_ne, mlN_ne, miN_ne, mrN_ne, mi_eq, mi_na, mi_nj, mr_eq, mr_na, mr_nj, xL0, xL1, xL2, xL3, xL4, xL5, xL6, xL7, xL8, xL9, xL10, xL12, xL16, xL20, xL24, xL31, xL50, xL60, xL89, xL99, xL100, xL200, xI_add, xI_sub, xI_mul, xI_neg, xI_nat, xI_cl, Int.toNat_natCast, Int.reduceToNat, xltT, xltF, xleT, xleF, xeqT, xeqF, nleT, nleF, nltT, nltF, neqT, neqF, ileT, ileF, iltT, iltF, ieqT, ieqF, or_false, or_true, false_or, true_or, and_true, true_and, and_false, false_and, not_false_eq_true, not_true_eq_false, ↓reduceIte, if_true, if_false]
    rw [show r + 1 + 1 + g = (r + 1 + g) + 1 by omega]
    refine w_r fE_L_law_132 ?_
    unfold fB_L_law_132
    refine w_n (by simp (disch := omega) only [vin, mk_I, ml_I, mr_I, mk_R, ml_R, mi_R, mkN_eq, mlN_eq, miN_eq, mkN_ne, mlN_ne, miN_ne, mrN_ne, mi_eq, mi_na, mi_nj, mr_eq, mr_na, mr_nj, xL0, xL1, xL2, xL3, xL4, xL5, xL6, xL7, xL8, xL9, xL10, xL12, xL16, xL20, xL24, xL31, xL50, xL60, xL89, xL99, xL100, xL200, xI_add, xI_sub, xI_mul, xI_neg, xI_nat, xI_cl, Int.toNat_natCast, Int.reduceToNat, xltT, xltF, xleT, xleF, xeqT, xeqF, nleT, nleF, nltT, nltF, neqT, neqF, ileT, ileF, iltT, iltF, ieqT, ieqF, or_false, or_true, false_or, true_or, and_true, true_and, and_false, false_and, not_false_eq_true, not_true_eq_false, ↓reduceIte, if_true, if_false]) ?_
    refine w_i hG.1.1 ?_
    refine w_i (by simp (disch := omega) only [vin, mk_I, ml_I, mr_I, mk_R, ml_R, mi_R, mkN_eq, mlN_eq, miN_eq, mkN_ne, mlN_ne, miN_ne, mrN_ne, mi_eq, mi_na, mi_nj, mr_eq, mr_na, mr_nj, xL0, xL1, xL2, xL3, xL4, xL5, xL6, xL7, xL8, xL9, xL10, xL12, xL16, xL20, xL24, xL31, xL50, xL60, xL89, xL99, xL100, xL200, xI_add, xI_sub, xI_mul, xI_neg, xI_nat, xI_cl, Int.toNat_natCast, Int.reduceToNat, xltT, xltF, xleT, xleF, xeqT, xeqF, nleT, nleF, nltT, nltF, neqT, neqF, ileT, ileF, iltT, iltF, ieqT, ieqF, or_false, or_true, false_or, true_or, and_true, true_and, and_false, false_and, not_false_eq_true, not_true_eq_false, ↓reduceIte, if_true, if_false, hG.1.2.1]) ?_
    refine w_b hr ?_
    refine w_i hP.1.1.1 ?_
    refine w_b hd ?_
    refine w_i a2 ?_
    refine w_i (by simp (disch := omega) only [vin, mk_I, ml_I, mr_I, mk_R, ml_R, mi_R, mkN_eq, mlN_eq, miN_eq, mkN_ne, mlN_ne, miN_ne, mrN_ne, mi_eq, mi_na, mi_nj, mr_eq, mr_na, mr_nj, xL0, xL1, xL2, xL3, xL4, xL5, xL6, xL7, xL8, xL9, xL10, xL12, xL16, xL20, xL24, xL31, xL50, xL60, xL89, xL99, xL100, xL200, xI_add, xI_sub, xI_mul, xI_neg, xI_nat, xI_cl, Int.toNat_natCast, Int.reduceToNat, xltT, xltF, xleT, xleF, xeqT, xeqF, nleT, nleF, nltT, nltF, neqT, neqF, ileT, ileF, iltT, iltF, ieqT, ieqF, or_false, or_true, false_or, true_or, and_true, true_and, and_false, false_and, not_false_eq_true, not_true_eq_false, ↓reduceIte, if_true, if_false, a3]) ?_
    rw [hcl, show xI (w : Nat) + 1 = xI ((w + 1 : Nat) : Int) by rw [xL1, xI_add]; rfl]
    exact ih (w + 1) (by omega) _ (PS_fr hP hn10 (fM_I0 (by omega)) (Nat.le_refl _)) (PG_s hG hk)
theorem L_123r {g : Nat} (hI : INm E Lw (uz Z) [] (fun _ => 20)) (hn : n = Z.1) (hF : ∀ k w, F k w = tl ((uz Z).2.2.1 k) w) (hQ : ∀ m, PS r9 m s Z → WR N m r9 n F → wq (fL_L_law L xs g 123 N m kc ks 0 s (xI (n : Nat)) i4 i5 i6 i7 i8 r9 (xI (n : Nat)) 0 0 0 0 0 0 0 0 0 0 0 0 0 0 0 0) Q) : ∀ r k, k + r = n → ∀ m, PS r9 m s Z → PG N m r9 n F k 0 → wq (fL_L_law L xs (11 * r + g) 123 N m kc ks 0 s (xI (n : Nat)) i4 i5 i6 i7 i8 r9 (xI (k : Nat)) 0 0 0 0 0 0 0 0 0 0 0 0 0 0 0 0) Q := by
  have hn10 : Z.1 ≤ 10 := hI.1.1
  intro r
  induction r with
  | zero =>
    intro k hk m hP hG
    obtain rfl : k = n := by omega
    rw [show 11 * 0 + g = g by omega]
    exact hQ m hP (PG_W hG)
  | succ r ih =>
    intro k hk m hP hG
    rw [show 11 * (r + 1) + g = (9 + 1 + (11 * r + g)) + 1 by omega]
    refine w_r fE_L_law_123 ?_
    unfold fB_L_law_123
    refine w_n (by simp (disch := omega) only [vin, mk_I, ml_I, mr_I, mk_R, ml_R, mi_R, mkN_eq, mlN_eq, miN_eq, mkN_ne, mlN_ne, miN_ne, mrN_ne, mi_eq, mi_na, mi_nj, mr_eq, mr_na, mr_nj, xL0, xL1, xL2, xL3, xL4, xL5, xL6, xL7, xL8, xL9, xL10, xL12, xL16, xL20, xL24, xL31, xL50, xL60, xL89, xL99, xL100, xL200, xI_add, xI_sub, xI_mul, xI_neg, xI_nat, xI_cl, Int.toNat_natCast, Int.reduceToNat, xltT, xltF, xleT, xleF, xeqT, xeqF, nleT, nleF, nltT, nltF, neqT, neqF, ileT, ileF, iltT, iltF, ieqT, ieqF, or_false, or_true, false_or, true_or, and_true, true_and, and_false, false_and, not_false_eq_true, not_true_eq_false, ↓reduceIte, if_true, if_false]) ?_
    exact L_132 hI hn hF (by omega) (fun m hP hG => ih (k + 1) (by omega) m hP hG) 9 0 (by omega) m hP hG
end
