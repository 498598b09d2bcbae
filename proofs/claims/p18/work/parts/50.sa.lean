def a_sum (S : aS) (j k : Nat) : Nat → Int
  | 0 => 0
  | r + 1 => (S.2.2.1 k).1 j + a_sum S j (k + 1) r
section
variable {m m' : vM} {N N' s k y b q : Nat} {X : Nat → Prop} {D : zD} {Z : zS} {S : aS} {E : Nat → List (Int × Int)} {Lw : Nat → Int}
theorem a_sum_le {j : Nat} : ∀ r k, (∀ i, k ≤ i → i < k + r → 0 ≤ (S.2.2.1 i).1 j ∧ (S.2.2.1 i).1 j ≤ 1000) → 0 ≤ a_sum S j k r ∧ a_sum S j k r ≤ 1000 * r := by
  intro r
  induction r with
  | zero => intro k _; exact ⟨Int.le_refl _, Int.le_refl _⟩
  | succ r ih =>
    intro k h
    have h1 := h k (by omega) (by omega)
    have h2 := ih (k + 1) (fun i g1 g2 => h i (by omega) (by omega))
    show 0 ≤ (S.2.2.1 k).1 j + a_sum S j (k + 1) r ∧ (S.2.2.1 k).1 j + a_sum S j (k + 1) r ≤ _
    omega
/-- the mean that the class tells -/
noncomputable def a_mean (a b : Int) : UInt64 := if a + b ≤ 0 then FP.dconst0 else FP.ddiv (FP.i2d (xI a)) (FP.i2d (xI (a + b)))
theorem L_mean (h : CV m S) (hn : S.1 ≤ 10) (hc : ∀ k, k < S.1 → (0 ≤ (S.2.2.1 k).1 5 ∧ (S.2.2.1 k).1 5 ≤ 1000) ∧ 0 ≤ (S.2.2.1 k).1 6 ∧ (S.2.2.1 k).1 6 ≤ 1000) : ∀ r i, i + r = S.1 → ∀ f, r < f → ∀ a b : Int, 0 ≤ a ∧ a ≤ 1000 * i → 0 ≤ b ∧ b ≤ 1000 * i → fL_X3_mean f 6 m 0 (xI a) (xI b) (xI (i : Nat)) = some (a_mean (a + a_sum S 5 i r) (b + a_sum S 6 i r)) := by
  obtain ⟨⟨a0, a1, a2, hV1, hV2⟩, hR⟩ := h
  obtain ⟨v0, v2, v3, v4, v5, v6, v7, _, v9⟩ := hV1
  have f1 : mi m 1 1 = xI (S.1 : Nat) := hR.2.1
  intro r
  induction r with
  | zero =>
    intro i hi f hf a b ha hb
    obtain ⟨g, rfl⟩ : ∃ g, f = g + 1 := ⟨f - 1, by omega⟩
    show fB_X3_mean_6 (fL_X3_mean g) m 0 (xI a) (xI b) (xI (i : Nat)) = some (a_mean (a + 0) (b + 0))
    rw [Int.add_zero, Int.add_zero]
    unfold a_mean
    apply wq_eq
    unfold fB_X3_mean_6
    refine w_i a0 ?_
    refine w_b a1 ?_
    refine w_i v0 ?_
    refine w_i (by simp (disch := omega) only [vin, mk_I, ml_I, mr_I, mk_R, ml_R, mi_R, mkN_eq, mlN_eq, miN_eq, mkN_ne, mlN_ne, miN_ne, mrN_ne, mi_eq, mi_na, mi_nj, mr_eq, mr_na, mr_nj, xL0, xL1, xL2, xL3, xL4, xL5, xL6, xL7, xL8, xL9, xL10, xL12, xL16, xL20, xL24, xL31, xL50, xL60, xL89, xL99, xL100, xL200, xI_add, xI_sub, xI_mul, xI_neg, xI_nat, xI_cl, Int.toNat_natCast, Int.reduceToNat, xltT, xltF, xleT, xleF, xeqT, xeqF, nleT, nleF, nltT, nltF, neqT, neqF, ileT, ileF, iltT, iltF, ieqT, ieqF, or_false, or_true, false_or, true_or, and_true, true_and, and_false, false_and, not_false_eq_true, not_true_eq_false, ↓reduceIte, if_true, if_false, f1]) ?_
    by_cases e : a + b ≤ 0
    · rw [if_pos e]
      refine w_i (by simp (disch := omega) only [vin, mk_I, ml_I, mr_I, mk_R, ml_R, mi_R, mkN_eq, mlN_eq, miN_eq, mkN_ne, mlN_ne, miN_ne, mrN_ne, mi_eq, mi_na, mi_nj, mr_eq, mr_na, mr_nj, xL0, xL1, xL2, xL3, xL4, xL5, xL6, xL7, xL8, xL9, xL10, xL12, xL16, xL20, xL24, xL31, xL50, xL60, xL89, xL99, xL100, xL200, xI_add, xI_sub, xI_mul, xI_neg, xI_nat, xI_cl, Int.toNat_natCast, Int.reduceToNat, xltT, xltF, xleT, xleF, xeqT, xeqF, nleT, nleF, nltT, nltF, neqT, neqF, ileT, ileF, iltT, iltF, ieqT, ieqF, or_false, or_true, false_or, true_or, and_true, true_and, and_false, false_and, not_false_eq_true, not_true_eq_false, ↓reduceIte, if_true, if_false]) ?_
      exact w_s rfl
    · rw [if_neg e]
      refine w_n (by simp (disch := omega) only [vin, mk_I, ml_I, mr_I, mk_R, ml_R, mi_R, mkN_eq, mlN_eq, miN_eq, mkN_ne, mlN_ne, miN_ne, mrN_ne, mi_eq, mi_na, mi_nj, mr_eq, mr_na, mr_nj, xL0, xL1, xL2, xL3, xL4, xL5, xL6, xL7, xL8, xL9, xL10, xL12, xL16, xL20, xL24, xL31, xL50, xL60, xL89, xL99, xL100, xL200, xI_add, xI_sub, xI_mul, xI_neg, xI_nat, xI_cl, Int.toNat_natCast, Int.reduceToNat, xltT, xltF, xleT, xleF, xeqT, xeqF, nleT, nleF, nltT, nltF, neqT, neqF, ileT, ileF, iltT, iltF, ieqT, ieqF, or_false, or_true, false_or, true_or, and_true, true_and, and_false, false_and, not_false_eq_true, not_true_eq_false, ↓reduceIte, if_true, if_false]) ?_
      rw [xI_add]
      refine w_i (@decide_eq_true _ (Classical.propDecidable _) (fp_n64 (fp_div (by omega) (by omega)))) ?_
      exact w_s rfl
  | succ r ih =>
    intro i hi f hf a b ha hb
    obtain ⟨g, rfl⟩ : ∃ g, f = g + 1 := ⟨f - 1, by omega⟩
    obtain ⟨hr, hdB⟩ := v9 i (by omega)
    have hd := hR.2.2.1 i (by omega)
    have f5 : mi m (1 + 14 + 6 * i) 5 = xI ((S.2.2.1 i).1 5) := hd.1 5 (by omega)
    have f6 : mi m (1 + 14 + 6 * i) 6 = xI ((S.2.2.1 i).1 6) := hd.1 6 (by omega)
    have h56 := hc i (by omega)
    have hr2 : mr m (1 + 1) (xI (i : Nat)).toNatClampNeg = some (1 + 14 + 6 * i) := by rw [← hr]; simp (disch := omega) only [vin, mk_I, ml_I, mr_I, mk_R, ml_R, mi_R, mkN_eq, mlN_eq, miN_eq, mkN_ne, mlN_ne, miN_ne, mrN_ne, mi_eq, mi_na, mi_nj, mr_eq, mr_na, mr_nj, xL0, xL1, xL2, xL3, xL4, xL5, xL6, xL7, xL8, xL9, xL10, xL12, xL16, xL20, xL24, xL31, xL50, xL60, xL89, xL99, xL100, xL200, xI_add, xI_sub, xI_mul, xI_neg, xI_nat, xI_cl, Int.toNat_natCast, Int.reduceToNat, xltT, xltF, xleT, xleF, xeqT, xeqF, nleT, nleF, nltT, nltF, neqT, neqF, ileT, ileF, iltT, iltF, ieqT, ieqF, or_false, or_true, false_or, true_or, and_true, true_and, and_false, false_and, not_false_eq_true, not_true_eq_false, ↓reduceIte, if_true, if_false]
    have hvin : vin (xI (i : Nat)) (ml m (1 + 1)) := by simp (disch := omega) only [vin, mk_I, ml_I, mr_I, mk_R, ml_R, mi_R, mkN_eq, mlN_eq, miN_eq, mkN_ne, mlN_ne, miN_ne, mrN_ne, mi_eq, mi_na, mi_nj, mr_eq, mr_na, mr_nj, xL0, xL1, xL2, xL3, xL4, xL5, xL6, xL7, xL8, xL9, xL10, xL12, xL16, xL20, xL24, xL31, xL50, xL60, xL89, xL99, xL100, xL200, xI_add, xI_sub, xI_mul, xI_neg, xI_nat, xI_cl, Int.toNat_natCast, Int.reduceToNat, xltT, xltF, xleT, xleF, xeqT, xeqF, nleT, nleF, nltT, nltF, neqT, neqF, ileT, ileF, iltT, iltF, ieqT, ieqF, or_false, or_true, false_or, true_or, and_true, true_and, and_false, false_and, not_false_eq_true, not_true_eq_false, ↓reduceIte, if_true, if_false, v6]
    have e5 : a_sum S 5 i (r + 1) = (S.2.2.1 i).1 5 + a_sum S 5 (i + 1) r := rfl
    have e6 : a_sum S 6 i (r + 1) = (S.2.2.1 i).1 6 + a_sum S 6 (i + 1) r := rfl
    show fB_X3_mean_6 (fL_X3_mean g) m 0 (xI a) (xI b) (xI (i : Nat)) = _
    rw [e5, e6, ← Int.add_assoc, ← Int.add_assoc]
    have h9 := ih (i + 1) (by omega) g (by omega) (a + (S.2.2.1 i).1 5) (b + (S.2.2.1 i).1 6) (by omega) (by omega)
    apply wq_eq
    unfold fB_X3_mean_6
    refine w_i a0 ?_
    refine w_b a1 ?_
    refine w_i v0 ?_
    refine w_n (by simp (disch := omega) only [vin, mk_I, ml_I, mr_I, mk_R, ml_R, mi_R, mkN_eq, mlN_eq, miN_eq, mkN_ne, mlN_ne, miN_ne, mrN_ne, mi_eq, mi_na, mi_nj, mr_eq, mr_na, mr_nj, xL0, xL1, xL2, xL3, xL4, xL5, xL6, xL7, xL8, xL9, xL10, xL12, xL16, xL20, xL24, xL31, xL50, xL60, xL89, xL99, xL100, xL200, xI_add, xI_sub, xI_mul, xI_neg, xI_nat, xI_cl, Int.toNat_natCast, Int.reduceToNat, xltT, xltF, xleT, xleF, xeqT, xeqF, nleT, nleF, nltT, nltF, neqT, neqF, ileT, ileF, iltT, iltF, ieqT, ieqF, or_false, or_true, false_or, true_or, and_true, true_and, and_false, false_and, not_false_eq_true, not_true_eq_false, ↓reduceIte, if_true, if_false, f1]) ?_
    refine w_b a1 ?_
    refine w_i v0 ?_
    refine w_b v2 ?_
    refine w_i v5 ?_
    refine w_i hvin ?_
    refine w_b hr2 ?_
    refine w_i hdB.1 ?_
    refine w_b a1 ?_
    refine w_i v0 ?_
    refine w_b v2 ?_
    refine w_i v5 ?_
    refine w_i hvin ?_
    refine w_b hr2 ?_
    refine w_i hdB.1 ?_
    rw [f5, f6, xI_add, xI_add, show xI (i : Nat) + 1 = xI ((i + 1 : Nat) : Int) by rw [xL1, xI_add]; rfl]
    exact ⟨_, h9, rfl⟩
theorem S_mean (h : CV m S) (hn : S.1 ≤ 10) (hc : ∀ k, k < S.1 → (0 ≤ (S.2.2.1 k).1 5 ∧ (S.2.2.1 k).1 5 ≤ 1000) ∧ 0 ≤ (S.2.2.1 k).1 6 ∧ (S.2.2.1 k).1 6 ≤ 1000) : f_X3_mean m 0 = some (a_mean (a_sum S 5 0 S.1) (a_sum S 6 0 S.1)) := by
  have h9 := L_mean h hn hc S.1 0 (by omega) vF (by unfold vF; omega) 0 0 (by omega) (by omega)
  rw [Int.zero_add, Int.zero_add] at h9
  exact h9
theorem nA_unask {g : Int} (hg : g ≠ -1) : ∀ l : List aR, nA g (a_unask l) = 0 := by
  intro l
  induction l with
  | nil => rfl
  | cons a l ih =>
    unfold nA a_unask at ih ⊢
    rw [List.map_cons, List.countP_cons, ih]
    simp [fu]; omega
/-- what the reference holds against what a door tells -/
def tl (d : aD) (w : Nat) : Int := if w = 0 then d.1 3 else if w = 1 then d.1 4 else if w = 2 then d.1 2 else if w = 3 then d.2.1.length else if w = 4 then ((if d.1 3 = 1 then nA 0 d.2.1 + nA 1 d.2.1 else 0 : Nat) : Int) else if w = 5 then ((if d.1 3 = 1 then nA 1 d.2.1 else 0 : Nat) : Int) else if w = 6 then d.2.2.length else if w = 7 then d.1 5 else d.1 6
theorem tl_dF {d : aD} {w : Nat} (hw : w ≤ 8) : dF (mkd d) w = tl d w := by
  have hlen : (mkd d).2.1.length = d.2.1.length := by unfold mkd; rw [List.length_map]
  unfold dF tl
  by_cases e : d.1 3 = 1
  · rw [mkd_w e]
    have hw2 : w = 0 ∨ w = 1 ∨ w = 2 ∨ w = 3 ∨ w = 4 ∨ w = 5 ∨ w = 6 ∨ w = 7 ∨ w = 8 := by omega
    rcases hw2 with g | g | g | g | g | g | g | g | g <;> subst g <;> simp [e]
  · rw [mkd_o e]
    have n0 := nA_unask (g := 0) (by decide) d.2.1
    have n1 := nA_unask (g := 1) (by decide) d.2.1
    have nl : (a_unask d.2.1).length = d.2.1.length := by unfold a_unask; rw [List.length_map]
    have hw2 : w = 0 ∨ w = 1 ∨ w = 2 ∨ w = 3 ∨ w = 4 ∨ w = 5 ∨ w = 6 ∨ w = 7 ∨ w = 8 := by omega
    rcases hw2 with g | g | g | g | g | g | g | g | g <;> subst g <;> simp [e, n0, n1, nl]
/-- the state that is looked at: nothing of it changes -/
def PS (N : Nat) (m : vM) (s : Nat) (Z : zS) : Prop := CV m (uz Z) ∧ ZR N m s Z ∧ 149 ≤ N
theorem PS_fr (h : PS N m s Z) (hn : Z.1 ≤ 10) (f : fM N (fun _ => False) m m') (hN : N ≤ N') : PS N' m' s Z := ⟨CV_fr h.1 hn f h.2.2 (fun _ _ g => g.elim), ZR_fr h.2.1 f hN (fun _ _ g _ => g) (fun _ _ _ g => g), by have := h.2.2; omega⟩
variable {Q : Int32 × Nat × vM → Prop}
theorem L_same126 {i2 i3 : Int32} {r6 kc ks g : Nat} (h : PS N m s Z) (hI : INm E Lw (uz Z) [] (fun _ => 20)) (hk : k < Z.1) (h6 : mk m r6 = 6) (hl : ml m r6 = 9) (ht : ∀ w, w ≤ 8 → mi m r6 w = xI (tl (ud (Z.2.2.2.2.1 k)) w)) (hQ : wq (fL_X5_isSame g 160 N m kc ks s 0 i2 i3 (xI (k : Nat)) 0 0 q r6 0) Q) : ∀ r i, i + r = 9 → wq (fL_X5_isSame (r + 1 + g) 126 N m kc ks s 0 i2 i3 (xI (k : Nat)) 0 0 q r6 (xI (i : Nat))) Q := by
  have hn : Z.1 ≤ 10 := hI.1.1
  intro r
  induction r with
  | zero =>
    intro i hi
    rw [show 0 + 1 + g = g + 1 by omega]
    show wq (fB_X5_isSame_126 (fL_X5_isSame g) N m kc ks s 0 i2 i3 (xI (k : Nat)) 0 0 q r6 (xI (i : Nat))) Q
    unfold fB_X5_isSame_126
    refine w_i (by simp (disch := omega) only [vin, mk_I, ml_I, mr_I, mk_R, ml_R, mi_R, mkN_eq, mlN_eq, miN_eq, mkN_ne, mlN_ne, miN_ne, mrN_ne, mi_eq, mi_na, mi_nj, mr_eq, mr_na, mr_nj, xL0, xL1, xL2, xL3, xL4, xL5, xL6, xL7, xL8, xL9, xL10, xL12, xL16, xL20, xL24, xL31, xL50, xL60, xL89, xL99, xL100, xL200, xI_add, xI_sub, xI_mul, xI_neg, xI_nat, xI_cl, Int.toNat_natCast, Int.reduceToNat, xltT, xltF, xleT, xleF, xeqT, xeqF, nleT, nleF, nltT, nltF, neqT, neqF, ileT, ileF, iltT, iltF, ieqT, ieqF, or_false, or_true, false_or, true_or, and_true, true_and, and_false, false_and, not_false_eq_true, not_true_eq_false, ↓reduceIte, if_true, if_false]) ?_
    exact hQ
  | succ r ih =>
    intro i hi
    rw [show r + 1 + 1 + g = (r + 1 + g) + 1 by omega]
    have hd := S_X3door (w := (i : Nat)) h.1.1 h.1.2 hn hk (IN_Wa hI k hk) (by omega)
    rw [xW_self] at hd
    have e9 : dF (mkd ((uz Z).2.2.1 k)) (i : Nat) = tl (ud (Z.2.2.2.2.1 k)) i := tl_dF (by omega)
    rw [e9] at hd
    show wq (fB_X5_isSame_126 (fL_X5_isSame (r + 1 + g)) N m kc ks s 0 i2 i3 (xI (k : Nat)) 0 0 q r6 (xI (i : Nat))) Q
    unfold fB_X5_isSame_126
    refine w_n (by simp (disch := omega) only [vin, mk_I, ml_I, mr_I, mk_R, ml_R, mi_R, mkN_eq, mlN_eq, miN_eq, mkN_ne, mlN_ne, miN_ne, mrN_ne, mi_eq, mi_na, mi_nj, mr_eq, mr_na, mr_nj, xL0, xL1, xL2, xL3, xL4, xL5, xL6, xL7, xL8, xL9, xL10, xL12, xL16, xL20, xL24, xL31, xL50, xL60, xL89, xL99, xL100, xL200, xI_add, xI_sub, xI_mul, xI_neg, xI_nat, xI_cl, Int.toNat_natCast, Int.reduceToNat, xltT, xltF, xleT, xleF, xeqT, xeqF, nleT, nleF, nltT, nltF, neqT, neqF, ileT, ileF, iltT, iltF, ieqT, ieqF, or_false, or_true, false_or, true_or, and_true, true_and, and_false, false_and, not_false_eq_true, not_true_eq_false, ↓reduceIte, if_true, if_false]) ?_
    refine w_i h.1.1.1 ?_
    refine w_b hd ?_
    refine w_i h6 ?_
    refine w_i (by simp (disch := omega) only [vin, mk_I, ml_I, mr_I, mk_R, ml_R, mi_R, mkN_eq, mlN_eq, miN_eq, mkN_ne, mlN_ne, miN_ne, mrN_ne, mi_eq, mi_na, mi_nj, mr_eq, mr_na, mr_nj, xL0, xL1, xL2, xL3, xL4, xL5, xL6, xL7, xL8, xL9, xL10, xL12, xL16, xL20, xL24, xL31, xL50, xL60, xL89, xL99, xL100, xL200, xI_add, xI_sub, xI_mul, xI_neg, xI_nat, xI_cl, Int.toNat_natCast, Int.reduceToNat, xltT, xltF, xleT, xleF, xeqT, xeqF, nleT, nleF, nltT, nltF, neqT, neqF, ileT, ileF, iltT, iltF, ieqT, ieqF, or_false, or_true, false_or, true_or, and_true, true_and, and_false, false_and, not_false_eq_true, not_true_eq_false, ↓reduceIte, if_true, if_false, hl]) ?_
    have et : mi m r6 (xI (i : Nat)).toNatClampNeg = xI (tl (ud (Z.2.2.2.2.1 k)) i) := by rw [← ht i (by omega)]; simp (disch := omega) only [vin, mk_I, ml_I, mr_I, mk_R, ml_R, mi_R, mkN_eq, mlN_eq, miN_eq, mkN_ne, mlN_ne, miN_ne, mrN_ne, mi_eq, mi_na, mi_nj, mr_eq, mr_na, mr_nj, xL0, xL1, xL2, xL3, xL4, xL5, xL6, xL7, xL8, xL9, xL10, xL12, xL16, xL20, xL24, xL31, xL50, xL60, xL89, xL99, xL100, xL200, xI_add, xI_sub, xI_mul, xI_neg, xI_nat, xI_cl, Int.toNat_natCast, Int.reduceToNat, xltT, xltF, xleT, xleF, xeqT, xeqF, nleT, nleF, nltT, nltF, neqT, neqF, ileT, ileF, iltT, iltF, ieqT, ieqF, or_false, or_true, false_or, true_or, and_true, true_and, and_false, false_and, not_false_eq_true, not_true_eq_false, ↓reduceIte, if_true, if_false]
    refine w_i et.symm ?_
    rw [show xI (i : Nat) + 1 = xI ((i + 1 : Nat) : Int) by rw [xL1, xI_add]; rfl]
    exact ih (i + 1) (by omega)
theorem L_same160 {a b : Int} {r6 kc ks g : Nat} (h : PS N m s Z) (hI : INm E Lw (uz Z) [] (fun _ => 20)) (hk : k < Z.1) (hQ : wq (fL_X5_isSame g 7 N m kc ks s 0 (xI (a + (Z.2.2.2.2.1 k).2.2.2.1 5)) (xI (b + ((Z.2.2.2.2.1 k).2.2.2.1 5 + (Z.2.2.2.2.1 k).2.2.2.1 6))) (xI ((k + 1 : Nat) : Int)) 0 0 0 0 0) Q) : ∀ r i, i + r = (Z.2.2.2.2.1 k).2.2.2.2.1.length → wq (fL_X5_isSame (r + 1 + g) 160 N m kc ks s 0 (xI a) (xI b) (xI (k : Nat)) 0 0 (Z.2.2.2.2.1 k).1 r6 (xI (i : Nat))) Q := by
  have hn : Z.1 ≤ 10 := hI.1.1
  have hdk := h.2.1.2.1 k hk
  have hW := IN_Wa hI k hk
  obtain ⟨hla, hlk, hlv⟩ := ZR_len hI hk
  have hDK : (uz Z).2.2.1 k = ud (Z.2.2.2.2.1 k) := rfl
  generalize Z.2.2.2.2.1 k = D at hdk hW hla hlk hDK hQ ⊢
  have p3 : mi m D.1 3 = xI (D.2.2.2.1 3) := hdk.2.1.1 3 (by omega)
  have p7 : mi m D.1 7 = xI (D.2.2.2.1 5) := hdk.2.1.2.1
  have p8 : mi m D.1 8 = xI (D.2.2.2.1 6) := hdk.2.1.2.2
  obtain ⟨⟨q1, q2, q3, q4, q5⟩, hb, ⟨⟨cN, c8, cl, cr⟩, c2⟩, hd⟩ := hdk
  rw [hDK] at hW
  have hst : 0 ≤ D.2.2.2.1 3 ∧ D.2.2.2.1 3 ≤ 3 := hW.2.2.2.1
  intro r
  induction r with
  | zero =>
    intro i hi
    rw [show 0 + 1 + g = g + 1 by omega]
    show wq (fB_X5_isSame_160 (fL_X5_isSame g) N m kc ks s 0 (xI a) (xI b) (xI (k : Nat)) 0 0 D.1 r6 (xI (i : Nat))) Q
    unfold fB_X5_isSame_160
    refine w_i q3 ?_
    refine w_b q4 ?_
    refine w_i c8 ?_
    refine w_i (by simp (disch := omega) only [vin, mk_I, ml_I, mr_I, mk_R, ml_R, mi_R, mkN_eq, mlN_eq, miN_eq, mkN_ne, mlN_ne, miN_ne, mrN_ne, mi_eq, mi_na, mi_nj, mr_eq, mr_na, mr_nj, xL0, xL1, xL2, xL3, xL4, xL5, xL6, xL7, xL8, xL9, xL10, xL12, xL16, xL20, xL24, xL31, xL50, xL60, xL89, xL99, xL100, xL200, xI_add, xI_sub, xI_mul, xI_neg, xI_nat, xI_cl, Int.toNat_natCast, Int.reduceToNat, xltT, xltF, xleT, xleF, xeqT, xeqF, nleT, nleF, nltT, nltF, neqT, neqF, ileT, ileF, iltT, iltF, ieqT, ieqF, or_false, or_true, false_or, true_or, and_true, true_and, and_false, false_and, not_false_eq_true, not_true_eq_false, ↓reduceIte, if_true, if_false, cl]) ?_
    rw [p7, p8, xI_add, xI_add, xI_add, show xI (k : Nat) + 1 = xI ((k + 1 : Nat) : Int) by rw [xL1, xI_add]; rfl]
    exact hQ
  | succ r ih =>
    intro i hi
    rw [show r + 1 + 1 + g = (r + 1 + g) + 1 by omega]
    obtain ⟨z, h1, h2⟩ := dr_at (l := D.2.2.2.2.1) (i := i) (by omega)
    obtain ⟨z1, z3, z4, z5⟩ := c2 z (List.mem_of_getElem? h1)
    have hrz : mr m D.2.1 (xI (i : Nat)).toNatClampNeg = some z.1 := by rw [← cr i z h1]; simp (disch := omega) only [vin, mk_I, ml_I, mr_I, mk_R, ml_R, mi_R, mkN_eq, mlN_eq, miN_eq, mkN_ne, mlN_ne, miN_ne, mrN_ne, mi_eq, mi_na, mi_nj, mr_eq, mr_na, mr_nj, xL0, xL1, xL2, xL3, xL4, xL5, xL6, xL7, xL8, xL9, xL10, xL12, xL16, xL20, xL24, xL31, xL50, xL60, xL89, xL99, xL100, xL200, xI_add, xI_sub, xI_mul, xI_neg, xI_nat, xI_cl, Int.toNat_natCast, Int.reduceToNat, xltT, xltF, xleT, xleF, xeqT, xeqF, nleT, nleF, nltT, nltF, neqT, neqF, ileT, ileF, iltT, iltF, ieqT, ieqF, or_false, or_true, false_or, true_or, and_true, true_and, and_false, false_and, not_false_eq_true, not_true_eq_false, ↓reduceIte, if_true, if_false]
    have hvin : vin (xI (i : Nat)) (ml m D.2.1) := by simp (disch := omega) only [vin, mk_I, ml_I, mr_I, mk_R, ml_R, mi_R, mkN_eq, mlN_eq, miN_eq, mkN_ne, mlN_ne, miN_ne, mrN_ne, mi_eq, mi_na, mi_nj, mr_eq, mr_na, mr_nj, xL0, xL1, xL2, xL3, xL4, xL5, xL6, xL7, xL8, xL9, xL10, xL12, xL16, xL20, xL24, xL31, xL50, xL60, xL89, xL99, xL100, xL200, xI_add, xI_sub, xI_mul, xI_neg, xI_nat, xI_cl, Int.toNat_natCast, Int.reduceToNat, xltT, xltF, xleT, xleF, xeqT, xeqF, nleT, nleF, nltT, nltF, neqT, neqF, ileT, ileF, iltT, iltF, ieqT, ieqF, or_false, or_true, false_or, true_or, and_true, true_and, and_false, false_and, not_false_eq_true, not_true_eq_false, ↓reduceIte, if_true, if_false, cl]
    have i0 := z5 0 (by omega)
    have i1 := z5 1 (by omega)
    have i2' := z5 2 (by omega)
    have hi9 : (mkd ((uz Z).2.2.1 k)).2.1[i]? = some (fu z.2 2 (if D.2.2.2.1 3 = 1 then z.2 2 else -1)) := by
      rw [hDK]
      show ((D.2.2.2.2.1.map Prod.snd).map (fun a => fu a 2 (if D.2.2.2.1 3 = 1 then a 2 else -1)))[i]? = _
      rw [List.getElem?_map, List.getElem?_map, h1]; rfl
    have ha : ∀ w : Int, 0 ≤ w ∧ w ≤ 2 → f_X3_asks m 0 (xI (k : Nat)) (xI (i : Nat)) (xI w) = some (xI (fu z.2 2 (if D.2.2.2.1 3 = 1 then z.2 2 else -1) w.toNat)) := by
      intro w hw
      have h9 := S_X3asks (w := w) h.1.1 h.1.2 hn hk (by rw [hDK]; exact hW) hi9 hw
      rw [xW_self] at h9; exact h9
    have ha0 := ha 0 (by omega)
    have ha1 := ha 1 (by omega)
    have ha2 := ha 2 (by omega)
    rw [show (0 : Int).toNat = 0 by rfl, fu_ne (by omega)] at ha0
    rw [show (1 : Int).toNat = 1 by rfl, fu_ne (by omega)] at ha1
    rw [show (2 : Int).toNat = 2 by rfl, fu_eq] at ha2
    have ek : xI (i : Nat) + 1 = xI ((i + 1 : Nat) : Int) := by rw [xL1, xI_add]; rfl
    show wq (fB_X5_isSame_160 (fL_X5_isSame (r + 1 + g)) N m kc ks s 0 (xI a) (xI b) (xI (k : Nat)) 0 0 D.1 r6 (xI (i : Nat))) Q
    unfold fB_X5_isSame_160
    refine w_i q3 ?_
    refine w_b q4 ?_
    refine w_i c8 ?_
    refine w_n (by simp (disch := omega) only [vin, mk_I, ml_I, mr_I, mk_R, ml_R, mi_R, mkN_eq, mlN_eq, miN_eq, mkN_ne, mlN_ne, miN_ne, mrN_ne, mi_eq, mi_na, mi_nj, mr_eq, mr_na, mr_nj, xL0, xL1, xL2, xL3, xL4, xL5, xL6, xL7, xL8, xL9, xL10, xL12, xL16, xL20, xL24, xL31, xL50, xL60, xL89, xL99, xL100, xL200, xI_add, xI_sub, xI_mul, xI_neg, xI_nat, xI_cl, Int.toNat_natCast, Int.reduceToNat, xltT, xltF, xleT, xleF, xeqT, xeqF, nleT, nleF, nltT, nltF, neqT, neqF, ileT, ileF, iltT, iltF, ieqT, ieqF, or_false, or_true, false_or, true_or, and_true, true_and, and_false, false_and, not_false_eq_true, not_true_eq_false, ↓reduceIte, if_true, if_false, cl]) ?_
    refine w_i h.1.1.1 ?_
    refine w_b ha0 ?_
    refine w_b q4 ?_
    refine w_i c8 ?_
    refine w_i hvin ?_
    refine w_b hrz ?_
    refine w_i z3 ?_
    refine w_i (by simp (disch := omega) only [vin, mk_I, ml_I, mr_I, mk_R, ml_R, mi_R, mkN_eq, mlN_eq, miN_eq, mkN_ne, mlN_ne, miN_ne, mrN_ne, mi_eq, mi_na, mi_nj, mr_eq, mr_na, mr_nj, xL0, xL1, xL2, xL3, xL4, xL5, xL6, xL7, xL8, xL9, xL10, xL12, xL16, xL20, xL24, xL31, xL50, xL60, xL89, xL99, xL100, xL200, xI_add, xI_sub, xI_mul, xI_neg, xI_nat, xI_cl, Int.toNat_natCast, Int.reduceToNat, xltT, xltF, xleT, xleF, xeqT, xeqF, nleT, nleF, nltT, nltF, neqT, neqF, ileT, ileF, iltT, iltF, ieqT, ieqF, or_false, or_true, false_or, true_or, and_true, true_and, and_false, false_and, not_false_eq_true, not_true_eq_false, ↓reduceIte, if_true, if_false, z4]) ?_
    refine w_i i0.symm ?_
    refine w_b ha1 ?_
    refine w_b q4 ?_
    refine w_i c8 ?_
    refine w_i hvin ?_
    refine w_b hrz ?_
    refine w_i z3 ?_
    refine w_i (by simp (disch := omega) only [vin, mk_I, ml_I, mr_I, mk_R, ml_R, mi_R, mkN_eq, mlN_eq, miN_eq, mkN_ne, mlN_ne, miN_ne, mrN_ne, mi_eq, mi_na, mi_nj, mr_eq, mr_na, mr_nj, xL0, xL1, xL2, xL3, xL4, xL5, xL6, xL7, xL8, xL9, xL10, xL12, xL16, xL20, xL24, xL31, xL50, xL60, xL89, xL99, xL100, xL200, xI_add, xI_sub, xI_mul, xI_neg, xI_nat, xI_cl, Int.toNat_natCast, Int.reduceToNat, xltT, xltF, xleT, xleF, xeqT, xeqF, nleT, nleF, nltT, nltF, neqT, neqF, ileT, ileF, iltT, iltF, ieqT, ieqF, or_false, or_true, false_or, true_or, and_true, true_and, and_false, false_and, not_false_eq_true, not_true_eq_false, ↓reduceIte, if_true, if_false, z4]) ?_
    refine w_i i1.symm ?_
    refine w_b ha2 ?_
    by_cases e : D.2.2.2.1 3 = 1
    · rw [if_pos e]
      refine w_i (by simp (disch := omega) only [vin, mk_I, ml_I, mr_I, mk_R, ml_R, mi_R, mkN_eq, mlN_eq, miN_eq, mkN_ne, mlN_ne, miN_ne, mrN_ne, mi_eq, mi_na, mi_nj, mr_eq, mr_na, mr_nj, xL0, xL1, xL2, xL3, xL4, xL5, xL6, xL7, xL8, xL9, xL10, xL12, xL16, xL20, xL24, xL31, xL50, xL60, xL89, xL99, xL100, xL200, xI_add, xI_sub, xI_mul, xI_neg, xI_nat, xI_cl, Int.toNat_natCast, Int.reduceToNat, xltT, xltF, xleT, xleF, xeqT, xeqF, nleT, nleF, nltT, nltF, neqT, neqF, ileT, ileF, iltT, iltF, ieqT, ieqF, or_false, or_true, false_or, true_or, and_true, true_and, and_false, false_and, not_false_eq_true, not_true_eq_false, ↓reduceIte, if_true, if_false, p3]) ?_
      refine w_b q4 ?_
      refine w_i c8 ?_
      refine w_i hvin ?_
      refine w_b hrz ?_
      refine w_i z3 ?_
      refine w_i (by simp (disch := omega) only [vin, mk_I, ml_I, mr_I, mk_R, ml_R, mi_R, mkN_eq, mlN_eq, miN_eq, mkN_ne, mlN_ne, miN_ne, mrN_ne, mi_eq, mi_na, mi_nj, mr_eq, mr_na, mr_nj, xL0, xL1, xL2, xL3, xL4, xL5, xL6, xL7, xL8, xL9, xL10, xL12, xL16, xL20, xL24, xL31, xL50, xL60, xL89, xL99, xL100, xL200, xI_add, xI_sub, xI_mul, xI_neg, xI_nat, xI_cl, Int.toNat_natCast, Int.reduceToNat, xltT, xltF, xleT, xleF, xeqT, xeqF, nleT, nleF, nltT, nltF, neqT, neqF, ileT, ileF, iltT, iltF, ieqT, ieqF, or_false, or_true, false_or, true_or, and_true, true_and, and_false, false_and, not_false_eq_true, not_true_eq_false, ↓reduceIte, if_true, if_false, z4]) ?_
      refine w_i i2'.symm ?_
      rw [ek]; exact ih (i + 1) (by omega)
    · rw [if_neg e]
      refine w_n (by simp (disch := omega) only [vin, mk_I, ml_I, mr_I, mk_R, ml_R, mi_R, mkN_eq, mlN_eq, miN_eq, mkN_ne, mlN_ne, miN_ne, mrN_ne, mi_eq, mi_na, mi_nj, mr_eq, mr_na, mr_nj, xL0, xL1, xL2, xL3, xL4, xL5, xL6, xL7, xL8, xL9, xL10, xL12, xL16, xL20, xL24, xL31, xL50, xL60, xL89, xL99, xL100, xL200, xI_add, xI_sub, xI_mul, xI_neg, xI_nat, xI_cl, Int.toNat_natCast, Int.reduceToNat, xltT, xltF, xleT, xleF, xeqT, xeqF, nleT, nleF, nltT, nltF, neqT, neqF, ileT, ileF, iltT, iltF, ieqT, ieqF, or_false, or_true, false_or, true_or, and_true, true_and, and_false, false_and, not_false_eq_true, not_true_eq_false, ↓reduceIte, if_true, if_false, p3]) ?_
      refine w_i rfl ?_
      rw [ek]; exact ih (i + 1) (by omega)
end
