section
variable {L N r9 r14 kc ks s k : Nat} {xs : Nat → Int32} {m : vM} {i3 i4 i5 i6 i7 i8 i10 i11 i12 i13 i15 i16 i17 i18 i19 i20 i21 i22 i23 i24 i25 i26 : Int32} {S : aS} {E : Nat → List (Int × Int)} {Lw : Nat → Int} {Q : Int32 × Nat × vM → Prop}
variable {m' : vM} {N' n M0 : Nat} {X : Nat → Prop} {F : Nat → Nat → Int} {Z : zS} {S1 : aS} {tot : Int}
set_option maxHeartbeats 1000000 in
theorem L_286 {G : Nat} (hI : INm E Lw (uz Z) [] (fun _ => 20)) (hn : n = Z.1) (hF : ∀ k w, F k w = tl (S1.2.2.1 k) w) (hTD : ∀ k, k < n → TD (S1.2.2.1 k) ((uz Z).2.2.1 k)) (hW1 : ∀ k, k < n → WDr (S1.2.2.1 k)) (hQ : ∀ g, G ≤ g → ∀ m, PS (M0 + 1) m s Z → wq (fL_L_law L xs g 29 (M0 + 1) m kc ks 0 s (xI (n : Nat)) (i4 + 1) 0 0 0 0 0 0 0 0 0 0 0 0 0 0 0 0 0 0 0 0 0 0) Q) : ∀ r k, k + r = n → ∀ (m : vM) (c : Nat → Int) (x y : Int), PS M0 m s Z → WR M0 m r9 n F → (mk m M0 = 6 ∧ ml m M0 = 4 ∧ ∀ j, j < 4 → mi m M0 j = xI (c j)) → (∀ j, j < 4 → c j + a_cnt (uz Z) (j : Nat) k r = a_cnt (uz Z) (j : Nat) 0 n) → x + sm (fun k => ((uz Z).2.2.1 k).1 5 - (S1.2.2.1 k).1 5) k r = tot → y + a_opn (uz Z) k r = a_opn (uz Z) 0 n → ∀ f, G + 1300 + 60 * r < f → wq (fL_L_law L xs f 286 (M0 + 1) m kc ks 0 s (xI (n : Nat)) i4 i5 i6 i7 i8 r9 i10 i11 (xI tot) (xI x) M0 (xI y) (xI (k : Nat)) 0 0 0 0 0 0 0 0 0 0) Q := by
  have hn10 : Z.1 ≤ 10 := hI.1.1
  have hvl : (uz Z).2.2.2.length ≤ 60 := hI.2.2.1
  intro r
  induction r with
  | zero =>
    intro k hk m c x y hP hWR hrow hc hx hy f hf
    have hx : x + 0 = tot := hx
    have hy : y + 0 = a_opn (uz Z) 0 n := hy
    obtain rfl : x = tot := by omega
    have hkn : k = n := by omega
    subst hkn
    have hC := hP.1
    have h8 : f_X3_count m 0 (xI 8) = some (xI (a_opn (uz Z) 0 Z.1)) := C_count (w := 8) hC hI (by omega)
    have h6 : f_X3_count m 0 (xI 6) = some (xI ((uz Z).2.2.2.length : Nat)) := C_count (w := 6) hC hI (by omega)
    have hP1 : PS (M0 + 1) m s Z := PS_fr hP hn10 fM_rfl (Nat.le_succ _)
    obtain ⟨g, rfl⟩ : ∃ g, f = g + 2 := ⟨f - 2, by omega⟩
    refine w_r fE_L_law_286 ?_
    unfold fB_L_law_286
    refine w_i (by simp (disch := omega) only [vin, mk_I, ml_I, mr_I, mk_R, ml_R, mi_R, mkN_eq, mlN_eq, miN_eq, mkN_ne, mlN_ne, miN_ne, mrN_ne, mi_eq, mi_na, mi_nj, mr_eq, mr_na, mr_nj, xL0, xL1, xL2, xL3, xL4, xL5, xL6, xL7, xL8, xL9, xL10, xL12, xL16, xL20, xL24, xL31, xL50, xL60, xL89, xL99, xL100, xL200, xI_add, xI_sub, xI_mul, xI_neg, xI_nat, xI_cl, Int.toNat_natCast, Int.reduceToNat, xltT, xltF, xleT, xleF, xeqT, xeqF, nleT, nleF, nltT, nltF, neqT, neqF, ileT, ileF, iltT, iltF, ieqT, ieqF, or_false, or_true, false_or, true_or, and_true, true_and, and_false, false_and, not_false_eq_true, not_true_eq_false, ↓reduceIte, if_true, if_false]) ?_
    refine w_i rfl ?_
    refine w_i hC.1.1 ?_
    refine w_b h8 ?_
    refine w_i (by rw [← hn, ← hy, Int.add_zero]) ?_
    refine w_b h6 ?_
    refine w_i (by simp (disch := omega) only [vin, mk_I, ml_I, mr_I, mk_R, ml_R, mi_R, mkN_eq, mlN_eq, miN_eq, mkN_ne, mlN_ne, miN_ne, mrN_ne, mi_eq, mi_na, mi_nj, mr_eq, mr_na, mr_nj, xL0, xL1, xL2, xL3, xL4, xL5, xL6, xL7, xL8, xL9, xL10, xL12, xL16, xL20, xL24, xL31, xL50, xL60, xL89, xL99, xL100, xL200, xI_add, xI_sub, xI_mul, xI_neg, xI_nat, xI_cl, Int.toNat_natCast, Int.reduceToNat, xltT, xltF, xleT, xleF, xeqT, xeqF, nleT, nleF, nltT, nltF, neqT, neqF, ileT, ileF, iltT, iltF, ieqT, ieqF, or_false, or_true, false_or, true_or, and_true, true_and, and_false, false_and, not_false_eq_true, not_true_eq_false, ↓reduceIte, if_true, if_false]) ?_
    refine w_r fE_L_law_847 ?_
    unfold fB_L_law_847
    exact L_850 (G := G + 1250) hC hI hrow.1 hrow.2.1 (fun j hj => by
      rw [hrow.2.2 j hj]
      have h9 : c j + 0 = _ := hc j hj
      rw [Int.add_zero] at h9
      rw [h9, hn]; rfl) (fun g hg => L_883 (G := G) hC hI (fun g hg => hQ g hg m hP1) _ 0 (Nat.zero_add _) g (by omega)) 4 0 (by omega) g (by omega)
  | succ r ih =>
    intro k hk m c x y hP hWR hrow hc hx hy f hf
    have hkn : k < Z.1 := by omega
    have hC := hP.1
    have hTDk := hTD k (by omega)
    have hW1k := hW1 k (by omega)
    have hWk := IN_Wa hI k hkn
    have hst := IN_st hI k hkn
    have hcl : (xI (((uz Z).2.2.1 k).1 3)).toNatClampNeg = (((uz Z).2.2.1 k).1 3).toNat := by simp (disch := omega) only [vin, mk_I, ml_I, mr_I, mk_R, ml_R, mi_R, mkN_eq, mlN_eq, miN_eq, mkN_ne, mlN_ne, miN_ne, mrN_ne, mi_eq, mi_na, mi_nj, mr_eq, mr_na, mr_nj, xL0, xL1, xL2, xL3, xL4, xL5, xL6, xL7, xL8, xL9, xL10, xL12, xL16, xL20, xL24, xL31, xL50, xL60, xL89, xL99, xL100, xL200, xI_add, xI_sub, xI_mul, xI_neg, xI_nat, xI_cl, Int.toNat_natCast, Int.reduceToNat, xltT, xltF, xleT, xleF, xeqT, xeqF, nleT, nleF, nltT, nltF, neqT, neqF, ileT, ileF, iltT, iltF, ieqT, ieqF, or_false, or_true, false_or, true_or, and_true, true_and, and_false, false_and, not_false_eq_true, not_true_eq_false, ↓reduceIte, if_true, if_false]
    have d0 : f_X3_door m 0 (xI (k : Nat)) (xI 0) = some (xI (((uz Z).2.2.1 k).1 3)) := C_door (w := 0) hC hI hkn (by omega)
    have d1 : f_X3_door m 0 (xI (k : Nat)) (xI 1) = some (xI (((uz Z).2.2.1 k).1 4)) := C_door (w := 1) hC hI hkn (by omega)
    have d7 : f_X3_door m 0 (xI (k : Nat)) (xI 7) = some (xI (((uz Z).2.2.1 k).1 5)) := C_door (w := 7) hC hI hkn (by omega)
    have d8 : f_X3_door m 0 (xI (k : Nat)) (xI 8) = some (xI (((uz Z).2.2.1 k).1 6)) := C_door (w := 8) hC hI hkn (by omega)
    have es : sm (fun k => ((uz Z).2.2.1 k).1 5 - (S1.2.2.1 k).1 5) k (r + 1) = (((uz Z).2.2.1 k).1 5 - (S1.2.2.1 k).1 5) + sm (fun k => ((uz Z).2.2.1 k).1 5 - (S1.2.2.1 k).1 5) (k + 1) r := rfl
    have eo : a_opn (uz Z) k (r + 1) = (if ((uz Z).2.2.1 k).1 3 = 2 then (2 : Int) ^ k else 0) + a_opn (uz Z) (k + 1) r := rfl
    have ec : ∀ j : Nat, a_cnt (uz Z) (j : Nat) k (r + 1) = (if ((uz Z).2.2.1 k).1 3 = (j : Nat) then 1 else 0) + a_cnt (uz Z) (j : Nat) (k + 1) r := fun j => rfl
    rw [es] at hx
    rw [eo] at hy
    obtain ⟨⟨w1, w2, w3⟩, w4⟩ := hWR
    have hWR : WR M0 m r9 n F := ⟨⟨w1, w2, w3⟩, w4⟩
    obtain ⟨a1, a2, a3, a4⟩ := w4 k (by omega)
    have f0 : mi m (r9 + 1 + k) 0 = xI ((S1.2.2.1 k).1 3) := by rw [a4 0 (by omega), hF]; rfl
    have f7 : mi m (r9 + 1 + k) 7 = xI ((S1.2.2.1 k).1 5) := by rw [a4 7 (by omega), hF]; rfl
    have f8 : mi m (r9 + 1 + k) 8 = xI ((S1.2.2.1 k).1 6) := by rw [a4 8 (by omega), hF]; rfl
    have hr : mr m r9 (xI (k : Nat)).toNatClampNeg = some (r9 + 1 + k) := by rw [← a1]; simp (disch := omega) only [vin, mk_I, ml_I, mr_I, mk_R, ml_R, mi_R, mkN_eq, mlN_eq, miN_eq, mkN_ne, mlN_ne, miN_ne, mrN_ne, mi_eq, mi_na, mi_nj, mr_eq, mr_na, mr_nj, xL0, xL1, xL2, xL3, xL4, xL5, xL6, xL7, xL8, xL9, xL10, xL12, xL16, xL20, xL24, xL31, xL50, xL60, xL89, xL99, xL100, xL200, xI_add, xI_sub, xI_mul, xI_neg, xI_nat, xI_cl, Int.toNat_natCast, Int.reduceToNat, xltT, xltF, xleT, xleF, xeqT, xeqF, nleT, nleF, nltT, nltF, neqT, neqF, ileT, ileF, iltT, iltF, ieqT, ieqF, or_false, or_true, false_or, true_or, and_true, true_and, and_false, false_and, not_false_eq_true, not_true_eq_false, ↓reduceIte, if_true, if_false]
    have hvin : vin (xI (k : Nat)) (ml m r9) := by simp (disch := omega) only [vin, mk_I, ml_I, mr_I, mk_R, ml_R, mi_R, mkN_eq, mlN_eq, miN_eq, mkN_ne, mlN_ne, miN_ne, mrN_ne, mi_eq, mi_na, mi_nj, mr_eq, mr_na, mr_nj, xL0, xL1, xL2, xL3, xL4, xL5, xL6, xL7, xL8, xL9, xL10, xL12, xL16, xL20, xL24, xL31, xL50, xL60, xL89, xL99, xL100, xL200, xI_add, xI_sub, xI_mul, xI_neg, xI_nat, xI_cl, Int.toNat_natCast, Int.reduceToNat, xltT, xltF, xleT, xleF, xeqT, xeqF, nleT, nleF, nltT, nltF, neqT, neqF, ileT, ileF, iltT, iltF, ieqT, ieqF, or_false, or_true, false_or, true_or, and_true, true_and, and_false, false_and, not_false_eq_true, not_true_eq_false, ↓reduceIte, if_true, if_false, w2]
    have hv0 : vin (0 : Int32) (ml m (r9 + 1 + k)) := by simp (disch := omega) only [vin, mk_I, ml_I, mr_I, mk_R, ml_R, mi_R, mkN_eq, mlN_eq, miN_eq, mkN_ne, mlN_ne, miN_ne, mrN_ne, mi_eq, mi_na, mi_nj, mr_eq, mr_na, mr_nj, xL0, xL1, xL2, xL3, xL4, xL5, xL6, xL7, xL8, xL9, xL10, xL12, xL16, xL20, xL24, xL31, xL50, xL60, xL89, xL99, xL100, xL200, xI_add, xI_sub, xI_mul, xI_neg, xI_nat, xI_cl, Int.toNat_natCast, Int.reduceToNat, xltT, xltF, xleT, xleF, xeqT, xeqF, nleT, nleF, nltT, nltF, neqT, neqF, ileT, ileF, iltT, iltF, ieqT, ieqF, or_false, or_true, false_or, true_or, and_true, true_and, and_false, false_and, not_false_eq_true, not_true_eq_false, ↓reduceIte, if_true, if_false, a3]
    have hv7 : vin (7 : Int32) (ml m (r9 + 1 + k)) := by simp (disch := omega) only [vin, mk_I, ml_I, mr_I, mk_R, ml_R, mi_R, mkN_eq, mlN_eq, miN_eq, mkN_ne, mlN_ne, miN_ne, mrN_ne, mi_eq, mi_na, mi_nj, mr_eq, mr_na, mr_nj, xL0, xL1, xL2, xL3, xL4, xL5, xL6, xL7, xL8, xL9, xL10, xL12, xL16, xL20, xL24, xL31, xL50, xL60, xL89, xL99, xL100, xL200, xI_add, xI_sub, xI_mul, xI_neg, xI_nat, xI_cl, Int.toNat_natCast, Int.reduceToNat, xltT, xltF, xleT, xleF, xeqT, xeqF, nleT, nleF, nltT, nltF, neqT, neqF, ileT, ileF, iltT, iltF, ieqT, ieqF, or_false, or_true, false_or, true_or, and_true, true_and, and_false, false_and, not_false_eq_true, not_true_eq_false, ↓reduceIte, if_true, if_false, a3]
    have hv8 : vin (8 : Int32) (ml m (r9 + 1 + k)) := by simp (disch := omega) only [vin, mk_I, ml_I, mr_I, mk_R, ml_R, mi_R, mkN_eq, mlN_eq, miN_eq, mkN_ne, mlN_ne, miN_ne, mrN_ne, mi_eq, mi_na, mi_nj, mr_eq, mr_na, mr_nj, xL0, xL1, xL2, xL3, xL4, xL5, xL6, xL7, xL8, xL9, xL10, xL12, xL16, xL20, xL24, xL31, xL50, xL60, xL89, xL99, xL100, xL200, xI_add, xI_sub, xI_mul, xI_neg, xI_nat, xI_cl, Int.toNat_natCast, Int.reduceToNat, xltT, xltF, xleT, xleF, xeqT, xeqF, nleT, nleF, nltT, nltF, neqT, neqF, ileT, ileF, iltT, iltF, ieqT, ieqF, or_false, or_true, false_or, true_or, and_true, true_and, and_false, false_and, not_false_eq_true, not_true_eq_false, ↓reduceIte, if_true, if_false, a3]
    have hv14 : vin (xI (((uz Z).2.2.1 k).1 3)) (ml m M0) := by simp (disch := omega) only [vin, mk_I, ml_I, mr_I, mk_R, ml_R, mi_R, mkN_eq, mlN_eq, miN_eq, mkN_ne, mlN_ne, miN_ne, mrN_ne, mi_eq, mi_na, mi_nj, mr_eq, mr_na, mr_nj, xL0, xL1, xL2, xL3, xL4, xL5, xL6, xL7, xL8, xL9, xL10, xL12, xL16, xL20, xL24, xL31, xL50, xL60, xL89, xL99, xL100, xL200, xI_add, xI_sub, xI_mul, xI_neg, xI_nat, xI_cl, Int.toNat_natCast, Int.reduceToNat, xltT, xltF, xleT, xleF, xeqT, xeqF, nleT, nleF, nltT, nltF, neqT, neqF, ileT, ileF, iltT, iltF, ieqT, ieqF, or_false, or_true, false_or, true_or, and_true, true_and, and_false, false_and, not_false_eq_true, not_true_eq_false, ↓reduceIte, if_true, if_false, hrow.2.1]
    have hdI : DI (uz Z).1 ((uz Z).2.1 2) E Lw 20 k ((uz Z).2.2.1 k) := hI.2.1 k hkn
    -- the row of states is written
    have hgo : ∀ y2 : Int, y2 + a_opn (uz Z) (k + 1) r = a_opn (uz Z) 0 n → ∀ f, G + 1340 + 60 * r < f → wq (fL_L_law L xs f 392 (M0 + 1) (mI m M0 (((uz Z).2.2.1 k).1 3).toNat (xI (c (((uz Z).2.2.1 k).1 3).toNat + 1))) kc ks 0 s (xI (n : Nat)) i4 i5 i6 i7 i8 r9 i10 i11 (xI tot) (xI (x + (((uz Z).2.2.1 k).1 5 - (S1.2.2.1 k).1 5))) M0 (xI y2) (xI (k : Nat)) (xI (((uz Z).2.2.1 k).1 3)) (xI (((uz Z).2.2.1 k).1 4)) (xI ((S1.2.2.1 k).1 3)) (xI (((uz Z).2.2.1 k).1 5 - (S1.2.2.1 k).1 5)) (xI (((uz Z).2.2.1 k).1 6 - (S1.2.2.1 k).1 6)) 0 0 0 0 0) Q := by
      intro y2 hy2 f hf
      have fm : fM M0 (fun _ => False) m (mI m M0 (((uz Z).2.2.1 k).1 3).toNat (xI (c (((uz Z).2.2.1 k).1 3).toNat + 1))) := fM_I0 (Nat.le_refl _)
      have hP2 := PS_fr hP hn10 fm (Nat.le_refl _)
      have hWR2 := WR_fr hWR fm (Nat.le_refl _) (fun _ _ _ h => h)
      have hrow2 : ∀ j, j < 4 → mi (mI m M0 (((uz Z).2.2.1 k).1 3).toNat (xI (c (((uz Z).2.2.1 k).1 3).toNat + 1))) M0 j = xI (c j + if ((uz Z).2.2.1 k).1 3 = (j : Nat) then 1 else 0) := by
        intro j hj
        by_cases g : j = (((uz Z).2.2.1 k).1 3).toNat
        · rw [g, mi_eq, if_pos (by omega)]
        · rw [mi_nj g, if_neg (by omega), Int.add_zero]; exact hrow.2.2 j hj
      have hrk : mk (mI m M0 (((uz Z).2.2.1 k).1 3).toNat (xI (c (((uz Z).2.2.1 k).1 3).toNat + 1))) M0 = 6 := hrow.1
      have hrl : ml (mI m M0 (((uz Z).2.2.1 k).1 3).toNat (xI (c (((uz Z).2.2.1 k).1 3).toNat + 1))) M0 = 4 := hrow.2.1
      generalize mI m M0 (((uz Z).2.2.1 k).1 3).toNat (xI (c (((uz Z).2.2.1 k).1 3).toNat + 1)) = m2 at hP2 hWR2 hrow2 hrk hrl ⊢
      have h286 := fun g (hg : G + 1300 + 60 * r < g) => ih (k + 1) (by omega) m2 (fun j => c j + if ((uz Z).2.2.1 k).1 3 = (j : Nat) then 1 else 0) (x + (((uz Z).2.2.1 k).1 5 - (S1.2.2.1 k).1 5)) y2 hP2 hWR2 ⟨hrk, hrl, hrow2⟩ (fun j hj => by
        have := hc j hj
        rw [ec] at this
        omega) (by omega) hy2 g hg
      have h608 := fun (g : Nat) (hg : G + 1321 + 60 * r < g) (i18 i19 i20 i21 : Int32) => L_608 (G := G + 1301 + 60 * r) (i18 := i18) (i19 := i19) (i20 := i20) (i21 := i21) hP2.1 hI hkn hTDk.2.2.2.2.2.2.2.2 (fun g hg => h286 g (by omega)) g (by omega)
      obtain ⟨t1, t2, t3, t4, t5, t6, t7, t8, t9⟩ := hTDk
      have l1 : 0 ≤ (S1.2.2.1 k).1 4 ∧ (S1.2.2.1 k).1 4 ≤ 21 := hW1k.2.2.2.2.1
      have l3 : 0 ≤ ((uz Z).2.2.1 k).1 4 ∧ ((uz Z).2.2.1 k).1 4 ≤ 21 := hWk.2.2.2.2.1
      have z1 : 0 ≤ (S1.2.2.1 k).1 3 ∧ (S1.2.2.1 k).1 3 ≤ 3 := hW1k.2.2.2.1
      exact L_392 (G := G + 1322 + 60 * r) (l0 := (S1.2.2.1 k).1 4) (WR_fr hWR2 fM_rfl (Nat.le_succ _) (fun _ _ _ (h : False) => h)) (by omega) (by omega) (by rw [hF]; rfl) z1 l1 hst l3 t1 t2 t3 t4 t5 t6 t7 t8 (fun g hg => h608 g (by omega) _ _ _ _) f (by omega)
    obtain ⟨g, rfl⟩ : ∃ g, f = g + 1 := ⟨f - 1, by omega⟩
    refine w_r fE_L_law_286 ?_
    unfold fB_L_law_286
    refine w_n (by simp (disch := omega) only [vin, mk_I, ml_I, mr_I, mk_R, ml_R, mi_R, mkN_eq, mlN_eq, miN_eq, mkN_ne, mlN_ne, miN_ne, mrN_ne, mi_eq, mi_na, mi_nj, mr_eq, mr_na, mr_nj, xL0, xL1, xL2, xL3, xL4, xL5, xL6, xL7, xL8, xL9, xL10, xL12, xL16, xL20, xL24, xL31, xL50, xL60, xL89, xL99, xL100, xL200, xI_add, xI_sub, xI_mul, xI_neg, xI_nat, xI_cl, Int.toNat_natCast, Int.reduceToNat, xltT, xltF, xleT, xleF, xeqT, xeqF, nleT, nleF, nltT, nltF, neqT, neqF, ileT, ileF, iltT, iltF, ieqT, ieqF, or_false, or_true, false_or, true_or, and_true, true_and, and_false, false_and, not_false_eq_true, not_true_eq_false, ↓reduceIte, if_true, if_false]) ?_
    refine w_i hC.1.1 ?_
    refine w_b d0 ?_
    refine w_b d1 ?_
    refine w_i w1 ?_
    refine w_i hvin ?_
    refine w_b hr ?_
    refine w_i a2 ?_
    refine w_i hv0 ?_
    refine w_b d7 ?_
    refine w_i hvin ?_
    refine w_b hr ?_
    refine w_i a2 ?_
    refine w_i hv7 ?_
    refine w_b d8 ?_
    refine w_i hvin ?_
    refine w_b hr ?_
    refine w_i a2 ?_
    refine w_i hv8 ?_
    refine w_i hrow.1 ?_
    refine w_i hv14 ?_
    refine w_i hv14 ?_
    have er : mi m M0 (((uz Z).2.2.1 k).1 3).toNat + 1 = xI (c (((uz Z).2.2.1 k).1 3).toNat + 1) := by
      rw [hrow.2.2 _ (by omega), xL1, xI_add]
    rw [f0, f7, f8, hcl, er, xI_sub, xI_sub, xI_add]
    by_cases e : ((uz Z).2.2.1 k).1 3 = 2
    · rw [if_pos e] at hy
      refine w_i (by simp (disch := omega) only [vin, mk_I, ml_I, mr_I, mk_R, ml_R, mi_R, mkN_eq, mlN_eq, miN_eq, mkN_ne, mlN_ne, miN_ne, mrN_ne, mi_eq, mi_na, mi_nj, mr_eq, mr_na, mr_nj, xL0, xL1, xL2, xL3, xL4, xL5, xL6, xL7, xL8, xL9, xL10, xL12, xL16, xL20, xL24, xL31, xL50, xL60, xL89, xL99, xL100, xL200, xI_add, xI_sub, xI_mul, xI_neg, xI_nat, xI_cl, Int.toNat_natCast, Int.reduceToNat, xltT, xltF, xleT, xleF, xeqT, xeqF, nleT, nleF, nltT, nltF, neqT, neqF, ileT, ileF, iltT, iltF, ieqT, ieqF, or_false, or_true, false_or, true_or, and_true, true_and, and_false, false_and, not_false_eq_true, not_true_eq_false, ↓reduceIte, if_true, if_false]) ?_
      rw [show (1 : Int32) <<< (xI (k : Nat) &&& 31) = xI ((2 : Int) ^ k) from add_bit k (by omega), xI_add]
      exact hgo (y + 2 ^ k) (by omega) g (by omega)
    · rw [if_neg e] at hy
      refine w_n (by simp (disch := omega) only [vin, mk_I, ml_I, mr_I, mk_R, ml_R, mi_R, mkN_eq, mlN_eq, miN_eq, mkN_ne, mlN_ne, miN_ne, mrN_ne, mi_eq, mi_na, mi_nj, mr_eq, mr_na, mr_nj, xL0, xL1, xL2, xL3, xL4, xL5, xL6, xL7, xL8, xL9, xL10, xL12, xL16, xL20, xL24, xL31, xL50, xL60, xL89, xL99, xL100, xL200, xI_add, xI_sub, xI_mul, xI_neg, xI_nat, xI_cl, Int.toNat_natCast, Int.reduceToNat, xltT, xltF, xleT, xleF, xeqT, xeqF, nleT, nleF, nltT, nltF, neqT, neqF, ileT, ileF, iltT, iltF, ieqT, ieqF, or_false, or_true, false_or, true_or, and_true, true_and, and_false, false_and, not_false_eq_true, not_true_eq_false, ↓reduceIte, if_true, if_false]) ?_
      rw [show xI y + 0 = xI (y + 0) by rw [xL0, xI_add]]
      exact hgo (y + 0) (by omega) g (by omega)
end
