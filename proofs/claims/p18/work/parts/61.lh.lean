theorem mod16 : ∀ t, t < 50 → (xI ((t : Nat) : Int) - xI ((t : Nat) : Int) / 16 * 16) = xI ((t % 16 : Nat) : Int) := by decide +kernel
/-- what has been counted by now -/
def CB (B : Int) (S : aS) : Prop := (0 ≤ S.2.1 1 ∧ S.2.1 1 ≤ 900 * B) ∧ ∀ k, (0 ≤ (S.2.2.1 k).1 5 ∧ (S.2.2.1 k).1 5 ≤ B) ∧ 0 ≤ (S.2.2.1 k).1 6 ∧ (S.2.2.1 k).1 6 ≤ B
section
variable {L N r9 r14 kc ks s k : Nat} {xs : Nat → Int32} {m : vM} {i3 i4 i5 i6 i7 i8 i10 i11 i12 i13 i15 i16 i17 i18 i19 i20 i21 i22 i23 i24 i25 i26 : Int32} {S : aS} {E : Nat → List (Int × Int)} {Lw : Nat → Int} {Q : Int32 × Nat × vM → Prop}
variable {m' : vM} {N' n w wh : Nat} {X : Nat → Prop} {F : Nat → Nat → Int} {Z : zS} {S1 : aS} {t : Int} {B : Int} {τ : aN}
theorem CB_s (h : CB B S) (g : CS S S1) : CB (B + 1) S1 := by
  obtain ⟨h1, h2⟩ := h
  obtain ⟨g1, g2⟩ := g
  refine ⟨by omega, fun k => ?_⟩
  have a := h2 k
  have b := g2 k
  omega
theorem BT_xW (h : BT N m s S) (ht : fr 75 74 m.2.2.1 τ) : BT N (xW m τ) s S := by
  obtain ⟨hC, hN, ⟨Z, hZ, rfl⟩, E, Lw, hI⟩ := h
  exact ⟨CV_cl hC (RS_fr hC.2 hI.1.1 (fun x h1 h2 => ht x (by omega))), hN, ⟨Z, ZR_cl hZ (fun x hx => ht x (by omega)), rfl⟩, E, Lw, hI⟩
set_option maxHeartbeats 1000000 in
theorem L_90 {G : Nat} {x : Int32} {t : Int} (h : BT N m s S) (hn : S.1 = n) (hn1 : 1 ≤ n) (ht : S.2.1 0 = t) (hB : CB B S) (hB1 : 0 ≤ B ∧ B ≤ 1000) (h7 : i7 = 0 ∨ i7 = 1 ∧ lb (x >>> (8 &&& 31)) 6 < 3) (hkc : kc + 2021 ≤ 140000) (hks : ks + 70388 ≤ 4200000) (hQ : ∀ g, G ≤ g → ∀ N m S kc' ks', BT N m s S → S.1 = n → S.2.1 0 = t + 1 → CB (B + 2) S → kc' ≤ kc + 2021 → ks' ≤ ks + 70388 → wq (fL_L_law L xs g 29 N m kc' ks' 0 s (xI (n : Nat)) (xI t + 1) 0 0 0 0 0 0 0 0 0 0 0 0 0 0 0 0 0 0 0 0 0 0) Q) : ∀ f, G + 2100 < f → wq (fL_L_law L xs f 90 N m kc ks 0 s (xI (n : Nat)) (xI t) x (xI (lb x (n : Nat) : Nat)) i7 0 0 0 0 0 0 0 0 0 0 0 0 0 0 0 0 0 0 0) Q := by
  intro f hf
  have hh := h
  obtain ⟨hC, hN, ⟨Z, hZ, hZS⟩, E, Lw, hI⟩ := hh
  have hn10 : n ≤ 10 := by rw [← hn]; exact hI.1.1
  have hwh := (lb_eq x (n := (n : Nat)) (by omega)).2
  have hw := S_X3would (k := lb x (n : Nat)) hC.1 hC.2 hI (by omega)
  rw [xW_self] at hw
  obtain ⟨g, rfl⟩ : ∃ g, f = (11 * n + g) + 1 := ⟨f - 1 - 11 * n, by omega⟩
  have hcl : (xI (n : Nat)).toNatClampNeg = n := by simp (disch := omega) only [vin, mk_I, ml_I, mr_I, mk_R, ml_R, mi_R, mkN_eq, mlN_eq, miN_eq, mkN_ne, mlN_ne, miN_ne, mrN_ne, mi_eq, mi_na, mi_nj, mr_eq, mr_na, mr_nj, xL0, xL1, xL2, xL3, xL4, xL5, xL6, xL7, xL8, xL9, xL10, xL12, xL16, xL20, xL24, xL31, xL50, xL60, xL89, xL99, xL100, xL200, xI_add, xI_sub, xI_mul, xI_neg, xI_nat, xI_cl, Int.toNat_natCast, Int.reduceToNat, xltT, xltF, xleT, xleF, xeqT, xeqF, nleT, nleF, nltT, nltF, neqT, neqF, ileT, ileF, iltT, iltF, ieqT, ieqF, or_false, or_true, false_or, true_or, and_true, true_and, and_false, false_and, not_false_eq_true, not_true_eq_false, ↓reduceIte, if_true, if_false]
  refine w_r fE_L_law_90 ?_
  unfold fB_L_law_90
  refine w_i hC.1.1 ?_
  refine w_c hw ?_
  rintro z ⟨τ, rfl, t1⟩
  refine w_c (S_act (x := x) (BT_xW h t1) (by omega)) ?_
  rintro ⟨zc, N1, m1⟩ ⟨j1, S', j2, j3, j4, j5, j6, j7⟩
  have j1 : zc = xI 1 := j1
  subst j1
  dsimp only at j2 j5
  refine w_i (by omega) ?_
  refine w_i (by omega) ?_
  refine w_n (show ¬ (xI 1 : Int32) = 0 by decide) ?_
  refine w_i (by simp (disch := omega) only [vin, mk_I, ml_I, mr_I, mk_R, ml_R, mi_R, mkN_eq, mlN_eq, miN_eq, mkN_ne, mlN_ne, miN_ne, mrN_ne, mi_eq, mi_na, mi_nj, mr_eq, mr_na, mr_nj, xL0, xL1, xL2, xL3, xL4, xL5, xL6, xL7, xL8, xL9, xL10, xL12, xL16, xL20, xL24, xL31, xL50, xL60, xL89, xL99, xL100, xL200, xI_add, xI_sub, xI_mul, xI_neg, xI_nat, xI_cl, Int.toNat_natCast, Int.reduceToNat, xltT, xltF, xleT, xleF, xeqT, xeqF, nleT, nleF, nltT, nltF, neqT, neqF, ileT, ileF, iltT, iltF, ieqT, ieqF, or_false, or_true, false_or, true_or, and_true, true_and, and_false, false_and, not_false_eq_true, not_true_eq_false, ↓reduceIte, if_true, if_false]) ?_
  refine w_i (by rw [hcl]; omega) ?_
  refine w_i (by rw [hcl]; omega) ?_
  refine w_i (by rw [hcl]; omega) ?_
  rw [hcl]
  have hB1' := CB_s hB j7
  obtain ⟨hC1, hN1, ⟨Z1, hZ1, hu⟩, E1, Lw1, hI1⟩ := j2
  subst hu
  have hP1 : PS N1 m1 s Z1 := ⟨hC1, hZ1, hN1⟩
  have hZn : n = Z1.1 := by
    have : (uz Z1).1 = Z1.1 := rfl
    omega
  have hP2 : PS N1 (mQ m1 N1 n) s Z1 := PS_fr hP1 (by omega) fM_Q (Nat.le_refl _)
  refine L_123r (r9 := N1) (N := N1 + (1 + n)) (F := fun k w => tl ((uz Z1).2.2.1 k) w) hI1 hZn (fun _ _ => rfl) (fun m3 hP3 hW3 => ?_) n 0 (by omega) (mQ m1 N1 n) hP2 PG_0
  refine L_pass (G := G) (wh := lb x (n : Nat)) hI1 (PS_fr hP3 (by omega) fM_rfl (by omega)) hW3 hN1 hZn (fun _ _ => rfl) (by omega) ((j4 0 (by omega)).trans ht) (by have := hB1'.1; omega) ?_ (by omega) (by omega) ?_ g (by omega)
  · rcases h7 with e | ⟨e, e2⟩
    · exact .inl e
    · refine .inr ⟨e, ?_⟩
      have h9 := j6 e2
      rw [hn] at h9
      show xI (a_opn (a_tick (a_whis S (lb x (n : Nat)) _)) 0 (a_tick (a_whis S (lb x (n : Nat)) _)).1) = _
      rw [← h9, tick_n]
      show xI (a_opn (a_tick (uz Z1)) 0 Z1.1) = _
      rw [hZn]
  · intro g hg N' m' Z' hN' hP' hu'
    obtain ⟨Lw2, hI2⟩ := IN_tick hI1
    refine hQ g hg N' m' (uz Z') _ _ ⟨hP'.1, by have := hP'.2.2; omega, ⟨Z', hP'.2.1, rfl⟩, E1, Lw2, by rw [hu']; exact hI2⟩ ?_ ?_ ?_ (by omega) (by omega)
    · rw [hu', tick_n]; exact hZn.symm
    · rw [hu', tick_0, j4 0 (by omega), ht]
    · rw [hu']
      have h9 := CB_s hB1' (tick_CS hI1)
      rwa [show B + 1 + 1 = B + 2 by omega] at h9
theorem L_29 (hL : L ≤ 260) (hn1 : 1 ≤ n) : ∀ r t, t + r = 50 → ∀ N m S kc ks, BT N m s S → S.1 = n → S.2.1 0 = (t : Nat) → CB (2 * (t : Nat)) S → kc ≤ 240 + 2021 * t → ks ≤ 6040 + 70388 * t → ∀ f, 4000 * r + 10 < f → wq (fL_L_law L xs f 29 N m kc ks 0 s (xI (n : Nat)) (xI (t : Nat)) 0 0 0 0 0 0 0 0 0 0 0 0 0 0 0 0 0 0 0 0 0 0) (fun z => z.1 = xI 1) := by
  intro r
  induction r with
  | zero =>
    intro t ht N m S kc ks h hn h0 hB hkc hks f hf
    obtain ⟨hC, hN, ⟨Z, hZ, hu⟩, E, Lw, hI⟩ := h
    subst hu
    obtain ⟨g, rfl⟩ : ∃ g, f = g + 1 := ⟨f - 1, by omega⟩
    refine w_r fE_L_law_29 ?_
    unfold fB_L_law_29
    refine w_i (by simp (disch := omega) only [vin, mk_I, ml_I, mr_I, mk_R, ml_R, mi_R, mkN_eq, mlN_eq, miN_eq, mkN_ne, mlN_ne, miN_ne, mrN_ne, mi_eq, mi_na, mi_nj, mr_eq, mr_na, mr_nj, xL0, xL1, xL2, xL3, xL4, xL5, xL6, xL7, xL8, xL9, xL10, xL12, xL16, xL20, xL24, xL31, xL50, xL60, xL89, xL99, xL100, xL200, xI_add, xI_sub, xI_mul, xI_neg, xI_nat, xI_cl, Int.toNat_natCast, Int.reduceToNat, xltT, xltF, xleT, xleF, xeqT, xeqF, nleT, nleF, nltT, nltF, neqT, neqF, ileT, ileF, iltT, iltF, ieqT, ieqF, or_false, or_true, false_or, true_or, and_true, true_and, and_false, false_and, not_false_eq_true, not_true_eq_false, ↓reduceIte, if_true, if_false]) ?_
    refine w_i hZ.1.1.2.2.1 ?_
    refine w_c (S_same (s := s) ⟨hC, hZ, hN⟩ hI (fun k _ => by have := hB.2 k; omega)) ?_
    rintro ⟨zc, N1, m1⟩ j1
    have j1 : zc = xI 1 := j1
    subst j1
    refine w_i (by omega) ?_
    refine w_i (by omega) ?_
    refine w_i (.inr rfl) ?_
    exact w_s rfl
  | succ r ih =>
    intro t ht N m S kc ks h hn h0 hB hkc hks f hf
    obtain ⟨g, rfl⟩ : ∃ g, f = g + 1 := ⟨f - 1, by omega⟩
    have hn10 : n ≤ 10 := by obtain ⟨_, _, _, E, Lw, hI⟩ := h; rw [← hn]; exact hI.1.1
    have hnext := fun (x : Int32) (i7 : Int32) (h7 : i7 = 0 ∨ i7 = 1 ∧ lb (x >>> (8 &&& 31)) 6 < 3) => L_90 (L := L) (xs := xs) (kc := kc) (ks := ks) (G := 4000 * r + 11) (Q := fun z => z.1 = xI 1) h hn hn1 h0 hB (by omega) h7 (by omega) (by omega) (fun g hg N' m' S' kc' ks' h' hn' h0' hB' hkc' hks' => by
      rw [show xI (t : Nat) + 1 = xI ((t + 1 : Nat) : Int) by rw [xL1, xI_add]; rfl]
      exact ih (t + 1) (by omega) N' m' S' kc' ks' h' hn' (by rw [h0']; rfl) (by rwa [show 2 * ((t + 1 : Nat) : Int) = 2 * (t : Nat) + 2 by omega]) (show kc' ≤ 240 + 2021 * (t + 1) by rw [Nat.mul_succ]; exact Nat.le_trans hkc' (by omega)) (show ks' ≤ 6040 + 70388 * (t + 1) by rw [Nat.mul_succ]; exact Nat.le_trans hks' (by omega)) g (by omega)) g (by omega)
    refine w_r fE_L_law_29 ?_
    unfold fB_L_law_29
    refine w_n (by simp (disch := omega) only [vin, mk_I, ml_I, mr_I, mk_R, ml_R, mi_R, mkN_eq, mlN_eq, miN_eq, mkN_ne, mlN_ne, miN_ne, mrN_ne, mi_eq, mi_na, mi_nj, mr_eq, mr_na, mr_nj, xL0, xL1, xL2, xL3, xL4, xL5, xL6, xL7, xL8, xL9, xL10, xL12, xL16, xL20, xL24, xL31, xL50, xL60, xL89, xL99, xL100, xL200, xI_add, xI_sub, xI_mul, xI_neg, xI_nat, xI_cl, Int.toNat_natCast, Int.reduceToNat, xltT, xltF, xleT, xleF, xeqT, xeqF, nleT, nleF, nltT, nltF, neqT, neqF, ileT, ileF, iltT, iltF, ieqT, ieqF, or_false, or_true, false_or, true_or, and_true, true_and, and_false, false_and, not_false_eq_true, not_true_eq_false, ↓reduceIte, if_true, if_false]) ?_
    refine w_i (by decide) ?_
    rw [mod16 t (by omega)]
    refine w_b (S_cell (by omega) (by omega)) ?_
    refine w_i (by decide) ?_
    generalize (lc L xs ((t % 16 : Nat) : Int) >>> (xI (t : Nat) / 16 * 3 &&& 31)) + 89 * xI (t : Nat) = x
    have q4 := (lb_eq (x >>> (8 &&& 31)) (n := 6) (by omega)).2
    refine w_b (S_below (n := (n : Nat)) (by omega)) ?_
    refine w_b (S_below (n := 6) (by omega)) ?_
    have h0 := hnext x 0 (.inl rfl)
    have h1 := fun h => hnext x 1 (.inr ⟨rfl, h⟩)
    generalize lb (x >>> (8 &&& 31)) 6 = u at q4 h1 ⊢
    by_cases e : 3 ≤ u
    · refine w_i (by simp (disch := omega) only [vin, mk_I, ml_I, mr_I, mk_R, ml_R, mi_R, mkN_eq, mlN_eq, miN_eq, mkN_ne, mlN_ne, miN_ne, mrN_ne, mi_eq, mi_na, mi_nj, mr_eq, mr_na, mr_nj, xL0, xL1, xL2, xL3, xL4, xL5, xL6, xL7, xL8, xL9, xL10, xL12, xL16, xL20, xL24, xL31, xL50, xL60, xL89, xL99, xL100, xL200, xI_add, xI_sub, xI_mul, xI_neg, xI_nat, xI_cl, Int.toNat_natCast, Int.reduceToNat, xltT, xltF, xleT, xleF, xeqT, xeqF, nleT, nleF, nltT, nltF, neqT, neqF, ileT, ileF, iltT, iltF, ieqT, ieqF, or_false, or_true, false_or, true_or, and_true, true_and, and_false, false_and, not_false_eq_true, not_true_eq_false, ↓reduceIte, if_true, if_false]) ?_
      exact h0
    · refine w_n (by simp (disch := omega) only [vin, mk_I, ml_I, mr_I, mk_R, ml_R, mi_R, mkN_eq, mlN_eq, miN_eq, mkN_ne, mlN_ne, miN_ne, mrN_ne, mi_eq, mi_na, mi_nj, mr_eq, mr_na, mr_nj, xL0, xL1, xL2, xL3, xL4, xL5, xL6, xL7, xL8, xL9, xL10, xL12, xL16, xL20, xL24, xL31, xL50, xL60, xL89, xL99, xL100, xL200, xI_add, xI_sub, xI_mul, xI_neg, xI_nat, xI_cl, Int.toNat_natCast, Int.reduceToNat, xltT, xltF, xleT, xleF, xeqT, xeqF, nleT, nleF, nltT, nltF, neqT, neqF, ileT, ileF, iltT, iltF, ieqT, ieqF, or_false, or_true, false_or, true_or, and_true, true_and, and_false, false_and, not_false_eq_true, not_true_eq_false, ↓reduceIte, if_true, if_false]) ?_
      exact h1 (by omega)
end
