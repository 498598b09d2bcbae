section
variable {L N r9 r14 kc ks s k : Nat} {xs : Nat → Int32} {m : vM} {i3 i4 i5 i6 i7 i8 i10 i11 i12 i13 i15 i16 i17 i18 i19 i20 i21 i22 i23 i24 i25 i26 : Int32} {S : aS} {E : Nat → List (Int × Int)} {Lw : Nat → Int} {Q : Int32 × Nat × vM → Prop}
variable {m' : vM} {N' n w wh : Nat} {X : Nat → Prop} {F : Nat → Nat → Int} {Z : zS} {S1 : aS} {t : Int}
set_option maxHeartbeats 1000000 in
theorem L_pass {G : Nat} (hI : INm E Lw (uz Z) [] (fun _ => 20)) (hP : PS N m s Z) (hWR : WR N m r9 n F) (h149 : 149 ≤ r9) (hn : n = Z.1) (hF : ∀ k w, F k w = tl ((uz Z).2.2.1 k) w) (hwh : wh < n) (ht : (uz Z).2.1 0 = t) (hlo : 0 ≤ (uz Z).2.1 1 ∧ (uz Z).2.1 1 ≤ 1000000) (hi7 : i7 = 0 ∨ i7 = 1 ∧ i8 = xI (a_opn (a_tick (uz Z)) 0 n)) (hkc : kc + 2001 ≤ 140000) (hks : ks + 70004 ≤ 4200000) (hQ : ∀ g, G ≤ g → ∀ N' m' Z', N ≤ N' → PS N' m' s Z' → uz Z' = a_tick (uz Z) → wq (fL_L_law L xs g 29 N' m' (kc + 2000 + 1) (ks + 70000 + 4) 0 s (xI (n : Nat)) (xI t + 1) 0 0 0 0 0 0 0 0 0 0 0 0 0 0 0 0 0 0 0 0 0 0) Q) : ∀ f, G + 1302 + 60 * n < f → wq (fL_L_law L xs f 123 N m kc ks 0 s (xI (n : Nat)) (xI t) i5 (xI (wh : Nat)) i7 i8 r9 (xI (n : Nat)) 0 0 0 0 0 0 0 0 0 0 0 0 0 0 0 0) Q := by
  intro f hf
  have hn10 : Z.1 ≤ 10 := hI.1.1
  have hN := hP.2.2
  have hops := ops_all (S := uz Z) (k := wh)
  have hcs := (tick_CS hI).1
  obtain ⟨Lw', hI2⟩ := IN_tick hI
  have hc7 : f_X3_count m 0 (xI 7) = some (xI ((uz Z).2.1 1)) := C_count (w := 7) hP.1 hI (by omega)
  have ho := S_X3opens (k := wh) hP.1.1 hP.1.2 hI (by show wh < Z.1; omega)
  rw [xW_self] at ho
  obtain ⟨g, rfl⟩ : ∃ g, f = g + 2 := ⟨f - 2, by omega⟩
  refine w_r fE_L_law_123 ?_
  unfold fB_L_law_123
  refine w_i (by simp (disch := omega) only [vin, mk_I, ml_I, mr_I, mk_R, ml_R, mi_R, mkN_eq, mlN_eq, miN_eq, mkN_ne, mlN_ne, miN_ne, mrN_ne, mi_eq, mi_na, mi_nj, mr_eq, mr_na, mr_nj, xL0, xL1, xL2, xL3, xL4, xL5, xL6, xL7, xL8, xL9, xL10, xL12, xL16, xL20, xL24, xL31, xL50, xL60, xL89, xL99, xL100, xL200, xI_add, xI_sub, xI_mul, xI_neg, xI_nat, xI_cl, Int.toNat_natCast, Int.reduceToNat, xltT, xltF, xleT, xleF, xeqT, xeqF, nleT, nleF, nltT, nltF, neqT, neqF, ileT, ileF, iltT, iltF, ieqT, ieqF, or_false, or_true, false_or, true_or, and_true, true_and, and_false, false_and, not_false_eq_true, not_true_eq_false, ↓reduceIte, if_true, if_false]) ?_
  refine w_i hP.1.1.1 ?_
  refine w_b hc7 ?_
  refine w_c ho ?_
  rintro z1 ⟨τ, rfl, t1⟩
  have hR1 : RS 1 τ (uz Z) := RS_fr hP.1.2 hn10 (fun x h1 h2 => t1 x (by omega))
  refine w_i hP.1.1.1 ?_
  refine w_c (S_X3pass hP.1.1 hR1 hI) ?_
  rintro z2 ⟨τ2, rfl, t2, t3⟩
  have h9 : ∀ x, 149 ≤ x → τ2 x = m.2.2.1 x := fun x hx => (t3 x (by omega)).trans (t1 x (by omega))
  have hZ1 : ZR N (xW m τ2) s Z := ZR_cl hP.2.1 h9
  refine w_i hZ1.1.1.2.2.1 ?_
  refine w_c (S_zpass hZ1 hI hN) ?_
  rintro ⟨zc, N2, m2⟩ ⟨_, Z2, j2, j3, _, j5, j6⟩
  dsimp only at j2 j5 j6
  have hC2 : CV m2 (uz Z2) := by
    rw [j3]
    exact CV_fr (CV_cl hP.1 t2) (by rw [tick_n]; exact hn10) j6 hN (fun x _ h => h.1)
  have hP2 : PS N2 m2 s Z2 := ⟨hC2, j2, by omega⟩
  rw [← j3] at hI2 hcs
  have hn2 : Z2.1 = Z.1 := by
    have h8 : (uz Z2).1 = (uz Z).1 := by rw [j3]; exact tick_n
    exact h8
  have wP1 : WR N (xW m τ2) r9 n F := WR_fr hWR (fM_cl (m := m) h9) (Nat.le_refl _) (fun x h1 h2 h3 => by omega)
  have wP2 : WR N2 m2 r9 n F := by
    refine WR_fr wP1 j6 j5 (fun x h1 h2 h3 => ?_)
    obtain ⟨⟨w1, w2, w3⟩, w4⟩ := wP1
    have h3 := h3.2
    by_cases e : x = r9
    · rw [e, w1] at h3; omega
    · obtain ⟨k, rfl⟩ : ∃ k, x = r9 + 1 + k := ⟨x - r9 - 1, by omega⟩
      obtain ⟨_, a2, a3, _⟩ := w4 k (by omega)
      rw [a2, a3] at h3; omega
  have hop4 : ∀ τ4, fr 75 74 m2.2.2.1 τ4 → PS N2 (xW m2 τ4) s Z2 := fun τ4 t4 => ⟨CV_cl hC2 (RS_fr hC2.2 (by show Z2.1 ≤ 10; omega) (fun x h1 h2 => t4 x (by omega))), ZR_cl j2 (fun x hx => t4 x (by omega)), hP2.2.2⟩
  have hwr4 : ∀ τ4, fr 75 74 m2.2.2.1 τ4 → WR N2 (xW m2 τ4) r9 n F := fun τ4 t4 => WR_fr wP2 (fM_cl (m := m2) (fun x hx => t4 x (by omega))) (Nat.le_refl _) (fun x h1 h2 h3 => by omega)
  have ec7 : cF (uz Z2) 7 = (uz Z2).2.1 1 := rfl
  have ec0 : cF (uz Z2) 0 = t + 1 := by
    have h8 : cF (uz Z2) 0 = (uz Z2).2.1 0 := rfl
    rw [h8, j3, tick_0, ht]
  have hTD : ∀ k, k < n → TD ((uz Z).2.2.1 k) ((uz Z2).2.2.1 k) := fun k hk => by rw [j3]; exact (tick_b hI (by show k < Z.1; omega)).1
  have hsum : (a_t3 (uz Z)).1 = sm (fun k => ((uz Z2).2.2.1 k).1 5 - ((uz Z).2.2.1 k).1 5) 0 n := by rw [j3, hn]; exact tick_sum hI
  have hK : ∀ (m4 : vM) (g : Nat), PS N2 m4 s Z2 → WR N2 m4 r9 n F → G + 1300 + 60 * n < g → wq (fL_L_law L xs (g + 1) 272 N2 m4 (kc + 2000) (ks + 70000) 0 s (xI (n : Nat)) (xI t) i5 (xI (wh : Nat)) i7 i8 r9 (xI ((uz Z).2.1 1)) (xI (a_ops (uz Z) wh)) (xI (a_t3 (uz Z)).1) 0 0 0 0 0 0 0 0 0 0 0 0 0 0) Q := by
    intro m4 g hP4 hW4 hg
    have f4 : fM N2 (fun _ => False) m4 (mN m4 N2 6 4) := fM_N (Nat.le_refl _)
    refine w_r fE_L_law_272 ?_
    unfold fB_L_law_272
    refine w_i (by omega) ?_
    refine w_i (by omega) ?_
    exact L_286 (G := G) (S1 := uz Z) (F := F) hI2 (by omega) hF hTD (fun k hk => IN_Wa hI k (by show k < Z.1; omega)) (fun g hg m' hP' => hQ g hg (N2 + 1) m' Z2 (by omega) hP' j3) n 0 (by omega) (mN m4 N2 6 4) (fun _ => 0) 0 0 (PS_fr hP4 (by omega) f4 (Nat.le_refl _)) (WR_fr hW4 f4 (Nat.le_refl _) (fun _ _ _ h => h)) ⟨mkN_eq, mlN_eq, fun j _ => miN_eq⟩ (fun j _ => Int.zero_add _) (by rw [hsum, Int.zero_add]) (Int.zero_add _) g hg
  have ho2 := S_X3opens (k := wh) hC2.1 hC2.2 hI2 (by show wh < Z2.1; omega)
  rw [xW_self, j3] at ho2
  have hd2 : f_X3_door m2 0 (xI (wh : Nat)) (xI 0) = some (xI (((a_tick (uz Z)).2.2.1 wh).1 3)) := by
    rw [← j3]; exact C_door (w := 0) hC2 hI2 (by show wh < Z2.1; omega) (by omega)
  refine w_i (by omega) ?_
  refine w_i (by omega) ?_
  rcases hi7 with e7 | ⟨e7, e8⟩
  · refine w_i e7 ?_
    by_cases o1 : a_ops (uz Z) wh ≤ 1
    · refine w_i (by simp (disch := omega) only [vin, mk_I, ml_I, mr_I, mk_R, ml_R, mi_R, mkN_eq, mlN_eq, miN_eq, mkN_ne, mlN_ne, miN_ne, mrN_ne, mi_eq, mi_na, mi_nj, mr_eq, mr_na, mr_nj, xL0, xL1, xL2, xL3, xL4, xL5, xL6, xL7, xL8, xL9, xL10, xL12, xL16, xL20, xL24, xL31, xL50, xL60, xL89, xL99, xL100, xL200, xI_add, xI_sub, xI_mul, xI_neg, xI_nat, xI_cl, Int.toNat_natCast, Int.reduceToNat, xltT, xltF, xleT, xleF, xeqT, xeqF, nleT, nleF, nltT, nltF, neqT, neqF, ileT, ileF, iltT, iltF, ieqT, ieqF, or_false, or_true, false_or, true_or, and_true, true_and, and_false, false_and, not_false_eq_true, not_true_eq_false, ↓reduceIte, if_true, if_false]) ?_
      by_cases o2 : a_ops (uz Z) wh = 1
      · refine w_i (by simp (disch := omega) only [vin, mk_I, ml_I, mr_I, mk_R, ml_R, mi_R, mkN_eq, mlN_eq, miN_eq, mkN_ne, mlN_ne, miN_ne, mrN_ne, mi_eq, mi_na, mi_nj, mr_eq, mr_na, mr_nj, xL0, xL1, xL2, xL3, xL4, xL5, xL6, xL7, xL8, xL9, xL10, xL12, xL16, xL20, xL24, xL31, xL50, xL60, xL89, xL99, xL100, xL200, xI_add, xI_sub, xI_mul, xI_neg, xI_nat, xI_cl, Int.toNat_natCast, Int.reduceToNat, xltT, xltF, xleT, xleF, xeqT, xeqF, nleT, nleF, nltT, nltF, neqT, neqF, ileT, ileF, iltT, iltF, ieqT, ieqF, or_false, or_true, false_or, true_or, and_true, true_and, and_false, false_and, not_false_eq_true, not_true_eq_false, ↓reduceIte, if_true, if_false]) ?_
        refine w_i hP2.1.1.1 ?_
        refine w_b hd2 ?_
        refine w_i (by rw [hops.2.2 o2]; rfl) ?_
        refine w_b (C_count (w := 7) hP2.1 hI2 (by omega)) ?_
        refine w_n (by rw [ec7]; simp (disch := omega) only [vin, mk_I, ml_I, mr_I, mk_R, ml_R, mi_R, mkN_eq, mlN_eq, miN_eq, mkN_ne, mlN_ne, miN_ne, mrN_ne, mi_eq, mi_na, mi_nj, mr_eq, mr_na, mr_nj, xL0, xL1, xL2, xL3, xL4, xL5, xL6, xL7, xL8, xL9, xL10, xL12, xL16, xL20, xL24, xL31, xL50, xL60, xL89, xL99, xL100, xL200, xI_add, xI_sub, xI_mul, xI_neg, xI_nat, xI_cl, Int.toNat_natCast, Int.reduceToNat, xltT, xltF, xleT, xleF, xeqT, xeqF, nleT, nleF, nltT, nltF, neqT, neqF, ileT, ileF, iltT, iltF, ieqT, ieqF, or_false, or_true, false_or, true_or, and_true, true_and, and_false, false_and, not_false_eq_true, not_true_eq_false, ↓reduceIte, if_true, if_false]) ?_
        refine w_b (C_count (w := 0) hP2.1 hI2 (by omega)) ?_
        refine w_i (by rw [ec0, xL1, xI_add]) ?_
        exact hK _ g hP2 wP2 (by omega)
      · refine w_n (by simp (disch := omega) only [vin, mk_I, ml_I, mr_I, mk_R, ml_R, mi_R, mkN_eq, mlN_eq, miN_eq, mkN_ne, mlN_ne, miN_ne, mrN_ne, mi_eq, mi_na, mi_nj, mr_eq, mr_na, mr_nj, xL0, xL1, xL2, xL3, xL4, xL5, xL6, xL7, xL8, xL9, xL10, xL12, xL16, xL20, xL24, xL31, xL50, xL60, xL89, xL99, xL100, xL200, xI_add, xI_sub, xI_mul, xI_neg, xI_nat, xI_cl, Int.toNat_natCast, Int.reduceToNat, xltT, xltF, xleT, xleF, xeqT, xeqF, nleT, nleF, nltT, nltF, neqT, neqF, ileT, ileF, iltT, iltF, ieqT, ieqF, or_false, or_true, false_or, true_or, and_true, true_and, and_false, false_and, not_false_eq_true, not_true_eq_false, ↓reduceIte, if_true, if_false]) ?_
        refine w_i hP2.1.1.1 ?_
        refine w_b (C_count (w := 7) hP2.1 hI2 (by omega)) ?_
        refine w_n (by rw [ec7]; simp (disch := omega) only [vin, mk_I, ml_I, mr_I, mk_R, ml_R, mi_R, mkN_eq, mlN_eq, miN_eq, mkN_ne, mlN_ne, miN_ne, mrN_ne, mi_eq, mi_na, mi_nj, mr_eq, mr_na, mr_nj, xL0, xL1, xL2, xL3, xL4, xL5, xL6, xL7, xL8, xL9, xL10, xL12, xL16, xL20, xL24, xL31, xL50, xL60, xL89, xL99, xL100, xL200, xI_add, xI_sub, xI_mul, xI_neg, xI_nat, xI_cl, Int.toNat_natCast, Int.reduceToNat, xltT, xltF, xleT, xleF, xeqT, xeqF, nleT, nleF, nltT, nltF, neqT, neqF, ileT, ileF, iltT, iltF, ieqT, ieqF, or_false, or_true, false_or, true_or, and_true, true_and, and_false, false_and, not_false_eq_true, not_true_eq_false, ↓reduceIte, if_true, if_false]) ?_
        refine w_b (C_count (w := 0) hP2.1 hI2 (by omega)) ?_
        refine w_i (by rw [ec0, xL1, xI_add]) ?_
        exact hK _ g hP2 wP2 (by omega)
    · refine w_n (by simp (disch := omega) only [vin, mk_I, ml_I, mr_I, mk_R, ml_R, mi_R, mkN_eq, mlN_eq, miN_eq, mkN_ne, mlN_ne, miN_ne, mrN_ne, mi_eq, mi_na, mi_nj, mr_eq, mr_na, mr_nj, xL0, xL1, xL2, xL3, xL4, xL5, xL6, xL7, xL8, xL9, xL10, xL12, xL16, xL20, xL24, xL31, xL50, xL60, xL89, xL99, xL100, xL200, xI_add, xI_sub, xI_mul, xI_neg, xI_nat, xI_cl, Int.toNat_natCast, Int.reduceToNat, xltT, xltF, xleT, xleF, xeqT, xeqF, nleT, nleF, nltT, nltF, neqT, neqF, ileT, ileF, iltT, iltF, ieqT, ieqF, or_false, or_true, false_or, true_or, and_true, true_and, and_false, false_and, not_false_eq_true, not_true_eq_false, ↓reduceIte, if_true, if_false]) ?_
      refine w_i hP2.1.1.1 ?_
      refine w_c ho2 ?_
      rintro z4 ⟨τ4, rfl, t4⟩
      have hP4 := hop4 τ4 t4
      have wP4 := hwr4 τ4 t4
      refine w_i (by rw [hops.2.1 (by omega), xL1, xI_sub]) ?_
      refine w_n (by simp (disch := omega) only [vin, mk_I, ml_I, mr_I, mk_R, ml_R, mi_R, mkN_eq, mlN_eq, miN_eq, mkN_ne, mlN_ne, miN_ne, mrN_ne, mi_eq, mi_na, mi_nj, mr_eq, mr_na, mr_nj, xL0, xL1, xL2, xL3, xL4, xL5, xL6, xL7, xL8, xL9, xL10, xL12, xL16, xL20, xL24, xL31, xL50, xL60, xL89, xL99, xL100, xL200, xI_add, xI_sub, xI_mul, xI_neg, xI_nat, xI_cl, Int.toNat_natCast, Int.reduceToNat, xltT, xltF, xleT, xleF, xeqT, xeqF, nleT, nleF, nltT, nltF, neqT, neqF, ileT, ileF, iltT, iltF, ieqT, ieqF, or_false, or_true, false_or, true_or, and_true, true_and, and_false, false_and, not_false_eq_true, not_true_eq_false, ↓reduceIte, if_true, if_false]) ?_
      refine w_i hP4.1.1.1 ?_
      refine w_b (C_count (w := 7) hP4.1 hI2 (by omega)) ?_
      refine w_n (by rw [ec7]; simp (disch := omega) only [vin, mk_I, ml_I, mr_I, mk_R, ml_R, mi_R, mkN_eq, mlN_eq, miN_eq, mkN_ne, mlN_ne, miN_ne, mrN_ne, mi_eq, mi_na, mi_nj, mr_eq, mr_na, mr_nj, xL0, xL1, xL2, xL3, xL4, xL5, xL6, xL7, xL8, xL9, xL10, xL12, xL16, xL20, xL24, xL31, xL50, xL60, xL89, xL99, xL100, xL200, xI_add, xI_sub, xI_mul, xI_neg, xI_nat, xI_cl, Int.toNat_natCast, Int.reduceToNat, xltT, xltF, xleT, xleF, xeqT, xeqF, nleT, nleF, nltT, nltF, neqT, neqF, ileT, ileF, iltT, iltF, ieqT, ieqF, or_false, or_true, false_or, true_or, and_true, true_and, and_false, false_and, not_false_eq_true, not_true_eq_false, ↓reduceIte, if_true, if_false]) ?_
      refine w_b (C_count (w := 0) hP4.1 hI2 (by omega)) ?_
      refine w_i (by rw [ec0, xL1, xI_add]) ?_
      exact hK _ g hP4 wP4 (by omega)
  · refine w_n (by rw [e7]; decide) ?_
    refine w_i hP2.1.1.1 ?_
    have hc8 : f_X3_count m2 0 (xI 8) = some (xI (a_opn (uz Z2) 0 Z2.1)) := C_count (w := 8) hC2 hI2 (by omega)
    refine w_b hc8 ?_
    refine w_i (by rw [e8, j3, hn2, hn]) ?_
    by_cases o1 : a_ops (uz Z) wh ≤ 1
    · refine w_i (by simp (disch := omega) only [vin, mk_I, ml_I, mr_I, mk_R, ml_R, mi_R, mkN_eq, mlN_eq, miN_eq, mkN_ne, mlN_ne, miN_ne, mrN_ne, mi_eq, mi_na, mi_nj, mr_eq, mr_na, mr_nj, xL0, xL1, xL2, xL3, xL4, xL5, xL6, xL7, xL8, xL9, xL10, xL12, xL16, xL20, xL24, xL31, xL50, xL60, xL89, xL99, xL100, xL200, xI_add, xI_sub, xI_mul, xI_neg, xI_nat, xI_cl, Int.toNat_natCast, Int.reduceToNat, xltT, xltF, xleT, xleF, xeqT, xeqF, nleT, nleF, nltT, nltF, neqT, neqF, ileT, ileF, iltT, iltF, ieqT, ieqF, or_false, or_true, false_or, true_or, and_true, true_and, and_false, false_and, not_false_eq_true, not_true_eq_false, ↓reduceIte, if_true, if_false]) ?_
      by_cases o2 : a_ops (uz Z) wh = 1
      · refine w_i (by simp (disch := omega) only [vin, mk_I, ml_I, mr_I, mk_R, ml_R, mi_R, mkN_eq, mlN_eq, miN_eq, mkN_ne, mlN_ne, miN_ne, mrN_ne, mi_eq, mi_na, mi_nj, mr_eq, mr_na, mr_nj, xL0, xL1, xL2, xL3, xL4, xL5, xL6, xL7, xL8, xL9, xL10, xL12, xL16, xL20, xL24, xL31, xL50, xL60, xL89, xL99, xL100, xL200, xI_add, xI_sub, xI_mul, xI_neg, xI_nat, xI_cl, Int.toNat_natCast, Int.reduceToNat, xltT, xltF, xleT, xleF, xeqT, xeqF, nleT, nleF, nltT, nltF, neqT, neqF, ileT, ileF, iltT, iltF, ieqT, ieqF, or_false, or_true, false_or, true_or, and_true, true_and, and_false, false_and, not_false_eq_true, not_true_eq_false, ↓reduceIte, if_true, if_false]) ?_
        refine w_b hd2 ?_
        refine w_i (by rw [hops.2.2 o2]; rfl) ?_
        refine w_b (C_count (w := 7) hP2.1 hI2 (by omega)) ?_
        refine w_n (by rw [ec7]; simp (disch := omega) only [vin, mk_I, ml_I, mr_I, mk_R, ml_R, mi_R, mkN_eq, mlN_eq, miN_eq, mkN_ne, mlN_ne, miN_ne, mrN_ne, mi_eq, mi_na, mi_nj, mr_eq, mr_na, mr_nj, xL0, xL1, xL2, xL3, xL4, xL5, xL6, xL7, xL8, xL9, xL10, xL12, xL16, xL20, xL24, xL31, xL50, xL60, xL89, xL99, xL100, xL200, xI_add, xI_sub, xI_mul, xI_neg, xI_nat, xI_cl, Int.toNat_natCast, Int.reduceToNat, xltT, xltF, xleT, xleF, xeqT, xeqF, nleT, nleF, nltT, nltF, neqT, neqF, ileT, ileF, iltT, iltF, ieqT, ieqF, or_false, or_true, false_or, true_or, and_true, true_and, and_false, false_and, not_false_eq_true, not_true_eq_false, ↓reduceIte, if_true, if_false]) ?_
        refine w_b (C_count (w := 0) hP2.1 hI2 (by omega)) ?_
        refine w_i (by rw [ec0, xL1, xI_add]) ?_
        exact hK _ g hP2 wP2 (by omega)
      · refine w_n (by simp (disch := omega) only [vin, mk_I, ml_I, mr_I, mk_R, ml_R, mi_R, mkN_eq, mlN_eq, miN_eq, mkN_ne, mlN_ne, miN_ne, mrN_ne, mi_eq, mi_na, mi_nj, mr_eq, mr_na, mr_nj, xL0, xL1, xL2, xL3, xL4, xL5, xL6, xL7, xL8, xL9, xL10, xL12, xL16, xL20, xL24, xL31, xL50, xL60, xL89, xL99, xL100, xL200, xI_add, xI_sub, xI_mul, xI_neg, xI_nat, xI_cl, Int.toNat_natCast, Int.reduceToNat, xltT, xltF, xleT, xleF, xeqT, xeqF, nleT, nleF, nltT, nltF, neqT, neqF, ileT, ileF, iltT, iltF, ieqT, ieqF, or_false, or_true, false_or, true_or, and_true, true_and, and_false, false_and, not_false_eq_true, not_true_eq_false, ↓reduceIte, if_true, if_false]) ?_
        refine w_b (C_count (w := 7) hP2.1 hI2 (by omega)) ?_
        refine w_n (by rw [ec7]; simp (disch := omega) only [vin, mk_I, ml_I, mr_I, mk_R, ml_R, mi_R, mkN_eq, mlN_eq, miN_eq, mkN_ne, mlN_ne, miN_ne, mrN_ne, mi_eq, mi_na, mi_nj, mr_eq, mr_na, mr_nj, xL0, xL1, xL2, xL3, xL4, xL5, xL6, xL7, xL8, xL9, xL10, xL12, xL16, xL20, xL24, xL31, xL50, xL60, xL89, xL99, xL100, xL200, xI_add, xI_sub, xI_mul, xI_neg, xI_nat, xI_cl, Int.toNat_natCast, Int.reduceToNat, xltT, xltF, xleT, xleF, xeqT, xeqF, nleT, nleF, nltT, nltF, neqT, neqF, ileT, ileF, iltT, iltF, ieqT, ieqF, or_false, or_true, false_or, true_or, and_true, true_and, and_false, false_and, not_false_eq_true, not_true_eq_false, ↓reduceIte, if_true, if_false]) ?_
        refine w_b (C_count (w := 0) hP2.1 hI2 (by omega)) ?_
        refine w_i (by rw [ec0, xL1, xI_add]) ?_
        exact hK _ g hP2 wP2 (by omega)
    · refine w_n (by simp (disch := omega) only [vin, mk_I, ml_I, mr_I, mk_R, ml_R, mi_R, mkN_eq, mlN_eq, miN_eq, mkN_ne, mlN_ne, miN_ne, mrN_ne, mi_eq, mi_na, mi_nj, mr_eq, mr_na, mr_nj, xL0, xL1, xL2, xL3, xL4, xL5, xL6, xL7, xL8, xL9, xL10, xL12, xL16, xL20, xL24, xL31, xL50, xL60, xL89, xL99, xL100, xL200, xI_add, xI_sub, xI_mul, xI_neg, xI_nat, xI_cl, Int.toNat_natCast, Int.reduceToNat, xltT, xltF, xleT, xleF, xeqT, xeqF, nleT, nleF, nltT, nltF, neqT, neqF, ileT, ileF, iltT, iltF, ieqT, ieqF, or_false, or_true, false_or, true_or, and_true, true_and, and_false, false_and, not_false_eq_true, not_true_eq_false, ↓reduceIte, if_true, if_false]) ?_
      refine w_c ho2 ?_
      rintro z4 ⟨τ4, rfl, t4⟩
      have hP4 := hop4 τ4 t4
      have wP4 := hwr4 τ4 t4
      refine w_i (by rw [hops.2.1 (by omega), xL1, xI_sub]) ?_
      refine w_n (by simp (disch := omega) only [vin, mk_I, ml_I, mr_I, mk_R, ml_R, mi_R, mkN_eq, mlN_eq, miN_eq, mkN_ne, mlN_ne, miN_ne, mrN_ne, mi_eq, mi_na, mi_nj, mr_eq, mr_na, mr_nj, xL0, xL1, xL2, xL3, xL4, xL5, xL6, xL7, xL8, xL9, xL10, xL12, xL16, xL20, xL24, xL31, xL50, xL60, xL89, xL99, xL100, xL200, xI_add, xI_sub, xI_mul, xI_neg, xI_nat, xI_cl, Int.toNat_natCast, Int.reduceToNat, xltT, xltF, xleT, xleF, xeqT, xeqF, nleT, nleF, nltT, nltF, neqT, neqF, ileT, ileF, iltT, iltF, ieqT, ieqF, or_false, or_true, false_or, true_or, and_true, true_and, and_false, false_and, not_false_eq_true, not_true_eq_false, ↓reduceIte, if_true, if_false]) ?_
      refine w_i hP4.1.1.1 ?_
      refine w_b (C_count (w := 7) hP4.1 hI2 (by omega)) ?_
      refine w_n (by rw [ec7]; simp (disch := omega) only [vin, mk_I, ml_I, mr_I, mk_R, ml_R, mi_R, mkN_eq, mlN_eq, miN_eq, mkN_ne, mlN_ne, miN_ne, mrN_ne, mi_eq, mi_na, mi_nj, mr_eq, mr_na, mr_nj, xL0, xL1, xL2, xL3, xL4, xL5, xL6, xL7, xL8, xL9, xL10, xL12, xL16, xL20, xL24, xL31, xL50, xL60, xL89, xL99, xL100, xL200, xI_add, xI_sub, xI_mul, xI_neg, xI_nat, xI_cl, Int.toNat_natCast, Int.reduceToNat, xltT, xltF, xleT, xleF, xeqT, xeqF, nleT, nleF, nltT, nltF, neqT, neqF, ileT, ileF, iltT, iltF, ieqT, ieqF, or_false, or_true, false_or, true_or, and_true, true_and, and_false, false_and, not_false_eq_true, not_true_eq_false, ↓reduceIte, if_true, if_false]) ?_
      refine w_b (C_count (w := 0) hP4.1 hI2 (by omega)) ?_
      refine w_i (by rw [ec0, xL1, xI_add]) ?_
      exact hK _ g hP4 wP4 (by omega)
end
