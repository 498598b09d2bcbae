/-! what the class tells of a state -/
section
variable {L N r9 r14 kc ks s k : Nat} {xs : Nat → Int32} {m : vM} {i3 i4 i5 i6 i7 i8 i10 i11 i12 i13 i15 i16 i17 i18 i19 i20 i21 i22 i23 i24 i25 i26 : Int32} {S : aS} {E : Nat → List (Int × Int)} {Lw : Nat → Int} {Q : Int32 × Nat × vM → Prop}
theorem C_door {w : Int} (h : CV m S) (hI : INm E Lw S [] (fun _ => 20)) (hk : k < S.1) (hw : 0 ≤ w ∧ w ≤ 8) : f_X3_door m 0 (xI (k : Nat)) (xI w) = some (xI (tl (S.2.2.1 k) w.toNat)) := by
  have hd := S_X3door (w := w) h.1 h.2 hI.1.1 hk (IN_Wa hI k hk) hw
  rw [xW_self] at hd
  have e9 : dF (mkd (S.2.2.1 k)) (w.toNat : Nat) = tl (S.2.2.1 k) w.toNat := tl_dF (by omega)
  rw [← e9, hd, Int.toNat_of_nonneg hw.1]
theorem C_count {w : Int} (h : CV m S) (hI : INm E Lw S [] (fun _ => 20)) (hw : 0 ≤ w ∧ w ≤ 8) : f_X3_count m 0 (xI w) = some (xI (cF S w)) := by
  have hv := S_X3count (w := w) h.1 h.2 hI.1.1 (IN_st hI) hw
  rwa [xW_self] at hv
theorem C_voice {w : Int} {i : Nat} {v : aR} (h : CV m S) (hI : INm E Lw S [] (fun _ => 20)) (hv : S.2.2.2[i]? = some v) (hw : 0 ≤ w ∧ w ≤ 3) : f_X3_voice m 0 (xI (i : Nat)) (xI w) = some (xI (v w.toNat)) := by
  have h9 := S_X3voice (w := w) h.1 h.2 hI.2.2.1 hv hw
  rwa [xW_self] at h9
theorem C_asks {w : Int} {i : Nat} {a : aR} (h : CV m S) (hI : INm E Lw S [] (fun _ => 20)) (hk : k < S.1) (ha : (S.2.2.1 k).2.1[i]? = some a) (hw : 0 ≤ w ∧ w ≤ 2) : f_X3_asks m 0 (xI (k : Nat)) (xI (i : Nat)) (xI w) = some (xI (fu a 2 (if (S.2.2.1 k).1 3 = 1 then a 2 else -1) w.toNat)) := by
  have h9 := S_X3asks (w := w) (i := i) (a := fu a 2 (if (S.2.2.1 k).1 3 = 1 then a 2 else -1)) h.1 h.2 hI.1.1 hk (IN_Wa hI k hk) (by unfold mkd; dsimp only; rw [List.getElem?_map, ha]; rfl) hw
  rwa [xW_self] at h9
theorem C_reach (h : CV m S) (hI : INm E Lw S [] (fun _ => 20)) (hk : k < S.1) : f_X3_reach m 0 (xI (k : Nat)) = some (xI (a_rch S k : Nat)) := by
  have h9 := S_X3reach h.1 h.2 hI.1.1 hk (IN_Wa hI)
  rwa [xW_self] at h9
theorem C_ask {a : aR} (hI : INm E Lw S [] (fun _ => 20)) (hk : k < S.1) (ha : a ∈ (S.2.2.1 k).2.1) : (0 ≤ a 0 ∧ a 0 < S.1) ∧ (1 ≤ a 1 ∧ a 1 ≤ 5) ∧ -1 ≤ a 2 ∧ a 2 ≤ 1 := by
  have hd : DI S.1 (S.2.1 2) E Lw 20 k (S.2.2.1 k) := hI.2.1 k hk
  have he := (hI.1.2.1 k hk).2.1
  obtain ⟨_, ⟨h1, h2⟩, _⟩ := hd
  have hm : (a 0, a 1) ∈ E k := by rw [← h1]; exact List.mem_map.mpr ⟨a, ha, rfl⟩
  have h3 := he _ hm
  have h4 := h2 a ha
  dsimp only at h3
  omega
theorem L_963 {g vi : Nat} {v : aR} {o : Int} (h : CV m S) (hI : INm E Lw S [] (fun _ => 20)) (hv : S.2.2.2[vi]? = some v) (hk : k < S.1) (ho : 0 ≤ o ∧ o ≤ 9) (h3 : 1 ≤ v 3 ∧ v 3 ≤ 5) (hQ : wq (fL_L_law L xs (g) 883 N m kc ks 0 s i3 i4 i5 i6 i7 i8 r9 i10 i11 i12 i13 r14 i15 (xI ((vi + 1 : Nat) : Int)) 0 0 0 0 0 0 0 0 0 0) Q) : ∀ r i, i + r = (S.2.2.1 k).2.1.length → ∀ fl : Int, (fl = 1 ∨ fl = 0 ∧ ∃ (j : Nat) (a : aR), i ≤ j ∧ (S.2.2.1 k).2.1[j]? = some a ∧ a 0 = o ∧ v 3 ≤ a 1) → wq (fL_L_law L xs (2 * r + 1 + g) 963 N m kc ks 0 s i3 i4 i5 i6 i7 i8 r9 i10 i11 i12 i13 r14 i15 (xI (vi : Nat)) i17 i18 i19 (xI (k : Nat)) (xI o) (xI fl) (xI (i : Nat)) 0 0 0) Q := by
  have hlen : (S.2.2.1 k).2.1.length ≤ 4 := (IN_Wa hI k hk).2.2.2.2.2.1
  have hd3 := C_door (w := 3) h hI hk (by omega)
  have hd3 : f_X3_door m 0 (xI (k : Nat)) (xI 3) = some (xI ((S.2.2.1 k).2.1.length : Nat)) := hd3
  intro r
  induction r with
  | zero =>
    intro i hi fl hfl
    have hf1 : fl = 1 := by
      rcases hfl with g1 | ⟨_, j, a, g1, g2, _⟩
      · exact g1
      · have := dr_lt g2; omega
    subst hf1
    rw [show 2 * 0 + 1 + g = g + 1 by omega]
    refine w_r fE_L_law_963 ?_
    unfold fB_L_law_963
    refine w_i h.1.1 ?_
    refine w_b hd3 ?_
    refine w_i (by simp (disch := omega) only [vin, mk_I, ml_I, mr_I, mk_R, ml_R, mi_R, mkN_eq, mlN_eq, miN_eq, mkN_ne, mlN_ne, miN_ne, mrN_ne, mi_eq, mi_na, mi_nj, mr_eq, mr_na, mr_nj, xL0, xL1, xL2, xL3, xL4, xL5, xL6, xL7, xL8, xL9, xL10, xL12, xL16, xL20, xL24, xL31, xL50, xL60, xL89, xL99, xL100, xL200, xI_add, xI_sub, xI_mul, xI_neg, xI_nat, xI_cl, Int.toNat_natCast, Int.reduceToNat, xltT, xltF, xleT, xleF, xeqT, xeqF, nleT, nleF, nltT, nltF, neqT, neqF, ileT, ileF, iltT, iltF, ieqT, ieqF, or_false, or_true, false_or, true_or, and_true, true_and, and_false, false_and, not_false_eq_true, not_true_eq_false, ↓reduceIte, if_true, if_false]) ?_
    refine w_n (by simp (disch := omega) only [vin, mk_I, ml_I, mr_I, mk_R, ml_R, mi_R, mkN_eq, mlN_eq, miN_eq, mkN_ne, mlN_ne, miN_ne, mrN_ne, mi_eq, mi_na, mi_nj, mr_eq, mr_na, mr_nj, xL0, xL1, xL2, xL3, xL4, xL5, xL6, xL7, xL8, xL9, xL10, xL12, xL16, xL20, xL24, xL31, xL50, xL60, xL89, xL99, xL100, xL200, xI_add, xI_sub, xI_mul, xI_neg, xI_nat, xI_cl, Int.toNat_natCast, Int.reduceToNat, xltT, xltF, xleT, xleF, xeqT, xeqF, nleT, nleF, nltT, nltF, neqT, neqF, ileT, ileF, iltT, iltF, ieqT, ieqF, or_false, or_true, false_or, true_or, and_true, true_and, and_false, false_and, not_false_eq_true, not_true_eq_false, ↓reduceIte, if_true, if_false]) ?_
    rw [show xI (vi : Nat) + 1 = xI ((vi + 1 : Nat) : Int) by rw [xL1, xI_add]; rfl]
    exact hQ
  | succ r ih =>
    intro i hi fl hfl
    have ek : xI (i : Nat) + 1 = xI ((i + 1 : Nat) : Int) := by rw [xL1, xI_add]; rfl
    obtain ⟨a, h1, h2⟩ := dr_at (l := (S.2.2.1 k).2.1) (i := i) (by omega)
    have hca := C_ask hI hk (List.mem_of_getElem? h1)
    have hn : S.1 ≤ 10 := hI.1.1
    have ha0 := C_asks (w := 0) h hI hk h1 (by omega)
    have ha1 := C_asks (w := 1) h hI hk h1 (by omega)
    rw [show (0 : Int).toNat = 0 by rfl, fu_ne (by omega)] at ha0
    rw [show (1 : Int).toNat = 1 by rfl, fu_ne (by omega)] at ha1
    have hv3 := C_voice (w := 3) h hI hv (by omega)
    rw [show (3 : Int).toNat = 3 by rfl] at hv3
    have hnext : ∀ fl2 : Int, (fl2 = 1 ∨ fl2 = 0 ∧ ∃ (j : Nat) (a : aR), i + 1 ≤ j ∧ (S.2.2.1 k).2.1[j]? = some a ∧ a 0 = o ∧ v 3 ≤ a 1) → wq (fL_L_law L xs (2 * r + 1 + g + 1) 1031 N m kc ks 0 s i3 i4 i5 i6 i7 i8 r9 i10 i11 i12 i13 r14 i15 (xI (vi : Nat)) i17 i18 i19 (xI (k : Nat)) (xI o) (xI fl2) (xI (i : Nat)) 0 0 0) Q := by
      intro fl2 h9
      refine w_r fE_L_law_1031 ?_
      unfold fB_L_law_1031
      rw [ek]; exact ih (i + 1) (by omega) fl2 h9
    rw [show 2 * (r + 1) + 1 + g = (2 * r + 1 + g + 1) + 1 by omega]
    refine w_r fE_L_law_963 ?_
    unfold fB_L_law_963
    refine w_i h.1.1 ?_
    refine w_b hd3 ?_
    refine w_n (by simp (disch := omega) only [vin, mk_I, ml_I, mr_I, mk_R, ml_R, mi_R, mkN_eq, mlN_eq, miN_eq, mkN_ne, mlN_ne, miN_ne, mrN_ne, mi_eq, mi_na, mi_nj, mr_eq, mr_na, mr_nj, xL0, xL1, xL2, xL3, xL4, xL5, xL6, xL7, xL8, xL9, xL10, xL12, xL16, xL20, xL24, xL31, xL50, xL60, xL89, xL99, xL100, xL200, xI_add, xI_sub, xI_mul, xI_neg, xI_nat, xI_cl, Int.toNat_natCast, Int.reduceToNat, xltT, xltF, xleT, xleF, xeqT, xeqF, nleT, nleF, nltT, nltF, neqT, neqF, ileT, ileF, iltT, iltF, ieqT, ieqF, or_false, or_true, false_or, true_or, and_true, true_and, and_false, false_and, not_false_eq_true, not_true_eq_false, ↓reduceIte, if_true, if_false]) ?_
    rcases hfl with g1 | ⟨g1, j, a2, g2, g3, g4, g5⟩
    · subst g1
      refine w_n (by simp (disch := omega) only [vin, mk_I, ml_I, mr_I, mk_R, ml_R, mi_R, mkN_eq, mlN_eq, miN_eq, mkN_ne, mlN_ne, miN_ne, mrN_ne, mi_eq, mi_na, mi_nj, mr_eq, mr_na, mr_nj, xL0, xL1, xL2, xL3, xL4, xL5, xL6, xL7, xL8, xL9, xL10, xL12, xL16, xL20, xL24, xL31, xL50, xL60, xL89, xL99, xL100, xL200, xI_add, xI_sub, xI_mul, xI_neg, xI_nat, xI_cl, Int.toNat_natCast, Int.reduceToNat, xltT, xltF, xleT, xleF, xeqT, xeqF, nleT, nleF, nltT, nltF, neqT, neqF, ileT, ileF, iltT, iltF, ieqT, ieqF, or_false, or_true, false_or, true_or, and_true, true_and, and_false, false_and, not_false_eq_true, not_true_eq_false, ↓reduceIte, if_true, if_false]) ?_
      exact hnext 1 (.inl rfl)
    · subst g1
      refine w_i (by simp (disch := omega) only [vin, mk_I, ml_I, mr_I, mk_R, ml_R, mi_R, mkN_eq, mlN_eq, miN_eq, mkN_ne, mlN_ne, miN_ne, mrN_ne, mi_eq, mi_na, mi_nj, mr_eq, mr_na, mr_nj, xL0, xL1, xL2, xL3, xL4, xL5, xL6, xL7, xL8, xL9, xL10, xL12, xL16, xL20, xL24, xL31, xL50, xL60, xL89, xL99, xL100, xL200, xI_add, xI_sub, xI_mul, xI_neg, xI_nat, xI_cl, Int.toNat_natCast, Int.reduceToNat, xltT, xltF, xleT, xleF, xeqT, xeqF, nleT, nleF, nltT, nltF, neqT, neqF, ileT, ileF, iltT, iltF, ieqT, ieqF, or_false, or_true, false_or, true_or, and_true, true_and, and_false, false_and, not_false_eq_true, not_true_eq_false, ↓reduceIte, if_true, if_false]) ?_
      refine w_b ha0 ?_
      by_cases c : a 0 = o
      · refine w_i (by simp (disch := omega) only [vin, mk_I, ml_I, mr_I, mk_R, ml_R, mi_R, mkN_eq, mlN_eq, miN_eq, mkN_ne, mlN_ne, miN_ne, mrN_ne, mi_eq, mi_na, mi_nj, mr_eq, mr_na, mr_nj, xL0, xL1, xL2, xL3, xL4, xL5, xL6, xL7, xL8, xL9, xL10, xL12, xL16, xL20, xL24, xL31, xL50, xL60, xL89, xL99, xL100, xL200, xI_add, xI_sub, xI_mul, xI_neg, xI_nat, xI_cl, Int.toNat_natCast, Int.reduceToNat, xltT, xltF, xleT, xleF, xeqT, xeqF, nleT, nleF, nltT, nltF, neqT, neqF, ileT, ileF, iltT, iltF, ieqT, ieqF, or_false, or_true, false_or, true_or, and_true, true_and, and_false, false_and, not_false_eq_true, not_true_eq_false, ↓reduceIte, if_true, if_false]) ?_
        refine w_b hv3 ?_
        refine w_n (by simp (disch := omega) only [vin, mk_I, ml_I, mr_I, mk_R, ml_R, mi_R, mkN_eq, mlN_eq, miN_eq, mkN_ne, mlN_ne, miN_ne, mrN_ne, mi_eq, mi_na, mi_nj, mr_eq, mr_na, mr_nj, xL0, xL1, xL2, xL3, xL4, xL5, xL6, xL7, xL8, xL9, xL10, xL12, xL16, xL20, xL24, xL31, xL50, xL60, xL89, xL99, xL100, xL200, xI_add, xI_sub, xI_mul, xI_neg, xI_nat, xI_cl, Int.toNat_natCast, Int.reduceToNat, xltT, xltF, xleT, xleF, xeqT, xeqF, nleT, nleF, nltT, nltF, neqT, neqF, ileT, ileF, iltT, iltF, ieqT, ieqF, or_false, or_true, false_or, true_or, and_true, true_and, and_false, false_and, not_false_eq_true, not_true_eq_false, ↓reduceIte, if_true, if_false]) ?_
        refine w_b hv3 ?_
        refine w_b ha1 ?_
        by_cases c2 : a 1 < v 3
        · refine w_i (by simp (disch := omega) only [vin, mk_I, ml_I, mr_I, mk_R, ml_R, mi_R, mkN_eq, mlN_eq, miN_eq, mkN_ne, mlN_ne, miN_ne, mrN_ne, mi_eq, mi_na, mi_nj, mr_eq, mr_na, mr_nj, xL0, xL1, xL2, xL3, xL4, xL5, xL6, xL7, xL8, xL9, xL10, xL12, xL16, xL20, xL24, xL31, xL50, xL60, xL89, xL99, xL100, xL200, xI_add, xI_sub, xI_mul, xI_neg, xI_nat, xI_cl, Int.toNat_natCast, Int.reduceToNat, xltT, xltF, xleT, xleF, xeqT, xeqF, nleT, nleF, nltT, nltF, neqT, neqF, ileT, ileF, iltT, iltF, ieqT, ieqF, or_false, or_true, false_or, true_or, and_true, true_and, and_false, false_and, not_false_eq_true, not_true_eq_false, ↓reduceIte, if_true, if_false]) ?_
          refine hnext 0 (.inr ⟨rfl, j, a2, ?_, g3, g4, g5⟩)
          by_cases e : i = j
          · subst e; rw [h1] at g3; cases g3; omega
          · omega
        · refine w_n (by simp (disch := omega) only [vin, mk_I, ml_I, mr_I, mk_R, ml_R, mi_R, mkN_eq, mlN_eq, miN_eq, mkN_ne, mlN_ne, miN_ne, mrN_ne, mi_eq, mi_na, mi_nj, mr_eq, mr_na, mr_nj, xL0, xL1, xL2, xL3, xL4, xL5, xL6, xL7, xL8, xL9, xL10, xL12, xL16, xL20, xL24, xL31, xL50, xL60, xL89, xL99, xL100, xL200, xI_add, xI_sub, xI_mul, xI_neg, xI_nat, xI_cl, Int.toNat_natCast, Int.reduceToNat, xltT, xltF, xleT, xleF, xeqT, xeqF, nleT, nleF, nltT, nltF, neqT, neqF, ileT, ileF, iltT, iltF, ieqT, ieqF, or_false, or_true, false_or, true_or, and_true, true_and, and_false, false_and, not_false_eq_true, not_true_eq_false, ↓reduceIte, if_true, if_false]) ?_
          exact hnext 1 (.inl rfl)
      · refine w_n (by simp (disch := omega) only [vin, mk_I, ml_I, mr_I, mk_R, ml_R, mi_R, mkN_eq, mlN_eq, miN_eq, mkN_ne, mlN_ne, miN_ne, mrN_ne, mi_eq, mi_na, mi_nj, mr_eq, mr_na, mr_nj, xL0, xL1, xL2, xL3, xL4, xL5, xL6, xL7, xL8, xL9, xL10, xL12, xL16, xL20, xL24, xL31, xL50, xL60, xL89, xL99, xL100, xL200, xI_add, xI_sub, xI_mul, xI_neg, xI_nat, xI_cl, Int.toNat_natCast, Int.reduceToNat, xltT, xltF, xleT, xleF, xeqT, xeqF, nleT, nleF, nltT, nltF, neqT, neqF, ileT, ileF, iltT, iltF, ieqT, ieqF, or_false, or_true, false_or, true_or, and_true, true_and, and_false, false_and, not_false_eq_true, not_true_eq_false, ↓reduceIte, if_true, if_false]) ?_
        refine hnext 0 (.inr ⟨rfl, j, a2, ?_, g3, g4, g5⟩)
        by_cases e : i = j
        · subst e; rw [h1] at g3; cases g3; exact absurd g4 c
        · omega
theorem E_at {p : Int × Int} (hI : INm E Lw S [] (fun _ => 20)) (hk : k < S.1) (hp : p ∈ E k) : ∃ (j : Nat) (a : aR), 0 ≤ j ∧ (S.2.2.1 k).2.1[j]? = some a ∧ a 0 = p.1 ∧ a 1 = p.2 := by
  have hd : DI S.1 (S.2.1 2) E Lw 20 k (S.2.2.1 k) := hI.2.1 k hk
  rw [← hd.2.1.1] at hp
  obtain ⟨a, h1, h2⟩ := List.mem_map.mp hp
  obtain ⟨j, hj⟩ := List.mem_iff_getElem?.mp h1
  exact ⟨j, a, Nat.zero_le _, hj, by rw [← h2], by rw [← h2]⟩
theorem L_883 {G : Nat} (h : CV m S) (hI : INm E Lw S [] (fun _ => 20)) (hQ : ∀ g, G ≤ g → wq (fL_L_law L xs g 29 N m kc ks 0 s i3 (i4 + 1) 0 0 0 0 0 0 0 0 0 0 0 0 0 0 0 0 0 0 0 0 0 0) Q) : ∀ r i, i + r = S.2.2.2.length → ∀ f, G + 20 * r < f → wq (fL_L_law L xs (f) 883 N m kc ks 0 s i3 i4 i5 i6 i7 i8 r9 i10 i11 i12 i13 r14 i15 (xI (i : Nat)) 0 0 0 0 0 0 0 0 0 0) Q := by
  have hl : S.2.2.2.length ≤ 60 := hI.2.2.1
  have hn : S.1 ≤ 10 := hI.1.1
  have hc6 := C_count (w := 6) h hI (by omega)
  have hc6 : f_X3_count m 0 (xI 6) = some (xI (S.2.2.2.length : Nat)) := hc6
  intro r
  induction r with
  | zero =>
    intro i hi f hf
    obtain ⟨g, rfl⟩ : ∃ g, f = g + 1 := ⟨f - 1, by omega⟩
    refine w_r fE_L_law_883 ?_
    unfold fB_L_law_883
    refine w_i h.1.1 ?_
    refine w_b hc6 ?_
    refine w_i (by simp (disch := omega) only [vin, mk_I, ml_I, mr_I, mk_R, ml_R, mi_R, mkN_eq, mlN_eq, miN_eq, mkN_ne, mlN_ne, miN_ne, mrN_ne, mi_eq, mi_na, mi_nj, mr_eq, mr_na, mr_nj, xL0, xL1, xL2, xL3, xL4, xL5, xL6, xL7, xL8, xL9, xL10, xL12, xL16, xL20, xL24, xL31, xL50, xL60, xL89, xL99, xL100, xL200, xI_add, xI_sub, xI_mul, xI_neg, xI_nat, xI_cl, Int.toNat_natCast, Int.reduceToNat, xltT, xltF, xleT, xleF, xeqT, xeqF, nleT, nleF, nltT, nltF, neqT, neqF, ileT, ileF, iltT, iltF, ieqT, ieqF, or_false, or_true, false_or, true_or, and_true, true_and, and_false, false_and, not_false_eq_true, not_true_eq_false, ↓reduceIte, if_true, if_false]) ?_
    exact hQ g (by omega)
  | succ r ih =>
    intro i hi f hf
    obtain ⟨v, h1, h2⟩ := dr_at (l := S.2.2.2) (i := i) (by omega)
    have hvm := List.mem_of_getElem? h1
    have hvq : VQ S.1 (S.2.1 2) E Lw v := hI.2.2.2.2.2.1 v hvm
    have hv3 : 1 ≤ v 3 ∧ v 3 ≤ v 4 := hI.2.2.2.1 v hvm
    obtain ⟨⟨n0, n1, n2, n3⟩, hvq⟩ := hvq
    have hv0 := C_voice (w := 0) h hI h1 (by omega)
    have hv1 := C_voice (w := 1) h hI h1 (by omega)
    have hv2 := C_voice (w := 2) h hI h1 (by omega)
    rw [show (0 : Int).toNat = 0 by rfl] at hv0
    rw [show (1 : Int).toNat = 1 by rfl] at hv1
    rw [show (2 : Int).toNat = 2 by rfl] at hv2
    have hgo : ∀ (k : Nat) (o : Int) (f : Nat), k < S.1 → (0 ≤ o ∧ o ≤ 9) → (o, v 4) ∈ E k → G + 20 * r + 10 < f → ∀ i17 i18 i19 : Int32, wq (fL_L_law L xs (f) 963 N m kc ks 0 s i3 i4 i5 i6 i7 i8 r9 i10 i11 i12 i13 r14 i15 (xI (i : Nat)) i17 i18 i19 (xI (k : Nat)) (xI o) 0 0 0 0 0) Q := by
      intro k o f hk ho hE hf2 i17 i18 i19
      obtain ⟨j, a, j0, j1, j2, j3⟩ := E_at hI hk hE
      have hca := C_ask hI hk (List.mem_of_getElem? j1)
      have hlen : (S.2.2.1 k).2.1.length ≤ 4 := (IN_Wa hI k hk).2.2.2.2.2.1
      obtain ⟨g, rfl⟩ : ∃ g, f = 2 * (S.2.2.1 k).2.1.length + 1 + g := ⟨f - (2 * (S.2.2.1 k).2.1.length + 1), by omega⟩
      dsimp only at j3
      exact L_963 h hI h1 hk ho (by omega) (ih (i + 1) (by omega) g (by omega)) _ 0 (by omega) 0 (.inr ⟨rfl, j, a, j0, j1, j2, by omega⟩)
    obtain ⟨g, rfl⟩ : ∃ g, f = g + 4 := ⟨f - 4, by omega⟩
    refine w_r fE_L_law_883 ?_
    unfold fB_L_law_883
    refine w_i h.1.1 ?_
    refine w_b hc6 ?_
    refine w_n (by simp (disch := omega) only [vin, mk_I, ml_I, mr_I, mk_R, ml_R, mi_R, mkN_eq, mlN_eq, miN_eq, mkN_ne, mlN_ne, miN_ne, mrN_ne, mi_eq, mi_na, mi_nj, mr_eq, mr_na, mr_nj, xL0, xL1, xL2, xL3, xL4, xL5, xL6, xL7, xL8, xL9, xL10, xL12, xL16, xL20, xL24, xL31, xL50, xL60, xL89, xL99, xL100, xL200, xI_add, xI_sub, xI_mul, xI_neg, xI_nat, xI_cl, Int.toNat_natCast, Int.reduceToNat, xltT, xltF, xleT, xleF, xeqT, xeqF, nleT, nleF, nltT, nltF, neqT, neqF, ileT, ileF, iltT, iltF, ieqT, ieqF, or_false, or_true, false_or, true_or, and_true, true_and, and_false, false_and, not_false_eq_true, not_true_eq_false, ↓reduceIte, if_true, if_false]) ?_
    refine w_b hv0 ?_
    refine w_b hv1 ?_
    refine w_b hv2 ?_
    by_cases c : v 2 = 0
    · refine w_i (by simp (disch := omega) only [vin, mk_I, ml_I, mr_I, mk_R, ml_R, mi_R, mkN_eq, mlN_eq, miN_eq, mkN_ne, mlN_ne, miN_ne, mrN_ne, mi_eq, mi_na, mi_nj, mr_eq, mr_na, mr_nj, xL0, xL1, xL2, xL3, xL4, xL5, xL6, xL7, xL8, xL9, xL10, xL12, xL16, xL20, xL24, xL31, xL50, xL60, xL89, xL99, xL100, xL200, xI_add, xI_sub, xI_mul, xI_neg, xI_nat, xI_cl, Int.toNat_natCast, Int.reduceToNat, xltT, xltF, xleT, xleF, xeqT, xeqF, nleT, nleF, nltT, nltF, neqT, neqF, ileT, ileF, iltT, iltF, ieqT, ieqF, or_false, or_true, false_or, true_or, and_true, true_and, and_false, false_and, not_false_eq_true, not_true_eq_false, ↓reduceIte, if_true, if_false]) ?_
      refine w_r fE_L_law_929 ?_
      unfold fB_L_law_929
      refine w_n (by decide) ?_
      refine w_r fE_L_law_943 ?_
      unfold fB_L_law_943
      refine w_n (by decide) ?_
      refine w_r fE_L_law_957 ?_
      unfold fB_L_law_957
      have hE : (v 1, v 4) ∈ E (v 0).toNat := by
        rcases hvq with ⟨_, g1, _⟩ | ⟨g1, _⟩
        · exact g1
        · omega
      have e0 : xI (v 0) = xI (((v 0).toNat : Nat) : Int) := by rw [Int.toNat_of_nonneg n0]
      have h9 := hgo (v 0).toNat (v 1) g (by omega) (by omega) hE (by omega) (xI (v 0)) (xI (v 1)) 1
      rw [← e0] at h9
      exact h9
    · refine w_n (by
        have : 1 ≤ v 2 ∧ v 2 ≤ 2 := by omega
        simp (disch := omega) only [vin, mk_I, ml_I, mr_I, mk_R, ml_R, mi_R, mkN_eq, mlN_eq, miN_eq, mkN_ne, mlN_ne, miN_ne, mrN_ne, mi_eq, mi_na, mi_nj, mr_eq, mr_na, mr_nj, xL0, xL1, xL2, xL3, xL4, xL5, xL6, xL7, xL8, xL9, xL10, xL12, xL16, xL20, xL24, xL31, xL50, xL60, xL89, xL99, xL100, xL200, xI_add, xI_sub, xI_mul, xI_neg, xI_nat, xI_cl, Int.toNat_natCast, Int.reduceToNat, xltT, xltF, xleT, xleF, xeqT, xeqF, nleT, nleF, nltT, nltF, neqT, neqF, ileT, ileF, iltT, iltF, ieqT, ieqF, or_false, or_true, false_or, true_or, and_true, true_and, and_false, false_and, not_false_eq_true, not_true_eq_false, ↓reduceIte, if_true, if_false]) ?_
      refine w_r fE_L_law_929 ?_
      unfold fB_L_law_929
      refine w_i (by decide) ?_
      refine w_r fE_L_law_943 ?_
      unfold fB_L_law_943
      refine w_i (by decide) ?_
      refine w_r fE_L_law_957 ?_
      unfold fB_L_law_957
      have hE : (v 0, v 4) ∈ E (v 1).toNat := by
        rcases hvq with ⟨g1, _⟩ | ⟨_, g1⟩
        · omega
        · exact g1
      have e0 : xI (v 1) = xI (((v 1).toNat : Nat) : Int) := by rw [Int.toNat_of_nonneg n2]
      have h9 := hgo (v 1).toNat (v 0) g (by omega) (by omega) hE (by omega) (xI (v 0)) (xI (v 1)) 0
      rw [← e0] at h9
      exact h9
end
