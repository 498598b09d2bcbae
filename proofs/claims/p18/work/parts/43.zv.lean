section
variable {m m' : vM} {N N' s k y : Nat} {X : Nat → Prop} {D : zD} {Z : zS} {v : aR} {E : Nat → List (Int × Int)} {Lw : Nat → Int} {c : Nat → Int} {S : aS}
theorem L_z13 (hI : INm E Lw S [] (fun _ => 20)) : ∀ r i, ∀ (N : Nat) (m : vM) (Z : zS), i + r = S.1 → ZR N m s Z → uz Z = a_sp S i → 149 ≤ N → ∀ f, r + 900 < f → wq (fL_X5_pass f 13 N m 0 0 s (xI 0) Z.2.2.1 (xI (S.1 : Nat)) 0 (xI (i : Nat)) 0 0 0 0 0 0 0 0) (fun z => z.1 = xI (a_t3 S).1 ∧ ∃ Z', ZR z.2.1 z.2.2 s Z' ∧ uz Z' = a_tick S ∧ zk Z Z' ∧ N ≤ z.2.1 ∧ fM N (tY m) m z.2.2) := by
  have hn : S.1 ≤ 10 := hI.1.1
  intro r
  induction r with
  | zero =>
    intro i N m Z hi h hZ hN f hf
    obtain ⟨g, rfl⟩ : ∃ g, f = g + 1 := ⟨f - 1, by omega⟩
    have hi : i = S.1 := by omega
    subst hi
    have e1 : Z.1 = S.1 := congrArg (fun T : aS => T.1) hZ
    have e2 : Z.2.1 = S.2.1 := congrArg (fun T : aS => T.2.1) hZ
    have e3 : (uz Z).2.2.1 = fun k => if k < S.1 then (a_spend (S.2.2.1 k).1, (S.2.2.1 k).2) else S.2.2.1 k := congrArg (fun T : aS => T.2.2.1) hZ
    have e4 : Z.2.2.2.2.2.map Prod.snd = S.2.2.2 := congrArg (fun T : aS => T.2.2.2) hZ
    have hs5 := h.1.1.2.2.1
    have hsN := h.1.1.2.1
    have hv1 := h.1.1.2.2.2.2.1
    have hV8 := h.2.2.1.1
    have f1 : fM N (fun _ => False) m (mN (mN m N 8 0) (N + 1) 8 0) := fM_trans (fM_N (Nat.le_refl _)) (fM_N (Nat.le_succ N)) (Nat.le_refl _) (fun _ _ h => h)
    have hlv : Z.2.2.2.2.2.length ≤ 60 := by
      have := hI.2.2.1
      rw [← e4, List.length_map] at this; exact this
    have eT : (Z.1, fu Z.2.1 2 (Z.2.1 2 + 1), (uz Z).2.2.1, (([] : List (Nat × aR)) ++ zst Z.2.2.2.2.2).map Prod.snd) = a_t1 S := by
      unfold a_t1
      rw [List.nil_append, zst_s, e1, e2, e3, e4]
    have eD : (([] : List (Nat × aR)) ++ zdu Z.2.2.2.2.2).map Prod.snd = a_due S.2.2.2 := by
      rw [List.nil_append, zdu_s, e4]
    have hvb : ∀ z ∈ Z.2.2.2.2.2, 1 ≤ z.2 3 ∧ z.2 3 ≤ 5 := by
      intro z hz
      have hzm : z.2 ∈ S.2.2.2 := by rw [← e4]; exact List.mem_map.mpr ⟨z, hz, rfl⟩
      have h3 := hI.2.2.2.1 z.2 hzm
      have h6 := hI.2.2.2.2.2.1 z.2 (by exact hzm)
      have h61 := h6.1
      rcases h6.2 with h7 | h7
      · have := (hI.1.2.1 (z.2 0).toNat (by omega)).2.1 _ h7.2.1
        simp only at this; omega
      · have := (hI.1.2.1 (z.2 1).toNat (by omega)).2.1 _ h7.2
        simp only at this; omega
    obtain ⟨z1, z2, z3, z4⟩ := h
    have hP : ZP (N + 1 + 1) (mN (mN m N 8 0) (N + 1) 8 0) s (Z.1, fu Z.2.1 2 (Z.2.1 2 + 1), Z.2.2) := by
      have h9 := ZP_fr (Z := Z) ⟨z1, z2, z4.1, z4.2.1, z4.2.2.1⟩ f1 (show N ≤ N + 1 + 1 by omega) (fun x _ h => h.elim)
      obtain ⟨⟨⟨a1, a2, a3, a4, a5, a6, a7⟩, b⟩, c0⟩ := h9
      exact ⟨⟨⟨a1, a2, a3, a4, a5, by show _ = xI (fu Z.2.1 2 (Z.2.1 2 + 1) 0); rw [fu_ne (by omega)]; exact a6, by show _ = xI (fu Z.2.1 2 (Z.2.1 2 + 1) 1); rw [fu_ne (by omega)]; exact a7⟩, b⟩, c0⟩
    have h9 := L_z92 (s := s) (E := E) (Lw := Lw) (Z := (Z.1, fu Z.2.1 2 (Z.2.1 2 + 1), Z.2.2)) Z.2.2.2.2.2 [] [] [] (N + 1 + 1) (mN (mN m N 8 0) (N + 1) 8 0) (0 + 1 + 1) (0 + 0 + 0) N (N + 1) hP (a8_fr hV8 f1 (by omega) (fun h => h)) ⟨⟨hN, by omega⟩, by rw [mkN_ne (by omega)]; exact mkN_eq, by rw [mlN_ne (by omega)]; exact mlN_eq, fun i z hz => by simp at hz⟩ ⟨⟨by omega, by omega⟩, mkN_eq, mlN_eq, fun i z hz => by simp at hz⟩ (fun z hz => ro_fr (z3.2 z (by simpa using hz)) f1 (by omega) (fun h => h)) (by simpa using z4.2.2.2) (by simp; exact hlv) (by simp; exact hlv) hvb (by
      have e8 : (((Z.1, fu Z.2.1 2 (Z.2.1 2 + 1), Z.2.2) : zS).1, ((Z.1, fu Z.2.1 2 (Z.2.1 2 + 1), Z.2.2) : zS).2.1, (uz (Z.1, fu Z.2.1 2 (Z.2.1 2 + 1), Z.2.2)).2.2.1, (([] : List (Nat × aR)) ++ zst Z.2.2.2.2.2).map Prod.snd) = a_t1 S := eT
      rw [e8, eD]; exact IN_t1 hI) (by omega) (by omega) (by omega) g (by omega)
    show wq (fB_X5_pass_13 (fL_X5_pass g) N m 0 0 s (xI 0) Z.2.2.1 (xI (S.1 : Nat)) 0 (xI (S.1 : Nat)) 0 0 0 0 0 0 0 0) _
    unfold fB_X5_pass_13
    refine w_i (by simp (disch := omega) only [vin, mk_I, ml_I, mr_I, mk_R, ml_R, mi_R, mkN_eq, mlN_eq, miN_eq, mkN_ne, mlN_ne, miN_ne, mrN_ne, mi_eq, mi_na, mi_nj, mr_eq, mr_na, mr_nj, xL0, xL1, xL2, xL3, xL4, xL5, xL6, xL7, xL8, xL9, xL10, xL12, xL16, xL20, xL24, xL31, xL50, xL60, xL89, xL99, xL100, xL200, xI_add, xI_sub, xI_mul, xI_neg, xI_nat, xI_cl, Int.toNat_natCast, Int.reduceToNat, xltT, xltF, xleT, xleF, xeqT, xeqF, nleT, nleF, nltT, nltF, neqT, neqF, ileT, ileF, iltT, iltF, ieqT, ieqF, or_false, or_true, false_or, true_or, and_true, true_and, and_false, false_and, not_false_eq_true, not_true_eq_false, ↓reduceIte, if_true, if_false]) ?_
    refine w_i (by decide) ?_
    refine w_i (by decide) ?_
    refine w_i (by decide) ?_
    refine w_i (by decide) ?_
    refine w_i (by rw [fM_k f1 hsN]; exact hs5) ?_
    refine w_b (x := Z.2.2.2.1) (by rw [fM_r f1 hsN (fun h => h)]; exact hv1) ?_
    refine w_i (by rw [fM_k f1 hV8.1.2]; exact hV8.2.1) ?_
    have e5 : ([] : List (Nat × aR)).length + Z.2.2.2.2.2.length = Z.2.2.2.2.2.length := by simp
    rw [e5] at h9
    refine w_r ?_ (w_m h9 ?_)
    · have e6 : ml (mN (mN m N 8 0) (N + 1) 8 0) Z.2.2.2.1 = Z.2.2.2.2.2.length := by rw [fM_l f1 hV8.1.2]; exact hV8.2.2.1
      rw [e6, xI_nat]; rfl
    · have e7 : a_dks (a_hears (Z.1, fu Z.2.1 2 (Z.2.1 2 + 1), (uz Z).2.2.1, (([] : List (Nat × aR)) ++ zst Z.2.2.2.2.2).map Prod.snd) ((([] : List (Nat × aR)) ++ zdu Z.2.2.2.2.2).map Prod.snd)) 0 Z.1 = a_t3 S := by
        rw [eT, eD, e1]; unfold a_t3; rw [a_t2_n]; rfl
      rintro ⟨zc, N3, m3⟩ ⟨j1, Z3, j2, j3, j4, j5, j6⟩
      have j1 : zc = xI (a_dks (a_hears (Z.1, fu Z.2.1 2 (Z.2.1 2 + 1), (uz Z).2.2.1, (([] : List (Nat × aR)) ++ zst Z.2.2.2.2.2).map Prod.snd) ((([] : List (Nat × aR)) ++ zdu Z.2.2.2.2.2).map Prod.snd)) 0 Z.1).1 := j1
      have j3 : uz Z3 = a_fin (a_dks (a_hears (Z.1, fu Z.2.1 2 (Z.2.1 2 + 1), (uz Z).2.2.1, (([] : List (Nat × aR)) ++ zst Z.2.2.2.2.2).map Prod.snd) ((([] : List (Nat × aR)) ++ zdu Z.2.2.2.2.2).map Prod.snd)) 0 Z.1).2 := j3
      rw [e7] at j1 j3
      refine ⟨j1, Z3, j2, j3, ⟨j4.1, j4.2.1, j4.2.2⟩, by omega, ?_⟩
      have fb : fM N (tY m) m (mN (mN m N 8 0) (N + 1) 8 0) := fM_w f1 (fun _ _ h => h.elim)
      exact fM_trans fb j6 (by omega) (fun x hx hy => tY_fM fb hx hy)
  | succ r ih =>
    intro i N m Z hi h hZ hN f hf
    obtain ⟨g, rfl⟩ : ∃ g, f = g + 1 := ⟨f - 1, by omega⟩
    have e1 : Z.1 = S.1 := congrArg (fun T : aS => T.1) hZ
    have hkn : i < Z.1 := by omega
    have hdk := h.2.1 i hkn
    have hsp := h.2.2.2.2.1 i hkn
    have hDK : (uz Z).2.2.1 i = ud (Z.2.2.2.2.1 i) := rfl
    have h0 := h
    obtain ⟨⟨⟨a1, a2, a3, a4, a5, a6, a7⟩, ⟨b1, b2, b3, b4, b5⟩⟩, c0, ⟨d1, d2⟩, e⟩ := h
    have hrk : mr m Z.2.2.1 (xI (i : Nat)).toNatClampNeg = some (Z.2.2.2.2.1 i).1 := by rw [← b5 i hkn]; simp (disch := omega) only [vin, mk_I, ml_I, mr_I, mk_R, ml_R, mi_R, mkN_eq, mlN_eq, miN_eq, mkN_ne, mlN_ne, miN_ne, mrN_ne, mi_eq, mi_na, mi_nj, mr_eq, mr_na, mr_nj, xL0, xL1, xL2, xL3, xL4, xL5, xL6, xL7, xL8, xL9, xL10, xL12, xL16, xL20, xL24, xL31, xL50, xL60, xL89, xL99, xL100, xL200, xI_add, xI_sub, xI_mul, xI_neg, xI_nat, xI_cl, Int.toNat_natCast, Int.reduceToNat, xltT, xltF, xleT, xleF, xeqT, xeqF, nleT, nleF, nltT, nltF, neqT, neqF, ileT, ileF, iltT, iltF, ieqT, ieqF, or_false, or_true, false_or, true_or, and_true, true_and, and_false, false_and, not_false_eq_true, not_true_eq_false, ↓reduceIte, if_true, if_false]
    generalize hDg : Z.2.2.2.2.1 i = D at hdk hsp hDK hrk
    have h := h0
    obtain ⟨q1, q2, q3, q4, q5⟩ := hdk.1
    have p3 : mi m D.1 3 = xI (D.2.2.2.1 3) := hdk.2.1.1 3 (by omega)
    have p4 : mi m D.1 4 = xI (D.2.2.2.1 4) := hdk.2.1.1 4 (by omega)
    have eS : S.2.2.1 i = ud D := by
      rw [← hDK, hZ]; exact (if_neg (by omega)).symm
    have hd9 : DI S.1 (S.2.1 2) E Lw 20 i (ud D) := by have := hI.2.1 i (by omega); rw [eS] at this; exact this
    have hq : (D.2.2.2.1 3 = 0 ∧ D.2.2.2.1 4 = 0 ∧ Lw i + 4 ≤ S.2.1 2) ∨ (D.2.2.2.1 3 = 1 ∧ 1 ≤ D.2.2.2.1 4 ∧ Lw i ≤ S.2.1 2 ∧ S.2.1 2 - Lw i + D.2.2.2.1 4 ≤ 20) ∨ (D.2.2.2.1 3 = 2 ∧ 1 ≤ D.2.2.2.1 4 ∧ D.2.2.2.1 4 ≤ 12 ∧ Lw i + 4 ≤ S.2.1 2 + D.2.2.2.1 4) ∨ (D.2.2.2.1 3 = 3 ∧ 1 ≤ D.2.2.2.1 4 ∧ D.2.2.2.1 4 ≤ 4 ∧ Lw i + 4 ≤ S.2.1 2 + D.2.2.2.1 4) := hd9.1.2.2
    have ek : xI (i : Nat) + 1 = xI ((i + 1 : Nat) : Int) := by rw [xL1, xI_add]; rfl
    have hnext : ∀ (m1 : vM) (f1 : aR), fM N (fun x => x = D.1) m m1 → dR N m1 (D.1, D.2.1, D.2.2.1, f1, D.2.2.2.2) → f1 = a_spend D.2.2.2.1 → wq (fL_X5_pass g 13 N m1 0 0 s (xI 0) Z.2.2.1 (xI (S.1 : Nat)) 0 (xI (i : Nat) + 1) 0 0 0 0 0 0 0 0) (fun z => z.1 = xI (a_t3 S).1 ∧ ∃ Z', ZR z.2.1 z.2.2 s Z' ∧ uz Z' = a_tick S ∧ zk Z Z' ∧ N ≤ z.2.1 ∧ fM N (tY m) m z.2.2) := by
      intro m1 f1 hf1 hd1 hf
      have hZ1 : ZR N m1 s (zset Z i (D.1, D.2.1, D.2.2.1, f1, D.2.2.2.2)) := ZR_set h hkn hf1 (Nat.le_refl _) hd1 (by rw [hDg]) hsp (fun w hw => .inl ⟨w, by rw [hDg]; exact hw, rfl⟩) (fun x _ hx => .inl (by rw [hDg]; exact hx))
      have fa : fM N (tY m) m m1 := fM_w hf1 (fun x _ hx => by rw [hx]; exact ⟨q1, .inl q3⟩)
      have hu : uz (zset Z i (D.1, D.2.1, D.2.2.1, f1, D.2.2.2.2)) = a_sp S (i + 1) := by
        rw [uz_set, hZ, ← sp_s, eS, hf]; rfl
      rw [ek]
      have h9 := ih (i + 1) N m1 _ (by omega) hZ1 hu hN g (by omega)
      refine w_m h9 ?_
      rintro ⟨zc, N3, m3⟩ ⟨j1, Z3, j2, j3, j4, j5, j6⟩
      exact ⟨j1, Z3, j2, j3, zk_trans (zk_set (by rw [hDg])) j4, j5, fM_trans fa j6 (Nat.le_refl _) (fun x hx hy => tY_fM fa hx hy)⟩
    show wq (fB_X5_pass_13 (fL_X5_pass g) N m 0 0 s (xI 0) Z.2.2.1 (xI (S.1 : Nat)) 0 (xI (i : Nat)) 0 0 0 0 0 0 0 0) _
    unfold fB_X5_pass_13
    refine w_n (by simp (disch := omega) only [vin, mk_I, ml_I, mr_I, mk_R, ml_R, mi_R, mkN_eq, mlN_eq, miN_eq, mkN_ne, mlN_ne, miN_ne, mrN_ne, mi_eq, mi_na, mi_nj, mr_eq, mr_na, mr_nj, xL0, xL1, xL2, xL3, xL4, xL5, xL6, xL7, xL8, xL9, xL10, xL12, xL16, xL20, xL24, xL31, xL50, xL60, xL89, xL99, xL100, xL200, xI_add, xI_sub, xI_mul, xI_neg, xI_nat, xI_cl, Int.toNat_natCast, Int.reduceToNat, xltT, xltF, xleT, xleF, xeqT, xeqF, nleT, nleF, nltT, nltF, neqT, neqF, ileT, ileF, iltT, iltF, ieqT, ieqF, or_false, or_true, false_or, true_or, and_true, true_and, and_false, false_and, not_false_eq_true, not_true_eq_false, ↓reduceIte, if_true, if_false]) ?_
    refine w_i b3 ?_
    refine w_i (by simp (disch := omega) only [vin, mk_I, ml_I, mr_I, mk_R, ml_R, mi_R, mkN_eq, mlN_eq, miN_eq, mkN_ne, mlN_ne, miN_ne, mrN_ne, mi_eq, mi_na, mi_nj, mr_eq, mr_na, mr_nj, xL0, xL1, xL2, xL3, xL4, xL5, xL6, xL7, xL8, xL9, xL10, xL12, xL16, xL20, xL24, xL31, xL50, xL60, xL89, xL99, xL100, xL200, xI_add, xI_sub, xI_mul, xI_neg, xI_nat, xI_cl, Int.toNat_natCast, Int.reduceToNat, xltT, xltF, xleT, xleF, xeqT, xeqF, nleT, nleF, nltT, nltF, neqT, neqF, ileT, ileF, iltT, iltF, ieqT, ieqF, or_false, or_true, false_or, true_or, and_true, true_and, and_false, false_and, not_false_eq_true, not_true_eq_false, ↓reduceIte, if_true, if_false, b4]) ?_
    refine w_b hrk ?_
    refine w_i q3 ?_
    by_cases g2 : D.2.2.2.1 3 < 2
    · refine w_n (by simp (disch := omega) only [vin, mk_I, ml_I, mr_I, mk_R, ml_R, mi_R, mkN_eq, mlN_eq, miN_eq, mkN_ne, mlN_ne, miN_ne, mrN_ne, mi_eq, mi_na, mi_nj, mr_eq, mr_na, mr_nj, xL0, xL1, xL2, xL3, xL4, xL5, xL6, xL7, xL8, xL9, xL10, xL12, xL16, xL20, xL24, xL31, xL50, xL60, xL89, xL99, xL100, xL200, xI_add, xI_sub, xI_mul, xI_neg, xI_nat, xI_cl, Int.toNat_natCast, Int.reduceToNat, xltT, xltF, xleT, xleF, xeqT, xeqF, nleT, nleF, nltT, nltF, neqT, neqF, ileT, ileF, iltT, iltF, ieqT, ieqF, or_false, or_true, false_or, true_or, and_true, true_and, and_false, false_and, not_false_eq_true, not_true_eq_false, ↓reduceIte, if_true, if_false, p3]) ?_
      exact hnext m D.2.2.2.1 fM_rfl hdk (by unfold a_spend; rw [if_pos g2])
    · refine w_i (by simp (disch := omega) only [vin, mk_I, ml_I, mr_I, mk_R, ml_R, mi_R, mkN_eq, mlN_eq, miN_eq, mkN_ne, mlN_ne, miN_ne, mrN_ne, mi_eq, mi_na, mi_nj, mr_eq, mr_na, mr_nj, xL0, xL1, xL2, xL3, xL4, xL5, xL6, xL7, xL8, xL9, xL10, xL12, xL16, xL20, xL24, xL31, xL50, xL60, xL89, xL99, xL100, xL200, xI_add, xI_sub, xI_mul, xI_neg, xI_nat, xI_cl, Int.toNat_natCast, Int.reduceToNat, xltT, xltF, xleT, xleF, xeqT, xeqF, nleT, nleF, nltT, nltF, neqT, neqF, ileT, ileF, iltT, iltF, ieqT, ieqF, or_false, or_true, false_or, true_or, and_true, true_and, and_false, false_and, not_false_eq_true, not_true_eq_false, ↓reduceIte, if_true, if_false, p3]) ?_
      have em : mI m D.1 4 (mi m D.1 4 - 1) = mI m D.1 4 (xI (D.2.2.2.1 4 - 1)) := by rw [p4, xL1, xI_sub]
      simp only [em]
      have hd1 := dR_I (v := D.2.2.2.1 4 - 1) hdk (show 4 < 5 by omega)
      have f1 : fM N (fun x => x = D.1) m (mI m D.1 4 (xI (D.2.2.2.1 4 - 1))) := fM_I rfl
      have o4 : mi (mI m D.1 4 (xI (D.2.2.2.1 4 - 1))) D.1 4 = xI (D.2.2.2.1 4 - 1) := mi_eq
      by_cases g3 : D.2.2.2.1 4 - 1 ≤ 0
      · refine w_i (by simp (disch := omega) only [vin, mk_I, ml_I, mr_I, mk_R, ml_R, mi_R, mkN_eq, mlN_eq, miN_eq, mkN_ne, mlN_ne, miN_ne, mrN_ne, mi_eq, mi_na, mi_nj, mr_eq, mr_na, mr_nj, xL0, xL1, xL2, xL3, xL4, xL5, xL6, xL7, xL8, xL9, xL10, xL12, xL16, xL20, xL24, xL31, xL50, xL60, xL89, xL99, xL100, xL200, xI_add, xI_sub, xI_mul, xI_neg, xI_nat, xI_cl, Int.toNat_natCast, Int.reduceToNat, xltT, xltF, xleT, xleF, xeqT, xeqF, nleT, nleF, nltT, nltF, neqT, neqF, ileT, ileF, iltT, iltF, ieqT, ieqF, or_false, or_true, false_or, true_or, and_true, true_and, and_false, false_and, not_false_eq_true, not_true_eq_false, ↓reduceIte, if_true, if_false, o4]) ?_
        have hd2 := dR_I (v := 0) hd1 (show 3 < 5 by omega)
        have e9 : D.2.2.2.1 4 - 1 = 0 := by omega
        refine hnext _ _ (fM_trans f1 (fM_I (X := fun x => x = D.1) rfl) (Nat.le_refl _) (fun _ _ h => h)) hd2 ?_
        show fu (fu D.2.2.2.1 4 (D.2.2.2.1 4 - 1)) 3 0 = _
        unfold a_spend; rw [if_neg g2, if_pos g3, e9]
      · refine w_n (by simp (disch := omega) only [vin, mk_I, ml_I, mr_I, mk_R, ml_R, mi_R, mkN_eq, mlN_eq, miN_eq, mkN_ne, mlN_ne, miN_ne, mrN_ne, mi_eq, mi_na, mi_nj, mr_eq, mr_na, mr_nj, xL0, xL1, xL2, xL3, xL4, xL5, xL6, xL7, xL8, xL9, xL10, xL12, xL16, xL20, xL24, xL31, xL50, xL60, xL89, xL99, xL100, xL200, xI_add, xI_sub, xI_mul, xI_neg, xI_nat, xI_cl, Int.toNat_natCast, Int.reduceToNat, xltT, xltF, xleT, xleF, xeqT, xeqF, nleT, nleF, nltT, nltF, neqT, neqF, ileT, ileF, iltT, iltF, ieqT, ieqF, or_false, or_true, false_or, true_or, and_true, true_and, and_false, false_and, not_false_eq_true, not_true_eq_false, ↓reduceIte, if_true, if_false, o4]) ?_
        refine hnext _ _ f1 hd1 ?_
        show fu D.2.2.2.1 4 (D.2.2.2.1 4 - 1) = _
        unfold a_spend; rw [if_neg g2, if_neg g3]
theorem S_zpass (h : ZR N m s Z) (hI : INm E Lw (uz Z) [] (fun _ => 20)) (hN : 149 ≤ N) : wq (f_X5_pass N m s) (fun z => z.1 = xI (a_t3 (uz Z)).1 ∧ ∃ Z', ZR z.2.1 z.2.2 s Z' ∧ uz Z' = a_tick (uz Z) ∧ zk Z Z' ∧ N ≤ z.2.1 ∧ fM N (tY m) m z.2.2) := by
  unfold f_X5_pass
  refine w_i h.1.1.2.2.1 ?_
  refine w_b h.1.1.2.2.2.1 ?_
  refine w_i h.1.2.2.2.1 ?_
  have hn : Z.1 ≤ 10 := hI.1.1
  have h9 := L_z13 (s := s) hI (uz Z).1 0 N m Z (Nat.zero_add _) h sp_0.symm hN vF (by show Z.1 + 900 < vF; unfold vF; omega)
  refine w_r ?_ h9
  rw [h.1.2.2.2.2.1, xI_nat]; rfl
end
