section
variable {m m' : vM} {N N' s k y b q : Nat} {X : Nat → Prop} {Z : zS} {S : aS} {τ : aN} {L : Nat} {xs : Nat → Int32}
/-- nobody has opened or been barred -/
def K0 (S : aS) : Prop := ∀ k, (S.2.2.1 k).1 5 = 0 ∧ (S.2.2.1 k).1 6 = 0
theorem K0_build {a b c : Int} (h : K0 S) : K0 (a_build S a b c) := by
  intro j
  unfold a_build du
  show (if j = S.1 then a_new a b c else S.2.2.1 j).1 5 = 0 ∧ (if j = S.1 then a_new a b c else S.2.2.1 j).1 6 = 0
  by_cases g : j = S.1
  · rw [if_pos g]; exact ⟨rfl, rfl⟩
  · rw [if_neg g]; exact h j
/-- a door is built in both -/
theorem S_bbuild {a b c : Int} (h : BT N m s S) (hz : Zr 1 m.2.2.1 S.1) (hn : S.1 < 10) (hg : S.2.1 = fun _ => 0) (ha : 0 ≤ a ∧ a ≤ 99) (hb : 1 ≤ b ∧ b ≤ 20) (hc : 0 ≤ c ∧ c ≤ 3) : wq (f_X3_build m 0 (xI a) (xI b) (xI c)) (fun z => z.1 = xI S.1 ∧ mk z.2 s = 5 ∧ wq (f_X5_build N z.2 s (xI a) (xI b) (xI c)) (fun w => BT w.1 w.2 s (a_build S a b c) ∧ Zr 1 w.2.2.2.1 (S.1 + 1) ∧ N ≤ w.1)) := by
  obtain ⟨hC, hN, ⟨Z, hZ, rfl⟩, E, Lw, hI⟩ := h
  have h1 := S_X3build hC.1 hC.2 hn hz ha hb hc
  rw [xW_self] at h1
  refine w_m h1 ?_
  rintro z ⟨τ, rfl, t1, t2, t3⟩
  have hZ1 := ZR_cl hZ (fun x hx => t3 x (by omega))
  refine ⟨rfl, hZ.1.1.2.2.1, ?_⟩
  refine w_m (S_zbuild (a := a) (b := b) (c := c) hn hZ1 hN) ?_
  rintro ⟨N1, m1⟩ ⟨Z1, j1, j2, j3, j4⟩
  dsimp only at j1 j3 j4 ⊢
  have hC1 : CV m1 (a_build (uz Z) a b c) := CV_fr (CV_cl hC t1) (by show Z.1 + 1 ≤ 10; have : Z.1 < 10 := hn; omega) j4 hN (fun x _ h => h)
  refine ⟨⟨hC1, by omega, ⟨Z1, j1, j2⟩, _, _, IN_build hI hn (by rw [hg]) ha hb hc⟩, fun k hk1 hk2 => ?_, j3⟩
  have e : m1.2.2.1 (1 + 14 + 6 * k) = τ (1 + 14 + 6 * k) := ((j4 _ (by omega)).2 (by omega)).1
  rw [e]; exact t2 k hk1 hk2
theorem mod6 : ∀ i, i < 24 → ((5 : Int32) + (xI ((i : Nat) : Int) - xI ((i : Nat) : Int) / 6 * 6)) = xI ((5 + i % 6 : Nat) : Int) := by decide +kernel
theorem L_links (hL : L ≤ 260) : ∀ r i, i + r = 24 → ∀ (N : Nat) (m : vM) (S : aS) (kc ks : Nat), BT N m s S → 1 ≤ S.1 → S.2.1 = (fun _ => 0) → K0 S → kc + 2 * r ≤ 91 → ks + 69 * r ≤ 1860 → ∀ f, r < f → wq (fL_L_build L xs f 136 N m kc ks 0 s (xI S.1) (xI (i : Nat))) (fun z => z.1 = some s ∧ ∃ S', BT z.2.1 z.2.2 s S' ∧ 1 ≤ S'.1 ∧ S'.2.1 = (fun _ => 0) ∧ K0 S') := by
  intro r
  induction r with
  | zero =>
    intro i hi N m S kc ks h h1 hg hk0 hc1 hc2 f hf
    obtain ⟨g, rfl⟩ : ∃ g, f = g + 1 := ⟨f - 1, by omega⟩
    show wq (fB_L_build_136 L xs (fL_L_build L xs g) N m kc ks 0 s (xI S.1) (xI (i : Nat))) _
    unfold fB_L_build_136
    refine w_i (by simp (disch := omega) only [vin, mk_I, ml_I, mr_I, mk_R, ml_R, mi_R, mkN_eq, mlN_eq, miN_eq, mkN_ne, mlN_ne, miN_ne, mrN_ne, mi_eq, mi_na, mi_nj, mr_eq, mr_na, mr_nj, xL0, xL1, xL2, xL3, xL4, xL5, xL6, xL7, xL8, xL9, xL10, xL12, xL16, xL20, xL24, xL31, xL50, xL60, xL89, xL99, xL100, xL200, xI_add, xI_sub, xI_mul, xI_neg, xI_nat, xI_cl, Int.toNat_natCast, Int.reduceToNat, xltT, xltF, xleT, xleF, xeqT, xeqF, nleT, nleF, nltT, nltF, neqT, neqF, ileT, ileF, iltT, iltF, ieqT, ieqF, or_false, or_true, false_or, true_or, and_true, true_and, and_false, false_and, not_false_eq_true, not_true_eq_false, ↓reduceIte, if_true, if_false]) ?_
    exact w_s ⟨rfl, S, h, h1, hg, hk0⟩
  | succ r ih =>
    intro i hi N m S kc ks h h1 hg hk0 hc1 hc2 f hf
    obtain ⟨g, rfl⟩ : ∃ g, f = g + 1 := ⟨f - 1, by omega⟩
    have hn : S.1 ≤ 10 := by obtain ⟨_, _, _, E, Lw, hI⟩ := h; exact hI.1.1
    show wq (fB_L_build_136 L xs (fL_L_build L xs g) N m kc ks 0 s (xI S.1) (xI (i : Nat))) _
    unfold fB_L_build_136
    refine w_n (by simp (disch := omega) only [vin, mk_I, ml_I, mr_I, mk_R, ml_R, mi_R, mkN_eq, mlN_eq, miN_eq, mkN_ne, mlN_ne, miN_ne, mrN_ne, mi_eq, mi_na, mi_nj, mr_eq, mr_na, mr_nj, xL0, xL1, xL2, xL3, xL4, xL5, xL6, xL7, xL8, xL9, xL10, xL12, xL16, xL20, xL24, xL31, xL50, xL60, xL89, xL99, xL100, xL200, xI_add, xI_sub, xI_mul, xI_neg, xI_nat, xI_cl, Int.toNat_natCast, Int.reduceToNat, xltT, xltF, xleT, xleF, xeqT, xeqF, nleT, nleF, nltT, nltF, neqT, neqF, ileT, ileF, iltT, iltF, ieqT, ieqF, or_false, or_true, false_or, true_or, and_true, true_and, and_false, false_and, not_false_eq_true, not_true_eq_false, ↓reduceIte, if_true, if_false]) ?_
    by_cases e1 : S.1 ≤ 1
    · refine w_i (by simp (disch := omega) only [vin, mk_I, ml_I, mr_I, mk_R, ml_R, mi_R, mkN_eq, mlN_eq, miN_eq, mkN_ne, mlN_ne, miN_ne, mrN_ne, mi_eq, mi_na, mi_nj, mr_eq, mr_na, mr_nj, xL0, xL1, xL2, xL3, xL4, xL5, xL6, xL7, xL8, xL9, xL10, xL12, xL16, xL20, xL24, xL31, xL50, xL60, xL89, xL99, xL100, xL200, xI_add, xI_sub, xI_mul, xI_neg, xI_nat, xI_cl, Int.toNat_natCast, Int.reduceToNat, xltT, xltF, xleT, xleF, xeqT, xeqF, nleT, nleF, nltT, nltF, neqT, neqF, ileT, ileF, iltT, iltF, ieqT, ieqF, or_false, or_true, false_or, true_or, and_true, true_and, and_false, false_and, not_false_eq_true, not_true_eq_false, ↓reduceIte, if_true, if_false]) ?_
      exact w_s ⟨rfl, S, h, h1, hg, hk0⟩
    · refine w_n (by simp (disch := omega) only [vin, mk_I, ml_I, mr_I, mk_R, ml_R, mi_R, mkN_eq, mlN_eq, miN_eq, mkN_ne, mlN_ne, miN_ne, mrN_ne, mi_eq, mi_na, mi_nj, mr_eq, mr_na, mr_nj, xL0, xL1, xL2, xL3, xL4, xL5, xL6, xL7, xL8, xL9, xL10, xL12, xL16, xL20, xL24, xL31, xL50, xL60, xL89, xL99, xL100, xL200, xI_add, xI_sub, xI_mul, xI_neg, xI_nat, xI_cl, Int.toNat_natCast, Int.reduceToNat, xltT, xltF, xleT, xleF, xeqT, xeqF, nleT, nleF, nltT, nltF, neqT, neqF, ileT, ileF, iltT, iltF, ieqT, ieqF, or_false, or_true, false_or, true_or, and_true, true_and, and_false, false_and, not_false_eq_true, not_true_eq_false, ↓reduceIte, if_true, if_false]) ?_
      refine w_i (by decide) ?_
      rw [mod6 i (by omega)]
      refine w_b (S_cell (by omega) (by omega)) ?_
      refine w_i (by decide) ?_
      generalize (lc L xs ((5 + i % 6 : Nat) : Int) >>> ((xI (i : Nat) / 6) * 3 &&& 31)) + 31 * xI (i : Nat) = x
      have r1 := (lb_eq x (n := (S.1 : Nat)) (by omega)).2
      have r2 := (lb_eq (x >>> (2 &&& 31)) (n := (S.1 : Nat)) (by omega)).2
      have r3 := (lb_eq (x >>> (4 &&& 31)) (n := 5) (by omega)).2
      refine w_b (S_below (n := (S.1 : Nat)) (by omega)) ?_
      refine w_b (S_below (n := (S.1 : Nat)) (by omega)) ?_
      refine w_b (S_below (n := 5) (by omega)) ?_
      rw [show (1 : Int32) + xI ((lb (x >>> (4 &&& 31)) 5 : Nat) : Int) = xI ((lb (x >>> (4 &&& 31)) 5 : Nat) + 1) by rw [xL1, xI_add, Int.add_comm]]
      refine w_c (S_link h (k := lb x (S.1 : Nat)) (o := lb (x >>> (2 &&& 31)) (S.1 : Nat)) (by omega) (by omega) (by omega)) ?_
      rintro ⟨zc, N1, m1⟩ ⟨j1, S', j2, j3, j4, j5, j6⟩
      have j1 : zc = xI 1 := j1
      subst j1
      refine w_i (by omega) ?_
      refine w_i (by omega) ?_
      refine w_n (show ¬ (xI 1 : Int32) = 0 by decide) ?_
      have h9 := ih (i + 1) (by omega) N1 m1 S' (kc + 2) (ks + 69) j2 (by rw [j3]; exact h1) (by rw [j4]; exact hg) (fun k => by rw [j6]; exact hk0 k) (by omega) (by omega) g (by omega)
      rw [j3] at h9
      rw [show xI (i : Nat) + 1 = xI ((i + 1 : Nat) : Int) by rw [xL1, xI_add]; rfl]
      exact h9
theorem L_builds (hL : L ≤ 260) {D : Nat} (hD : 1 ≤ D ∧ D ≤ 10) : ∀ r i, i + r = D → ∀ (N : Nat) (m : vM) (S : aS) (kc ks : Nat), BT N m s S → S.1 = i → Zr 1 m.2.2.1 i → S.2.1 = (fun _ => 0) → K0 S → kc + 4 * r ≤ 43 → ks + 20 * r ≤ 204 → ∀ f, r + 40 < f → wq (fL_L_build L xs f 24 N m kc ks 0 s (xI D) (xI (i : Nat))) (fun z => z.1 = some s ∧ ∃ S', BT z.2.1 z.2.2 s S' ∧ 1 ≤ S'.1 ∧ S'.2.1 = (fun _ => 0) ∧ K0 S') := by
  intro r
  induction r with
  | zero =>
    intro i hi N m S kc ks h h1 hz hg hk0 hc1 hc2 f hf
    obtain ⟨g, rfl⟩ : ∃ g, f = g + 1 := ⟨f - 1, by omega⟩
    show wq (fB_L_build_24 L xs (fL_L_build L xs g) N m kc ks 0 s (xI D) (xI (i : Nat))) _
    unfold fB_L_build_24
    refine w_i (by simp (disch := omega) only [vin, mk_I, ml_I, mr_I, mk_R, ml_R, mi_R, mkN_eq, mlN_eq, miN_eq, mkN_ne, mlN_ne, miN_ne, mrN_ne, mi_eq, mi_na, mi_nj, mr_eq, mr_na, mr_nj, xL0, xL1, xL2, xL3, xL4, xL5, xL6, xL7, xL8, xL9, xL10, xL12, xL16, xL20, xL24, xL31, xL50, xL60, xL89, xL99, xL100, xL200, xI_add, xI_sub, xI_mul, xI_neg, xI_nat, xI_cl, Int.toNat_natCast, Int.reduceToNat, xltT, xltF, xleT, xleF, xeqT, xeqF, nleT, nleF, nltT, nltF, neqT, neqF, ileT, ileF, iltT, iltF, ieqT, ieqF, or_false, or_true, false_or, true_or, and_true, true_and, and_false, false_and, not_false_eq_true, not_true_eq_false, ↓reduceIte, if_true, if_false]) ?_
    have e : D = S.1 := by omega
    rw [e]
    exact L_links hL 24 0 (by omega) N m S kc ks h (by omega) hg hk0 (by omega) (by omega) g (by omega)
  | succ r ih =>
    intro i hi N m S kc ks h h1 hz hg hk0 hc1 hc2 f hf
    obtain ⟨g, rfl⟩ : ∃ g, f = g + 1 := ⟨f - 1, by omega⟩
    have hC := h.1
    have hbb : ∀ (a b c : Nat), a < 100 → b < 20 → c < 4 → wq (Option.bind (f_X3_build m 0 (xI (a : Nat)) (1 + xI (b : Nat)) (xI (c : Nat))) fun q28 =>
      if q28.1 = xI (i : Nat) then (
        if mk q28.2 s = 5 then
        Option.bind (f_X5_build N q28.2 s (xI (a : Nat)) (1 + xI (b : Nat)) (xI (c : Nat))) fun q34 =>
        if (kc + 4) ≤ 91 then
        if (ks + 20) ≤ 1860 then
        fL_L_build L xs g 24 q34.1 q34.2 ((kc + 4)) ((ks + 20)) 0 s (xI D) (xI (i : Nat) + 1)
        else none
        else none
        else none
      ) else (
        some (none, N, q28.2)
      )) (fun z => z.1 = some s ∧ ∃ S', BT z.2.1 z.2.2 s S' ∧ 1 ≤ S'.1 ∧ S'.2.1 = (fun _ => 0) ∧ K0 S') := by
      intro a b c ha hb hc
      rw [show (1 : Int32) + xI (b : Nat) = xI ((b : Nat) + 1) by rw [xL1, xI_add, Int.add_comm]]
      refine w_c (S_bbuild (a := (a : Nat)) (b := (b : Nat) + 1) (c := (c : Nat)) h (by rw [h1]; exact hz) (by omega) hg (by omega) (by omega) (by omega)) ?_
      rintro ⟨zc, m1⟩ ⟨j1, j2, j3⟩
      have j1 : zc = xI S.1 := j1
      subst j1
      refine w_i (by rw [h1]) ?_
      refine w_i j2 ?_
      refine w_c j3 ?_
      rintro ⟨N2, m2⟩ ⟨k1, k2, k3⟩
      refine w_i (by omega) ?_
      refine w_i (by omega) ?_
      rw [show xI (i : Nat) + 1 = xI ((i + 1 : Nat) : Int) by rw [xL1, xI_add]; rfl]
      exact ih (i + 1) (by omega) N2 m2 _ (kc + 4) (ks + 20) k1 (by show S.1 + 1 = i + 1; omega) (by rw [h1] at k2; exact k2) hg (K0_build hk0) (by omega) (by omega) g (by omega)
    show wq (fB_L_build_24 L xs (fL_L_build L xs g) N m kc ks 0 s (xI D) (xI (i : Nat))) _
    unfold fB_L_build_24
    refine w_n (by simp (disch := omega) only [vin, mk_I, ml_I, mr_I, mk_R, ml_R, mi_R, mkN_eq, mlN_eq, miN_eq, mkN_ne, mlN_ne, miN_ne, mrN_ne, mi_eq, mi_na, mi_nj, mr_eq, mr_na, mr_nj, xL0, xL1, xL2, xL3, xL4, xL5, xL6, xL7, xL8, xL9, xL10, xL12, xL16, xL20, xL24, xL31, xL50, xL60, xL89, xL99, xL100, xL200, xI_add, xI_sub, xI_mul, xI_neg, xI_nat, xI_cl, Int.toNat_natCast, Int.reduceToNat, xltT, xltF, xleT, xleF, xeqT, xeqF, nleT, nleF, nltT, nltF, neqT, neqF, ileT, ileF, iltT, iltF, ieqT, ieqF, or_false, or_true, false_or, true_or, and_true, true_and, and_false, false_and, not_false_eq_true, not_true_eq_false, ↓reduceIte, if_true, if_false]) ?_
    refine w_b (S_cell (i := 1) (by omega) (by omega)) ?_
    generalize lc L xs 1 >>> (xI (i : Nat) &&& 31) = x1
    have r1 := (lb_eq x1 (n := 100) (by omega)).2
    refine w_b (S_below (n := 100) (by omega)) ?_
    generalize lb x1 100 = a at r1 ⊢
    refine w_b (S_cell (i := 2) (by omega) (by omega)) ?_
    refine w_b (S_cell (i := 3) (by omega) (by omega)) ?_
    generalize lc L xs 3 >>> (xI (i : Nat) &&& 31) = x3
    have r3 := (lb_eq x3 (n := 2) (by omega)).2
    refine w_b (S_below (n := 2) (by omega)) ?_
    generalize lb x3 2 = d at r3 ⊢
    generalize lc L xs 2 >>> ((2 * xI (i : Nat)) &&& 31) = x2
    by_cases e : d = 0
    · refine w_i (by rw [e]; rfl) ?_
      have r2 := (lb_eq x2 (n := 20) (by omega)).2
      refine w_b (S_below (n := 20) (by omega)) ?_
      generalize lb x2 20 = p at r2 ⊢
      refine w_b (S_cell (i := 4) (by omega) (by omega)) ?_
      generalize lc L xs 4 >>> ((2 * xI (i : Nat)) &&& 31) = x4
      have r4 := (lb_eq x4 (n := 4) (by omega)).2
      refine w_b (S_below (n := 4) (by omega)) ?_
      generalize lb x4 4 = c at r4 ⊢
      refine w_i hC.1.1 ?_
      exact hbb a p c (by omega) (by omega) (by omega)
    · refine w_n (by rw [xL0, xeqF (by omega)]; exact fun h => h) ?_
      have r2 := (lb_eq x2 (n := 6) (by omega)).2
      refine w_b (S_below (n := 6) (by omega)) ?_
      generalize lb x2 6 = p at r2 ⊢
      refine w_b (S_cell (i := 4) (by omega) (by omega)) ?_
      generalize lc L xs 4 >>> ((2 * xI (i : Nat)) &&& 31) = x4
      have r4 := (lb_eq x4 (n := 4) (by omega)).2
      refine w_b (S_below (n := 4) (by omega)) ?_
      generalize lb x4 4 = c at r4 ⊢
      refine w_i hC.1.1 ?_
      exact hbb a p c (by omega) (by omega) (by omega)
theorem S_Lbuild (hL : L ≤ 260) (hV : VV m) (h1 : ∀ j, mi m 1 j = 0) (h3 : ∀ j, mi m 3 j = 0) (hd : ∀ k, k < 10 → ∀ j, mi m (1 + 14 + 6 * k) j = 0) : wq (f_L_build L xs 149 m 0) (fun z => z.1 = some 149 ∧ ∃ S', BT z.2.1 z.2.2 149 S' ∧ 1 ≤ S'.1 ∧ S'.2.1 = (fun _ => 0) ∧ K0 S') := by
  unfold f_L_build
  generalize hm1 : mR (mN (mR (mN (mN m 149 5 0) (149 + 1) 9 0) 149 0 (some (149 + 1))) (149 + 1 + 1) 8 0) 149 1 (some (149 + 1 + 1)) = m1
  have hini : f_X5_init (149 + 1) (mN m 149 5 0) 149 = some (152, m1) := by
    unfold f_X5_init
    rw [if_pos (by simp (disch := omega) only [vin, mk_I, ml_I, mr_I, mk_R, ml_R, mi_R, mkN_eq, mlN_eq, miN_eq, mkN_ne, mlN_ne, miN_ne, mrN_ne, mi_eq, mi_na, mi_nj, mr_eq, mr_na, mr_nj, xL0, xL1, xL2, xL3, xL4, xL5, xL6, xL7, xL8, xL9, xL10, xL12, xL16, xL20, xL24, xL31, xL50, xL60, xL89, xL99, xL100, xL200, xI_add, xI_sub, xI_mul, xI_neg, xI_nat, xI_cl, Int.toNat_natCast, Int.reduceToNat, xltT, xltF, xleT, xleF, xeqT, xeqF, nleT, nleF, nltT, nltF, neqT, neqF, ileT, ileF, iltT, iltF, ieqT, ieqF, or_false, or_true, false_or, true_or, and_true, true_and, and_false, false_and, not_false_eq_true, not_true_eq_false, ↓reduceIte, if_true, if_false]), hm1]
  refine w_b hini ?_
  refine w_b (S_cell (i := 0) (by omega) (by omega)) ?_
  have r1 := (lb_eq (lc L xs 0) (n := 10) (by omega)).2
  refine w_b (S_below (n := 10) (by omega)) ?_
  generalize lb (lc L xs 0) 10 = d at r1 ⊢
  have f1 : fM 149 (fun _ => False) m m1 := by
    rw [← hm1]
    exact fM_trans (fM_trans (fM_trans (fM_trans (fM_N (Nat.le_refl _)) (fM_N (by omega)) (Nat.le_refl _) (fun _ _ h => h)) (fM_R0 (Nat.le_refl _)) (Nat.le_refl _) (fun _ _ h => h)) (fM_N (by omega)) (Nat.le_refl _) (fun _ _ h => h)) (fM_R0 (Nat.le_refl _)) (Nat.le_refl _) (fun _ _ h => h)
  have hRS : ∀ Z : zS, Z.1 = 0 → Z.2.1 = (fun _ => 0) → Z.2.2.2.2.2 = [] → RS 1 m.2.2.1 (uz Z) := by
    intro Z e1 e2 e3
    refine ⟨?_, ?_, fun k hk => ?_, ⟨?_, fun i v hv => ?_⟩, ?_⟩
    · show mi m 1 0 = xI (Z.2.1 0); rw [h1, e2]; rfl
    · show mi m 1 1 = xI (Z.1 : Nat); rw [h1, e1]; rfl
    · have hk : k < Z.1 := hk
      omega
    · show mi m 3 0 = xI ((Z.2.2.2.2.2.map Prod.snd).length : Nat); rw [h3, e3]; rfl
    · have hv : (Z.2.2.2.2.2.map Prod.snd)[i]? = some v := hv
      rw [e3] at hv; simp at hv
    · show mi m 3 1 = xI (Z.2.1 1); rw [h3, e2]; rfl
  have hBT : BT 152 m1 149 (uz (0, (fun _ => 0), 150, 151, (fun _ => (0, 0, 0, (fun _ => 0), [], [])), [])) := by
    refine ⟨CV_fr ⟨hV, hRS _ rfl rfl rfl⟩ (Nat.zero_le _) f1 (Nat.le_refl _) (fun _ _ h => h.elim), by omega, ⟨_, ?_, rfl⟩, fun _ => [], fun _ => 0, ?_⟩
    · refine ⟨⟨⟨Nat.le_refl _, by omega, ?_, ?_, ?_, ?_, ?_⟩, ⟨by show 149 ≤ 150; omega, by show 150 < 152; omega, ?_, ?_, fun k hk => (by have hk : k < 0 := hk; omega)⟩⟩, fun k hk => (by have hk : k < 0 := hk; omega), ⟨⟨⟨by show 149 ≤ 151; omega, by show 151 < 152; omega⟩, ?_, ?_, fun i z hz => (by simp at hz)⟩, fun z hz => (by cases hz)⟩, fun j k hj => by have hj : j < 0 := hj; omega, fun k hk => by have hk : k < 0 := hk; omega, fun j k hj => by have hj : j < 0 := hj; omega, List.Pairwise.nil⟩
      · rw [← hm1]; simp (disch := omega) only [vin, mk_I, ml_I, mr_I, mk_R, ml_R, mi_R, mkN_eq, mlN_eq, miN_eq, mkN_ne, mlN_ne, miN_ne, mrN_ne, mi_eq, mi_na, mi_nj, mr_eq, mr_na, mr_nj, xL0, xL1, xL2, xL3, xL4, xL5, xL6, xL7, xL8, xL9, xL10, xL12, xL16, xL20, xL24, xL31, xL50, xL60, xL89, xL99, xL100, xL200, xI_add, xI_sub, xI_mul, xI_neg, xI_nat, xI_cl, Int.toNat_natCast, Int.reduceToNat, xltT, xltF, xleT, xleF, xeqT, xeqF, nleT, nleF, nltT, nltF, neqT, neqF, ileT, ileF, iltT, iltF, ieqT, ieqF, or_false, or_true, false_or, true_or, and_true, true_and, and_false, false_and, not_false_eq_true, not_true_eq_false, ↓reduceIte, if_true, if_false]
      · rw [← hm1]; simp (disch := omega) only [vin, mk_I, ml_I, mr_I, mk_R, ml_R, mi_R, mkN_eq, mlN_eq, miN_eq, mkN_ne, mlN_ne, miN_ne, mrN_ne, mi_eq, mi_na, mi_nj, mr_eq, mr_na, mr_nj, xL0, xL1, xL2, xL3, xL4, xL5, xL6, xL7, xL8, xL9, xL10, xL12, xL16, xL20, xL24, xL31, xL50, xL60, xL89, xL99, xL100, xL200, xI_add, xI_sub, xI_mul, xI_neg, xI_nat, xI_cl, Int.toNat_natCast, Int.reduceToNat, xltT, xltF, xleT, xleF, xeqT, xeqF, nleT, nleF, nltT, nltF, neqT, neqF, ileT, ileF, iltT, iltF, ieqT, ieqF, or_false, or_true, false_or, true_or, and_true, true_and, and_false, false_and, not_false_eq_true, not_true_eq_false, ↓reduceIte, if_true, if_false]
      · rw [← hm1]; simp (disch := omega) only [vin, mk_I, ml_I, mr_I, mk_R, ml_R, mi_R, mkN_eq, mlN_eq, miN_eq, mkN_ne, mlN_ne, miN_ne, mrN_ne, mi_eq, mi_na, mi_nj, mr_eq, mr_na, mr_nj, xL0, xL1, xL2, xL3, xL4, xL5, xL6, xL7, xL8, xL9, xL10, xL12, xL16, xL20, xL24, xL31, xL50, xL60, xL89, xL99, xL100, xL200, xI_add, xI_sub, xI_mul, xI_neg, xI_nat, xI_cl, Int.toNat_natCast, Int.reduceToNat, xltT, xltF, xleT, xleF, xeqT, xeqF, nleT, nleF, nltT, nltF, neqT, neqF, ileT, ileF, iltT, iltF, ieqT, ieqF, or_false, or_true, false_or, true_or, and_true, true_and, and_false, false_and, not_false_eq_true, not_true_eq_false, ↓reduceIte, if_true, if_false]
      · rw [← hm1]; simp (disch := omega) only [mi_R, miN_ne, miN_eq]; rfl
      · rw [← hm1]; simp (disch := omega) only [mi_R, miN_ne, miN_eq]; rfl
      · show mk m1 150 = 9; rw [← hm1]; simp (disch := omega) only [vin, mk_I, ml_I, mr_I, mk_R, ml_R, mi_R, mkN_eq, mlN_eq, miN_eq, mkN_ne, mlN_ne, miN_ne, mrN_ne, mi_eq, mi_na, mi_nj, mr_eq, mr_na, mr_nj, xL0, xL1, xL2, xL3, xL4, xL5, xL6, xL7, xL8, xL9, xL10, xL12, xL16, xL20, xL24, xL31, xL50, xL60, xL89, xL99, xL100, xL200, xI_add, xI_sub, xI_mul, xI_neg, xI_nat, xI_cl, Int.toNat_natCast, Int.reduceToNat, xltT, xltF, xleT, xleF, xeqT, xeqF, nleT, nleF, nltT, nltF, neqT, neqF, ileT, ileF, iltT, iltF, ieqT, ieqF, or_false, or_true, false_or, true_or, and_true, true_and, and_false, false_and, not_false_eq_true, not_true_eq_false, ↓reduceIte, if_true, if_false]
      · show ml m1 150 = 0; rw [← hm1]; simp (disch := omega) only [vin, mk_I, ml_I, mr_I, mk_R, ml_R, mi_R, mkN_eq, mlN_eq, miN_eq, mkN_ne, mlN_ne, miN_ne, mrN_ne, mi_eq, mi_na, mi_nj, mr_eq, mr_na, mr_nj, xL0, xL1, xL2, xL3, xL4, xL5, xL6, xL7, xL8, xL9, xL10, xL12, xL16, xL20, xL24, xL31, xL50, xL60, xL89, xL99, xL100, xL200, xI_add, xI_sub, xI_mul, xI_neg, xI_nat, xI_cl, Int.toNat_natCast, Int.reduceToNat, xltT, xltF, xleT, xleF, xeqT, xeqF, nleT, nleF, nltT, nltF, neqT, neqF, ileT, ileF, iltT, iltF, ieqT, ieqF, or_false, or_true, false_or, true_or, and_true, true_and, and_false, false_and, not_false_eq_true, not_true_eq_false, ↓reduceIte, if_true, if_false]
      · show mk m1 151 = 8; rw [← hm1]; simp (disch := omega) only [vin, mk_I, ml_I, mr_I, mk_R, ml_R, mi_R, mkN_eq, mlN_eq, miN_eq, mkN_ne, mlN_ne, miN_ne, mrN_ne, mi_eq, mi_na, mi_nj, mr_eq, mr_na, mr_nj, xL0, xL1, xL2, xL3, xL4, xL5, xL6, xL7, xL8, xL9, xL10, xL12, xL16, xL20, xL24, xL31, xL50, xL60, xL89, xL99, xL100, xL200, xI_add, xI_sub, xI_mul, xI_neg, xI_nat, xI_cl, Int.toNat_natCast, Int.reduceToNat, xltT, xltF, xleT, xleF, xeqT, xeqF, nleT, nleF, nltT, nltF, neqT, neqF, ileT, ileF, iltT, iltF, ieqT, ieqF, or_false, or_true, false_or, true_or, and_true, true_and, and_false, false_and, not_false_eq_true, not_true_eq_false, ↓reduceIte, if_true, if_false]
      · show ml m1 151 = 0; rw [← hm1]; simp (disch := omega) only [vin, mk_I, ml_I, mr_I, mk_R, ml_R, mi_R, mkN_eq, mlN_eq, miN_eq, mkN_ne, mlN_ne, miN_ne, mrN_ne, mi_eq, mi_na, mi_nj, mr_eq, mr_na, mr_nj, xL0, xL1, xL2, xL3, xL4, xL5, xL6, xL7, xL8, xL9, xL10, xL12, xL16, xL20, xL24, xL31, xL50, xL60, xL89, xL99, xL100, xL200, xI_add, xI_sub, xI_mul, xI_neg, xI_nat, xI_cl, Int.toNat_natCast, Int.reduceToNat, xltT, xltF, xleT, xleF, xeqT, xeqF, nleT, nleF, nltT, nltF, neqT, neqF, ileT, ileF, iltT, iltF, ieqT, ieqF, or_false, or_true, false_or, true_or, and_true, true_and, and_false, false_and, not_false_eq_true, not_true_eq_false, ↓reduceIte, if_true, if_false]
    · refine ⟨⟨Nat.zero_le _, fun k hk => by have hk : k < 0 := hk; omega, fun _ _ => show (20 : Int) ≤ 21 by decide⟩, fun k hk => by have hk : k < 0 := hk; omega, Nat.zero_le _, fun v hv => (by cases hv), fun v hv => (by cases hv), fun v hv => (by cases hv), List.Pairwise.nil, fun v hv => (by cases hv)⟩
  have hZr : Zr 1 m1.2.2.1 0 := by
    intro k _ hk
    have e : ∀ j, m1.2.2.1 (1 + 14 + 6 * k) j = xI 0 := fun j => by
      have := congrFun ((f1 (1 + 14 + 6 * k) (by omega)).2 (fun h => h)).1 j
      rw [this]; exact hd k hk j
    exact ⟨e 3, e 4, e 5, e 6, e 7, e 11⟩
  have h9 := L_builds (L := L) (xs := xs) (s := 149) hL (D := d + 1) (by omega) (d + 1) 0 (by omega) 152 m1 _ (0 + 1 + 2) (0 + 4 + 0) hBT rfl hZr rfl (fun _ => ⟨rfl, rfl⟩) (by omega) (by omega) vF (by unfold vF; omega)
  refine w_r ?_ h9
  rw [show (1 : Int32) + xI ((d : Nat) : Int) = xI ((d + 1 : Nat) : Int) by rw [xL1, xI_add, Int.add_comm]; rfl]
  rfl
end
