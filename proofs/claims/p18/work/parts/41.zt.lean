section
variable {m m' : vM} {N N' s k y : Nat} {X : Nat → Prop} {D : zD} {Z : zS} {v : aR} {E : Nat → List (Int × Int)} {Lw : Nat → Int} {pend : List aR} {c : Nat → Int} {Q : Int32 × Nat × vM → Prop}
theorem tells_set {d : aD} {w : Int} : ∀ (L : List aR) (T : aS), a_set (a_tells T k w L) k d = a_tells (a_set T k d) k w L := by
  intro L
  induction L with
  | nil => intro T; rfl
  | cons q L ih =>
    intro T
    show a_set (a_tells (a_send T k (q 0) w (q 1)) k w L) k d = a_tells (a_send (a_set T k d) k (q 0) w (q 1)) k w L
    rw [ih, send_set]
theorem L_z380 {n q A : Nat} {K : Nat} {f : aR} {az : List (Nat × aR)} {i3 cnt : Int} {r2 r3 g : Nat} {i6 : Int32} (hk : k < n) (hn : n ≤ 10) (hi3 : i3 = 0 ∨ i3 = 1) : ∀ (l2 l1 : List (Nat × aR)) (N : Nat) (m : vM) (Z : zS) (kc ks : Nat), ZR N m s Z → Z.1 = n → 149 ≤ N → Z.2.2.2.2.1 k = (q, A, K, f, az, l1 ++ l2) → Z.2.2.2.2.2.length ≤ 60 → l1.length + l2.length ≤ 60 → kc + 2 * l2.length + 1 ≤ 2000 → ks + 71 * l2.length ≤ 70000 →
    (∀ N' m' Z' kc' ks', ZR N' m' s Z' → zk Z Z' → uz Z' = a_set (a_tells (uz Z) k (i3 + 1) (l2.map Prod.snd)) k (f, az.map Prod.snd, []) → N ≤ N' → fM N (tX m) m m' → kc' ≤ kc + 2 * l2.length + 1 → ks' ≤ ks + 71 * l2.length → wq (fL_X5_pass g 189 N' m' kc' ks' s (xI (cnt + i3)) r2 0 r3 (xI ((k + 1 : Nat) : Int)) 0 0 0 i6 0 0 0 0) Q) →
    wq (fL_X5_pass (l2.length + 1 + g) 380 N m kc ks s (xI cnt) r2 0 r3 (xI (k : Nat)) 0 0 q i6 (xI i3) K (xI ((l1.length + l2.length : Nat) : Int)) (xI (l1.length : Nat))) Q := by
  intro l2
  induction l2 with
  | nil =>
    intro l1 N m Z kc ks h hn1 hN hD hv hl hc1 hc2 hQ
    have hdk := h.2.1 k (by omega)
    have hsp := h.2.2.2.2.1 k (by omega)
    rw [hD] at hdk hsp
    obtain ⟨q1, q2, q3, q4, q5⟩ := hdk.1
    have q2 : q < N := q2
    have q3 : mk m q = 4 := q3
    have hqN : q ≠ N := by omega
    rw [show ([] : List (Nat × aR)).length + 1 + g = g + 1 by simp; omega]
    show wq (fB_X5_pass_380 (fL_X5_pass g) N m kc ks s (xI cnt) r2 0 r3 (xI (k : Nat)) 0 0 q i6 (xI i3) K _ _) Q
    unfold fB_X5_pass_380
    refine w_i (by simp (disch := omega) only [vin, mk_I, ml_I, mr_I, mk_R, ml_R, mi_R, mkN_eq, mlN_eq, miN_eq, mkN_ne, mlN_ne, miN_ne, mrN_ne, mi_eq, mi_na, mi_nj, mr_eq, mr_na, mr_nj, xL0, xL1, xL2, xL3, xL4, xL5, xL6, xL7, xL8, xL9, xL10, xL12, xL16, xL20, xL24, xL31, xL50, xL60, xL89, xL99, xL100, xL200, xI_add, xI_sub, xI_mul, xI_neg, xI_nat, xI_cl, Int.toNat_natCast, Int.reduceToNat, xltT, xltF, xleT, xleF, xeqT, xeqF, nleT, nleF, nltT, nltF, neqT, neqF, ileT, ileF, iltT, iltF, ieqT, ieqF, or_false, or_true, false_or, true_or, and_true, true_and, and_false, false_and, not_false_eq_true, not_true_eq_false, ↓reduceIte, if_true, if_false, List.length_nil, Nat.add_zero]) ?_
    rw [List.length_nil] at hc1 hc2
    refine w_i (by omega) ?_
    refine w_i (by omega) ?_
    refine w_i (by simp (disch := omega) only [vin, mk_I, ml_I, mr_I, mk_R, ml_R, mi_R, mkN_eq, mlN_eq, miN_eq, mkN_ne, mlN_ne, miN_ne, mrN_ne, mi_eq, mi_na, mi_nj, mr_eq, mr_na, mr_nj, xL0, xL1, xL2, xL3, xL4, xL5, xL6, xL7, xL8, xL9, xL10, xL12, xL16, xL20, xL24, xL31, xL50, xL60, xL89, xL99, xL100, xL200, xI_add, xI_sub, xI_mul, xI_neg, xI_nat, xI_cl, Int.toNat_natCast, Int.reduceToNat, xltT, xltF, xleT, xleF, xeqT, xeqF, nleT, nleF, nltT, nltF, neqT, neqF, ileT, ileF, iltT, iltF, ieqT, ieqF, or_false, or_true, false_or, true_or, and_true, true_and, and_false, false_and, not_false_eq_true, not_true_eq_false, ↓reduceIte, if_true, if_false, q3]) ?_
    have f1 : fM N (fun x => x = q) m (mR (mN m N 8 0) q 6 (some N)) := fM_trans (fM_N (X := fun x => x = q) (Nat.le_refl _)) (fM_R (X := fun x => x = q) rfl) (Nat.le_refl _) (fun _ _ h => h)
    have hD1 : dR (N + 1) (mR (mN m N 8 0) q 6 (some N)) (q, A, N, f, az, []) := by
      refine dR_keep hdk f1 (Nat.le_succ N) (fun j => ?_) ?_ mr_eq ⟨⟨hN, Nat.lt_succ_self N⟩, ?_, ?_, fun i z hz => by simp at hz⟩ (fun z hz => by cases hz)
      · show mi _ q j = mi m q j; rw [mi_R, miN_ne hqN]
      · show mr _ q 5 = mr m q 5; rw [mr_nj (by omega), mrN_ne hqN]
      · show mk (mN m N 8 0) N = 8; exact mkN_eq
      · show ml (mN m N 8 0) N = 0; exact mlN_eq
    have hZ1 : ZR (N + 1) (mR (mN m N 8 0) q 6 (some N)) s (zset Z k (q, A, N, f, az, [])) := ZR_set h (by omega) f1 (Nat.le_succ N) hD1 (by rw [hD]) hsp (fun w hw => .inl ⟨w, by rw [hD]; exact hw, rfl⟩) (fun x _ hx => .inl (by rw [hD]; exact hx))
    have hq := hQ (N + 1) _ _ (kc + 1) (ks + 0) hZ1 (zk_set (by rw [hD])) uz_set (Nat.le_succ N) (fM_w f1 (fun x _ hx => by rw [hx]; exact ⟨q1, .inl q3⟩)) (by simp) (by simp)
    have e1 : xI (k : Nat) + 1 = xI ((k + 1 : Nat) : Int) := by rw [xL1, xI_add]; rfl
    rcases hi3 with e | e
    · subst e
      refine w_i (by decide) ?_
      rw [e1, show xI cnt + 0 = xI (cnt + 0) by rw [xL0, xI_add]]
      exact hq
    · subst e
      refine w_n (by decide) ?_
      rw [e1, show xI cnt + 1 = xI (cnt + 1) by rw [xL1, xI_add]]
      exact hq
  | cons z l2 ih =>
    intro l1 N m Z kc ks h hn1 hN hD hv hl hc1 hc2 hQ
    rw [List.length_cons] at hl hc1 hc2 hQ
    have hdk := h.2.1 k (by omega)
    rw [hD] at hdk
    obtain ⟨cN, c8, cl, cr⟩ := hdk.2.2.2.1
    have hro := hdk.2.2.2.2 z (by simp)
    obtain ⟨⟨z1, z2⟩, z3, z4, z5⟩ := hro
    have hs5 := h.1.1.2.2.1
    have hrz : mr m K (xI (l1.length : Nat)).toNatClampNeg = some z.1 := by
      rw [← cr l1.length z (by show (l1 ++ z :: l2)[l1.length]? = some z; rw [List.getElem?_append_right (Nat.le_refl _), Nat.sub_self]; rfl)]
      simp (disch := omega) only [vin, mk_I, ml_I, mr_I, mk_R, ml_R, mi_R, mkN_eq, mlN_eq, miN_eq, mkN_ne, mlN_ne, miN_ne, mrN_ne, mi_eq, mi_na, mi_nj, mr_eq, mr_na, mr_nj, xL0, xL1, xL2, xL3, xL4, xL5, xL6, xL7, xL8, xL9, xL10, xL12, xL16, xL20, xL24, xL31, xL50, xL60, xL89, xL99, xL100, xL200, xI_add, xI_sub, xI_mul, xI_neg, xI_nat, xI_cl, Int.toNat_natCast, Int.reduceToNat, xltT, xltF, xleT, xleF, xeqT, xeqF, nleT, nleF, nltT, nltF, neqT, neqF, ileT, ileF, iltT, iltF, ieqT, ieqF, or_false, or_true, false_or, true_or, and_true, true_and, and_false, false_and, not_false_eq_true, not_true_eq_false, ↓reduceIte, if_true, if_false]
    have hl8 : ml m K = l1.length + (l2.length + 1) := by rw [cl]; show (l1 ++ z :: l2).length = _; rw [List.length_append, List.length_cons]
    rw [List.length_cons, show l2.length + 1 + 1 + g = (l2.length + 1 + g) + 1 by omega]
    show wq (fB_X5_pass_380 (fL_X5_pass (l2.length + 1 + g)) N m kc ks s (xI cnt) r2 0 r3 (xI (k : Nat)) 0 0 q i6 (xI i3) K _ _) Q
    unfold fB_X5_pass_380
    refine w_n (by simp (disch := omega) only [vin, mk_I, ml_I, mr_I, mk_R, ml_R, mi_R, mkN_eq, mlN_eq, miN_eq, mkN_ne, mlN_ne, miN_ne, mrN_ne, mi_eq, mi_na, mi_nj, mr_eq, mr_na, mr_nj, xL0, xL1, xL2, xL3, xL4, xL5, xL6, xL7, xL8, xL9, xL10, xL12, xL16, xL20, xL24, xL31, xL50, xL60, xL89, xL99, xL100, xL200, xI_add, xI_sub, xI_mul, xI_neg, xI_nat, xI_cl, Int.toNat_natCast, Int.reduceToNat, xltT, xltF, xleT, xleF, xeqT, xeqF, nleT, nleF, nltT, nltF, neqT, neqF, ileT, ileF, iltT, iltF, ieqT, ieqF, or_false, or_true, false_or, true_or, and_true, true_and, and_false, false_and, not_false_eq_true, not_true_eq_false, ↓reduceIte, if_true, if_false]) ?_
    refine w_i c8 ?_
    refine w_i (by simp (disch := omega) only [vin, mk_I, ml_I, mr_I, mk_R, ml_R, mi_R, mkN_eq, mlN_eq, miN_eq, mkN_ne, mlN_ne, miN_ne, mrN_ne, mi_eq, mi_na, mi_nj, mr_eq, mr_na, mr_nj, xL0, xL1, xL2, xL3, xL4, xL5, xL6, xL7, xL8, xL9, xL10, xL12, xL16, xL20, xL24, xL31, xL50, xL60, xL89, xL99, xL100, xL200, xI_add, xI_sub, xI_mul, xI_neg, xI_nat, xI_cl, Int.toNat_natCast, Int.reduceToNat, xltT, xltF, xleT, xleF, xeqT, xeqF, nleT, nleF, nltT, nltF, neqT, neqF, ileT, ileF, iltT, iltF, ieqT, ieqF, or_false, or_true, false_or, true_or, and_true, true_and, and_false, false_and, not_false_eq_true, not_true_eq_false, ↓reduceIte, if_true, if_false, hl8]) ?_
    refine w_b hrz ?_
    refine w_i z3 ?_
    refine w_i (by simp (disch := omega) only [vin, mk_I, ml_I, mr_I, mk_R, ml_R, mi_R, mkN_eq, mlN_eq, miN_eq, mkN_ne, mlN_ne, miN_ne, mrN_ne, mi_eq, mi_na, mi_nj, mr_eq, mr_na, mr_nj, xL0, xL1, xL2, xL3, xL4, xL5, xL6, xL7, xL8, xL9, xL10, xL12, xL16, xL20, xL24, xL31, xL50, xL60, xL89, xL99, xL100, xL200, xI_add, xI_sub, xI_mul, xI_neg, xI_nat, xI_cl, Int.toNat_natCast, Int.reduceToNat, xltT, xltF, xleT, xleF, xeqT, xeqF, nleT, nleF, nltT, nltF, neqT, neqF, ileT, ileF, iltT, iltF, ieqT, ieqF, or_false, or_true, false_or, true_or, and_true, true_and, and_false, false_and, not_false_eq_true, not_true_eq_false, ↓reduceIte, if_true, if_false, z4]) ?_
    have hstep : ∀ N2 m2 Z2, ZR N2 m2 s Z2 → uz Z2 = a_send (uz Z) k (z.2 0) (i3 + 1) (z.2 1) → zk Z Z2 → Z2.2.2.2.2.1 = Z.2.2.2.2.1 → N ≤ N2 → fM N (fun x => x = s) m m2 → wq (fL_X5_pass (l2.length + 1 + g) 380 N2 m2 (kc + 2) (ks + 71) s (xI cnt) r2 0 r3 (xI (k : Nat)) 0 0 q i6 (xI i3) K (xI ((l1.length + (l2.length + 1) : Nat) : Int)) (xI (l1.length : Nat) + 1)) Q := by
      intro N2 m2 Z2 k1 k2 k3 k4 k5 k6
      have hlen2 : Z2.2.2.2.2.2.length ≤ 60 := by
        have e1 : (uz Z2).2.2.2.length = Z2.2.2.2.2.2.length := by unfold uz; rw [List.length_map]
        rw [← e1, k2]
        refine send_len ?_
        show (Z.2.2.2.2.2.map Prod.snd).length ≤ 60
        rw [List.length_map]; exact hv
      have e1 : (l1 ++ [z]).length + l2.length = l1.length + (l2.length + 1) := by rw [List.length_append]; simp; omega
      have e2 : (l1 ++ [z]).length = l1.length + 1 := by rw [List.length_append]; rfl
      have fb : fM N (tX m) m m2 := fM_w k6 (fun x _ hx => by rw [hx]; exact ⟨h.1.1.1, .inr (.inl hs5)⟩)
      have h9 := ih (l1 ++ [z]) N2 m2 Z2 (kc + 2) (ks + 71) k1 (k3.1.trans hn1) (by omega) (by rw [k4, hD]; simp) hlen2 (by omega) (by omega) (by omega) (fun N' m' Z' kc' ks' p1 p2 p3 p4 p5 p6 p7 => hQ N' m' Z' kc' ks' p1 (zk_trans k3 p2) (by rw [p3, k2]; rfl) (by omega) (fM_trans fb p5 k5 (fun x hx hy => tX_fM fb hx hy)) (by omega) (by omega))
      rw [e1, e2] at h9
      rw [show xI (l1.length : Nat) + 1 = xI ((l1.length + 1 : Nat) : Int) by rw [xL1, xI_add]; rfl]
      exact h9
    rcases hi3 with e | e
    · subst e
      refine w_i (by decide) ?_
      refine w_i (by simp (disch := omega) only [vin, mk_I, ml_I, mr_I, mk_R, ml_R, mi_R, mkN_eq, mlN_eq, miN_eq, mkN_ne, mlN_ne, miN_ne, mrN_ne, mi_eq, mi_na, mi_nj, mr_eq, mr_na, mr_nj, xL0, xL1, xL2, xL3, xL4, xL5, xL6, xL7, xL8, xL9, xL10, xL12, xL16, xL20, xL24, xL31, xL50, xL60, xL89, xL99, xL100, xL200, xI_add, xI_sub, xI_mul, xI_neg, xI_nat, xI_cl, Int.toNat_natCast, Int.reduceToNat, xltT, xltF, xleT, xleF, xeqT, xeqF, nleT, nleF, nltT, nltF, neqT, neqF, ileT, ileF, iltT, iltF, ieqT, ieqF, or_false, or_true, false_or, true_or, and_true, true_and, and_false, false_and, not_false_eq_true, not_true_eq_false, ↓reduceIte, if_true, if_false, z4]) ?_
      refine w_i hs5 ?_
      refine w_c (w_r (by rw [z5 0 (by omega), z5 1 (by omega)]; rfl) (S_zsend (f := k) (t := z.2 0) (w := 1) (l := z.2 1) h hN hv)) ?_
      rintro ⟨N2, m2⟩ ⟨Z2, k1, k2, k3, k4, k5, k6⟩
      refine w_i (by omega) ?_
      refine w_i (by omega) ?_
      exact hstep N2 m2 Z2 k1 k2 k3 k4 k5 k6
    · subst e
      refine w_n (by decide) ?_
      refine w_i (by simp (disch := omega) only [vin, mk_I, ml_I, mr_I, mk_R, ml_R, mi_R, mkN_eq, mlN_eq, miN_eq, mkN_ne, mlN_ne, miN_ne, mrN_ne, mi_eq, mi_na, mi_nj, mr_eq, mr_na, mr_nj, xL0, xL1, xL2, xL3, xL4, xL5, xL6, xL7, xL8, xL9, xL10, xL12, xL16, xL20, xL24, xL31, xL50, xL60, xL89, xL99, xL100, xL200, xI_add, xI_sub, xI_mul, xI_neg, xI_nat, xI_cl, Int.toNat_natCast, Int.reduceToNat, xltT, xltF, xleT, xleF, xeqT, xeqF, nleT, nleF, nltT, nltF, neqT, neqF, ileT, ileF, iltT, iltF, ieqT, ieqF, or_false, or_true, false_or, true_or, and_true, true_and, and_false, false_and, not_false_eq_true, not_true_eq_false, ↓reduceIte, if_true, if_false, z4]) ?_
      refine w_i hs5 ?_
      refine w_c (w_r (by rw [z5 0 (by omega), z5 1 (by omega)]; rfl) (S_zsend (f := k) (t := z.2 0) (w := 2) (l := z.2 1) h hN hv)) ?_
      rintro ⟨N2, m2⟩ ⟨Z2, k1, k2, k3, k4, k5, k6⟩
      refine w_i (by omega) ?_
      refine w_i (by omega) ?_
      exact hstep N2 m2 Z2 k1 k2 k3 k4 k5 k6
theorem L_z357 {i3 cnt : Int} {r2 r3 g : Nat} {i6 : Int32} {kc ks : Nat} (h : ZR N m s Z) (hk : k < Z.1) (hn : Z.1 ≤ 10) (hN : 149 ≤ N) (hi3 : i3 = 0 ∨ i3 = 1) (hD : Z.2.2.2.2.1 k = D) (hv : Z.2.2.2.2.2.length ≤ 60) (hl : D.2.2.2.2.2.length ≤ 60) (hc1 : kc + 121 ≤ 2000) (hc2 : ks + 4260 ≤ 70000)
    (hQ : ∀ N' m' Z' kc' ks', ZR N' m' s Z' → zk Z Z' → uz Z' = a_tells (a_set (uz Z) k (a_turn D.2.2.2.1 i3, (ud D).2.1, [])) k (i3 + 1) (ud D).2.2 → N ≤ N' → fM N (tX m) m m' → kc' ≤ kc + 121 → ks' ≤ ks + 4260 → wq (fL_X5_pass g 189 N' m' kc' ks' s (xI (cnt + i3)) r2 0 r3 (xI ((k + 1 : Nat) : Int)) 0 0 0 i6 0 0 0 0) Q) :
    wq (fL_X5_pass (D.2.2.2.2.2.length + 2 + g) 357 N m kc ks s (xI cnt) r2 0 r3 (xI (k : Nat)) 0 0 D.1 i6 (xI i3) 0 0 0) Q := by
  have hdk := h.2.1 k hk
  have hsp := h.2.2.2.2.1 k hk
  rw [hD] at hdk hsp
  obtain ⟨q1, q2, q3, q4, q5⟩ := hdk.1
  rw [show D.2.2.2.2.2.length + 2 + g = (D.2.2.2.2.2.length + 1 + g) + 1 by omega]
  show wq (fB_X5_pass_357 (fL_X5_pass (D.2.2.2.2.2.length + 1 + g)) N m kc ks s (xI cnt) r2 0 r3 (xI (k : Nat)) 0 0 D.1 i6 (xI i3) 0 0 0) Q
  unfold fB_X5_pass_357
  refine w_i h.1.1.2.2.1 ?_
  refine w_c (S_zturn (s := s) hdk hi3) ?_
  rintro m1 ⟨t1, t2⟩
  have hZ1 : ZR N m1 s (zset Z k (D.1, D.2.1, D.2.2.1, a_turn D.2.2.2.1 i3, D.2.2.2.2)) := ZR_set h hk t2 (Nat.le_refl _) t1 (by rw [hD]) hsp (fun w hw => .inl ⟨w, by rw [hD]; exact hw, rfl⟩) (fun x _ hx => .inl (by rw [hD]; exact hx))
  have fa : fM N (tX m) m m1 := fM_w t2 (fun x _ hx => by rw [hx]; exact ⟨q1, .inl q3⟩)
  refine w_i t1.1.2.2.1 ?_
  refine w_b t1.1.2.2.2.2 ?_
  refine w_i t1.2.2.2.1.2.1 ?_
  have hml : ml m1 D.2.2.1 = D.2.2.2.2.2.length := t1.2.2.2.1.2.2.1
  have h9 := L_z380 (s := s) (k := k) (n := Z.1) (q := D.1) (A := D.2.1) (K := D.2.2.1) (f := a_turn D.2.2.2.1 i3) (az := D.2.2.2.2.1) (i3 := i3) (cnt := cnt) (r2 := r2) (r3 := r3) (g := g) (i6 := i6) (Q := Q) hk hn hi3 D.2.2.2.2.2 [] N m1 _ kc ks hZ1 rfl hN (by rw [zset_eq]; rfl) hv (by simp; exact hl) (by omega) (by omega) (fun N' m' Z' kc' ks' p1 p2 p3 p4 p5 p6 p7 => hQ N' m' Z' kc' ks' p1 (zk_trans (zk_set (by rw [hD])) p2) (by
    rw [p3, tells_set, uz_set, set_set]; rfl) p4 (fM_trans fa p5 (Nat.le_refl _) (fun x hx hy => tX_fM fa hx hy)) (by omega) (by omega))
  rw [hml, xI_nat]
  have e5 : ([] : List (Nat × aR)).length + D.2.2.2.2.2.length = D.2.2.2.2.2.length := by simp
  rw [e5] at h9
  exact h9
set_option maxRecDepth 20000 in
set_option maxHeartbeats 4000000 in
theorem L_z189 : ∀ r k, ∀ (N : Nat) (m : vM) (Z : zS) (kc ks : Nat) (c : Nat → Int) (cnt : Int) (r2 r3 : Nat) (i6 : Int32), k + r = Z.1 → ZR N m s Z → INm E Lw (uz Z) [] c → 149 ≤ N → kc + 121 * r ≤ 2000 → ks + 4260 * r ≤ 70000 → ∀ f, 64 * r < f → wq (fL_X5_pass f 189 N m kc ks s (xI cnt) r2 0 r3 (xI (k : Nat)) 0 0 0 i6 0 0 0 0) (fun z => z.1 = xI (cnt + (a_dks (uz Z) k r).1) ∧ ∃ Z', ZR z.2.1 z.2.2 s Z' ∧ uz Z' = a_fin (a_dks (uz Z) k r).2 ∧ zk Z Z' ∧ N ≤ z.2.1 ∧ fM N (tX m) m z.2.2) := by
  intro r
  induction r with
  | zero =>
    intro k N m Z kc ks c cnt r2 r3 i6 hk h hI hN hc1 hc2 f hf
    obtain ⟨g, rfl⟩ : ∃ g, f = g + 1 := ⟨f - 1, by omega⟩
    have hn : Z.1 ≤ 10 := hI.1.1
    obtain ⟨⟨⟨a1, a2, a3, a4, a5, a6, a7⟩, ⟨b1, b2, b3, b4, b5⟩⟩, c0, ⟨d1, d2⟩, e⟩ := h
    show wq (fB_X5_pass_189 (fL_X5_pass g) N m kc ks s (xI cnt) r2 0 r3 (xI (k : Nat)) 0 0 0 i6 0 0 0 0) _
    unfold fB_X5_pass_189
    refine w_i a3 ?_
    refine w_b a4 ?_
    refine w_i b3 ?_
    refine w_i (by simp (disch := omega) only [vin, mk_I, ml_I, mr_I, mk_R, ml_R, mi_R, mkN_eq, mlN_eq, miN_eq, mkN_ne, mlN_ne, miN_ne, mrN_ne, mi_eq, mi_na, mi_nj, mr_eq, mr_na, mr_nj, xL0, xL1, xL2, xL3, xL4, xL5, xL6, xL7, xL8, xL9, xL10, xL12, xL16, xL20, xL24, xL31, xL50, xL60, xL89, xL99, xL100, xL200, xI_add, xI_sub, xI_mul, xI_neg, xI_nat, xI_cl, Int.toNat_natCast, Int.reduceToNat, xltT, xltF, xleT, xleF, xeqT, xeqF, nleT, nleF, nltT, nltF, neqT, neqF, ileT, ileF, iltT, iltF, ieqT, ieqF, or_false, or_true, false_or, true_or, and_true, true_and, and_false, false_and, not_false_eq_true, not_true_eq_false, ↓reduceIte, if_true, if_false, b4]) ?_
    have f1 : fM N (fun x => x = s) m (mI m s 2 (mi m s 2 + 1)) := fM_I rfl
    have hne : ∀ x, mk m x = 4 ∨ mk m x = 6 ∨ mk m x = 8 → x ≠ s := fun x hx e => by rw [e, a3] at hx; omega
    refine w_s ⟨by show xI cnt = xI (cnt + 0); rw [Int.add_zero], (Z.1, fu Z.2.1 0 (Z.2.1 0 + 1), Z.2.2), ⟨⟨⟨a1, a2, a3, a4, a5, ?_, ?_⟩, ⟨b1, b2, b3, b4, b5⟩⟩, fun j hj => ?_, ⟨?_, fun z hz => ?_⟩, e⟩, rfl, ⟨rfl, rfl, fun _ => rfl⟩, Nat.le_refl _, fM_w f1 (fun x _ hx => by rw [hx]; exact ⟨a1, .inr (.inl a3)⟩)⟩
    · show mi _ s 2 = xI (fu Z.2.1 0 (Z.2.1 0 + 1) 0); rw [mi_eq, fu_eq, a6, xL1, xI_add]
    · show mi _ s 3 = xI (fu Z.2.1 0 (Z.2.1 0 + 1) 1); rw [mi_nj (by omega), fu_ne (by omega)]; exact a7
    · exact dR_fr (c0 j hj) f1 (Nat.le_refl _) (hne _ (.inl (c0 j hj).1.2.2.1)) (fun x hx => hne x (.inr (.inr hx))) (fun z hz => hne _ (.inr (.inl ((c0 j hj).2.2.1.2 z hz).2.1))) (fun x hx _ => hne x (.inr (.inl hx)))
    · exact a8_fr d1 f1 (Nat.le_refl _) (hne _ (.inr (.inr d1.2.1)))
    · exact ro_fr (d2 z hz) f1 (Nat.le_refl _) (hne _ (.inr (.inl (d2 z hz).2.1)))
  | succ r ih =>
    intro k N m Z kc ks c cnt r2 r3 i6 hk h hI hN hc1 hc2 f hf
    have hn : Z.1 ≤ 10 := hI.1.1
    have hkn : k < Z.1 := by omega
    obtain ⟨hla, hlk, hlv⟩ := ZR_len hI hkn
    obtain ⟨hW, _, _⟩ := IN_W hI (k := k) hkn
    have hdk := h.2.1 k hkn
    have hsp := h.2.2.2.2.1 k hkn
    have hI2 := IN_dk hI (k := k) hkn
    have hstep : a_dks (uz Z) k (r + 1) = (a_up (uz Z) k + (a_dks (a_dk (uz Z) k) (k + 1) r).1, (a_dks (a_dk (uz Z) k) (k + 1) r).2) := rfl
    have hDK : (uz Z).2.2.1 k = ud (Z.2.2.2.2.1 k) := rfl
    have h0 := h
    obtain ⟨⟨⟨a1, a2, a3, a4, a5, a6, a7⟩, ⟨b1, b2, b3, b4, b5⟩⟩, c0, ⟨d1, d2⟩, e⟩ := h
    have hrk : mr m Z.2.2.1 (xI (k : Nat)).toNatClampNeg = some (Z.2.2.2.2.1 k).1 := by rw [← b5 k hkn]; simp (disch := omega) only [vin, mk_I, ml_I, mr_I, mk_R, ml_R, mi_R, mkN_eq, mlN_eq, miN_eq, mkN_ne, mlN_ne, miN_ne, mrN_ne, mi_eq, mi_na, mi_nj, mr_eq, mr_na, mr_nj, xL0, xL1, xL2, xL3, xL4, xL5, xL6, xL7, xL8, xL9, xL10, xL12, xL16, xL20, xL24, xL31, xL50, xL60, xL89, xL99, xL100, xL200, xI_add, xI_sub, xI_mul, xI_neg, xI_nat, xI_cl, Int.toNat_natCast, Int.reduceToNat, xltT, xltF, xleT, xleF, xeqT, xeqF, nleT, nleF, nltT, nltF, neqT, neqF, ileT, ileF, iltT, iltF, ieqT, ieqF, or_false, or_true, false_or, true_or, and_true, true_and, and_false, false_and, not_false_eq_true, not_true_eq_false, ↓reduceIte, if_true, if_false]
    generalize hDg : Z.2.2.2.2.1 k = D at hdk hsp hla hlk hDK hrk
    have h := h0
    rw [hDK] at hW
    obtain ⟨q1, q2, q3, q4, q5⟩ := hdk.1
    have p3 : mi m D.1 3 = xI (D.2.2.2.1 3) := hdk.2.1.1 3 (by omega)
    have p4 : mi m D.1 4 = xI (D.2.2.2.1 4) := hdk.2.1.1 4 (by omega)
    have hst : 0 ≤ D.2.2.2.1 3 ∧ D.2.2.2.1 3 ≤ 3 := hW.2.2.2.1
    have hle : 0 ≤ D.2.2.2.1 4 ∧ D.2.2.2.1 4 ≤ 21 := hW.2.2.2.2.1
    have hru : 0 ≤ D.2.2.2.1 2 ∧ D.2.2.2.1 2 ≤ 3 := hW.2.2.1
    have hans : ∀ z ∈ D.2.2.2.2.1, -1 ≤ z.2 2 ∧ z.2 2 ≤ 1 := by
      intro z hz
      have := hW.2.2.2.2.2.2.2.1 z.2 (List.mem_map.mpr ⟨z, hz, rfl⟩)
      omega
    have ek : xI (k : Nat) + 1 = xI ((k + 1 : Nat) : Int) := by rw [xL1, xI_add]; rfl
    obtain ⟨g, rfl⟩ : ∃ g, f = g + 1 := ⟨f - 1, by omega⟩
    show wq (fB_X5_pass_189 (fL_X5_pass g) N m kc ks s (xI cnt) r2 0 r3 (xI (k : Nat)) 0 0 0 i6 0 0 0 0) _
    unfold fB_X5_pass_189
    refine w_i a3 ?_
    refine w_b a4 ?_
    refine w_i b3 ?_
    refine w_n (by simp (disch := omega) only [vin, mk_I, ml_I, mr_I, mk_R, ml_R, mi_R, mkN_eq, mlN_eq, miN_eq, mkN_ne, mlN_ne, miN_ne, mrN_ne, mi_eq, mi_na, mi_nj, mr_eq, mr_na, mr_nj, xL0, xL1, xL2, xL3, xL4, xL5, xL6, xL7, xL8, xL9, xL10, xL12, xL16, xL20, xL24, xL31, xL50, xL60, xL89, xL99, xL100, xL200, xI_add, xI_sub, xI_mul, xI_neg, xI_nat, xI_cl, Int.toNat_natCast, Int.reduceToNat, xltT, xltF, xleT, xleF, xeqT, xeqF, nleT, nleF, nltT, nltF, neqT, neqF, ileT, ileF, iltT, iltF, ieqT, ieqF, or_false, or_true, false_or, true_or, and_true, true_and, and_false, false_and, not_false_eq_true, not_true_eq_false, ↓reduceIte, if_true, if_false, b4]) ?_
    refine w_b a4 ?_
    refine w_i b3 ?_
    refine w_i (by simp (disch := omega) only [vin, mk_I, ml_I, mr_I, mk_R, ml_R, mi_R, mkN_eq, mlN_eq, miN_eq, mkN_ne, mlN_ne, miN_ne, mrN_ne, mi_eq, mi_na, mi_nj, mr_eq, mr_na, mr_nj, xL0, xL1, xL2, xL3, xL4, xL5, xL6, xL7, xL8, xL9, xL10, xL12, xL16, xL20, xL24, xL31, xL50, xL60, xL89, xL99, xL100, xL200, xI_add, xI_sub, xI_mul, xI_neg, xI_nat, xI_cl, Int.toNat_natCast, Int.reduceToNat, xltT, xltF, xleT, xleF, xeqT, xeqF, nleT, nleF, nltT, nltF, neqT, neqF, ileT, ileF, iltT, iltF, ieqT, ieqF, or_false, or_true, false_or, true_or, and_true, true_and, and_false, false_and, not_false_eq_true, not_true_eq_false, ↓reduceIte, if_true, if_false, b4]) ?_
    refine w_b hrk ?_
    refine w_i q3 ?_
    rw [hstep]
    by_cases e1 : D.2.2.2.1 3 = 1
    · refine w_i (by simp (disch := omega) only [vin, mk_I, ml_I, mr_I, mk_R, ml_R, mi_R, mkN_eq, mlN_eq, miN_eq, mkN_ne, mlN_ne, miN_ne, mrN_ne, mi_eq, mi_na, mi_nj, mr_eq, mr_na, mr_nj, xL0, xL1, xL2, xL3, xL4, xL5, xL6, xL7, xL8, xL9, xL10, xL12, xL16, xL20, xL24, xL31, xL50, xL60, xL89, xL99, xL100, xL200, xI_add, xI_sub, xI_mul, xI_neg, xI_nat, xI_cl, Int.toNat_natCast, Int.reduceToNat, xltT, xltF, xleT, xleF, xeqT, xeqF, nleT, nleF, nltT, nltF, neqT, neqF, ileT, ileF, iltT, iltF, ieqT, ieqF, or_false, or_true, false_or, true_or, and_true, true_and, and_false, false_and, not_false_eq_true, not_true_eq_false, ↓reduceIte, if_true, if_false, p3]) ?_
      have em : mI m D.1 4 (mi m D.1 4 - 1) = mI m D.1 4 (xI (D.2.2.2.1 4 - 1)) := by rw [p4, xL1, xI_sub]
      simp only [em]
      have hd1 := dR_I (v := D.2.2.2.1 4 - 1) hdk (show 4 < 5 by omega)
      have f1 : fM N (fun x => x = D.1) m (mI m D.1 4 (xI (D.2.2.2.1 4 - 1))) := fM_I rfl
      generalize mI m D.1 4 (xI (D.2.2.2.1 4 - 1)) = m1 at hd1 f1 ⊢
      have fa : fM N (tX m) m m1 := fM_w f1 (fun x _ hx => by rw [hx]; exact ⟨q1, .inl q3⟩)
      have hZ1 : ZR N m1 s (zset Z k (D.1, D.2.1, D.2.2.1, fu D.2.2.2.1 4 (D.2.2.2.1 4 - 1), D.2.2.2.2)) := ZR_set h hkn f1 (Nat.le_refl _) hd1 (by rw [hDg]) hsp (fun w hw => .inl ⟨w, by rw [hDg]; exact hw, rfl⟩) (fun x _ hx => .inl (by rw [hDg]; exact hx))
      have o4 : mi m1 D.1 4 = xI (D.2.2.2.1 4 - 1) := by have := hd1.2.1.1 4 (by omega); rw [this]; show xI (fu D.2.2.2.1 4 (D.2.2.2.1 4 - 1) 4) = _; rw [fu_eq]
      have o2 : mi m1 D.1 2 = xI (D.2.2.2.1 2) := by have := hd1.2.1.1 2 (by omega); rw [this]; show xI (fu D.2.2.2.1 4 (D.2.2.2.1 4 - 1) 2) = _; rw [fu_ne (by omega)]
      have oA : mr m1 D.1 5 = some D.2.1 := hd1.1.2.2.2.1
      have oK : mk m1 D.2.1 = 8 := hd1.2.2.1.1.2.1
      have oL : ml m1 D.2.1 = D.2.2.2.2.1.length := hd1.2.2.1.1.2.2.1
      have hst1 : 0 ≤ fu D.2.2.2.1 4 (D.2.2.2.1 4 - 1) 3 ∧ fu D.2.2.2.1 4 (D.2.2.2.1 4 - 1) 3 ≤ 3 := by rw [fu_ne (by omega)]; exact hst
      have hone : fu D.2.2.2.1 4 (D.2.2.2.1 4 - 1) 3 = 1 := by rw [fu_ne (by omega)]; exact e1
      have y1 : f_X4_answers m1 D.1 1 = some (xI ((nA 1 (ud D).2.1 : Nat) : Int)) := by
        have h9 := S_zans1 hd1 hla hans hst1
        rw [if_pos hone] at h9; exact h9
      have ym : f_X4_answers m1 D.1 (-1) = some (xI ((nA 0 (ud D).2.1 + nA 1 (ud D).2.1 : Nat) : Int)) := by
        have h9 := S_zansm hd1 hla hans hst1
        rw [if_pos hone] at h9; exact h9
      have hlen : (ud D).2.1.length = D.2.2.2.2.1.length := by unfold ud; rw [List.length_map]
      have hle1 : nA 1 (ud D).2.1 ≤ D.2.2.2.2.1.length := by rw [← hlen]; exact nA_le
      have hle0 : nA 0 (ud D).2.1 ≤ D.2.2.2.2.1.length := by rw [← hlen]; exact nA_le
      -- decided
      have hdec : a_now ((uz Z).2.2.1 k) → ∀ (i7 : Int) (i6 : Int32), a_yes (ud D) = i7 → wq (fL_X5_pass g 357 N m1 kc ks s (xI cnt) r2 0 r3 (xI (k : Nat)) 0 0 D.1 i6 (xI i7) 0 0 0) (fun z => z.1 = xI (cnt + (a_up (uz Z) k + (a_dks (a_dk (uz Z) k) (k + 1) r).1)) ∧ ∃ Z', ZR z.2.1 z.2.2 s Z' ∧ uz Z' = a_fin (a_dks (a_dk (uz Z) k) (k + 1) r).2 ∧ zk Z Z' ∧ N ≤ z.2.1 ∧ fM N (tX m) m z.2.2) := by
        intro hnow i7 i6' hi7
        have h01 : i7 = 0 ∨ i7 = 1 := by rw [← hi7]; exact a_yes01
        obtain ⟨g2, hg2⟩ : ∃ g2, g = D.2.2.2.2.2.length + 2 + g2 := ⟨g - D.2.2.2.2.2.length - 2, by omega⟩
        have b1' : kc + 121 ≤ 2000 := by omega
        have b2' : ks + 4260 ≤ 70000 := by omega
        rw [hg2]
        refine L_z357 (Z := zset Z k (D.1, D.2.1, D.2.2.1, fu D.2.2.2.1 4 (D.2.2.2.1 4 - 1), D.2.2.2.2)) (D := (D.1, D.2.1, D.2.2.1, fu D.2.2.2.1 4 (D.2.2.2.1 4 - 1), D.2.2.2.2)) (cnt := cnt) hZ1 hkn hn hN h01 zset_eq hlv hlk b1' b2' (fun N' m' Z' kc' ks' p1 p2 p3 p4 p5 p6 p7 => ?_)
        have hdk2 : uz Z' = a_dk (uz Z) k := by
          rw [p3, uz_set, set_set]
          unfold a_dk
          rw [if_pos hnow, hDK, hi7]
          rfl
        have hup : a_up (uz Z) k = i7 := by unfold a_up; rw [if_pos hnow, hDK]; exact hi7
        have hz2 : zk Z Z' := zk_trans (zk_set (by rw [hDg])) p2
        have h9 := ih (k + 1) N' m' Z' kc' ks' _ (cnt + i7) r2 r3 i6' (by rw [hz2.1]; omega) p1 (by rw [hdk2]; exact hI2) (by omega) (by omega) (by omega) g2 (by omega)
        refine w_m h9 ?_
        rintro ⟨zc, N3, m3⟩ ⟨j1, Z3, j2, j3, j4, j5, j6⟩
        rw [hdk2] at j1 j3
        refine ⟨by rw [j1, hup, Int.add_assoc], Z3, j2, j3, zk_trans hz2 j4, Nat.le_trans p4 j5, ?_⟩
        have fb : fM N (tX m) m m' := fM_trans fa p5 (Nat.le_refl _) (fun x hx hy => tX_fM fa hx hy)
        exact fM_trans fb j6 p4 (fun x hx hy => tX_fM fb hx hy)
      have hy : a_yes (ud D) = a_is (D.2.2.2.1 2) (nA 1 (ud D).2.1) D.2.2.2.2.1.length := by unfold a_yes; rw [hlen]; rfl
      -- the leaves of the rule
      have hrule : a_now ((uz Z).2.2.1 k) → wq (Option.bind (f_X4_answers m1 D.1 1) fun q17 =>
          if mi m1 D.1 2 = 0 then (
            Option.bind (mr m1 D.1 5) fun y21 =>
            if mk m1 y21 = 8 then
            if q17 = Int32.ofNat (ml m1 y21) then (
              fL_X5_pass g 357 N m1 kc ks s (xI cnt) r2 0 r3 (xI (k : Nat)) 0 0 D.1 q17 1 0 0 0
            ) else (
              fL_X5_pass g 357 N m1 kc ks s (xI cnt) r2 0 r3 (xI (k : Nat)) 0 0 D.1 q17 0 0 0 0
            )
            else none
          ) else (
            if mi m1 D.1 2 = 1 then (
              if q17 ≤ 0 then (
                fL_X5_pass g 357 N m1 kc ks s (xI cnt) r2 0 r3 (xI (k : Nat)) 0 0 D.1 q17 0 0 0 0
              ) else (
                fL_X5_pass g 357 N m1 kc ks s (xI cnt) r2 0 r3 (xI (k : Nat)) 0 0 D.1 q17 1 0 0 0
              )
            ) else (
              if mi m1 D.1 2 = 2 then (
                Option.bind (mr m1 D.1 5) fun y28 =>
                if mk m1 y28 = 8 then
                if q17 + q17 ≤ Int32.ofNat (ml m1 y28) then (
                  fL_X5_pass g 357 N m1 kc ks s (xI cnt) r2 0 r3 (xI (k : Nat)) 0 0 D.1 q17 0 0 0 0
                ) else (
                  fL_X5_pass g 357 N m1 kc ks s (xI cnt) r2 0 r3 (xI (k : Nat)) 0 0 D.1 q17 1 0 0 0
                )
                else none
              ) else (
                if q17 = 0 then (
                  fL_X5_pass g 357 N m1 kc ks s (xI cnt) r2 0 r3 (xI (k : Nat)) 0 0 D.1 q17 1 0 0 0
                ) else (
                  fL_X5_pass g 357 N m1 kc ks s (xI cnt) r2 0 r3 (xI (k : Nat)) 0 0 D.1 q17 0 0 0 0
                )
              )
            )
          )) (fun z => z.1 = xI (cnt + (a_up (uz Z) k + (a_dks (a_dk (uz Z) k) (k + 1) r).1)) ∧ ∃ Z', ZR z.2.1 z.2.2 s Z' ∧ uz Z' = a_fin (a_dks (a_dk (uz Z) k) (k + 1) r).2 ∧ zk Z Z' ∧ N ≤ z.2.1 ∧ fM N (tX m) m z.2.2) := by
        intro hnow
        refine w_b y1 ?_
        unfold a_is at hy
        by_cases c0 : D.2.2.2.1 2 = 0
        · rw [if_pos c0] at hy
          refine w_i (by simp (disch := omega) only [vin, mk_I, ml_I, mr_I, mk_R, ml_R, mi_R, mkN_eq, mlN_eq, miN_eq, mkN_ne, mlN_ne, miN_ne, mrN_ne, mi_eq, mi_na, mi_nj, mr_eq, mr_na, mr_nj, xL0, xL1, xL2, xL3, xL4, xL5, xL6, xL7, xL8, xL9, xL10, xL12, xL16, xL20, xL24, xL31, xL50, xL60, xL89, xL99, xL100, xL200, xI_add, xI_sub, xI_mul, xI_neg, xI_nat, xI_cl, Int.toNat_natCast, Int.reduceToNat, xltT, xltF, xleT, xleF, xeqT, xeqF, nleT, nleF, nltT, nltF, neqT, neqF, ileT, ileF, iltT, iltF, ieqT, ieqF, or_false, or_true, false_or, true_or, and_true, true_and, and_false, false_and, not_false_eq_true, not_true_eq_false, ↓reduceIte, if_true, if_false, o2]) ?_
          refine w_b oA ?_
          refine w_i oK ?_
          by_cases c1 : ((nA 1 (ud D).2.1 : Nat) : Int) = D.2.2.2.2.1.length
          · rw [if_pos c1] at hy
            refine w_i (by simp (disch := omega) only [vin, mk_I, ml_I, mr_I, mk_R, ml_R, mi_R, mkN_eq, mlN_eq, miN_eq, mkN_ne, mlN_ne, miN_ne, mrN_ne, mi_eq, mi_na, mi_nj, mr_eq, mr_na, mr_nj, xL0, xL1, xL2, xL3, xL4, xL5, xL6, xL7, xL8, xL9, xL10, xL12, xL16, xL20, xL24, xL31, xL50, xL60, xL89, xL99, xL100, xL200, xI_add, xI_sub, xI_mul, xI_neg, xI_nat, xI_cl, Int.toNat_natCast, Int.reduceToNat, xltT, xltF, xleT, xleF, xeqT, xeqF, nleT, nleF, nltT, nltF, neqT, neqF, ileT, ileF, iltT, iltF, ieqT, ieqF, or_false, or_true, false_or, true_or, and_true, true_and, and_false, false_and, not_false_eq_true, not_true_eq_false, ↓reduceIte, if_true, if_false, oL]) ?_
            exact hdec hnow 1 _ hy
          · rw [if_neg c1] at hy
            refine w_n (by simp (disch := omega) only [vin, mk_I, ml_I, mr_I, mk_R, ml_R, mi_R, mkN_eq, mlN_eq, miN_eq, mkN_ne, mlN_ne, miN_ne, mrN_ne, mi_eq, mi_na, mi_nj, mr_eq, mr_na, mr_nj, xL0, xL1, xL2, xL3, xL4, xL5, xL6, xL7, xL8, xL9, xL10, xL12, xL16, xL20, xL24, xL31, xL50, xL60, xL89, xL99, xL100, xL200, xI_add, xI_sub, xI_mul, xI_neg, xI_nat, xI_cl, Int.toNat_natCast, Int.reduceToNat, xltT, xltF, xleT, xleF, xeqT, xeqF, nleT, nleF, nltT, nltF, neqT, neqF, ileT, ileF, iltT, iltF, ieqT, ieqF, or_false, or_true, false_or, true_or, and_true, true_and, and_false, false_and, not_false_eq_true, not_true_eq_false, ↓reduceIte, if_true, if_false, oL]) ?_
            exact hdec hnow 0 _ hy
        · rw [if_neg c0] at hy
          refine w_n (by simp (disch := omega) only [vin, mk_I, ml_I, mr_I, mk_R, ml_R, mi_R, mkN_eq, mlN_eq, miN_eq, mkN_ne, mlN_ne, miN_ne, mrN_ne, mi_eq, mi_na, mi_nj, mr_eq, mr_na, mr_nj, xL0, xL1, xL2, xL3, xL4, xL5, xL6, xL7, xL8, xL9, xL10, xL12, xL16, xL20, xL24, xL31, xL50, xL60, xL89, xL99, xL100, xL200, xI_add, xI_sub, xI_mul, xI_neg, xI_nat, xI_cl, Int.toNat_natCast, Int.reduceToNat, xltT, xltF, xleT, xleF, xeqT, xeqF, nleT, nleF, nltT, nltF, neqT, neqF, ileT, ileF, iltT, iltF, ieqT, ieqF, or_false, or_true, false_or, true_or, and_true, true_and, and_false, false_and, not_false_eq_true, not_true_eq_false, ↓reduceIte, if_true, if_false, o2]) ?_
          by_cases c2 : D.2.2.2.1 2 = 1
          · rw [if_pos c2] at hy
            refine w_i (by simp (disch := omega) only [vin, mk_I, ml_I, mr_I, mk_R, ml_R, mi_R, mkN_eq, mlN_eq, miN_eq, mkN_ne, mlN_ne, miN_ne, mrN_ne, mi_eq, mi_na, mi_nj, mr_eq, mr_na, mr_nj, xL0, xL1, xL2, xL3, xL4, xL5, xL6, xL7, xL8, xL9, xL10, xL12, xL16, xL20, xL24, xL31, xL50, xL60, xL89, xL99, xL100, xL200, xI_add, xI_sub, xI_mul, xI_neg, xI_nat, xI_cl, Int.toNat_natCast, Int.reduceToNat, xltT, xltF, xleT, xleF, xeqT, xeqF, nleT, nleF, nltT, nltF, neqT, neqF, ileT, ileF, iltT, iltF, ieqT, ieqF, or_false, or_true, false_or, true_or, and_true, true_and, and_false, false_and, not_false_eq_true, not_true_eq_false, ↓reduceIte, if_true, if_false, o2]) ?_
            by_cases c1 : 1 ≤ ((nA 1 (ud D).2.1 : Nat) : Int)
            · rw [if_pos c1] at hy
              refine w_n (by simp (disch := omega) only [vin, mk_I, ml_I, mr_I, mk_R, ml_R, mi_R, mkN_eq, mlN_eq, miN_eq, mkN_ne, mlN_ne, miN_ne, mrN_ne, mi_eq, mi_na, mi_nj, mr_eq, mr_na, mr_nj, xL0, xL1, xL2, xL3, xL4, xL5, xL6, xL7, xL8, xL9, xL10, xL12, xL16, xL20, xL24, xL31, xL50, xL60, xL89, xL99, xL100, xL200, xI_add, xI_sub, xI_mul, xI_neg, xI_nat, xI_cl, Int.toNat_natCast, Int.reduceToNat, xltT, xltF, xleT, xleF, xeqT, xeqF, nleT, nleF, nltT, nltF, neqT, neqF, ileT, ileF, iltT, iltF, ieqT, ieqF, or_false, or_true, false_or, true_or, and_true, true_and, and_false, false_and, not_false_eq_true, not_true_eq_false, ↓reduceIte, if_true, if_false]) ?_
              exact hdec hnow 1 _ hy
            · rw [if_neg c1] at hy
              refine w_i (by simp (disch := omega) only [vin, mk_I, ml_I, mr_I, mk_R, ml_R, mi_R, mkN_eq, mlN_eq, miN_eq, mkN_ne, mlN_ne, miN_ne, mrN_ne, mi_eq, mi_na, mi_nj, mr_eq, mr_na, mr_nj, xL0, xL1, xL2, xL3, xL4, xL5, xL6, xL7, xL8, xL9, xL10, xL12, xL16, xL20, xL24, xL31, xL50, xL60, xL89, xL99, xL100, xL200, xI_add, xI_sub, xI_mul, xI_neg, xI_nat, xI_cl, Int.toNat_natCast, Int.reduceToNat, xltT, xltF, xleT, xleF, xeqT, xeqF, nleT, nleF, nltT, nltF, neqT, neqF, ileT, ileF, iltT, iltF, ieqT, ieqF, or_false, or_true, false_or, true_or, and_true, true_and, and_false, false_and, not_false_eq_true, not_true_eq_false, ↓reduceIte, if_true, if_false]) ?_
              exact hdec hnow 0 _ hy
          · rw [if_neg c2] at hy
            refine w_n (by simp (disch := omega) only [vin, mk_I, ml_I, mr_I, mk_R, ml_R, mi_R, mkN_eq, mlN_eq, miN_eq, mkN_ne, mlN_ne, miN_ne, mrN_ne, mi_eq, mi_na, mi_nj, mr_eq, mr_na, mr_nj, xL0, xL1, xL2, xL3, xL4, xL5, xL6, xL7, xL8, xL9, xL10, xL12, xL16, xL20, xL24, xL31, xL50, xL60, xL89, xL99, xL100, xL200, xI_add, xI_sub, xI_mul, xI_neg, xI_nat, xI_cl, Int.toNat_natCast, Int.reduceToNat, xltT, xltF, xleT, xleF, xeqT, xeqF, nleT, nleF, nltT, nltF, neqT, neqF, ileT, ileF, iltT, iltF, ieqT, ieqF, or_false, or_true, false_or, true_or, and_true, true_and, and_false, false_and, not_false_eq_true, not_true_eq_false, ↓reduceIte, if_true, if_false, o2]) ?_
            by_cases c3 : D.2.2.2.1 2 = 2
            · rw [if_pos c3] at hy
              refine w_i (by simp (disch := omega) only [vin, mk_I, ml_I, mr_I, mk_R, ml_R, mi_R, mkN_eq, mlN_eq, miN_eq, mkN_ne, mlN_ne, miN_ne, mrN_ne, mi_eq, mi_na, mi_nj, mr_eq, mr_na, mr_nj, xL0, xL1, xL2, xL3, xL4, xL5, xL6, xL7, xL8, xL9, xL10, xL12, xL16, xL20, xL24, xL31, xL50, xL60, xL89, xL99, xL100, xL200, xI_add, xI_sub, xI_mul, xI_neg, xI_nat, xI_cl, Int.toNat_natCast, Int.reduceToNat, xltT, xltF, xleT, xleF, xeqT, xeqF, nleT, nleF, nltT, nltF, neqT, neqF, ileT, ileF, iltT, iltF, ieqT, ieqF, or_false, or_true, false_or, true_or, and_true, true_and, and_false, false_and, not_false_eq_true, not_true_eq_false, ↓reduceIte, if_true, if_false, o2]) ?_
              refine w_b oA ?_
              refine w_i oK ?_
              by_cases c1 : (D.2.2.2.2.1.length : Int) < 2 * ((nA 1 (ud D).2.1 : Nat) : Int)
              · rw [if_pos c1] at hy
                refine w_n (by simp (disch := omega) only [vin, mk_I, ml_I, mr_I, mk_R, ml_R, mi_R, mkN_eq, mlN_eq, miN_eq, mkN_ne, mlN_ne, miN_ne, mrN_ne, mi_eq, mi_na, mi_nj, mr_eq, mr_na, mr_nj, xL0, xL1, xL2, xL3, xL4, xL5, xL6, xL7, xL8, xL9, xL10, xL12, xL16, xL20, xL24, xL31, xL50, xL60, xL89, xL99, xL100, xL200, xI_add, xI_sub, xI_mul, xI_neg, xI_nat, xI_cl, Int.toNat_natCast, Int.reduceToNat, xltT, xltF, xleT, xleF, xeqT, xeqF, nleT, nleF, nltT, nltF, neqT, neqF, ileT, ileF, iltT, iltF, ieqT, ieqF, or_false, or_true, false_or, true_or, and_true, true_and, and_false, false_and, not_false_eq_true, not_true_eq_false, ↓reduceIte, if_true, if_false, oL]) ?_
                exact hdec hnow 1 _ hy
              · rw [if_neg c1] at hy
                refine w_i (by simp (disch := omega) only [vin, mk_I, ml_I, mr_I, mk_R, ml_R, mi_R, mkN_eq, mlN_eq, miN_eq, mkN_ne, mlN_ne, miN_ne, mrN_ne, mi_eq, mi_na, mi_nj, mr_eq, mr_na, mr_nj, xL0, xL1, xL2, xL3, xL4, xL5, xL6, xL7, xL8, xL9, xL10, xL12, xL16, xL20, xL24, xL31, xL50, xL60, xL89, xL99, xL100, xL200, xI_add, xI_sub, xI_mul, xI_neg, xI_nat, xI_cl, Int.toNat_natCast, Int.reduceToNat, xltT, xltF, xleT, xleF, xeqT, xeqF, nleT, nleF, nltT, nltF, neqT, neqF, ileT, ileF, iltT, iltF, ieqT, ieqF, or_false, or_true, false_or, true_or, and_true, true_and, and_false, false_and, not_false_eq_true, not_true_eq_false, ↓reduceIte, if_true, if_false, oL]) ?_
                exact hdec hnow 0 _ hy
            · rw [if_neg c3] at hy
              refine w_n (by simp (disch := omega) only [vin, mk_I, ml_I, mr_I, mk_R, ml_R, mi_R, mkN_eq, mlN_eq, miN_eq, mkN_ne, mlN_ne, miN_ne, mrN_ne, mi_eq, mi_na, mi_nj, mr_eq, mr_na, mr_nj, xL0, xL1, xL2, xL3, xL4, xL5, xL6, xL7, xL8, xL9, xL10, xL12, xL16, xL20, xL24, xL31, xL50, xL60, xL89, xL99, xL100, xL200, xI_add, xI_sub, xI_mul, xI_neg, xI_nat, xI_cl, Int.toNat_natCast, Int.reduceToNat, xltT, xltF, xleT, xleF, xeqT, xeqF, nleT, nleF, nltT, nltF, neqT, neqF, ileT, ileF, iltT, iltF, ieqT, ieqF, or_false, or_true, false_or, true_or, and_true, true_and, and_false, false_and, not_false_eq_true, not_true_eq_false, ↓reduceIte, if_true, if_false, o2]) ?_
              by_cases c1 : ((nA 1 (ud D).2.1 : Nat) : Int) = 0
              · rw [if_pos c1] at hy
                refine w_i (by simp (disch := omega) only [vin, mk_I, ml_I, mr_I, mk_R, ml_R, mi_R, mkN_eq, mlN_eq, miN_eq, mkN_ne, mlN_ne, miN_ne, mrN_ne, mi_eq, mi_na, mi_nj, mr_eq, mr_na, mr_nj, xL0, xL1, xL2, xL3, xL4, xL5, xL6, xL7, xL8, xL9, xL10, xL12, xL16, xL20, xL24, xL31, xL50, xL60, xL89, xL99, xL100, xL200, xI_add, xI_sub, xI_mul, xI_neg, xI_nat, xI_cl, Int.toNat_natCast, Int.reduceToNat, xltT, xltF, xleT, xleF, xeqT, xeqF, nleT, nleF, nltT, nltF, neqT, neqF, ileT, ileF, iltT, iltF, ieqT, ieqF, or_false, or_true, false_or, true_or, and_true, true_and, and_false, false_and, not_false_eq_true, not_true_eq_false, ↓reduceIte, if_true, if_false]) ?_
                exact hdec hnow 1 _ hy
              · rw [if_neg c1] at hy
                refine w_n (by simp (disch := omega) only [vin, mk_I, ml_I, mr_I, mk_R, ml_R, mi_R, mkN_eq, mlN_eq, miN_eq, mkN_ne, mlN_ne, miN_ne, mrN_ne, mi_eq, mi_na, mi_nj, mr_eq, mr_na, mr_nj, xL0, xL1, xL2, xL3, xL4, xL5, xL6, xL7, xL8, xL9, xL10, xL12, xL16, xL20, xL24, xL31, xL50, xL60, xL89, xL99, xL100, xL200, xI_add, xI_sub, xI_mul, xI_neg, xI_nat, xI_cl, Int.toNat_natCast, Int.reduceToNat, xltT, xltF, xleT, xleF, xeqT, xeqF, nleT, nleF, nltT, nltF, neqT, neqF, ileT, ileF, iltT, iltF, ieqT, ieqF, or_false, or_true, false_or, true_or, and_true, true_and, and_false, false_and, not_false_eq_true, not_true_eq_false, ↓reduceIte, if_true, if_false]) ?_
                exact hdec hnow 0 _ hy
      have hn1 : (D.2.2.2.1 4 - 1 ≤ 0 ∨ nA 0 (ud D).2.1 + nA 1 (ud D).2.1 = D.2.2.2.2.1.length) → a_now ((uz Z).2.2.1 k) := by
        intro g9
        rw [hDK]
        exact ⟨e1, by rw [hlen]; exact g9⟩
      by_cases e2 : D.2.2.2.1 4 - 1 ≤ 0
      · refine w_i (by simp (disch := omega) only [vin, mk_I, ml_I, mr_I, mk_R, ml_R, mi_R, mkN_eq, mlN_eq, miN_eq, mkN_ne, mlN_ne, miN_ne, mrN_ne, mi_eq, mi_na, mi_nj, mr_eq, mr_na, mr_nj, xL0, xL1, xL2, xL3, xL4, xL5, xL6, xL7, xL8, xL9, xL10, xL12, xL16, xL20, xL24, xL31, xL50, xL60, xL89, xL99, xL100, xL200, xI_add, xI_sub, xI_mul, xI_neg, xI_nat, xI_cl, Int.toNat_natCast, Int.reduceToNat, xltT, xltF, xleT, xleF, xeqT, xeqF, nleT, nleF, nltT, nltF, neqT, neqF, ileT, ileF, iltT, iltF, ieqT, ieqF, or_false, or_true, false_or, true_or, and_true, true_and, and_false, false_and, not_false_eq_true, not_true_eq_false, ↓reduceIte, if_true, if_false, o4]) ?_
        exact hrule (hn1 (.inl e2))
      · refine w_n (by simp (disch := omega) only [vin, mk_I, ml_I, mr_I, mk_R, ml_R, mi_R, mkN_eq, mlN_eq, miN_eq, mkN_ne, mlN_ne, miN_ne, mrN_ne, mi_eq, mi_na, mi_nj, mr_eq, mr_na, mr_nj, xL0, xL1, xL2, xL3, xL4, xL5, xL6, xL7, xL8, xL9, xL10, xL12, xL16, xL20, xL24, xL31, xL50, xL60, xL89, xL99, xL100, xL200, xI_add, xI_sub, xI_mul, xI_neg, xI_nat, xI_cl, Int.toNat_natCast, Int.reduceToNat, xltT, xltF, xleT, xleF, xeqT, xeqF, nleT, nleF, nltT, nltF, neqT, neqF, ileT, ileF, iltT, iltF, ieqT, ieqF, or_false, or_true, false_or, true_or, and_true, true_and, and_false, false_and, not_false_eq_true, not_true_eq_false, ↓reduceIte, if_true, if_false, o4]) ?_
        refine w_b ym ?_
        refine w_b oA ?_
        refine w_i oK ?_
        have hsum : nA 0 (ud D).2.1 + nA 1 (ud D).2.1 ≤ D.2.2.2.2.1.length := by
          rw [← hlen]
          have : ∀ l : List aR, nA 0 l + nA 1 l ≤ l.length := by
            intro l
            induction l with
            | nil => exact Nat.le_refl _
            | cons a l ih =>
              unfold nA at ih ⊢
              rw [List.countP_cons, List.countP_cons, List.length_cons]
              by_cases e0 : a 2 = 0
              · simp [e0]; omega
              · by_cases e1 : a 2 = 1
                · simp [e1]; omega
                · simp [e0, e1]; omega
          exact this _
        by_cases e3 : nA 0 (ud D).2.1 + nA 1 (ud D).2.1 = D.2.2.2.2.1.length
        · refine w_i (by simp (disch := omega) only [vin, mk_I, ml_I, mr_I, mk_R, ml_R, mi_R, mkN_eq, mlN_eq, miN_eq, mkN_ne, mlN_ne, miN_ne, mrN_ne, mi_eq, mi_na, mi_nj, mr_eq, mr_na, mr_nj, xL0, xL1, xL2, xL3, xL4, xL5, xL6, xL7, xL8, xL9, xL10, xL12, xL16, xL20, xL24, xL31, xL50, xL60, xL89, xL99, xL100, xL200, xI_add, xI_sub, xI_mul, xI_neg, xI_nat, xI_cl, Int.toNat_natCast, Int.reduceToNat, xltT, xltF, xleT, xleF, xeqT, xeqF, nleT, nleF, nltT, nltF, neqT, neqF, ileT, ileF, iltT, iltF, ieqT, ieqF, or_false, or_true, false_or, true_or, and_true, true_and, and_false, false_and, not_false_eq_true, not_true_eq_false, ↓reduceIte, if_true, if_false, oL]) ?_
          exact hrule (hn1 (.inr e3))
        · refine w_n (by simp (disch := omega) only [vin, mk_I, ml_I, mr_I, mk_R, ml_R, mi_R, mkN_eq, mlN_eq, miN_eq, mkN_ne, mlN_ne, miN_ne, mrN_ne, mi_eq, mi_na, mi_nj, mr_eq, mr_na, mr_nj, xL0, xL1, xL2, xL3, xL4, xL5, xL6, xL7, xL8, xL9, xL10, xL12, xL16, xL20, xL24, xL31, xL50, xL60, xL89, xL99, xL100, xL200, xI_add, xI_sub, xI_mul, xI_neg, xI_nat, xI_cl, Int.toNat_natCast, Int.reduceToNat, xltT, xltF, xleT, xleF, xeqT, xeqF, nleT, nleF, nltT, nltF, neqT, neqF, ileT, ileF, iltT, iltF, ieqT, ieqF, or_false, or_true, false_or, true_or, and_true, true_and, and_false, false_and, not_false_eq_true, not_true_eq_false, ↓reduceIte, if_true, if_false, oL]) ?_
          have hno : ¬ a_now ((uz Z).2.2.1 k) := by
            rw [hDK]
            rintro ⟨_, g9 | g9⟩
            · exact e2 g9
            · rw [hlen] at g9; exact e3 g9
          have hdk2 : uz (zset Z k (D.1, D.2.1, D.2.2.1, fu D.2.2.2.1 4 (D.2.2.2.1 4 - 1), D.2.2.2.2)) = a_dk (uz Z) k := by
            rw [uz_set]
            unfold a_dk
            rw [if_neg hno, hDK, if_pos (by exact e1)]
            rfl
          have hup : a_up (uz Z) k = 0 := by unfold a_up; rw [if_neg hno]
          have h9 := ih (k + 1) N m1 _ kc ks _ cnt r2 r3 i6 (by show k + 1 + r = Z.1; omega) hZ1 (by rw [hdk2]; exact hI2) hN (by omega) (by omega) g (by omega)
          rw [ek]
          refine w_m h9 ?_
          rintro ⟨zc, N3, m3⟩ ⟨j1, Z3, j2, j3, j4, j5, j6⟩
          rw [hdk2] at j1 j3
          refine ⟨by rw [j1, hup, Int.zero_add], Z3, j2, j3, zk_trans (zk_set (by rw [hDg])) j4, j5, fM_trans fa j6 (Nat.le_refl _) (fun x hx hy => tX_fM fa hx hy)⟩
    · refine w_n (by simp (disch := omega) only [vin, mk_I, ml_I, mr_I, mk_R, ml_R, mi_R, mkN_eq, mlN_eq, miN_eq, mkN_ne, mlN_ne, miN_ne, mrN_ne, mi_eq, mi_na, mi_nj, mr_eq, mr_na, mr_nj, xL0, xL1, xL2, xL3, xL4, xL5, xL6, xL7, xL8, xL9, xL10, xL12, xL16, xL20, xL24, xL31, xL50, xL60, xL89, xL99, xL100, xL200, xI_add, xI_sub, xI_mul, xI_neg, xI_nat, xI_cl, Int.toNat_natCast, Int.reduceToNat, xltT, xltF, xleT, xleF, xeqT, xeqF, nleT, nleF, nltT, nltF, neqT, neqF, ileT, ileF, iltT, iltF, ieqT, ieqF, or_false, or_true, false_or, true_or, and_true, true_and, and_false, false_and, not_false_eq_true, not_true_eq_false, ↓reduceIte, if_true, if_false, p3]) ?_
      have hno : ¬ a_now ((uz Z).2.2.1 k) := by
        rw [hDK]
        exact fun g9 => e1 g9.1
      have hdk2 : a_dk (uz Z) k = uz Z := by
        unfold a_dk
        rw [if_neg hno, hDK, if_neg (by exact e1)]
      have hup : a_up (uz Z) k = 0 := by unfold a_up; rw [if_neg hno]
      rw [ek, hdk2, hup, Int.zero_add]
      rw [hdk2] at hI2
      exact ih (k + 1) N m Z kc ks _ cnt r2 r3 i6 (by omega) h hI2 hN (by omega) (by omega) g (by omega)
end
