section
variable {m m' : vM} {N N' s k : Nat} {X : Nat → Prop} {D : zD} {Z : zS} {v : Int}
theorem set_set {T : aS} {d d' : aD} : a_set (a_set T k d') k d = a_set T k d := by
  unfold a_set
  simp only
  congr 3
  funext x
  by_cases e : x = k
  · subst e; simp [du]
  · simp [du, e]
theorem send_set {T : aS} {d : aD} {f t w l : Int} : a_set (a_send T f t w l) k d = a_send (a_set T k d) f t w l := by
  unfold a_send a_set
  by_cases e : T.2.2.2.length < 60
  · rw [if_pos e, if_pos (by exact e)]
  · rw [if_neg e, if_neg (by exact e)]
theorem fM_tX {Y : Nat → Prop} (h : fM N X m m') (hx : ∀ x, x < N → Y x → tX m' x) : ∀ x, x < N → Y x → tX m x := by
  intro x hxN hy
  have := hx x hxN hy
  unfold tX at this ⊢
  rw [fM_k h hxN, fM_l h hxN] at this
  exact this
theorem tX_fM (h : fM N X m m') {x : Nat} (hx : x < N) (g : tX m' x) : tX m x := by
  unfold tX at g ⊢
  rw [fM_k h hx, fM_l h hx] at g
  exact g
/-- what a door remembers is another row of rows -/
theorem dR_keep {K : Nat} {kz : List (Nat × aR)} (h : dR N m D) (f : fM N (fun x => x = D.1) m m') (hN : N ≤ N') (h1 : ∀ j, mi m' D.1 j = mi m D.1 j) (h2 : mr m' D.1 5 = mr m D.1 5) (h3 : mr m' D.1 6 = some K) (h4 : a8 N' m' K kz) (h5 : ∀ z ∈ kz, ro N' m' 2 z) : dR N' m' (D.1, D.2.1, K, D.2.2.2.1, D.2.2.2.2.1, kz) := by
  obtain ⟨⟨a1, a2, a3, a4, a5⟩, ⟨b1, b2, b3⟩, ⟨c1, c2⟩, d1, d2⟩ := h
  have n8 : ∀ x, mk m x = 8 → ¬ x = D.1 := fun x hx e => by rw [e, a3] at hx; omega
  have n6 : ∀ x, mk m x = 6 → ¬ x = D.1 := fun x hx e => by rw [e, a3] at hx; omega
  exact ⟨⟨a1, by show D.1 < N'; omega, by show mk m' D.1 = 4; rw [fM_k f a2]; exact a3, by show mr m' D.1 5 = _; rw [h2]; exact a4, h3⟩, ⟨fun j hj => by show mi m' D.1 j = _; rw [h1]; exact b1 j hj, by show mi m' D.1 7 = _; rw [h1]; exact b2, by show mi m' D.1 8 = _; rw [h1]; exact b3⟩, ⟨a8_fr c1 f hN (n8 _ c1.2.1), fun z hz => ro_fr (c2 z hz) f hN (n6 _ (c2 z hz).2.1)⟩, h4, h5⟩
theorem S_zturn {i : Int} (h : dR N m D) (hi : i = 0 ∨ i = 1) : wq (f_X5_turn m s D.1 (xI i)) (fun z => dR N z (D.1, D.2.1, D.2.2.1, a_turn D.2.2.2.1 i, D.2.2.2.2) ∧ fM N (fun x => x = D.1) m z) := by
  have h4 := h.1.2.2.1
  have f7 := h.2.1.2.1
  have f8 := h.2.1.2.2
  unfold f_X5_turn
  rcases hi with e | e
  · subst e
    repeat first | (refine w_i ?_ ?_; · (simp (disch := omega) only [vin, mk_I, ml_I, mr_I, mk_R, ml_R, mi_R, mkN_eq, mlN_eq, miN_eq, mkN_ne, mlN_ne, miN_ne, mrN_ne, mi_eq, mi_na, mi_nj, mr_eq, mr_na, mr_nj, xL0, xL1, xL2, xL3, xL4, xL5, xL6, xL7, xL8, xL9, xL10, xL12, xL16, xL20, xL24, xL31, xL50, xL60, xL89, xL99, xL100, xL200, xI_add, xI_sub, xI_mul, xI_neg, xI_nat, xI_cl, Int.toNat_natCast, Int.reduceToNat, xltT, xltF, xleT, xleF, xeqT, xeqF, nleT, nleF, nltT, nltF, neqT, neqF, ileT, ileF, iltT, iltF, ieqT, ieqF, or_false, or_true, false_or, true_or, and_true, true_and, and_false, false_and, not_false_eq_true, not_true_eq_false, ↓reduceIte, if_true, if_false, h4])) | (refine w_n ?_ ?_; · (simp (disch := omega) only [vin, mk_I, ml_I, mr_I, mk_R, ml_R, mi_R, mkN_eq, mlN_eq, miN_eq, mkN_ne, mlN_ne, miN_ne, mrN_ne, mi_eq, mi_na, mi_nj, mr_eq, mr_na, mr_nj, xL0, xL1, xL2, xL3, xL4, xL5, xL6, xL7, xL8, xL9, xL10, xL12, xL16, xL20, xL24, xL31, xL50, xL60, xL89, xL99, xL100, xL200, xI_add, xI_sub, xI_mul, xI_neg, xI_nat, xI_cl, Int.toNat_natCast, Int.reduceToNat, xltT, xltF, xleT, xleF, xeqT, xeqF, nleT, nleF, nltT, nltF, neqT, neqF, ileT, ileF, iltT, iltF, ieqT, ieqF, or_false, or_true, false_or, true_or, and_true, true_and, and_false, false_and, not_false_eq_true, not_true_eq_false, ↓reduceIte, if_true, if_false, h4]))
    simp (disch := omega) only [vin, mk_I, ml_I, mr_I, mk_R, ml_R, mi_R, mkN_eq, mlN_eq, miN_eq, mkN_ne, mlN_ne, miN_ne, mrN_ne, mi_eq, mi_na, mi_nj, mr_eq, mr_na, mr_nj, xL0, xL1, xL2, xL3, xL4, xL5, xL6, xL7, xL8, xL9, xL10, xL12, xL16, xL20, xL24, xL31, xL50, xL60, xL89, xL99, xL100, xL200, xI_add, xI_sub, xI_mul, xI_neg, xI_nat, xI_cl, Int.toNat_natCast, Int.reduceToNat, xltT, xltF, xleT, xleF, xeqT, xeqF, nleT, nleF, nltT, nltF, neqT, neqF, ileT, ileF, iltT, iltF, ieqT, ieqF, or_false, or_true, false_or, true_or, and_true, true_and, and_false, false_and, not_false_eq_true, not_true_eq_false, ↓reduceIte, if_true, if_false, f7, f8]
    refine w_s ⟨?_, fM_trans (fM_trans (fM_trans (fM_I rfl) (fM_I (X := fun x => x = D.1) rfl) (Nat.le_refl _) (fun _ _ h => h)) (fM_I (X := fun x => x = D.1) rfl) (Nat.le_refl _) (fun _ _ h => h)) (fM_I (X := fun x => x = D.1) rfl) (Nat.le_refl _) (fun _ _ h => h)⟩
    have h9 := dR_I8 (v := D.2.2.2.1 6 + 1) (dR_I7 (v := D.2.2.2.1 5 + 0) (dR_I (v := 4) (dR_I (v := 3) h (show 3 < 5 by omega)) (show 4 < 5 by omega)))
    refine dR_ext (D := (D.1, D.2.1, D.2.2.1, fu (fu (fu (fu D.2.2.2.1 3 3) 4 4) 5 (D.2.2.2.1 5 + 0)) 6 (D.2.2.2.1 6 + 1), D.2.2.2.2)) h9 (fun j hj => ?_)
    show a_turn D.2.2.2.1 0 j = fu (fu (fu (fu D.2.2.2.1 3 3) 4 4) 5 (D.2.2.2.1 5 + 0)) 6 (D.2.2.2.1 6 + 1) j
    unfold a_turn
    rw [if_neg (by decide)]
    have hj2 : j = 0 ∨ j = 1 ∨ j = 2 ∨ j = 3 ∨ j = 4 ∨ j = 5 ∨ j = 6 := by omega
    rcases hj2 with g | g | g | g | g | g | g <;> subst g <;> simp [fu]
  · subst e
    repeat first | (refine w_i ?_ ?_; · (simp (disch := omega) only [vin, mk_I, ml_I, mr_I, mk_R, ml_R, mi_R, mkN_eq, mlN_eq, miN_eq, mkN_ne, mlN_ne, miN_ne, mrN_ne, mi_eq, mi_na, mi_nj, mr_eq, mr_na, mr_nj, xL0, xL1, xL2, xL3, xL4, xL5, xL6, xL7, xL8, xL9, xL10, xL12, xL16, xL20, xL24, xL31, xL50, xL60, xL89, xL99, xL100, xL200, xI_add, xI_sub, xI_mul, xI_neg, xI_nat, xI_cl, Int.toNat_natCast, Int.reduceToNat, xltT, xltF, xleT, xleF, xeqT, xeqF, nleT, nleF, nltT, nltF, neqT, neqF, ileT, ileF, iltT, iltF, ieqT, ieqF, or_false, or_true, false_or, true_or, and_true, true_and, and_false, false_and, not_false_eq_true, not_true_eq_false, ↓reduceIte, if_true, if_false, h4])) | (refine w_n ?_ ?_; · (simp (disch := omega) only [vin, mk_I, ml_I, mr_I, mk_R, ml_R, mi_R, mkN_eq, mlN_eq, miN_eq, mkN_ne, mlN_ne, miN_ne, mrN_ne, mi_eq, mi_na, mi_nj, mr_eq, mr_na, mr_nj, xL0, xL1, xL2, xL3, xL4, xL5, xL6, xL7, xL8, xL9, xL10, xL12, xL16, xL20, xL24, xL31, xL50, xL60, xL89, xL99, xL100, xL200, xI_add, xI_sub, xI_mul, xI_neg, xI_nat, xI_cl, Int.toNat_natCast, Int.reduceToNat, xltT, xltF, xleT, xleF, xeqT, xeqF, nleT, nleF, nltT, nltF, neqT, neqF, ileT, ileF, iltT, iltF, ieqT, ieqF, or_false, or_true, false_or, true_or, and_true, true_and, and_false, false_and, not_false_eq_true, not_true_eq_false, ↓reduceIte, if_true, if_false, h4]))
    simp (disch := omega) only [vin, mk_I, ml_I, mr_I, mk_R, ml_R, mi_R, mkN_eq, mlN_eq, miN_eq, mkN_ne, mlN_ne, miN_ne, mrN_ne, mi_eq, mi_na, mi_nj, mr_eq, mr_na, mr_nj, xL0, xL1, xL2, xL3, xL4, xL5, xL6, xL7, xL8, xL9, xL10, xL12, xL16, xL20, xL24, xL31, xL50, xL60, xL89, xL99, xL100, xL200, xI_add, xI_sub, xI_mul, xI_neg, xI_nat, xI_cl, Int.toNat_natCast, Int.reduceToNat, xltT, xltF, xleT, xleF, xeqT, xeqF, nleT, nleF, nltT, nltF, neqT, neqF, ileT, ileF, iltT, iltF, ieqT, ieqF, or_false, or_true, false_or, true_or, and_true, true_and, and_false, false_and, not_false_eq_true, not_true_eq_false, ↓reduceIte, if_true, if_false, f7, f8]
    refine w_s ⟨?_, fM_trans (fM_trans (fM_trans (fM_I rfl) (fM_I (X := fun x => x = D.1) rfl) (Nat.le_refl _) (fun _ _ h => h)) (fM_I (X := fun x => x = D.1) rfl) (Nat.le_refl _) (fun _ _ h => h)) (fM_I (X := fun x => x = D.1) rfl) (Nat.le_refl _) (fun _ _ h => h)⟩
    have h9 := dR_I8 (v := D.2.2.2.1 6 + 0) (dR_I7 (v := D.2.2.2.1 5 + 1) (dR_I (v := 12) (dR_I (v := 2) h (show 3 < 5 by omega)) (show 4 < 5 by omega)))
    refine dR_ext (D := (D.1, D.2.1, D.2.2.1, fu (fu (fu (fu D.2.2.2.1 3 2) 4 12) 5 (D.2.2.2.1 5 + 1)) 6 (D.2.2.2.1 6 + 0), D.2.2.2.2)) h9 (fun j hj => ?_)
    show a_turn D.2.2.2.1 1 j = fu (fu (fu (fu D.2.2.2.1 3 2) 4 12) 5 (D.2.2.2.1 5 + 1)) 6 (D.2.2.2.1 6 + 0) j
    unfold a_turn
    rw [if_pos rfl]
    have hj2 : j = 0 ∨ j = 1 ∨ j = 2 ∨ j = 3 ∨ j = 4 ∨ j = 5 ∨ j = 6 := by omega
    rcases hj2 with g | g | g | g | g | g | g <;> subst g <;> simp [fu]
def g8 (z : Nat × aR) : Nat × aR := (z.1, fu z.2 2 (-1))
theorem L_zwake {q A K0 n : Nat} {f0 : aR} (hk : k < n) (hn : n ≤ 10) : ∀ (l2 l1 : List (Nat × aR)) (N : Nat) (m : vM) (Z : zS) (kc ks : Nat), ZR N m s Z → Z.1 = n → Z.2.2.2.2.1 k = (q, A, K0, f0, l1 ++ l2, []) → 149 ≤ N → Z.2.2.2.2.2.length ≤ 60 → l1.length + l2.length ≤ 4 → kc + 2 * l2.length ≤ 9 → ks + 71 * l2.length ≤ 284 → ∀ f, l2.length < f → wq (fL_X5_wake f 40 N m kc ks s (xI (k : Nat)) q A (xI ((l1.length + l2.length : Nat) : Int)) (xI (l1.length : Nat))) (fun z => ∃ Z', ZR z.1 z.2 s Z' ∧ zk Z Z' ∧ (∀ j, j ≠ k → Z'.2.2.2.2.1 j = Z.2.2.2.2.1 j) ∧ Z'.2.2.2.2.1 k = (q, A, K0, f0, l1 ++ l2.map g8, []) ∧ (∀ d, a_set (uz Z') k d = a_asks (a_set (uz Z) k d) k (l2.map Prod.snd)) ∧ N ≤ z.1 ∧ fM N (tX m) m z.2) := by
  intro l2
  induction l2 with
  | nil =>
    intro l1 N m Z kc ks h hn1 hD hN hv hl hc1 hc2 f hf
    obtain ⟨g, rfl⟩ : ∃ g, f = g + 1 := ⟨f - 1, by simp at hf; omega⟩
    show wq (fB_X5_wake_40 (fL_X5_wake g) N m kc ks s (xI (k : Nat)) q A _ _) _
    unfold fB_X5_wake_40
    refine w_i (by simp (disch := omega) only [vin, mk_I, ml_I, mr_I, mk_R, ml_R, mi_R, mkN_eq, mlN_eq, miN_eq, mkN_ne, mlN_ne, miN_ne, mrN_ne, mi_eq, mi_na, mi_nj, mr_eq, mr_na, mr_nj, xL0, xL1, xL2, xL3, xL4, xL5, xL6, xL7, xL8, xL9, xL10, xL12, xL16, xL20, xL24, xL31, xL50, xL60, xL89, xL99, xL100, xL200, xI_add, xI_sub, xI_mul, xI_neg, xI_nat, xI_cl, Int.toNat_natCast, Int.reduceToNat, xltT, xltF, xleT, xleF, xeqT, xeqF, nleT, nleF, nltT, nltF, neqT, neqF, ileT, ileF, iltT, iltF, ieqT, ieqF, or_false, or_true, false_or, true_or, and_true, true_and, and_false, false_and, not_false_eq_true, not_true_eq_false, ↓reduceIte, if_true, if_false, List.length_nil, Nat.add_zero]) ?_
    exact w_s ⟨Z, h, zk_rfl, fun _ _ => rfl, by rw [hD]; simp, fun _ => rfl, Nat.le_refl _, fM_rfl⟩
  | cons z l2 ih =>
    intro l1 N m Z kc ks h hn1 hD hN hv hl hc1 hc2 f hf
    rw [List.length_cons] at hl hc1 hc2 hf
    obtain ⟨g, rfl⟩ : ∃ g, f = g + 1 := ⟨f - 1, by omega⟩
    have hdk := h.2.1 k (by omega)
    have hsp := h.2.2.2.2.1 k (by omega)
    rw [hD] at hdk hsp
    obtain ⟨cN, c8, cl, cr⟩ := hdk.2.2.1.1
    have hro := hdk.2.2.1.2 z (by simp)
    obtain ⟨⟨z1, z2⟩, z3, z4, z5⟩ := hro
    have hrz : mr m A (xI (l1.length : Nat)).toNatClampNeg = some z.1 := by
      rw [← cr l1.length z (by show (l1 ++ z :: l2)[l1.length]? = some z; rw [List.getElem?_append_right (Nat.le_refl _), Nat.sub_self]; rfl)]
      simp (disch := omega) only [vin, mk_I, ml_I, mr_I, mk_R, ml_R, mi_R, mkN_eq, mlN_eq, miN_eq, mkN_ne, mlN_ne, miN_ne, mrN_ne, mi_eq, mi_na, mi_nj, mr_eq, mr_na, mr_nj, xL0, xL1, xL2, xL3, xL4, xL5, xL6, xL7, xL8, xL9, xL10, xL12, xL16, xL20, xL24, xL31, xL50, xL60, xL89, xL99, xL100, xL200, xI_add, xI_sub, xI_mul, xI_neg, xI_nat, xI_cl, Int.toNat_natCast, Int.reduceToNat, xltT, xltF, xleT, xleF, xeqT, xeqF, nleT, nleF, nltT, nltF, neqT, neqF, ileT, ileF, iltT, iltF, ieqT, ieqF, or_false, or_true, false_or, true_or, and_true, true_and, and_false, false_and, not_false_eq_true, not_true_eq_false, ↓reduceIte, if_true, if_false]
    have hl8 : ml m A = l1.length + (l2.length + 1) := by rw [cl]; show (l1 ++ z :: l2).length = _; rw [List.length_append, List.length_cons]
    have hs5 := h.1.1.2.2.1
    have hzs : s ≠ z.1 := fun e => by rw [e, z3] at hs5; omega
    show wq (fB_X5_wake_40 (fL_X5_wake g) N m kc ks s (xI (k : Nat)) q A _ _) _
    unfold fB_X5_wake_40
    refine w_n (by simp (disch := omega) only [vin, mk_I, ml_I, mr_I, mk_R, ml_R, mi_R, mkN_eq, mlN_eq, miN_eq, mkN_ne, mlN_ne, miN_ne, mrN_ne, mi_eq, mi_na, mi_nj, mr_eq, mr_na, mr_nj, xL0, xL1, xL2, xL3, xL4, xL5, xL6, xL7, xL8, xL9, xL10, xL12, xL16, xL20, xL24, xL31, xL50, xL60, xL89, xL99, xL100, xL200, xI_add, xI_sub, xI_mul, xI_neg, xI_nat, xI_cl, Int.toNat_natCast, Int.reduceToNat, xltT, xltF, xleT, xleF, xeqT, xeqF, nleT, nleF, nltT, nltF, neqT, neqF, ileT, ileF, iltT, iltF, ieqT, ieqF, or_false, or_true, false_or, true_or, and_true, true_and, and_false, false_and, not_false_eq_true, not_true_eq_false, ↓reduceIte, if_true, if_false, List.length_cons]) ?_
    refine w_i c8 ?_
    refine w_i (by simp (disch := omega) only [vin, mk_I, ml_I, mr_I, mk_R, ml_R, mi_R, mkN_eq, mlN_eq, miN_eq, mkN_ne, mlN_ne, miN_ne, mrN_ne, mi_eq, mi_na, mi_nj, mr_eq, mr_na, mr_nj, xL0, xL1, xL2, xL3, xL4, xL5, xL6, xL7, xL8, xL9, xL10, xL12, xL16, xL20, xL24, xL31, xL50, xL60, xL89, xL99, xL100, xL200, xI_add, xI_sub, xI_mul, xI_neg, xI_nat, xI_cl, Int.toNat_natCast, Int.reduceToNat, xltT, xltF, xleT, xleF, xeqT, xeqF, nleT, nleF, nltT, nltF, neqT, neqF, ileT, ileF, iltT, iltF, ieqT, ieqF, or_false, or_true, false_or, true_or, and_true, true_and, and_false, false_and, not_false_eq_true, not_true_eq_false, ↓reduceIte, if_true, if_false, hl8]) ?_
    refine w_b hrz ?_
    refine w_i z3 ?_
    refine w_i (by simp (disch := omega) only [vin, mk_I, ml_I, mr_I, mk_R, ml_R, mi_R, mkN_eq, mlN_eq, miN_eq, mkN_ne, mlN_ne, miN_ne, mrN_ne, mi_eq, mi_na, mi_nj, mr_eq, mr_na, mr_nj, xL0, xL1, xL2, xL3, xL4, xL5, xL6, xL7, xL8, xL9, xL10, xL12, xL16, xL20, xL24, xL31, xL50, xL60, xL89, xL99, xL100, xL200, xI_add, xI_sub, xI_mul, xI_neg, xI_nat, xI_cl, Int.toNat_natCast, Int.reduceToNat, xltT, xltF, xleT, xleF, xeqT, xeqF, nleT, nleF, nltT, nltF, neqT, neqF, ileT, ileF, iltT, iltF, ieqT, ieqF, or_false, or_true, false_or, true_or, and_true, true_and, and_false, false_and, not_false_eq_true, not_true_eq_false, ↓reduceIte, if_true, if_false, z4]) ?_
    refine w_i (by simp (disch := omega) only [vin, mk_I, ml_I, mr_I, mk_R, ml_R, mi_R, mkN_eq, mlN_eq, miN_eq, mkN_ne, mlN_ne, miN_ne, mrN_ne, mi_eq, mi_na, mi_nj, mr_eq, mr_na, mr_nj, xL0, xL1, xL2, xL3, xL4, xL5, xL6, xL7, xL8, xL9, xL10, xL12, xL16, xL20, xL24, xL31, xL50, xL60, xL89, xL99, xL100, xL200, xI_add, xI_sub, xI_mul, xI_neg, xI_nat, xI_cl, Int.toNat_natCast, Int.reduceToNat, xltT, xltF, xleT, xleF, xeqT, xeqF, nleT, nleF, nltT, nltF, neqT, neqF, ileT, ileF, iltT, iltF, ieqT, ieqF, or_false, or_true, false_or, true_or, and_true, true_and, and_false, false_and, not_false_eq_true, not_true_eq_false, ↓reduceIte, if_true, if_false, z4]) ?_
    refine w_i (by simp (disch := omega) only [vin, mk_I, ml_I, mr_I, mk_R, ml_R, mi_R, mkN_eq, mlN_eq, miN_eq, mkN_ne, mlN_ne, miN_ne, mrN_ne, mi_eq, mi_na, mi_nj, mr_eq, mr_na, mr_nj, xL0, xL1, xL2, xL3, xL4, xL5, xL6, xL7, xL8, xL9, xL10, xL12, xL16, xL20, xL24, xL31, xL50, xL60, xL89, xL99, xL100, xL200, xI_add, xI_sub, xI_mul, xI_neg, xI_nat, xI_cl, Int.toNat_natCast, Int.reduceToNat, xltT, xltF, xleT, xleF, xeqT, xeqF, nleT, nleF, nltT, nltF, neqT, neqF, ileT, ileF, iltT, iltF, ieqT, ieqF, or_false, or_true, false_or, true_or, and_true, true_and, and_false, false_and, not_false_eq_true, not_true_eq_false, ↓reduceIte, if_true, if_false, z4]) ?_
    refine w_i hs5 ?_
    have hd1 := dR_row (v := -1) (r := 2) hdk (z := z) (l1 := l1) (l2 := l2) rfl hsp
    have hf1 : fM N (fun x => x = z.1) m (mI m z.1 2 (xI (-1))) := fM_I rfl
    have hZ1 : ZR N (mI m z.1 2 (xI (-1))) s (zset Z k (q, A, K0, f0, l1 ++ g8 z :: l2, [])) := by
      refine ZR_set h (by omega) hf1 (Nat.le_refl _) hd1 (by rw [hD]) ?_ (fun w hw => ?_) (fun x _ hx => ?_)
      · show (l1 ++ g8 z :: l2).Pairwise _
        have e9 : (l1 ++ g8 z :: l2).map Prod.fst = (l1 ++ z :: l2).map Prod.fst := by simp [g8]
        have h9 : ((l1 ++ z :: l2).map Prod.fst).Pairwise (fun a b => a ≠ b) := by rw [List.pairwise_map]; exact hsp
        rw [← e9, List.pairwise_map] at h9; exact h9
      · rw [hD]
        have hw : w ∈ l1 ++ g8 z :: l2 := hw
        refine .inl ?_
        rcases List.mem_append.mp hw with e | e
        · exact ⟨w, List.mem_append.mpr (.inl e), rfl⟩
        · rcases List.mem_cons.mp e with e | e
          · exact ⟨z, by simp, by rw [e]; rfl⟩
          · exact ⟨w, List.mem_append.mpr (.inr (List.mem_cons_of_mem _ e)), rfl⟩
      · rw [hD]; exact .inr ⟨z, by simp, hx⟩
    have hsend := S_zsend (f := k) (t := z.2 0) (w := 0) (l := z.2 1) hZ1 hN hv
    refine w_c (w_r (by rw [mi_nj (by omega), mi_nj (by omega), z5 0 (by omega), z5 1 (by omega)]; rfl) hsend) ?_
    rintro ⟨N1, m1⟩ ⟨Z2, k1, k2, k3, k4, k5, k6⟩
    dsimp only at k1 k5 k6 ⊢
    refine w_i (by omega) ?_
    refine w_i (by omega) ?_
    have hlen2 : Z2.2.2.2.2.2.length ≤ 60 := by
      have e1 : (uz Z2).2.2.2.length = Z2.2.2.2.2.2.length := by unfold uz; rw [List.length_map]
      rw [← e1, k2]
      refine send_len ?_
      show (Z.2.2.2.2.2.map Prod.snd).length ≤ 60
      rw [List.length_map]; exact hv
    have hD2 : Z2.2.2.2.2.1 k = (q, A, K0, f0, (l1 ++ [g8 z]) ++ l2, []) := by
      rw [k4, zset_eq]; simp
    have h9 := ih (l1 ++ [g8 z]) N1 m1 Z2 (kc + 2) (ks + 71) k1 (k3.1.trans hn1) hD2 (by omega) hlen2 (by rw [List.length_append]; simp; omega) (by omega) (by omega) g (by omega)
    refine w_r ?_ (w_m h9 ?_)
    · have e1 : ((l1 ++ [g8 z]).length + l2.length : Nat) = l1.length + (z :: l2).length := by rw [List.length_append, List.length_cons]; simp; omega
      have e2 : (l1 ++ [g8 z]).length = l1.length + 1 := by rw [List.length_append]; rfl
      rw [e1, e2, xL1, xI_add]; rfl
    · rintro ⟨N3, m3⟩ ⟨Z3, j1, j2, j3, j4, j5, j6, j7⟩
      dsimp only at j1 j6 j7 ⊢
      refine ⟨Z3, j1, zk_trans (zk_trans (zk_set (by rw [hD])) k3) j2, fun j hj => ?_, ?_, fun d => ?_, by omega, ?_⟩
      · rw [j3 j hj, k4, zset_ne hj]
      · rw [j4]; simp
      · rw [j5 d, k2, uz_set, send_set, set_set]; rfl
      · have fa : fM N (tX m) m (mI m z.1 2 (xI (-1))) := fM_w hf1 (fun x _ hx => by rw [hx]; exact ⟨z1, .inr (.inr ⟨z3, z4⟩)⟩)
        have fb : fM N (tX m) m m1 := fM_trans fa k6 (Nat.le_refl _) (fun x _ hx => by rw [hx]; exact ⟨h.1.1.1, .inr (.inl hs5)⟩)
        exact fM_trans fb j7 k5 (fun x hx hy => tX_fM fb hx hy)
theorem S_zwake (h : ZR N m s Z) (hN : 149 ≤ N) (hn : Z.1 ≤ 10) (hk : k < Z.1) (hv : Z.2.2.2.2.2.length ≤ 60) (ha : (Z.2.2.2.2.1 k).2.2.2.2.1.length ≤ 4) : wq (f_X5_wake N m s (xI (k : Nat))) (fun z => ∃ Z', ZR z.1 z.2 s Z' ∧ uz Z' = a_wake (uz Z) k ∧ zk Z Z' ∧ N ≤ z.1 ∧ fM N (tX m) m z.2) := by
  obtain ⟨⟨⟨a1, a2, a3, a4, a5, a6, a7⟩, ⟨b1, b2, b3, b4, b5⟩⟩, c, d, e⟩ := h
  have h : ZR N m s Z := ⟨⟨⟨a1, a2, a3, a4, a5, a6, a7⟩, ⟨b1, b2, b3, b4, b5⟩⟩, c, d, e⟩
  have hdk := c k hk
  generalize hDg : Z.2.2.2.2.1 k = D at hdk ha
  obtain ⟨q1, q2, q3, q4, q5⟩ := hdk.1
  have hrk : mr m Z.2.2.1 (xI (k : Nat)).toNatClampNeg = some D.1 := by rw [← hDg, ← b5 k hk]; simp (disch := omega) only [vin, mk_I, ml_I, mr_I, mk_R, ml_R, mi_R, mkN_eq, mlN_eq, miN_eq, mkN_ne, mlN_ne, miN_ne, mrN_ne, mi_eq, mi_na, mi_nj, mr_eq, mr_na, mr_nj, xL0, xL1, xL2, xL3, xL4, xL5, xL6, xL7, xL8, xL9, xL10, xL12, xL16, xL20, xL24, xL31, xL50, xL60, xL89, xL99, xL100, xL200, xI_add, xI_sub, xI_mul, xI_neg, xI_nat, xI_cl, Int.toNat_natCast, Int.reduceToNat, xltT, xltF, xleT, xleF, xeqT, xeqF, nleT, nleF, nltT, nltF, neqT, neqF, ileT, ileF, iltT, iltF, ieqT, ieqF, or_false, or_true, false_or, true_or, and_true, true_and, and_false, false_and, not_false_eq_true, not_true_eq_false, ↓reduceIte, if_true, if_false]
  have hN1 : D.1 ≠ N := by omega
  have hd2 := dR_I (v := D.2.2.2.1 1) (dR_I (v := 1) hdk (show 3 < 5 by omega)) (show 4 < 5 by omega)
  have p1 : mi m D.1 1 = xI (D.2.2.2.1 1) := hdk.2.1.1 1 (by omega)
  have A8 := hdk.2.2.1.1
  unfold f_X5_wake
  refine w_i a3 ?_
  refine w_b a4 ?_
  refine w_i b3 ?_
  refine w_i (by simp (disch := omega) only [vin, mk_I, ml_I, mr_I, mk_R, ml_R, mi_R, mkN_eq, mlN_eq, miN_eq, mkN_ne, mlN_ne, miN_ne, mrN_ne, mi_eq, mi_na, mi_nj, mr_eq, mr_na, mr_nj, xL0, xL1, xL2, xL3, xL4, xL5, xL6, xL7, xL8, xL9, xL10, xL12, xL16, xL20, xL24, xL31, xL50, xL60, xL89, xL99, xL100, xL200, xI_add, xI_sub, xI_mul, xI_neg, xI_nat, xI_cl, Int.toNat_natCast, Int.reduceToNat, xltT, xltF, xleT, xleF, xeqT, xeqF, nleT, nleF, nltT, nltF, neqT, neqF, ileT, ileF, iltT, iltF, ieqT, ieqF, or_false, or_true, false_or, true_or, and_true, true_and, and_false, false_and, not_false_eq_true, not_true_eq_false, ↓reduceIte, if_true, if_false, b4]) ?_
  refine w_b hrk ?_
  refine w_i q3 ?_
  rw [show mi (mI m D.1 3 1) D.1 1 = xI (D.2.2.2.1 1) by rw [mi_nj (by omega)]; exact p1]
  generalize hm0 : mR (mN (mI (mI m D.1 3 1) D.1 4 (xI (D.2.2.2.1 1))) N 8 0) D.1 6 (some N) = m0
  have f0 : fM N (fun x => x = D.1) m m0 := by
    rw [← hm0]
    exact fM_trans (fM_trans (fM_trans (fM_I rfl) (fM_I (X := fun x => x = D.1) rfl) (Nat.le_refl _) (fun _ _ h => h)) (fM_N (X := fun x => x = D.1) (Nat.le_refl _)) (Nat.le_refl _) (fun _ _ h => h)) (fM_R (X := fun x => x = D.1) rfl) (Nat.le_refl _) (fun _ _ h => h)
  have hr5 : mr m0 D.1 5 = some D.2.1 := by rw [← hm0]; simp (disch := omega) only [vin, mk_I, ml_I, mr_I, mk_R, ml_R, mi_R, mkN_eq, mlN_eq, miN_eq, mkN_ne, mlN_ne, miN_ne, mrN_ne, mi_eq, mi_na, mi_nj, mr_eq, mr_na, mr_nj, xL0, xL1, xL2, xL3, xL4, xL5, xL6, xL7, xL8, xL9, xL10, xL12, xL16, xL20, xL24, xL31, xL50, xL60, xL89, xL99, xL100, xL200, xI_add, xI_sub, xI_mul, xI_neg, xI_nat, xI_cl, Int.toNat_natCast, Int.reduceToNat, xltT, xltF, xleT, xleF, xeqT, xeqF, nleT, nleF, nltT, nltF, neqT, neqF, ileT, ileF, iltT, iltF, ieqT, ieqF, or_false, or_true, false_or, true_or, and_true, true_and, and_false, false_and, not_false_eq_true, not_true_eq_false, ↓reduceIte, if_true, if_false, q4]
  have hD0 : dR (N + 1) m0 (D.1, D.2.1, N, fu (fu (fu D.2.2.2.1 3 1) 4 (D.2.2.2.1 1)) 7 ((uz Z).2.1 2), D.2.2.2.2.1, []) := by
    have h9 : dR (N + 1) m0 (D.1, D.2.1, N, fu (fu D.2.2.2.1 3 1) 4 (D.2.2.2.1 1), D.2.2.2.2.1, []) := by
      refine dR_keep (N := N) (m := mI (mI m D.1 3 (xI 1)) D.1 4 (xI (D.2.2.2.1 1))) hd2 ?_ (Nat.le_succ N) (fun j => ?_) ?_ ?_ ⟨⟨hN, Nat.lt_succ_self N⟩, ?_, ?_, fun i z hz => by simp at hz⟩ (fun z hz => by cases hz)
      · rw [← hm0]
        exact fM_trans (fM_N (Nat.le_refl _)) (fM_R (X := fun x => x = D.1) rfl) (Nat.le_refl _) (fun _ _ h => h)
      · rw [← hm0, mi_R, miN_ne hN1]; rfl
      · rw [← hm0, mr_nj (by omega), mrN_ne hN1]; rfl
      · rw [← hm0]; exact mr_eq
      · rw [← hm0]; show mk (mN _ N 8 0) N = 8; exact mkN_eq
      · rw [← hm0]; show ml (mN _ N 8 0) N = 0; exact mlN_eq
    exact dR_ext h9 (fun j hj => by show fu (fu (fu D.2.2.2.1 3 1) 4 (D.2.2.2.1 1)) 7 _ j = fu (fu D.2.2.2.1 3 1) 4 (D.2.2.2.1 1) j; rw [fu_ne (by omega)])
  refine w_b hr5 ?_
  refine w_i (by rw [fM_k f0 A8.1.2]; exact A8.2.1) ?_
  have hsp := e.2.1 k hk
  rw [hDg] at hsp
  have hZ0 : ZR (N + 1) m0 s (zset Z k (D.1, D.2.1, N, fu (fu (fu D.2.2.2.1 3 1) 4 (D.2.2.2.1 1)) 7 ((uz Z).2.1 2), D.2.2.2.2.1, [])) := ZR_set h hk f0 (Nat.le_succ N) hD0 (by rw [hDg]) hsp (fun w hw => .inl ⟨w, by rw [hDg]; exact hw, rfl⟩) (fun x _ hx => .inl (by rw [hDg]; exact hx))
  have h9 := L_zwake (s := s) (k := k) hk hn D.2.2.2.2.1 [] (N + 1) m0 _ (0 + 1) (0 + 0) hZ0 rfl zset_eq (by omega) hv (by simp; exact ha) (by omega) (by omega) vF (by unfold vF; omega)
  refine w_r ?_ (w_m h9 ?_)
  · have e1 : ml m0 D.2.1 = D.2.2.2.2.1.length := by rw [fM_l f0 A8.1.2]; exact A8.2.2.1
    have e5 : ([] : List (Nat × aR)).length + D.2.2.2.2.1.length = D.2.2.2.2.1.length := by simp
    rw [e1, xI_nat, e5]; rfl
  · rintro ⟨N3, m3⟩ ⟨Z3, j1, j2, j3, j4, j5, j6, j7⟩
    dsimp only at j1 j6 j7 ⊢
    refine ⟨Z3, j1, ?_, zk_trans (zk_set (by rw [hDg])) j2, by omega, ?_⟩
    · have h8 := j5 (ud (Z3.2.2.2.2.1 k))
      have e1 : a_set (uz Z3) k (ud (Z3.2.2.2.2.1 k)) = uz Z3 := set_self
      rw [e1, uz_set, set_set, j4] at h8
      rw [h8]
      unfold a_wake
      have e2 : (uz Z).2.2.1 k = ud D := by rw [← hDg]; rfl
      rw [e2]
      have e3 : a_set (uz Z) k (ud (D.1, D.2.1, N, fu (fu (fu D.2.2.2.1 3 1) 4 (D.2.2.2.1 1)) 7 ((uz Z).2.1 2), [] ++ D.2.2.2.2.1.map g8, [])) = a_wake0 (uz Z) k := by
        unfold a_wake0 a_set
        rw [e2]
        unfold ud a_unask
        simp only [List.nil_append, List.map_map, List.map_nil]
        rfl
      rw [e3]; rfl
    · have fb : fM N (tX m) m m0 := fM_w f0 (fun x _ hx => by rw [hx]; exact ⟨q1, .inl q3⟩)
      exact fM_trans fb j7 (Nat.le_succ N) (fun x hx hy => tX_fM fb hx hy)
theorem S_zwhis {t : Int} (h : ZR N m s Z) (hN : 149 ≤ N) (hn : Z.1 ≤ 10) (hk : k < Z.1) (hv : Z.2.2.2.2.2.length ≤ 60) (ha : (Z.2.2.2.2.1 k).2.2.2.2.1.length ≤ 4) (hst : 0 ≤ (Z.2.2.2.2.1 k).2.2.2.1 3 ∧ (Z.2.2.2.2.1 k).2.2.2.1 3 ≤ 3) (hs0 : 0 ≤ (Z.2.2.2.2.1 k).2.2.2.1 0 ∧ (Z.2.2.2.2.1 k).2.2.2.1 0 ≤ 99) (ht : 0 ≤ t ∧ t ≤ 99) : wq (f_X5_whisper N m s (xI (k : Nat)) (xI t)) (fun z => z.1 = xI (a_whok (uz Z) k t) ∧ ∃ Z', ZR z.2.1 z.2.2 s Z' ∧ uz Z' = a_whis (uz Z) k t ∧ zk Z Z' ∧ N ≤ z.2.1 ∧ fM N (tX m) m z.2.2) := by
  obtain ⟨⟨⟨a1, a2, a3, a4, a5, a6, a7⟩, ⟨b1, b2, b3, b4, b5⟩⟩, c, d, e⟩ := h
  have h : ZR N m s Z := ⟨⟨⟨a1, a2, a3, a4, a5, a6, a7⟩, ⟨b1, b2, b3, b4, b5⟩⟩, c, d, e⟩
  have hwk := S_zwake h hN hn hk hv ha
  have hdk := c k hk
  generalize hDg : Z.2.2.2.2.1 k = D at hdk ha hst hs0
  have e2 : (uz Z).2.2.1 k = ud D := by rw [← hDg]; rfl
  obtain ⟨q1, q2, q3, q4, q5⟩ := hdk.1
  have hrk : mr m Z.2.2.1 (xI (k : Nat)).toNatClampNeg = some D.1 := by rw [← hDg, ← b5 k hk]; simp (disch := omega) only [vin, mk_I, ml_I, mr_I, mk_R, ml_R, mi_R, mkN_eq, mlN_eq, miN_eq, mkN_ne, mlN_ne, miN_ne, mrN_ne, mi_eq, mi_na, mi_nj, mr_eq, mr_na, mr_nj, xL0, xL1, xL2, xL3, xL4, xL5, xL6, xL7, xL8, xL9, xL10, xL12, xL16, xL20, xL24, xL31, xL50, xL60, xL89, xL99, xL100, xL200, xI_add, xI_sub, xI_mul, xI_neg, xI_nat, xI_cl, Int.toNat_natCast, Int.reduceToNat, xltT, xltF, xleT, xleF, xeqT, xeqF, nleT, nleF, nltT, nltF, neqT, neqF, ileT, ileF, iltT, iltF, ieqT, ieqF, or_false, or_true, false_or, true_or, and_true, true_and, and_false, false_and, not_false_eq_true, not_true_eq_false, ↓reduceIte, if_true, if_false]
  have f3 : mi m D.1 3 = xI (D.2.2.2.1 3) := hdk.2.1.1 3 (by omega)
  have f0 : mi m D.1 0 = xI (D.2.2.2.1 0) := hdk.2.1.1 0 (by omega)
  unfold f_X5_whisper a_whis a_whok
  rw [e2]
  show wq _ (fun z : Int32 × Nat × vM => z.1 = xI (if D.2.2.2.1 3 = 0 then (if D.2.2.2.1 0 = t then 1 else 0) else 0) ∧ ∃ Z', ZR z.2.1 z.2.2 s Z' ∧ uz Z' = (if D.2.2.2.1 3 = 0 then (if D.2.2.2.1 0 = t then a_wake (uz Z) k else a_set (uz Z) k (a_turn D.2.2.2.1 0, (ud D).2)) else uz Z) ∧ zk Z Z' ∧ N ≤ z.2.1 ∧ fM N (tX m) m z.2.2)
  refine w_i a3 ?_
  refine w_b a4 ?_
  refine w_i b3 ?_
  refine w_i (by simp (disch := omega) only [vin, mk_I, ml_I, mr_I, mk_R, ml_R, mi_R, mkN_eq, mlN_eq, miN_eq, mkN_ne, mlN_ne, miN_ne, mrN_ne, mi_eq, mi_na, mi_nj, mr_eq, mr_na, mr_nj, xL0, xL1, xL2, xL3, xL4, xL5, xL6, xL7, xL8, xL9, xL10, xL12, xL16, xL20, xL24, xL31, xL50, xL60, xL89, xL99, xL100, xL200, xI_add, xI_sub, xI_mul, xI_neg, xI_nat, xI_cl, Int.toNat_natCast, Int.reduceToNat, xltT, xltF, xleT, xleF, xeqT, xeqF, nleT, nleF, nltT, nltF, neqT, neqF, ileT, ileF, iltT, iltF, ieqT, ieqF, or_false, or_true, false_or, true_or, and_true, true_and, and_false, false_and, not_false_eq_true, not_true_eq_false, ↓reduceIte, if_true, if_false, b4]) ?_
  refine w_b hrk ?_
  refine w_i q3 ?_
  by_cases g : D.2.2.2.1 3 = 0
  · rw [if_pos g, if_pos g]
    refine w_i (by simp (disch := omega) only [vin, mk_I, ml_I, mr_I, mk_R, ml_R, mi_R, mkN_eq, mlN_eq, miN_eq, mkN_ne, mlN_ne, miN_ne, mrN_ne, mi_eq, mi_na, mi_nj, mr_eq, mr_na, mr_nj, xL0, xL1, xL2, xL3, xL4, xL5, xL6, xL7, xL8, xL9, xL10, xL12, xL16, xL20, xL24, xL31, xL50, xL60, xL89, xL99, xL100, xL200, xI_add, xI_sub, xI_mul, xI_neg, xI_nat, xI_cl, Int.toNat_natCast, Int.reduceToNat, xltT, xltF, xleT, xleF, xeqT, xeqF, nleT, nleF, nltT, nltF, neqT, neqF, ileT, ileF, iltT, iltF, ieqT, ieqF, or_false, or_true, false_or, true_or, and_true, true_and, and_false, false_and, not_false_eq_true, not_true_eq_false, ↓reduceIte, if_true, if_false, f3]) ?_
    refine w_b a4 ?_
    refine w_i b3 ?_
    refine w_i (by simp (disch := omega) only [vin, mk_I, ml_I, mr_I, mk_R, ml_R, mi_R, mkN_eq, mlN_eq, miN_eq, mkN_ne, mlN_ne, miN_ne, mrN_ne, mi_eq, mi_na, mi_nj, mr_eq, mr_na, mr_nj, xL0, xL1, xL2, xL3, xL4, xL5, xL6, xL7, xL8, xL9, xL10, xL12, xL16, xL20, xL24, xL31, xL50, xL60, xL89, xL99, xL100, xL200, xI_add, xI_sub, xI_mul, xI_neg, xI_nat, xI_cl, Int.toNat_natCast, Int.reduceToNat, xltT, xltF, xleT, xleF, xeqT, xeqF, nleT, nleF, nltT, nltF, neqT, neqF, ileT, ileF, iltT, iltF, ieqT, ieqF, or_false, or_true, false_or, true_or, and_true, true_and, and_false, false_and, not_false_eq_true, not_true_eq_false, ↓reduceIte, if_true, if_false, b4]) ?_
    refine w_b hrk ?_
    refine w_i q3 ?_
    by_cases g2 : D.2.2.2.1 0 = t
    · rw [if_pos g2, if_pos g2]
      refine w_i (by simp (disch := omega) only [vin, mk_I, ml_I, mr_I, mk_R, ml_R, mi_R, mkN_eq, mlN_eq, miN_eq, mkN_ne, mlN_ne, miN_ne, mrN_ne, mi_eq, mi_na, mi_nj, mr_eq, mr_na, mr_nj, xL0, xL1, xL2, xL3, xL4, xL5, xL6, xL7, xL8, xL9, xL10, xL12, xL16, xL20, xL24, xL31, xL50, xL60, xL89, xL99, xL100, xL200, xI_add, xI_sub, xI_mul, xI_neg, xI_nat, xI_cl, Int.toNat_natCast, Int.reduceToNat, xltT, xltF, xleT, xleF, xeqT, xeqF, nleT, nleF, nltT, nltF, neqT, neqF, ileT, ileF, iltT, iltF, ieqT, ieqF, or_false, or_true, false_or, true_or, and_true, true_and, and_false, false_and, not_false_eq_true, not_true_eq_false, ↓reduceIte, if_true, if_false, f0]) ?_
      exact w_c hwk (fun z hz => w_s ⟨rfl, hz⟩)
    · rw [if_neg g2, if_neg g2]
      refine w_n (by simp (disch := omega) only [vin, mk_I, ml_I, mr_I, mk_R, ml_R, mi_R, mkN_eq, mlN_eq, miN_eq, mkN_ne, mlN_ne, miN_ne, mrN_ne, mi_eq, mi_na, mi_nj, mr_eq, mr_na, mr_nj, xL0, xL1, xL2, xL3, xL4, xL5, xL6, xL7, xL8, xL9, xL10, xL12, xL16, xL20, xL24, xL31, xL50, xL60, xL89, xL99, xL100, xL200, xI_add, xI_sub, xI_mul, xI_neg, xI_nat, xI_cl, Int.toNat_natCast, Int.reduceToNat, xltT, xltF, xleT, xleF, xeqT, xeqF, nleT, nleF, nltT, nltF, neqT, neqF, ileT, ileF, iltT, iltF, ieqT, ieqF, or_false, or_true, false_or, true_or, and_true, true_and, and_false, false_and, not_false_eq_true, not_true_eq_false, ↓reduceIte, if_true, if_false, f0]) ?_
      refine w_b a4 ?_
      refine w_i b3 ?_
      refine w_i (by simp (disch := omega) only [vin, mk_I, ml_I, mr_I, mk_R, ml_R, mi_R, mkN_eq, mlN_eq, miN_eq, mkN_ne, mlN_ne, miN_ne, mrN_ne, mi_eq, mi_na, mi_nj, mr_eq, mr_na, mr_nj, xL0, xL1, xL2, xL3, xL4, xL5, xL6, xL7, xL8, xL9, xL10, xL12, xL16, xL20, xL24, xL31, xL50, xL60, xL89, xL99, xL100, xL200, xI_add, xI_sub, xI_mul, xI_neg, xI_nat, xI_cl, Int.toNat_natCast, Int.reduceToNat, xltT, xltF, xleT, xleF, xeqT, xeqF, nleT, nleF, nltT, nltF, neqT, neqF, ileT, ileF, iltT, iltF, ieqT, ieqF, or_false, or_true, false_or, true_or, and_true, true_and, and_false, false_and, not_false_eq_true, not_true_eq_false, ↓reduceIte, if_true, if_false, b4]) ?_
      refine w_b hrk ?_
      refine w_c (S_zturn (i := 0) (s := s) hdk (.inl rfl)) ?_
      rintro m1 ⟨t1, t2⟩
      have hsp := e.2.1 k hk
      rw [hDg] at hsp
      refine w_s ⟨rfl, zset Z k (D.1, D.2.1, D.2.2.1, a_turn D.2.2.2.1 0, D.2.2.2.2), ZR_set h hk t2 (Nat.le_refl _) t1 (by rw [hDg]) hsp (fun w hw => .inl ⟨w, by rw [hDg]; exact hw, rfl⟩) (fun x _ hx => .inl (by rw [hDg]; exact hx)), uz_set, zk_set (by rw [hDg]), Nat.le_refl _, fM_w t2 (fun x _ hx => by rw [hx]; exact ⟨q1, .inl q3⟩)⟩
  · rw [if_neg g, if_neg g]
    refine w_n (by simp (disch := omega) only [vin, mk_I, ml_I, mr_I, mk_R, ml_R, mi_R, mkN_eq, mlN_eq, miN_eq, mkN_ne, mlN_ne, miN_ne, mrN_ne, mi_eq, mi_na, mi_nj, mr_eq, mr_na, mr_nj, xL0, xL1, xL2, xL3, xL4, xL5, xL6, xL7, xL8, xL9, xL10, xL12, xL16, xL20, xL24, xL31, xL50, xL60, xL89, xL99, xL100, xL200, xI_add, xI_sub, xI_mul, xI_neg, xI_nat, xI_cl, Int.toNat_natCast, Int.reduceToNat, xltT, xltF, xleT, xleF, xeqT, xeqF, nleT, nleF, nltT, nltF, neqT, neqF, ileT, ileF, iltT, iltF, ieqT, ieqF, or_false, or_true, false_or, true_or, and_true, true_and, and_false, false_and, not_false_eq_true, not_true_eq_false, ↓reduceIte, if_true, if_false, f3]) ?_
    exact w_s ⟨rfl, Z, h, rfl, zk_rfl, Nat.le_refl _, fM_rfl⟩
end
