section
variable {m m' : vM} {N N' s k y : Nat} {X : Nat → Prop} {D : zD} {Z : zS} {v : aR} {E : Nat → List (Int × Int)} {Lw : Nat → Int} {c : Nat → Int}
theorem L_z160 {H r3 : Nat} : ∀ (l2 l1 : List (Nat × aR)) (N : Nat) (m : vM) (Z : zS) (Lw : Nat → Int) (kc ks : Nat), ZR N m s Z → a8 N m H (l1 ++ l2) → (∀ z ∈ l2, ro N m 5 z) → INm E Lw (uz Z) (l2.map Prod.snd) (fun _ => 21) → 149 ≤ N → l1.length + l2.length ≤ 60 → kc + 11 * l2.length + 1210 ≤ 2000 → ks + 352 * l2.length + 42600 ≤ 70000 → ∀ f, l2.length + 700 < f → wq (fL_X5_pass f 160 N m kc ks s (xI 0) H 0 r3 0 H (xI ((l1.length + l2.length : Nat) : Int)) 0 (xI (l1.length : Nat)) 0 0 0 0) (fun z => z.1 = xI (a_dks (a_hears (uz Z) (l2.map Prod.snd)) 0 Z.1).1 ∧ ∃ Z', ZR z.2.1 z.2.2 s Z' ∧ uz Z' = a_fin (a_dks (a_hears (uz Z) (l2.map Prod.snd)) 0 Z.1).2 ∧ zk Z Z' ∧ N ≤ z.2.1 ∧ fM N (tX m) m z.2.2) := by
  intro l2
  induction l2 with
  | nil =>
    intro l1 N m Z Lw kc ks h hH hro hI hN hl hc1 hc2 f hf
    rw [List.length_nil] at hc1 hc2 hl hf
    obtain ⟨g, rfl⟩ : ∃ g, f = g + 1 := ⟨f - 1, by omega⟩
    have hn : Z.1 ≤ 10 := hI.1.1
    show wq (fB_X5_pass_160 (fL_X5_pass g) N m kc ks s (xI 0) H 0 r3 0 H _ 0 _ 0 0 0 0) _
    unfold fB_X5_pass_160
    refine w_i (by simp (disch := omega) only [vin, mk_I, ml_I, mr_I, mk_R, ml_R, mi_R, mkN_eq, mlN_eq, miN_eq, mkN_ne, mlN_ne, miN_ne, mrN_ne, mi_eq, mi_na, mi_nj, mr_eq, mr_na, mr_nj, xL0, xL1, xL2, xL3, xL4, xL5, xL6, xL7, xL8, xL9, xL10, xL12, xL16, xL20, xL24, xL31, xL50, xL60, xL89, xL99, xL100, xL200, xI_add, xI_sub, xI_mul, xI_neg, xI_nat, xI_cl, Int.toNat_natCast, Int.reduceToNat, xltT, xltF, xleT, xleF, xeqT, xeqF, nleT, nleF, nltT, nltF, neqT, neqF, ileT, ileF, iltT, iltF, ieqT, ieqF, or_false, or_true, false_or, true_or, and_true, true_and, and_false, false_and, not_false_eq_true, not_true_eq_false, ↓reduceIte, if_true, if_false, List.length_nil, Nat.add_zero]) ?_
    have h9 := L_z189 (s := s) (E := E) (Lw := Lw) Z.1 0 N m Z kc ks (fun _ => 21) 0 H r3 (xI (l1.length : Nat)) (by omega) h hI hN (by omega) (by omega) g (by omega)
    refine w_m h9 ?_
    rintro z ⟨j1, j2⟩
    rw [Int.zero_add] at j1
    exact ⟨j1, j2⟩
  | cons z l2 ih =>
    intro l1 N m Z Lw kc ks h hH hro hI hN hl hc1 hc2 f hf
    rw [List.length_cons] at hc1 hc2 hl hf
    obtain ⟨g, rfl⟩ : ∃ g, f = g + 1 := ⟨f - 1, by omega⟩
    have hn : Z.1 ≤ 10 := hI.1.1
    obtain ⟨cN, c8, cl, cr⟩ := hH
    have hrz : mr m H (xI (l1.length : Nat)).toNatClampNeg = some z.1 := by
      rw [← cr l1.length z (by rw [List.getElem?_append_right (Nat.le_refl _), Nat.sub_self]; rfl)]
      simp (disch := omega) only [vin, mk_I, ml_I, mr_I, mk_R, ml_R, mi_R, mkN_eq, mlN_eq, miN_eq, mkN_ne, mlN_ne, miN_ne, mrN_ne, mi_eq, mi_na, mi_nj, mr_eq, mr_na, mr_nj, xL0, xL1, xL2, xL3, xL4, xL5, xL6, xL7, xL8, xL9, xL10, xL12, xL16, xL20, xL24, xL31, xL50, xL60, xL89, xL99, xL100, xL200, xI_add, xI_sub, xI_mul, xI_neg, xI_nat, xI_cl, Int.toNat_natCast, Int.reduceToNat, xltT, xltF, xleT, xleF, xeqT, xeqF, nleT, nleF, nltT, nltF, neqT, neqF, ileT, ileF, iltT, iltF, ieqT, ieqF, or_false, or_true, false_or, true_or, and_true, true_and, and_false, false_and, not_false_eq_true, not_true_eq_false, ↓reduceIte, if_true, if_false]
    have hl8 : ml m H = l1.length + (l2.length + 1) := by rw [cl, List.length_append, List.length_cons]
    have hs5 := h.1.1.2.2.1
    rw [List.map_cons] at hI ⊢
    have hh := S_zhear (y := z.1) (v := z.2) h hN (hro z List.mem_cons_self) hI (fun _ _ => show (20 : Int) ≤ 21 by decide)
    obtain ⟨Lw', hI2⟩ := IN_hear hI (fun _ _ => show (20 : Int) ≤ 21 by decide)
    rw [List.length_cons]
    show wq (fB_X5_pass_160 (fL_X5_pass g) N m kc ks s (xI 0) H 0 r3 0 H _ 0 _ 0 0 0 0) _
    unfold fB_X5_pass_160
    refine w_n (by simp (disch := omega) only [vin, mk_I, ml_I, mr_I, mk_R, ml_R, mi_R, mkN_eq, mlN_eq, miN_eq, mkN_ne, mlN_ne, miN_ne, mrN_ne, mi_eq, mi_na, mi_nj, mr_eq, mr_na, mr_nj, xL0, xL1, xL2, xL3, xL4, xL5, xL6, xL7, xL8, xL9, xL10, xL12, xL16, xL20, xL24, xL31, xL50, xL60, xL89, xL99, xL100, xL200, xI_add, xI_sub, xI_mul, xI_neg, xI_nat, xI_cl, Int.toNat_natCast, Int.reduceToNat, xltT, xltF, xleT, xleF, xeqT, xeqF, nleT, nleF, nltT, nltF, neqT, neqF, ileT, ileF, iltT, iltF, ieqT, ieqF, or_false, or_true, false_or, true_or, and_true, true_and, and_false, false_and, not_false_eq_true, not_true_eq_false, ↓reduceIte, if_true, if_false]) ?_
    refine w_i c8 ?_
    refine w_i (by simp (disch := omega) only [vin, mk_I, ml_I, mr_I, mk_R, ml_R, mi_R, mkN_eq, mlN_eq, miN_eq, mkN_ne, mlN_ne, miN_ne, mrN_ne, mi_eq, mi_na, mi_nj, mr_eq, mr_na, mr_nj, xL0, xL1, xL2, xL3, xL4, xL5, xL6, xL7, xL8, xL9, xL10, xL12, xL16, xL20, xL24, xL31, xL50, xL60, xL89, xL99, xL100, xL200, xI_add, xI_sub, xI_mul, xI_neg, xI_nat, xI_cl, Int.toNat_natCast, Int.reduceToNat, xltT, xltF, xleT, xleF, xeqT, xeqF, nleT, nleF, nltT, nltF, neqT, neqF, ileT, ileF, iltT, iltF, ieqT, ieqF, or_false, or_true, false_or, true_or, and_true, true_and, and_false, false_and, not_false_eq_true, not_true_eq_false, ↓reduceIte, if_true, if_false, hl8]) ?_
    refine w_b hrz ?_
    refine w_i hs5 ?_
    refine w_c hh ?_
    rintro ⟨N1, m1⟩ ⟨Z1, k1, k2, k3, k4, k5⟩
    dsimp only at k1 k4 k5 ⊢
    refine w_i (by omega) ?_
    refine w_i (by omega) ?_
    have hn8 : ∀ x, mk m x = 8 → ¬ tX m x := by
      rintro x hx ⟨_, g | g | g⟩ <;> omega
    have hn5 : ∀ x, mk m x = 6 → ml m x = 5 → ¬ tX m x := by
      rintro x hx hx2 ⟨_, g | g | g⟩ <;> omega
    have e1 : (l1 ++ [z]).length + l2.length = l1.length + (l2.length + 1) := by rw [List.length_append]; simp; omega
    have e2 : (l1 ++ [z]).length = l1.length + 1 := by rw [List.length_append]; rfl
    have h9 := ih (l1 ++ [z]) N1 m1 Z1 Lw' (kc + 11) (ks + 352) k1 (by
      have := a8_fr ⟨cN, c8, cl, cr⟩ k5 k4 (hn8 _ c8)
      rw [List.append_assoc]; exact this) (fun w hw => ro_fr (hro w (List.mem_cons_of_mem _ hw)) k5 k4 (hn5 _ (hro w (List.mem_cons_of_mem _ hw)).2.1 (hro w (List.mem_cons_of_mem _ hw)).2.2.1)) (by rw [k2]; exact hI2) (by omega) (by omega) (by omega) (by omega) g (by omega)
    rw [e1, e2, k2, k3.1] at h9
    rw [show xI (l1.length : Nat) + 1 = xI ((l1.length + 1 : Nat) : Int) by rw [xL1, xI_add]; rfl]
    refine w_m h9 ?_
    rintro ⟨zc, N3, m3⟩ ⟨j1, Z3, j2, j3, j4, j5, j6⟩
    exact ⟨j1, Z3, j2, j3, zk_trans k3 j4, Nat.le_trans k4 j5, fM_trans k5 j6 k4 (fun x hx hy => tX_fM k5 hx hy)⟩
/-- all but the voices -/
def ZP (N : Nat) (m : vM) (s : Nat) (Z : zS) : Prop := zhd N m s Z ∧ (∀ k, k < Z.1 → dR N m (Z.2.2.2.2.1 k)) ∧ (∀ j k, j < Z.1 → k < Z.1 → j ≠ k → (Z.2.2.2.2.1 j).1 ≠ (Z.2.2.2.2.1 k).1) ∧ (∀ k, k < Z.1 → (Z.2.2.2.2.1 k).2.2.2.2.1.Pairwise (fun z w => z.1 ≠ w.1)) ∧ (∀ j k, j < Z.1 → k < Z.1 → j ≠ k → ∀ z ∈ (Z.2.2.2.2.1 j).2.2.2.2.1, ∀ w ∈ (Z.2.2.2.2.1 k).2.2.2.2.1, z.1 ≠ w.1)
theorem ZP_fr (h : ZP N m s Z) (f : fM N X m m') (hN : N ≤ N') (hX : ∀ x, x < N → X x → mk m x = 6 ∧ ml m x = 5) : ZP N' m' s Z := by
  obtain ⟨⟨⟨a1, a2, a3, a4, a5, a6, a7⟩, ⟨b1, b2, b3, b4, b5⟩⟩, c, e⟩ := h
  have hno : ∀ x, x < N → ¬ (mk m x = 6 ∧ ml m x = 5) → ¬ X x := fun x hx g g2 => g (hX x hx g2)
  have n5 := hno s a2 (by omega)
  have n9 := hno _ b2 (by omega)
  refine ⟨⟨⟨a1, by omega, by rw [fM_k f a2]; exact a3, by rw [fM_r f a2 n5]; exact a4, by rw [fM_r f a2 n5]; exact a5, by rw [fM_i f a2 n5]; exact a6, by rw [fM_i f a2 n5]; exact a7⟩, ⟨b1, by omega, by rw [fM_k f b2]; exact b3, by rw [fM_l f b2]; exact b4, fun k hk => by rw [fM_r f b2 n9]; exact b5 k hk⟩⟩, fun k hk => ?_, e⟩
  obtain ⟨⟨q1, q2, q3, q4, q5⟩, q6, ⟨q7, q8⟩, q9, q10⟩ := c k hk
  have n4 := hno _ q2 (by omega)
  have n8 : ∀ x, x < N → mk m x = 8 → ¬ X x := fun x hx g => hno x hx (by omega)
  refine ⟨⟨q1, by omega, by rw [fM_k f q2]; exact q3, by rw [fM_r f q2 n4]; exact q4, by rw [fM_r f q2 n4]; exact q5⟩, ⟨fun j hj => by rw [fM_i f q2 n4]; exact q6.1 j hj, by rw [fM_i f q2 n4]; exact q6.2.1, by rw [fM_i f q2 n4]; exact q6.2.2⟩, ⟨a8_fr q7 f hN (n8 _ q7.1.2 q7.2.1), fun z hz => ?_⟩, a8_fr q9 f hN (n8 _ q9.1.2 q9.2.1), fun z hz => ?_⟩
  · have g := q8 z hz
    exact ro_fr g f hN (hno _ g.1.2 (by have := g.2.2.1; omega))
  · have g := q10 z hz
    exact ro_fr g f hN (hno _ g.1.2 (by have := g.2.2.1; omega))
def dz (z : Nat × aR) : Nat × aR := (z.1, a_dec z.2)
def zst (l : List (Nat × aR)) : List (Nat × aR) := (l.map dz).filter (fun z => decide (0 < z.2 3))
def zdu (l : List (Nat × aR)) : List (Nat × aR) := (l.map dz).filter (fun z => decide (z.2 3 ≤ 0))
theorem zst_c {z : Nat × aR} {l : List (Nat × aR)} : zst (z :: l) = (if 0 < z.2 3 - 1 then [dz z] else []) ++ zst l := by
  unfold zst
  rw [List.map_cons]
  by_cases e : 0 < z.2 3 - 1
  · rw [List.filter_cons_of_pos (by simp [dz, dec_3]; omega), if_pos e]; rfl
  · rw [List.filter_cons_of_neg (by simp [dz, dec_3]; omega), if_neg e]; rfl
theorem zdu_c {z : Nat × aR} {l : List (Nat × aR)} : zdu (z :: l) = (if 0 < z.2 3 - 1 then [] else [dz z]) ++ zdu l := by
  unfold zdu
  rw [List.map_cons]
  by_cases e : 0 < z.2 3 - 1
  · rw [List.filter_cons_of_neg (by simp [dz, dec_3]; omega), if_pos e]; rfl
  · rw [List.filter_cons_of_pos (by simp [dz, dec_3]; omega), if_neg e]; rfl
theorem zst_s {l : List (Nat × aR)} : (zst l).map Prod.snd = a_stay (l.map Prod.snd) := by
  unfold zst a_stay
  rw [List.map_map]
  induction l with
  | nil => rfl
  | cons z l ih =>
    simp only [List.map_cons]
    by_cases e : 0 < z.2 3 - 1
    · rw [List.filter_cons_of_pos (by simp [dz, dec_3]; omega), List.filter_cons_of_pos (by simp [dec_3]; omega), List.map_cons, ih]; rfl
    · rw [List.filter_cons_of_neg (by simp [dz, dec_3]; omega), List.filter_cons_of_neg (by simp [dec_3]; omega), ih]
theorem zdu_s {l : List (Nat × aR)} : (zdu l).map Prod.snd = a_due (l.map Prod.snd) := by
  unfold zdu a_due
  rw [List.map_map]
  induction l with
  | nil => rfl
  | cons z l ih =>
    simp only [List.map_cons]
    by_cases e : 0 < z.2 3 - 1
    · rw [List.filter_cons_of_neg (by simp [dz, dec_3]; omega), List.filter_cons_of_neg (by simp [dec_3]; omega), ih]
    · rw [List.filter_cons_of_pos (by simp [dz, dec_3]; omega), List.filter_cons_of_pos (by simp [dec_3]; omega), List.map_cons, ih]; rfl
theorem ro_dec {z : Nat × aR} (h : ro N m 5 z) : ro N (mI m z.1 3 (xI (z.2 3 - 1))) 5 (dz z) := by
  obtain ⟨z1, z3, z4, z5⟩ := h
  refine ⟨z1, z3, z4, fun r hr => ?_⟩
  show mi _ z.1 r = xI (a_dec z.2 r)
  by_cases e : r = 3
  · subst e; rw [mi_eq, dec_3]
  · rw [mi_nj e, dec_o e]; exact z5 r hr
/-- also what the pass makes of voices -/
def tY (m : vM) (x : Nat) : Prop := 149 ≤ x ∧ (mk m x = 4 ∨ mk m x = 5 ∨ (mk m x = 6 ∧ (ml m x = 3 ∨ ml m x = 5)))
theorem tY_fM (h : fM N X m m') {x : Nat} (hx : x < N) (g : tY m' x) : tY m x := by
  unfold tY at g ⊢
  rw [fM_k h hx, fM_l h hx] at g
  exact g
theorem tX_tY {x : Nat} (g : tX m x) : tY m x := by
  obtain ⟨g0, g | g | g⟩ := g
  · exact ⟨g0, .inl g⟩
  · exact ⟨g0, .inr (.inl g)⟩
  · exact ⟨g0, .inr (.inr ⟨g.1, .inl g.2⟩)⟩
theorem L_z92 : ∀ (l2 l0 hz sz : List (Nat × aR)) (N : Nat) (m : vM) (kc ks H St : Nat), ZP N m s Z → a8 N m Z.2.2.2.1 (l0 ++ l2) → a8 N m H hz → a8 N m St sz → (∀ z ∈ (hz ++ sz) ++ l2, ro N m 5 z) → ((hz ++ sz) ++ l2).Pairwise (fun z w => z.1 ≠ w.1) → hz.length + sz.length + l2.length ≤ 60 → l0.length + l2.length ≤ 60 → (∀ z ∈ l2, 1 ≤ z.2 3 ∧ z.2 3 ≤ 5) → INm E Lw (Z.1, Z.2.1, (uz Z).2.2.1, (sz ++ zst l2).map Prod.snd) ((hz ++ zdu l2).map Prod.snd) (fun _ => 21) → 149 ≤ N → kc + l2.length + 1870 ≤ 2000 → ks + 66 * l2.length + 63720 ≤ 70000 → ∀ f, l2.length + 800 < f → wq (fL_X5_pass f 92 N m kc ks s (xI 0) H 0 St 0 Z.2.2.2.1 (xI ((l0.length + l2.length : Nat) : Int)) 0 (xI (l0.length : Nat)) 0 0 0 0) (fun z => z.1 = xI (a_dks (a_hears (Z.1, Z.2.1, (uz Z).2.2.1, (sz ++ zst l2).map Prod.snd) ((hz ++ zdu l2).map Prod.snd)) 0 Z.1).1 ∧ ∃ Z', ZR z.2.1 z.2.2 s Z' ∧ uz Z' = a_fin (a_dks (a_hears (Z.1, Z.2.1, (uz Z).2.2.1, (sz ++ zst l2).map Prod.snd) ((hz ++ zdu l2).map Prod.snd)) 0 Z.1).2 ∧ zk Z Z' ∧ N ≤ z.2.1 ∧ fM N (tY m) m z.2.2) := by
  intro l2
  induction l2 with
  | nil =>
    intro l0 hz sz N m kc ks H St h hV hH hS hro hp hl hl0 hz3 hI hN hc1 hc2 f hf
    rw [List.length_nil] at hc1 hc2 hl hl0 hf
    obtain ⟨g, rfl⟩ : ∃ g, f = g + 1 := ⟨f - 1, by omega⟩
    have hn : Z.1 ≤ 10 := hI.1.1
    have es : sz ++ zst [] = sz := by simp [zst]
    have eh : hz ++ zdu [] = hz := by simp [zdu]
    rw [es, eh] at hI ⊢
    rw [List.append_nil] at hro hp
    obtain ⟨⟨⟨a1, a2, a3, a4, a5, a6, a7⟩, ⟨b1, b2, b3, b4, b5⟩⟩, c0, s1, s2, s3⟩ := h
    have f1 : fM N (fun x => x = s) m (mR m s 1 (some St)) := fM_R rfl
    have hne : ∀ x, mk m x = 4 ∨ mk m x = 6 ∨ mk m x = 8 → x ≠ s := fun x hx e => by rw [e, a3] at hx; omega
    have hZ1 : ZR N (mR m s 1 (some St)) s (Z.1, Z.2.1, Z.2.2.1, St, Z.2.2.2.2.1, sz) := by
      refine ⟨⟨⟨a1, a2, a3, ?_, mr_eq, a6, a7⟩, ⟨b1, b2, b3, b4, fun k hk => ?_⟩⟩, fun j hj => ?_, ⟨a8_fr hS f1 (Nat.le_refl _) (hne _ (.inr (.inr hS.2.1))), fun z hz => ?_⟩, s1, s2, s3, (List.pairwise_append.mp hp).2.1⟩
      · rw [mr_nj (by omega)]; exact a4
      · show mr _ Z.2.2.1 k = _
        rw [mr_na (fun e => by rw [e, a3] at b3; omega)]; exact b5 k hk
      · exact dR_fr (c0 j hj) f1 (Nat.le_refl _) (hne _ (.inl (c0 j hj).1.2.2.1)) (fun x hx => hne x (.inr (.inr hx))) (fun z hz => hne _ (.inr (.inl ((c0 j hj).2.2.1.2 z hz).2.1))) (fun x hx _ => hne x (.inr (.inl hx)))
      · have g := hro z (List.mem_append.mpr (.inr hz))
        exact ro_fr g f1 (Nat.le_refl _) (hne _ (.inr (.inl g.2.1)))
    have hH1 := a8_fr hH f1 (Nat.le_refl N) (hne _ (.inr (.inr hH.2.1)))
    show wq (fB_X5_pass_92 (fL_X5_pass g) N m kc ks s (xI 0) H 0 St 0 Z.2.2.2.1 _ 0 _ 0 0 0 0) _
    unfold fB_X5_pass_92
    refine w_i (by simp (disch := omega) only [vin, mk_I, ml_I, mr_I, mk_R, ml_R, mi_R, mkN_eq, mlN_eq, miN_eq, mkN_ne, mlN_ne, miN_ne, mrN_ne, mi_eq, mi_na, mi_nj, mr_eq, mr_na, mr_nj, xL0, xL1, xL2, xL3, xL4, xL5, xL6, xL7, xL8, xL9, xL10, xL12, xL16, xL20, xL24, xL31, xL50, xL60, xL89, xL99, xL100, xL200, xI_add, xI_sub, xI_mul, xI_neg, xI_nat, xI_cl, Int.toNat_natCast, Int.reduceToNat, xltT, xltF, xleT, xleF, xeqT, xeqF, nleT, nleF, nltT, nltF, neqT, neqF, ileT, ileF, iltT, iltF, ieqT, ieqF, or_false, or_true, false_or, true_or, and_true, true_and, and_false, false_and, not_false_eq_true, not_true_eq_false, ↓reduceIte, if_true, if_false, List.length_nil, Nat.add_zero]) ?_
    refine w_i a3 ?_
    refine w_i hH.2.1 ?_
    have e5 : ([] : List (Nat × aR)).length + hz.length = hz.length := by simp
    have h9 := L_z160 (s := s) (E := E) (H := H) (r3 := St) hz [] N (mR m s 1 (some St)) (Z.1, Z.2.1, Z.2.2.1, St, Z.2.2.2.2.1, sz) Lw kc ks hZ1 hH1 (fun z hz => by
      have g := hro z (List.mem_append.mpr (.inl hz))
      exact ro_fr g f1 (Nat.le_refl _) (hne _ (.inr (.inl g.2.1)))) hI hN (by simp; omega) (by omega) (by omega) g (by omega)
    rw [e5] at h9
    refine w_r ?_ (w_m h9 ?_)
    · rw [show ml (mR m s 1 (some St)) H = hz.length from hH.2.2.1, xI_nat]; rfl
    · rintro ⟨zc, N3, m3⟩ ⟨j1, Z3, j2, j3, j4, j5, j6⟩
      refine ⟨j1, Z3, j2, j3, ⟨j4.1, j4.2.1, j4.2.2⟩, j5, ?_⟩
      have fa : fM N (tY m) m (mR m s 1 (some St)) := fM_w f1 (fun x _ hx => by rw [hx]; exact ⟨a1, .inr (.inl a3)⟩)
      exact fM_trans fa j6 (Nat.le_refl _) (fun x hx hy => tY_fM fa hx (tX_tY hy))
  | cons z l2 ih =>
    intro l0 hz sz N m kc ks H St h hV hH hS hro hp hl hl0 hz3 hI hN hc1 hc2 f hf
    rw [List.length_cons] at hc1 hc2 hl hl0 hf
    obtain ⟨g, rfl⟩ : ∃ g, f = g + 1 := ⟨f - 1, by omega⟩
    obtain ⟨vN, v8, vl, vr⟩ := hV
    have hrz : mr m Z.2.2.2.1 (xI (l0.length : Nat)).toNatClampNeg = some z.1 := by
      rw [← vr l0.length z (by rw [List.getElem?_append_right (Nat.le_refl _), Nat.sub_self]; rfl)]
      simp (disch := omega) only [vin, mk_I, ml_I, mr_I, mk_R, ml_R, mi_R, mkN_eq, mlN_eq, miN_eq, mkN_ne, mlN_ne, miN_ne, mrN_ne, mi_eq, mi_na, mi_nj, mr_eq, mr_na, mr_nj, xL0, xL1, xL2, xL3, xL4, xL5, xL6, xL7, xL8, xL9, xL10, xL12, xL16, xL20, xL24, xL31, xL50, xL60, xL89, xL99, xL100, xL200, xI_add, xI_sub, xI_mul, xI_neg, xI_nat, xI_cl, Int.toNat_natCast, Int.reduceToNat, xltT, xltF, xleT, xleF, xeqT, xeqF, nleT, nleF, nltT, nltF, neqT, neqF, ileT, ileF, iltT, iltF, ieqT, ieqF, or_false, or_true, false_or, true_or, and_true, true_and, and_false, false_and, not_false_eq_true, not_true_eq_false, ↓reduceIte, if_true, if_false]
    have hl8 : ml m Z.2.2.2.1 = l0.length + (l2.length + 1) := by rw [vl, List.length_append, List.length_cons]
    have hzz := hro z (by simp)
    obtain ⟨⟨z1, z2⟩, z6, z4, z5⟩ := hzz
    have i3 : mi m z.1 3 = xI (z.2 3) := z5 3 (by omega)
    have h3 := hz3 z List.mem_cons_self
    have hs5 := h.1.1.2.2.1
    have f1 : fM N (fun x => x = z.1) m (mI m z.1 3 (xI (z.2 3 - 1))) := fM_I rfl
    have fX : ∀ x, x < N → x = z.1 → mk m x = 6 ∧ ml m x = 5 := fun x _ e => by rw [e]; exact ⟨z6, z4⟩
    have n8 : ∀ x, mk m x = 8 → ¬ x = z.1 := fun x hx e => by rw [e, z6] at hx; omega
    -- rows that are not this one
    have hpp := List.pairwise_append.mp hp
    have hp2 := List.pairwise_cons.mp hpp.2.1
    have nA : ∀ w ∈ hz ++ sz, ¬ w.1 = z.1 := fun w hw => hpp.2.2 w hw z List.mem_cons_self
    have nB : ∀ w ∈ l2, ¬ w.1 = z.1 := fun w hw e => hp2.1 w hw e.symm
    have em : mI m z.1 3 (mi m z.1 3 - 1) = mI m z.1 3 (xI (z.2 3 - 1)) := by rw [i3, xL1, xI_sub]
    have rd := ro_dec (N := N) (m := m) ⟨⟨z1, z2⟩, z6, z4, z5⟩
    have o3 : mi (mI m z.1 3 (xI (z.2 3 - 1))) z.1 3 = xI (z.2 3 - 1) := mi_eq
    rw [List.length_cons]
    show wq (fB_X5_pass_92 (fL_X5_pass g) N m kc ks s (xI 0) H 0 St 0 Z.2.2.2.1 _ 0 _ 0 0 0 0) _
    unfold fB_X5_pass_92
    refine w_n (by simp (disch := omega) only [vin, mk_I, ml_I, mr_I, mk_R, ml_R, mi_R, mkN_eq, mlN_eq, miN_eq, mkN_ne, mlN_ne, miN_ne, mrN_ne, mi_eq, mi_na, mi_nj, mr_eq, mr_na, mr_nj, xL0, xL1, xL2, xL3, xL4, xL5, xL6, xL7, xL8, xL9, xL10, xL12, xL16, xL20, xL24, xL31, xL50, xL60, xL89, xL99, xL100, xL200, xI_add, xI_sub, xI_mul, xI_neg, xI_nat, xI_cl, Int.toNat_natCast, Int.reduceToNat, xltT, xltF, xleT, xleF, xeqT, xeqF, nleT, nleF, nltT, nltF, neqT, neqF, ileT, ileF, iltT, iltF, ieqT, ieqF, or_false, or_true, false_or, true_or, and_true, true_and, and_false, false_and, not_false_eq_true, not_true_eq_false, ↓reduceIte, if_true, if_false]) ?_
    refine w_i v8 ?_
    refine w_i (by simp (disch := omega) only [vin, mk_I, ml_I, mr_I, mk_R, ml_R, mi_R, mkN_eq, mlN_eq, miN_eq, mkN_ne, mlN_ne, miN_ne, mrN_ne, mi_eq, mi_na, mi_nj, mr_eq, mr_na, mr_nj, xL0, xL1, xL2, xL3, xL4, xL5, xL6, xL7, xL8, xL9, xL10, xL12, xL16, xL20, xL24, xL31, xL50, xL60, xL89, xL99, xL100, xL200, xI_add, xI_sub, xI_mul, xI_neg, xI_nat, xI_cl, Int.toNat_natCast, Int.reduceToNat, xltT, xltF, xleT, xleF, xeqT, xeqF, nleT, nleF, nltT, nltF, neqT, neqF, ileT, ileF, iltT, iltF, ieqT, ieqF, or_false, or_true, false_or, true_or, and_true, true_and, and_false, false_and, not_false_eq_true, not_true_eq_false, ↓reduceIte, if_true, if_false, hl8]) ?_
    refine w_b hrz ?_
    refine w_i z6 ?_
    refine w_i (by simp (disch := omega) only [vin, mk_I, ml_I, mr_I, mk_R, ml_R, mi_R, mkN_eq, mlN_eq, miN_eq, mkN_ne, mlN_ne, miN_ne, mrN_ne, mi_eq, mi_na, mi_nj, mr_eq, mr_na, mr_nj, xL0, xL1, xL2, xL3, xL4, xL5, xL6, xL7, xL8, xL9, xL10, xL12, xL16, xL20, xL24, xL31, xL50, xL60, xL89, xL99, xL100, xL200, xI_add, xI_sub, xI_mul, xI_neg, xI_nat, xI_cl, Int.toNat_natCast, Int.reduceToNat, xltT, xltF, xleT, xleF, xeqT, xeqF, nleT, nleF, nltT, nltF, neqT, neqF, ileT, ileF, iltT, iltF, ieqT, ieqF, or_false, or_true, false_or, true_or, and_true, true_and, and_false, false_and, not_false_eq_true, not_true_eq_false, ↓reduceIte, if_true, if_false, z4]) ?_
    refine w_i (by simp (disch := omega) only [vin, mk_I, ml_I, mr_I, mk_R, ml_R, mi_R, mkN_eq, mlN_eq, miN_eq, mkN_ne, mlN_ne, miN_ne, mrN_ne, mi_eq, mi_na, mi_nj, mr_eq, mr_na, mr_nj, xL0, xL1, xL2, xL3, xL4, xL5, xL6, xL7, xL8, xL9, xL10, xL12, xL16, xL20, xL24, xL31, xL50, xL60, xL89, xL99, xL100, xL200, xI_add, xI_sub, xI_mul, xI_neg, xI_nat, xI_cl, Int.toNat_natCast, Int.reduceToNat, xltT, xltF, xleT, xleF, xeqT, xeqF, nleT, nleF, nltT, nltF, neqT, neqF, ileT, ileF, iltT, iltF, ieqT, ieqF, or_false, or_true, false_or, true_or, and_true, true_and, and_false, false_and, not_false_eq_true, not_true_eq_false, ↓reduceIte, if_true, if_false, z4]) ?_
    refine w_i (by simp (disch := omega) only [vin, mk_I, ml_I, mr_I, mk_R, ml_R, mi_R, mkN_eq, mlN_eq, miN_eq, mkN_ne, mlN_ne, miN_ne, mrN_ne, mi_eq, mi_na, mi_nj, mr_eq, mr_na, mr_nj, xL0, xL1, xL2, xL3, xL4, xL5, xL6, xL7, xL8, xL9, xL10, xL12, xL16, xL20, xL24, xL31, xL50, xL60, xL89, xL99, xL100, xL200, xI_add, xI_sub, xI_mul, xI_neg, xI_nat, xI_cl, Int.toNat_natCast, Int.reduceToNat, xltT, xltF, xleT, xleF, xeqT, xeqF, nleT, nleF, nltT, nltF, neqT, neqF, ileT, ileF, iltT, iltF, ieqT, ieqF, or_false, or_true, false_or, true_or, and_true, true_and, and_false, false_and, not_false_eq_true, not_true_eq_false, ↓reduceIte, if_true, if_false, z4]) ?_
    simp only [em]
    generalize mI m z.1 3 (xI (z.2 3 - 1)) = m1 at f1 rd o3 ⊢
    have fa : fM N (tY m) m m1 := fM_w f1 (fun x _ hx => by rw [hx]; exact ⟨z1, .inr (.inr ⟨z6, .inr z4⟩)⟩)
    have h1 := ZP_fr h f1 (Nat.le_refl N) fX
    have hH1 := a8_fr hH f1 (Nat.le_refl N) (n8 _ hH.2.1)
    have hS1 := a8_fr hS f1 (Nat.le_refl N) (n8 _ hS.2.1)
    have hV1 := a8_fr ⟨vN, v8, vl, vr⟩ f1 (Nat.le_refl N) (n8 _ v8)
    have e1 : (l0 ++ [z]).length + l2.length = l0.length + (l2.length + 1) := by rw [List.length_append]; simp; omega
    have e2 : (l0 ++ [z]).length = l0.length + 1 := by rw [List.length_append]; rfl
    have ek : xI (l0.length : Nat) + 1 = xI ((l0.length + 1 : Nat) : Int) := by rw [xL1, xI_add]; rfl
    have hapl : l0 ++ z :: l2 = (l0 ++ [z]) ++ l2 := by simp
    have hroA : ∀ w ∈ hz ++ sz, ro N m1 5 w := fun w hw => ro_fr (hro w (List.mem_append.mpr (.inl hw))) f1 (Nat.le_refl _) (nA w hw)
    have hroB : ∀ w ∈ l2, ro N m1 5 w := fun w hw => ro_fr (hro w (List.mem_append.mpr (.inr (List.mem_cons_of_mem _ hw)))) f1 (Nat.le_refl _) (nB w hw)
    by_cases e : 0 < z.2 3 - 1
    · refine w_n (by simp (disch := omega) only [vin, mk_I, ml_I, mr_I, mk_R, ml_R, mi_R, mkN_eq, mlN_eq, miN_eq, mkN_ne, mlN_ne, miN_ne, mrN_ne, mi_eq, mi_na, mi_nj, mr_eq, mr_na, mr_nj, xL0, xL1, xL2, xL3, xL4, xL5, xL6, xL7, xL8, xL9, xL10, xL12, xL16, xL20, xL24, xL31, xL50, xL60, xL89, xL99, xL100, xL200, xI_add, xI_sub, xI_mul, xI_neg, xI_nat, xI_cl, Int.toNat_natCast, Int.reduceToNat, xltT, xltF, xleT, xleF, xeqT, xeqF, nleT, nleF, nltT, nltF, neqT, neqF, ileT, ileF, iltT, iltF, ieqT, ieqF, or_false, or_true, false_or, true_or, and_true, true_and, and_false, false_and, not_false_eq_true, not_true_eq_false, ↓reduceIte, if_true, if_false, o3]) ?_
      refine w_c (S_more hS1 (by omega) (fun w hw => ?_) ⟨z2, rd.2.1⟩) ?_
      · have g := hroA w (List.mem_append.mpr (.inr hw))
        exact ⟨g.1.2, g.2.1⟩
      rintro ⟨y1, y2, m2⟩ ⟨q1, q2, f2, h8⟩
      have q1 : y1 = N := q1
      have q2 : y2 = N + 1 := q2
      subst q1 q2
      dsimp only at f2 h8 ⊢
      refine w_i (by omega) ?_
      refine w_i (by omega) ?_
      have est : sz ++ zst (z :: l2) = (sz ++ [dz z]) ++ zst l2 := by rw [zst_c, if_pos e, List.append_assoc]
      have edu : hz ++ zdu (z :: l2) = hz ++ zdu l2 := by rw [zdu_c, if_pos e]; rfl
      rw [est, edu] at hI ⊢
      have h9 := ih (l0 ++ [z]) hz (sz ++ [dz z]) (y1 + 1) m2 (kc + 1) (ks + 66) H y1 (ZP_fr h1 f2 (Nat.le_succ _) (fun x _ h => h.elim)) (by rw [← hapl]; exact a8_fr hV1 f2 (Nat.le_succ _) (fun h => h)) (a8_fr hH1 f2 (Nat.le_succ _) (fun h => h)) (h8 _) (fun w hw => ?_) ?_ (by rw [List.length_append]; simp; omega) (by omega) (fun w hw => hz3 w (List.mem_cons_of_mem _ hw)) hI (by omega) (by omega) (by omega) g (by omega)
      · rw [e1, e2] at h9
        rw [ek]
        refine w_m h9 ?_
        rintro ⟨zc, N3, m3⟩ ⟨j1, Z3, j2, j3, j4, j5, j6⟩
        have fb : fM y1 (tY m) m m2 := fM_trans fa f2 (Nat.le_refl _) (fun _ _ h => h.elim)
        exact ⟨j1, Z3, j2, j3, j4, Nat.le_trans (Nat.le_succ _) j5, fM_trans fb j6 (Nat.le_succ _) (fun x hx hy => tY_fM fb hx hy)⟩
      · rcases List.mem_append.mp hw with g | g
        · rcases List.mem_append.mp g with g | g
          · exact ro_fr (hroA w (List.mem_append.mpr (.inl g))) f2 (Nat.le_succ _) (fun h => h)
          · rcases List.mem_append.mp g with g | g
            · exact ro_fr (hroA w (List.mem_append.mpr (.inr g))) f2 (Nat.le_succ _) (fun h => h)
            · rw [List.mem_singleton.mp g]; exact ro_fr rd f2 (Nat.le_succ _) (fun h => h)
        · exact ro_fr (hroB w g) f2 (Nat.le_succ _) (fun h => h)
      · have e9 : ((hz ++ (sz ++ [dz z])) ++ l2).map Prod.fst = ((hz ++ sz) ++ z :: l2).map Prod.fst := by simp [dz]
        have h9 : (((hz ++ sz) ++ z :: l2).map Prod.fst).Pairwise (fun a b => a ≠ b) := by rw [List.pairwise_map]; exact hp
        rw [← e9, List.pairwise_map] at h9; exact h9
    · refine w_i (by simp (disch := omega) only [vin, mk_I, ml_I, mr_I, mk_R, ml_R, mi_R, mkN_eq, mlN_eq, miN_eq, mkN_ne, mlN_ne, miN_ne, mrN_ne, mi_eq, mi_na, mi_nj, mr_eq, mr_na, mr_nj, xL0, xL1, xL2, xL3, xL4, xL5, xL6, xL7, xL8, xL9, xL10, xL12, xL16, xL20, xL24, xL31, xL50, xL60, xL89, xL99, xL100, xL200, xI_add, xI_sub, xI_mul, xI_neg, xI_nat, xI_cl, Int.toNat_natCast, Int.reduceToNat, xltT, xltF, xleT, xleF, xeqT, xeqF, nleT, nleF, nltT, nltF, neqT, neqF, ileT, ileF, iltT, iltF, ieqT, ieqF, or_false, or_true, false_or, true_or, and_true, true_and, and_false, false_and, not_false_eq_true, not_true_eq_false, ↓reduceIte, if_true, if_false, o3]) ?_
      refine w_c (S_more hH1 (by omega) (fun w hw => ?_) ⟨z2, rd.2.1⟩) ?_
      · have g := hroA w (List.mem_append.mpr (.inl hw))
        exact ⟨g.1.2, g.2.1⟩
      rintro ⟨y1, y2, m2⟩ ⟨q1, q2, f2, h8⟩
      have q1 : y1 = N := q1
      have q2 : y2 = N + 1 := q2
      subst q1 q2
      dsimp only at f2 h8 ⊢
      refine w_i (by omega) ?_
      refine w_i (by omega) ?_
      have est : sz ++ zst (z :: l2) = sz ++ zst l2 := by rw [zst_c, if_neg e]; rfl
      have edu : hz ++ zdu (z :: l2) = (hz ++ [dz z]) ++ zdu l2 := by rw [zdu_c, if_neg e, List.append_assoc]
      rw [est, edu] at hI ⊢
      have h9 := ih (l0 ++ [z]) (hz ++ [dz z]) sz (y1 + 1) m2 (kc + 1) (ks + 66) y1 St (ZP_fr h1 f2 (Nat.le_succ _) (fun x _ h => h.elim)) (by rw [← hapl]; exact a8_fr hV1 f2 (Nat.le_succ _) (fun h => h)) (h8 _) (a8_fr hS1 f2 (Nat.le_succ _) (fun h => h)) (fun w hw => ?_) ?_ (by rw [List.length_append]; simp; omega) (by omega) (fun w hw => hz3 w (List.mem_cons_of_mem _ hw)) hI (by omega) (by omega) (by omega) g (by omega)
      · rw [e1, e2] at h9
        rw [ek]
        refine w_m h9 ?_
        rintro ⟨zc, N3, m3⟩ ⟨j1, Z3, j2, j3, j4, j5, j6⟩
        have fb : fM y1 (tY m) m m2 := fM_trans fa f2 (Nat.le_refl _) (fun _ _ h => h.elim)
        exact ⟨j1, Z3, j2, j3, j4, Nat.le_trans (Nat.le_succ _) j5, fM_trans fb j6 (Nat.le_succ _) (fun x hx hy => tY_fM fb hx hy)⟩
      · rcases List.mem_append.mp hw with g | g
        · rcases List.mem_append.mp g with g | g
          · rcases List.mem_append.mp g with g | g
            · exact ro_fr (hroA w (List.mem_append.mpr (.inl g))) f2 (Nat.le_succ _) (fun h => h)
            · rw [List.mem_singleton.mp g]; exact ro_fr rd f2 (Nat.le_succ _) (fun h => h)
          · exact ro_fr (hroA w (List.mem_append.mpr (.inr g))) f2 (Nat.le_succ _) (fun h => h)
        · exact ro_fr (hroB w g) f2 (Nat.le_succ _) (fun h => h)
      · have hpm : (((hz ++ [dz z]) ++ sz) ++ l2).Perm ((hz ++ sz) ++ dz z :: l2) := by
          have e8 : ((hz ++ [dz z]) ++ sz) ++ l2 = hz ++ (dz z :: (sz ++ l2)) := by simp
          have e7 : (hz ++ sz) ++ dz z :: l2 = hz ++ (sz ++ dz z :: l2) := by simp
          rw [e8, e7]
          exact List.Perm.append_left hz List.perm_middle.symm
        have e9 : ((hz ++ sz) ++ dz z :: l2).map Prod.fst = ((hz ++ sz) ++ z :: l2).map Prod.fst := by simp [dz]
        have h9 : (((hz ++ sz) ++ z :: l2).map Prod.fst).Pairwise (fun a b => a ≠ b) := by rw [List.pairwise_map]; exact hp
        rw [← e9, List.pairwise_map] at h9
        exact (hpm.pairwise_iff (fun {_ _} h => fun e => h e.symm)).mpr h9
end
