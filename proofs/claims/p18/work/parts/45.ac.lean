/-- class and reference hold one state -/
def BT (N : Nat) (m : vM) (s : Nat) (S : aS) : Prop := CV m S ∧ 149 ≤ N ∧ (∃ Z, ZR N m s Z ∧ uz Z = S) ∧ ∃ E Lw, INm E Lw S [] (fun _ => 20)
section
variable {m m' : vM} {N N' s k y b q : Nat} {X : Nat → Prop} {D : zD} {Z : zS} {S : aS} {τ : aN} {E : Nat → List (Int × Int)} {Lw : Nat → Int}
theorem link_1 {o t : Int} (j : Nat) : ((a_link S k o t).2.2.1 j).1 = (S.2.2.1 j).1 := by
  unfold a_link a_set du
  show (if j = k then _ else S.2.2.1 j).1 = _
  by_cases g : j = k
  · rw [if_pos g, g]
  · rw [if_neg g]
theorem fM_ge (h : fM N (tX m) m m') : fM N (fun x => 149 ≤ x) m m' := fM_w h (fun _ _ g => g.1)
theorem CV_cl {S' : aS} (h : CV m S) (hR : RS 1 τ S') : CV (xW m τ) S' := ⟨h.1, hR⟩
theorem L_lk {n o t : Int} {A g : Nat} {kz : List (Nat × aR)} {f : aR} {K : Nat} (hd : dR N m D) (ho : 0 ≤ o ∧ o ≤ 9) (hl : D.2.2.2.2.1.length ≤ 4) (hz : ∀ z ∈ D.2.2.2.2.1, 0 ≤ z.2 0 ∧ z.2 0 ≤ 9) {kc ks : Nat} {r1 : Nat} {i2 i4 : Int32} : ∀ (l2 l1 : List (Nat × aR)), l1 ++ l2 = D.2.2.2.2.1 → ∀ fl : Int, (fl = 0 ∨ fl = 1) → fL_L_link (l2.length + 1 + g) 53 N m kc ks 0 r1 i2 (xI o) i4 D.1 (xI fl) D.2.1 (xI (D.2.2.2.2.1.length : Nat)) (xI (l1.length : Nat)) = fB_L_link_53 (fL_L_link g) N m kc ks 0 r1 i2 (xI o) i4 D.1 (xI (if fl = 1 ∧ ∀ z ∈ l2, z.2 0 ≠ o then 1 else 0)) D.2.1 (xI (D.2.2.2.2.1.length : Nat)) (xI (D.2.2.2.2.1.length : Nat)) := by
  intro l2
  induction l2 with
  | nil =>
    intro l1 e fl hfl
    rw [List.append_nil] at e
    rw [show ([] : List (Nat × aR)).length + 1 + g = g + 1 by simp; omega, e]
    have e2 : (if fl = 1 ∧ ∀ z ∈ ([] : List (Nat × aR)), z.2 0 ≠ o then (1 : Int) else 0) = fl := by
      rcases hfl with h | h <;> subst h <;> simp
    rw [e2]; rfl
  | cons z l2 ih =>
    intro l1 e fl hfl
    have hle : l1.length + (l2.length + 1) = D.2.2.2.2.1.length := by rw [← e, List.length_append, List.length_cons]
    obtain ⟨⟨q1, q2, q3, q4, q5⟩, b, ⟨⟨cN, c8, cl, cr⟩, c2⟩, d⟩ := hd
    have hzm : z ∈ D.2.2.2.2.1 := by rw [← e]; simp
    obtain ⟨z1, z3, z4, z5⟩ := c2 z hzm
    have hz0 := hz z hzm
    have i0 := z5 0 (by omega)
    have hrz : mr m D.2.1 (xI (l1.length : Nat)).toNatClampNeg = some z.1 := by
      rw [← cr l1.length z (by rw [← e, List.getElem?_append_right (Nat.le_refl _), Nat.sub_self]; rfl)]
      simp (disch := omega) only [vin, mk_I, ml_I, mr_I, mk_R, ml_R, mi_R, mkN_eq, mlN_eq, miN_eq, mkN_ne, mlN_ne, miN_ne, mrN_ne, mi_eq, mi_na, mi_nj, mr_eq, mr_na, mr_nj, xL0, xL1, xL2, xL3, xL4, xL5, xL6, xL7, xL8, xL9, xL10, xL12, xL16, xL20, xL24, xL31, xL50, xL60, xL89, xL99, xL100, xL200, xI_add, xI_sub, xI_mul, xI_neg, xI_nat, xI_cl, Int.toNat_natCast, Int.reduceToNat, xltT, xltF, xleT, xleF, xeqT, xeqF, nleT, nleF, nltT, nltF, neqT, neqF, ileT, ileF, iltT, iltF, ieqT, ieqF, or_false, or_true, false_or, true_or, and_true, true_and, and_false, false_and, not_false_eq_true, not_true_eq_false, ↓reduceIte, if_true, if_false]
    rw [List.length_cons, show l2.length + 1 + 1 + g = (l2.length + 1 + g) + 1 by omega]
    have hih : ∀ fl2 : Int, (fl2 = 0 ∨ fl2 = 1) → (if fl2 = 1 ∧ ∀ w ∈ l2, w.2 0 ≠ o then (1 : Int) else 0) = (if fl = 1 ∧ ∀ w ∈ z :: l2, w.2 0 ≠ o then 1 else 0) → fL_L_link (l2.length + 1 + g) 53 N m kc ks 0 r1 i2 (xI o) i4 D.1 (xI fl2) D.2.1 (xI (D.2.2.2.2.1.length : Nat)) (xI (l1.length : Nat) + 1) = fB_L_link_53 (fL_L_link g) N m kc ks 0 r1 i2 (xI o) i4 D.1 (xI (if fl = 1 ∧ ∀ w ∈ z :: l2, w.2 0 ≠ o then 1 else 0)) D.2.1 (xI (D.2.2.2.2.1.length : Nat)) (xI (D.2.2.2.2.1.length : Nat)) := by
      intro fl2 hf2 he
      have h9 := ih (l1 ++ [z]) (by rw [← e]; simp) fl2 hf2
      have e2 : (l1 ++ [z]).length = l1.length + 1 := by rw [List.length_append]; rfl
      rw [e2, he] at h9
      rw [show xI (l1.length : Nat) + 1 = xI ((l1.length + 1 : Nat) : Int) by rw [xL1, xI_add]; rfl]
      exact h9
    show fB_L_link_53 (fL_L_link (l2.length + 1 + g)) N m kc ks 0 r1 i2 (xI o) i4 D.1 (xI fl) D.2.1 _ _ = _
    refine (congrArg (fun x => x) (?_ : fB_L_link_53 (fL_L_link (l2.length + 1 + g)) N m kc ks 0 r1 i2 (xI o) i4 D.1 (xI fl) D.2.1 (xI (D.2.2.2.2.1.length : Nat)) (xI (l1.length : Nat)) = _))
    conv => lhs; unfold fB_L_link_53
    rw [if_neg (by simp (disch := omega) only [vin, mk_I, ml_I, mr_I, mk_R, ml_R, mi_R, mkN_eq, mlN_eq, miN_eq, mkN_ne, mlN_ne, miN_ne, mrN_ne, mi_eq, mi_na, mi_nj, mr_eq, mr_na, mr_nj, xL0, xL1, xL2, xL3, xL4, xL5, xL6, xL7, xL8, xL9, xL10, xL12, xL16, xL20, xL24, xL31, xL50, xL60, xL89, xL99, xL100, xL200, xI_add, xI_sub, xI_mul, xI_neg, xI_nat, xI_cl, Int.toNat_natCast, Int.reduceToNat, xltT, xltF, xleT, xleF, xeqT, xeqF, nleT, nleF, nltT, nltF, neqT, neqF, ileT, ileF, iltT, iltF, ieqT, ieqF, or_false, or_true, false_or, true_or, and_true, true_and, and_false, false_and, not_false_eq_true, not_true_eq_false, ↓reduceIte, if_true, if_false]), if_pos c8, if_pos (by simp (disch := omega) only [vin, mk_I, ml_I, mr_I, mk_R, ml_R, mi_R, mkN_eq, mlN_eq, miN_eq, mkN_ne, mlN_ne, miN_ne, mrN_ne, mi_eq, mi_na, mi_nj, mr_eq, mr_na, mr_nj, xL0, xL1, xL2, xL3, xL4, xL5, xL6, xL7, xL8, xL9, xL10, xL12, xL16, xL20, xL24, xL31, xL50, xL60, xL89, xL99, xL100, xL200, xI_add, xI_sub, xI_mul, xI_neg, xI_nat, xI_cl, Int.toNat_natCast, Int.reduceToNat, xltT, xltF, xleT, xleF, xeqT, xeqF, nleT, nleF, nltT, nltF, neqT, neqF, ileT, ileF, iltT, iltF, ieqT, ieqF, or_false, or_true, false_or, true_or, and_true, true_and, and_false, false_and, not_false_eq_true, not_true_eq_false, ↓reduceIte, if_true, if_false, cl]), hrz, Option.bind_some]
    rcases hfl with h | h
    · subst h
      rw [if_pos (by decide)]
      exact hih 0 (.inl rfl) (by rw [if_neg (fun h => by have := h.1; omega), if_neg (fun h => by have := h.1; omega)])
    · subst h
      rw [if_neg (by decide), if_pos z3, if_pos (by simp (disch := omega) only [vin, mk_I, ml_I, mr_I, mk_R, ml_R, mi_R, mkN_eq, mlN_eq, miN_eq, mkN_ne, mlN_ne, miN_ne, mrN_ne, mi_eq, mi_na, mi_nj, mr_eq, mr_na, mr_nj, xL0, xL1, xL2, xL3, xL4, xL5, xL6, xL7, xL8, xL9, xL10, xL12, xL16, xL20, xL24, xL31, xL50, xL60, xL89, xL99, xL100, xL200, xI_add, xI_sub, xI_mul, xI_neg, xI_nat, xI_cl, Int.toNat_natCast, Int.reduceToNat, xltT, xltF, xleT, xleF, xeqT, xeqF, nleT, nleF, nltT, nltF, neqT, neqF, ileT, ileF, iltT, iltF, ieqT, ieqF, or_false, or_true, false_or, true_or, and_true, true_and, and_false, false_and, not_false_eq_true, not_true_eq_false, ↓reduceIte, if_true, if_false, z4])]
      by_cases c1 : z.2 0 = o
      · rw [if_pos (by simp (disch := omega) only [vin, mk_I, ml_I, mr_I, mk_R, ml_R, mi_R, mkN_eq, mlN_eq, miN_eq, mkN_ne, mlN_ne, miN_ne, mrN_ne, mi_eq, mi_na, mi_nj, mr_eq, mr_na, mr_nj, xL0, xL1, xL2, xL3, xL4, xL5, xL6, xL7, xL8, xL9, xL10, xL12, xL16, xL20, xL24, xL31, xL50, xL60, xL89, xL99, xL100, xL200, xI_add, xI_sub, xI_mul, xI_neg, xI_nat, xI_cl, Int.toNat_natCast, Int.reduceToNat, xltT, xltF, xleT, xleF, xeqT, xeqF, nleT, nleF, nltT, nltF, neqT, neqF, ileT, ileF, iltT, iltF, ieqT, ieqF, or_false, or_true, false_or, true_or, and_true, true_and, and_false, false_and, not_false_eq_true, not_true_eq_false, ↓reduceIte, if_true, if_false, i0])]
        exact hih 0 (.inl rfl) (by rw [if_neg (fun h => by have := h.1; omega), if_neg (fun h => h.2 z List.mem_cons_self c1)])
      · rw [if_neg (by simp (disch := omega) only [vin, mk_I, ml_I, mr_I, mk_R, ml_R, mi_R, mkN_eq, mlN_eq, miN_eq, mkN_ne, mlN_ne, miN_ne, mrN_ne, mi_eq, mi_na, mi_nj, mr_eq, mr_na, mr_nj, xL0, xL1, xL2, xL3, xL4, xL5, xL6, xL7, xL8, xL9, xL10, xL12, xL16, xL20, xL24, xL31, xL50, xL60, xL89, xL99, xL100, xL200, xI_add, xI_sub, xI_mul, xI_neg, xI_nat, xI_cl, Int.toNat_natCast, Int.reduceToNat, xltT, xltF, xleT, xleF, xeqT, xeqF, nleT, nleF, nltT, nltF, neqT, neqF, ileT, ileF, iltT, iltF, ieqT, ieqF, or_false, or_true, false_or, true_or, and_true, true_and, and_false, false_and, not_false_eq_true, not_true_eq_false, ↓reduceIte, if_true, if_false, i0])]
        refine hih 1 (.inr rfl) ?_
        by_cases c2 : ∀ w ∈ l2, w.2 0 ≠ o
        · rw [if_pos ⟨rfl, c2⟩, if_pos ⟨rfl, fun w hw => by
            rcases List.mem_cons.mp hw with g | g
            · rw [g]; exact c1
            · exact c2 w g⟩]
        · rw [if_neg (fun h => c2 h.2), if_neg (fun h => c2 (fun w hw => h.2 w (List.mem_cons_of_mem _ hw)))]
theorem S_link {o : Nat} {t : Int} (h : BT N m s S) (hk : k < S.1) (ho : o < S.1) (ht : 1 ≤ t ∧ t ≤ 5) : wq (f_L_link N m 0 s (xI (k : Nat)) (xI (o : Nat)) (xI t)) (fun z => z.1 = xI 1 ∧ ∃ S', BT z.2.1 z.2.2 s S' ∧ S'.1 = S.1 ∧ S'.2.1 = S.2.1 ∧ N ≤ z.2.1 ∧ ∀ j, (S'.2.2.1 j).1 = (S.2.2.1 j).1) := by
  obtain ⟨hC, hN, ⟨Z, hZ, rfl⟩, E, Lw, hI⟩ := h
  have hB : BT N m s (uz Z) := ⟨hC, hN, ⟨Z, hZ, rfl⟩, E, Lw, hI⟩
  have hn : Z.1 ≤ 10 := hI.1.1
  have hk : k < Z.1 := hk
  have ho : o < Z.1 := ho
  obtain ⟨hla, hlk, hlv⟩ := ZR_len hI hk
  obtain ⟨hW, hP, hA⟩ := IN_W hI (k := k) hk
  have hWa := IN_Wa hI
  have hdk := hZ.2.1 k hk
  have hsp := hZ.2.2.2.2.1 k hk
  have hDK : (uz Z).2.2.1 k = ud (Z.2.2.2.2.1 k) := rfl
  obtain ⟨⟨⟨a1, a2, a3, a4, a5, a6, a7⟩, ⟨b1, b2, b3, b4, b5⟩⟩, c0, ⟨d1, d2⟩, e⟩ := hZ
  have hZ : ZR N m s Z := ⟨⟨⟨a1, a2, a3, a4, a5, a6, a7⟩, ⟨b1, b2, b3, b4, b5⟩⟩, c0, ⟨d1, d2⟩, e⟩
  have hrk : mr m Z.2.2.1 (xI (k : Nat)).toNatClampNeg = some (Z.2.2.2.2.1 k).1 := by rw [← b5 k hk]; simp (disch := omega) only [vin, mk_I, ml_I, mr_I, mk_R, ml_R, mi_R, mkN_eq, mlN_eq, miN_eq, mkN_ne, mlN_ne, miN_ne, mrN_ne, mi_eq, mi_na, mi_nj, mr_eq, mr_na, mr_nj, xL0, xL1, xL2, xL3, xL4, xL5, xL6, xL7, xL8, xL9, xL10, xL12, xL16, xL20, xL24, xL31, xL50, xL60, xL89, xL99, xL100, xL200, xI_add, xI_sub, xI_mul, xI_neg, xI_nat, xI_cl, Int.toNat_natCast, Int.reduceToNat, xltT, xltF, xleT, xleF, xeqT, xeqF, nleT, nleF, nltT, nltF, neqT, neqF, ileT, ileF, iltT, iltF, ieqT, ieqF, or_false, or_true, false_or, true_or, and_true, true_and, and_false, false_and, not_false_eq_true, not_true_eq_false, ↓reduceIte, if_true, if_false]
  generalize hDg : Z.2.2.2.2.1 k = D at hdk hsp hla hlk hDK hrk
  rw [hDK] at hW hP hA
  obtain ⟨q1, q2, q3, q4, q5⟩ := hdk.1
  have p3 : mi m D.1 3 = xI (D.2.2.2.1 3) := hdk.2.1.1 3 (by omega)
  have hst : 0 ≤ D.2.2.2.1 3 ∧ D.2.2.2.1 3 ≤ 3 := hW.2.2.2.1
  have hz0 : ∀ z ∈ D.2.2.2.2.1, 0 ≤ z.2 0 ∧ z.2 0 ≤ 9 := by
    intro z hz
    have := hW.2.2.2.2.2.2.2.1 z.2 (List.mem_map.mpr ⟨z, hz, rfl⟩)
    omega
  have hAk := hdk.2.2.1.1.2.1
  have hAl : ml m D.2.1 = D.2.2.2.2.1.length := hdk.2.2.1.1.2.2.1
  -- the end of the walk
  have hend0 : ∀ g, wq (fB_L_link_53 (fL_L_link g) N m 0 0 0 s (xI (k : Nat)) (xI (o : Nat)) (xI t) D.1 (xI 0) D.2.1 (xI (D.2.2.2.2.1.length : Nat)) (xI (D.2.2.2.2.1.length : Nat))) (fun z => z.1 = xI 1 ∧ ∃ S', BT z.2.1 z.2.2 s S' ∧ S'.1 = (uz Z).1 ∧ S'.2.1 = (uz Z).2.1 ∧ N ≤ z.2.1 ∧ ∀ j, (S'.2.2.1 j).1 = ((uz Z).2.2.1 j).1) := by
    intro g
    unfold fB_L_link_53
    refine w_i (by simp (disch := omega) only [vin, mk_I, ml_I, mr_I, mk_R, ml_R, mi_R, mkN_eq, mlN_eq, miN_eq, mkN_ne, mlN_ne, miN_ne, mrN_ne, mi_eq, mi_na, mi_nj, mr_eq, mr_na, mr_nj, xL0, xL1, xL2, xL3, xL4, xL5, xL6, xL7, xL8, xL9, xL10, xL12, xL16, xL20, xL24, xL31, xL50, xL60, xL89, xL99, xL100, xL200, xI_add, xI_sub, xI_mul, xI_neg, xI_nat, xI_cl, Int.toNat_natCast, Int.reduceToNat, xltT, xltF, xleT, xleF, xeqT, xeqF, nleT, nleF, nltT, nltF, neqT, neqF, ileT, ileF, iltT, iltF, ieqT, ieqF, or_false, or_true, false_or, true_or, and_true, true_and, and_false, false_and, not_false_eq_true, not_true_eq_false, ↓reduceIte, if_true, if_false]) ?_
    refine w_i (by decide) ?_
    exact w_s ⟨rfl, uz Z, hB, rfl, rfl, Nat.le_refl _, fun _ => rfl⟩
  have hend1 : k ≠ o → D.2.2.2.1 3 = 0 → D.2.2.2.2.1.length < 4 → (∀ z ∈ D.2.2.2.2.1, z.2 0 ≠ (o : Int)) → ∀ g, wq (fB_L_link_53 (fL_L_link g) N m 0 0 0 s (xI (k : Nat)) (xI (o : Nat)) (xI t) D.1 (xI 1) D.2.1 (xI (D.2.2.2.2.1.length : Nat)) (xI (D.2.2.2.2.1.length : Nat))) (fun z => z.1 = xI 1 ∧ ∃ S', BT z.2.1 z.2.2 s S' ∧ S'.1 = (uz Z).1 ∧ S'.2.1 = (uz Z).2.1 ∧ N ≤ z.2.1 ∧ ∀ j, (S'.2.2.1 j).1 = ((uz Z).2.2.1 j).1) := by
    intro hko h3 hl hno g
    unfold fB_L_link_53
    refine w_i (by simp (disch := omega) only [vin, mk_I, ml_I, mr_I, mk_R, ml_R, mi_R, mkN_eq, mlN_eq, miN_eq, mkN_ne, mlN_ne, miN_ne, mrN_ne, mi_eq, mi_na, mi_nj, mr_eq, mr_na, mr_nj, xL0, xL1, xL2, xL3, xL4, xL5, xL6, xL7, xL8, xL9, xL10, xL12, xL16, xL20, xL24, xL31, xL50, xL60, xL89, xL99, xL100, xL200, xI_add, xI_sub, xI_mul, xI_neg, xI_nat, xI_cl, Int.toNat_natCast, Int.reduceToNat, xltT, xltF, xleT, xleF, xeqT, xeqF, nleT, nleF, nltT, nltF, neqT, neqF, ileT, ileF, iltT, iltF, ieqT, ieqF, or_false, or_true, false_or, true_or, and_true, true_and, and_false, false_and, not_false_eq_true, not_true_eq_false, ↓reduceIte, if_true, if_false]) ?_
    refine w_n (by decide) ?_
    refine w_i q3 ?_
    refine w_b q4 ?_
    refine w_i (by decide) ?_
    refine w_i (by decide) ?_
    refine w_i (by simp (disch := omega) only [vin, mk_I, ml_I, mr_I, mk_R, ml_R, mi_R, mkN_eq, mlN_eq, miN_eq, mkN_ne, mlN_ne, miN_ne, mrN_ne, mi_eq, mi_na, mi_nj, mr_eq, mr_na, mr_nj, xL0, xL1, xL2, xL3, xL4, xL5, xL6, xL7, xL8, xL9, xL10, xL12, xL16, xL20, xL24, xL31, xL50, xL60, xL89, xL99, xL100, xL200, xI_add, xI_sub, xI_mul, xI_neg, xI_nat, xI_cl, Int.toNat_natCast, Int.reduceToNat, xltT, xltF, xleT, xleF, xeqT, xeqF, nleT, nleF, nltT, nltF, neqT, neqF, ileT, ileF, iltT, iltF, ieqT, ieqF, or_false, or_true, false_or, true_or, and_true, true_and, and_false, false_and, not_false_eq_true, not_true_eq_false, ↓reduceIte, if_true, if_false]) ?_
    refine w_i (by simp (disch := omega) only [vin, mk_I, ml_I, mr_I, mk_R, ml_R, mi_R, mkN_eq, mlN_eq, miN_eq, mkN_ne, mlN_ne, miN_ne, mrN_ne, mi_eq, mi_na, mi_nj, mr_eq, mr_na, mr_nj, xL0, xL1, xL2, xL3, xL4, xL5, xL6, xL7, xL8, xL9, xL10, xL12, xL16, xL20, xL24, xL31, xL50, xL60, xL89, xL99, xL100, xL200, xI_add, xI_sub, xI_mul, xI_neg, xI_nat, xI_cl, Int.toNat_natCast, Int.reduceToNat, xltT, xltF, xleT, xleF, xeqT, xeqF, nleT, nleF, nltT, nltF, neqT, neqF, ileT, ileF, iltT, iltF, ieqT, ieqF, or_false, or_true, false_or, true_or, and_true, true_and, and_false, false_and, not_false_eq_true, not_true_eq_false, ↓reduceIte, if_true, if_false]) ?_
    refine w_i (by simp (disch := omega) only [vin, mk_I, ml_I, mr_I, mk_R, ml_R, mi_R, mkN_eq, mlN_eq, miN_eq, mkN_ne, mlN_ne, miN_ne, mrN_ne, mi_eq, mi_na, mi_nj, mr_eq, mr_na, mr_nj, xL0, xL1, xL2, xL3, xL4, xL5, xL6, xL7, xL8, xL9, xL10, xL12, xL16, xL20, xL24, xL31, xL50, xL60, xL89, xL99, xL100, xL200, xI_add, xI_sub, xI_mul, xI_neg, xI_nat, xI_cl, Int.toNat_natCast, Int.reduceToNat, xltT, xltF, xleT, xleF, xeqT, xeqF, nleT, nleF, nltT, nltF, neqT, neqF, ileT, ileF, iltT, iltF, ieqT, ieqF, or_false, or_true, false_or, true_or, and_true, true_and, and_false, false_and, not_false_eq_true, not_true_eq_false, ↓reduceIte, if_true, if_false]) ?_
    generalize hm1 : mI (mI (mI (mN m N 6 3) N 0 (xI (o : Nat))) N 1 (xI t)) N 2 (-1) = m1
    have f1 : fM N (fun _ => False) m m1 := by
      rw [← hm1]
      exact fM_trans (fM_trans (fM_trans (fM_N (Nat.le_refl _)) (fM_I0 (Nat.le_refl _)) (Nat.le_refl _) (fun _ _ h => h)) (fM_I0 (Nat.le_refl _)) (Nat.le_refl _) (fun _ _ h => h)) (fM_I0 (Nat.le_refl _)) (Nat.le_refl _) (fun _ _ h => h)
    have hro : ro (N + 1) m1 3 (N, r6 o t (-1) 0 0 0) := by
      refine ⟨⟨hN, Nat.lt_succ_self N⟩, ?_, ?_, fun r hr => ?_⟩
      · rw [← hm1]; show mk (mN m N 6 3) N = 6; exact mkN_eq
      · rw [← hm1]; show ml (mN m N 6 3) N = 3; exact mlN_eq
      · have hr2 : r = 0 ∨ r = 1 ∨ r = 2 := by omega
        rw [← hm1]
        rcases hr2 with g | g | g <;> subst g <;> simp (disch := omega) only [vin, mk_I, ml_I, mr_I, mk_R, ml_R, mi_R, mkN_eq, mlN_eq, miN_eq, mkN_ne, mlN_ne, miN_ne, mrN_ne, mi_eq, mi_na, mi_nj, mr_eq, mr_na, mr_nj, xL0, xL1, xL2, xL3, xL4, xL5, xL6, xL7, xL8, xL9, xL10, xL12, xL16, xL20, xL24, xL31, xL50, xL60, xL89, xL99, xL100, xL200, xI_add, xI_sub, xI_mul, xI_neg, xI_nat, xI_cl, Int.toNat_natCast, Int.reduceToNat, xltT, xltF, xleT, xleF, xeqT, xeqF, nleT, nleF, nltT, nltF, neqT, neqF, ileT, ileF, iltT, iltF, ieqT, ieqF, or_false, or_true, false_or, true_or, and_true, true_and, and_false, false_and, not_false_eq_true, not_true_eq_false, ↓reduceIte, if_true, if_false] <;> rfl
    clear hm1
    refine w_c (S_more (a8_fr hdk.2.2.1.1 f1 (Nat.le_succ N) (fun h => h)) (by omega) (fun z hz => ?_) ⟨Nat.lt_succ_self N, hro.2.1⟩) ?_
    · have g := hdk.2.2.1.2 z hz
      exact ⟨by have := g.1.2; omega, by rw [fM_k f1 g.1.2]; exact g.2.1⟩
    rintro ⟨y1, y2, m2⟩ ⟨e1, e2, f2, h8⟩
    have e1 : y1 = N + 1 := e1
    have e2 : y2 = N + 1 + 1 := e2
    subst e1 e2
    dsimp only at f2 h8 ⊢
    have f12 : fM N (fun _ => False) m m2 := fM_trans f1 f2 (Nat.le_succ N) (fun _ _ h => h)
    refine w_i (by decide) ?_
    refine w_i (by decide) ?_
    refine w_i (by rw [fM_k f12 q2]; exact q3) ?_
    have f3 : fM N (fun x => x = D.1) m (mR m2 D.1 5 (some (N + 1))) := fM_trans (fM_w f12 (fun _ _ h => h.elim)) (fM_R (X := fun x => x = D.1) rfl) (Nat.le_refl _) (fun _ _ h => h)
    have hne6 : ∀ x, mk m x = 6 → x ≠ D.1 := fun x hx e => by rw [e, q3] at hx; omega
    have hne8 : ∀ x, mk m x = 8 → x ≠ D.1 := fun x hx e => by rw [e, q3] at hx; omega
    have h5 : mr (mR m2 D.1 5 (some (N + 1))) D.1 5 = some (N + 1) := mr_eq
    have hA8 : a8 (N + 1 + 1) (mR m2 D.1 5 (some (N + 1))) (N + 1) (D.2.2.2.2.1 ++ [(N, r6 o t (-1) 0 0 0)]) := a8_fr (h8 _) (fM_R (X := fun x => x = D.1) rfl) (Nat.le_refl _) (fun g => by have g : N + 1 = D.1 := g; omega)
    have hro3 : ro (N + 1 + 1) (mR m2 D.1 5 (some (N + 1))) 3 (N, r6 o t (-1) 0 0 0) := ro_fr hro (fM_trans (fM_w f2 (fun _ _ h => h.elim)) (fM_R (X := fun x => x = D.1) rfl) (Nat.le_refl _) (fun _ _ h => h)) (by omega) (fun g => by have g : N = D.1 := g; omega)
    have h6 : mr (mR m2 D.1 5 (some (N + 1))) D.1 6 = some D.2.2.1 := by rw [mr_nj (by omega), fM_r f12 q2 (fun h => h)]; exact q5
    have hii : ∀ j, mi (mR m2 D.1 5 (some (N + 1))) D.1 j = mi m D.1 j := fun j => by rw [mi_R, fM_i f12 q2 (fun h => h)]
    generalize mR m2 D.1 5 (some (N + 1)) = m3 at f3 h5 hA8 hro3 h6 hii ⊢
    have hD3 : dR (N + 1 + 1) m3 (D.1, N + 1, D.2.2.1, D.2.2.2.1, D.2.2.2.2.1 ++ [(N, r6 o t (-1) 0 0 0)], D.2.2.2.2.2) := by
      obtain ⟨_, ⟨u1, u2, u3⟩, ⟨u4, u5⟩, u6, u7⟩ := hdk
      refine ⟨⟨q1, by show D.1 < _; omega, by show mk m3 D.1 = 4; rw [fM_k f3 q2]; exact q3, h5, h6⟩, ⟨fun j hj => by show mi m3 D.1 j = _; rw [hii]; exact u1 j hj, by show mi m3 D.1 7 = _; rw [hii]; exact u2, by show mi m3 D.1 8 = _; rw [hii]; exact u3⟩, ⟨hA8, fun z hz => ?_⟩, a8_fr u6 f3 (by omega) (hne8 _ u6.2.1), fun z hz => ro_fr (u7 z hz) f3 (by omega) (hne6 _ (u7 z hz).2.1)⟩
      rcases List.mem_append.mp hz with g | g
      · exact ro_fr (u5 z g) f3 (by omega) (hne6 _ (u5 z g).2.1)
      · rw [List.mem_singleton.mp g]; exact hro3
    have hZ3 : ZR (N + 1 + 1) m3 s (zset Z k (D.1, N + 1, D.2.2.1, D.2.2.2.1, D.2.2.2.2.1 ++ [(N, r6 o t (-1) 0 0 0)], D.2.2.2.2.2)) := by
      refine ZR_set hZ hk f3 (by omega) hD3 (by rw [hDg]) ?_ (fun w hw => ?_) (fun x _ hx => .inl (by rw [hDg]; exact hx))
      · show (D.2.2.2.2.1 ++ [(N, r6 o t (-1) 0 0 0)]).Pairwise _
        rw [List.pairwise_append]
        refine ⟨hsp, List.pairwise_singleton _ _, fun z hz w hw => ?_⟩
        rw [List.mem_singleton.mp hw]
        have := (hdk.2.2.1.2 z hz).1.2
        show z.1 ≠ N; omega
      · rcases List.mem_append.mp hw with g | g
        · exact .inl ⟨w, by rw [hDg]; exact g, rfl⟩
        · rw [List.mem_singleton.mp g]; exact .inr (Nat.le_refl _)
    have hC3 : CV m3 (uz Z) := CV_fr hC hn f3 hN (fun x _ hx => by rw [hx]; exact q1)
    have hlu : (ud D).2.1.length = D.2.2.2.2.1.length := by unfold ud; rw [List.length_map]
    have hask := S_X3ask (o := (o : Nat)) (t := t) hC3.1 hC3.2 hn hk (hWa k hk) (by refine ⟨by omega, ?_, by omega⟩; show (o : Int) < (Z.1 : Nat); omega) ht (by rw [hDK]; exact h3) (by
      rw [hDK]; intro a ha
      obtain ⟨z, hz, rfl⟩ := List.mem_map.mp ha
      exact hno z hz) (by rw [hDK, hlu]; exact hl)
    rw [xW_self] at hask
    refine w_i hC3.1.1 ?_
    refine w_c hask ?_
    rintro z ⟨τ, rfl, t1, t2⟩
    refine w_i (hD3.1.2.2.1) ?_
    refine w_b h5 ?_
    refine w_i hA8.2.1 ?_
    have hml : ml (xW m3 τ) (N + 1) = D.2.2.2.2.1.length + 1 := by
      have := hA8.2.2.1
      rw [List.length_append] at this; exact this
    refine w_i (by rw [hml, xI_nat, hDK, hlu]; rfl) ?_
    have hI' := IN_link (o := (o : Nat)) (t := t) hI hk (by refine ⟨by omega, ?_, by omega⟩; show (o : Int) < (Z.1 : Nat); omega) ht (by
      rw [hDK]; intro a ha
      obtain ⟨z, hz, rfl⟩ := List.mem_map.mp ha
      exact hno z hz) (by rw [hDK, hlu]; exact hl)
    refine w_s ⟨rfl, a_link (uz Z) k o t, ⟨CV_cl hC3 t1, by show 149 ≤ N + 1 + 1; omega, ⟨_, ZR_cl hZ3 (fun x hx => t2 x (by omega)), ?_⟩, _, _, hI'⟩, rfl, rfl, by show N ≤ N + 1 + 1; omega, fun j => link_1 j⟩
    rw [uz_set]
    unfold a_link
    rw [hDK]
    unfold ud
    simp only [List.map_append, List.map_cons, List.map_nil]
  have hgo : ∀ fl : Int, (fl = 0 ∨ (fl = 1 ∧ k ≠ o ∧ D.2.2.2.1 3 = 0 ∧ D.2.2.2.2.1.length < 4)) → wq (fL_L_link vF 53 N m 0 0 0 s (xI (k : Nat)) (xI (o : Nat)) (xI t) D.1 (xI fl) D.2.1 (Int32.ofNat (ml m D.2.1)) 0) (fun z => z.1 = xI 1 ∧ ∃ S', BT z.2.1 z.2.2 s S' ∧ S'.1 = (uz Z).1 ∧ S'.2.1 = (uz Z).2.1 ∧ N ≤ z.2.1 ∧ ∀ j, (S'.2.2.1 j).1 = ((uz Z).2.2.1 j).1) := by
    intro fl hfl
    obtain ⟨g, hg⟩ : ∃ g, vF = D.2.2.2.2.1.length + 1 + g := ⟨vF - D.2.2.2.2.1.length - 1, by unfold vF; omega⟩
    have h9 := L_lk (n := 0) (o := (o : Nat)) (t := 0) (A := 0) (g := g) (kz := []) (f := fun _ => 0) (K := 0) hdk (by omega) hla hz0 (kc := 0) (ks := 0) (r1 := s) (i2 := xI (k : Nat)) (i4 := xI t) D.2.2.2.2.1 [] rfl fl (by rcases hfl with g | g <;> omega)
    rw [← hg] at h9
    have e0 : fL_L_link vF 53 N m 0 0 0 s (xI (k : Nat)) (xI (o : Nat)) (xI t) D.1 (xI fl) D.2.1 (Int32.ofNat (ml m D.2.1)) 0 = fL_L_link vF 53 N m 0 0 0 s (xI (k : Nat)) (xI (o : Nat)) (xI t) D.1 (xI fl) D.2.1 (xI (D.2.2.2.2.1.length : Nat)) (xI (([] : List (Nat × aR)).length : Nat)) := by rw [hAl, xI_nat]; rfl
    rw [e0, h9]
    by_cases c : fl = 1 ∧ ∀ z ∈ D.2.2.2.2.1, z.2 0 ≠ (o : Int)
    · rw [if_pos c]
      rcases hfl with g2 | ⟨_, g3, g4, g5⟩
      · have := c.1; omega
      · exact hend1 g3 g4 g5 c.2 g
    · rw [if_neg c]; exact hend0 g
  unfold f_L_link
  refine w_i a3 ?_
  refine w_b a4 ?_
  refine w_i b3 ?_
  refine w_i (by simp (disch := omega) only [vin, mk_I, ml_I, mr_I, mk_R, ml_R, mi_R, mkN_eq, mlN_eq, miN_eq, mkN_ne, mlN_ne, miN_ne, mrN_ne, mi_eq, mi_na, mi_nj, mr_eq, mr_na, mr_nj, xL0, xL1, xL2, xL3, xL4, xL5, xL6, xL7, xL8, xL9, xL10, xL12, xL16, xL20, xL24, xL31, xL50, xL60, xL89, xL99, xL100, xL200, xI_add, xI_sub, xI_mul, xI_neg, xI_nat, xI_cl, Int.toNat_natCast, Int.reduceToNat, xltT, xltF, xleT, xleF, xeqT, xeqF, nleT, nleF, nltT, nltF, neqT, neqF, ileT, ileF, iltT, iltF, ieqT, ieqF, or_false, or_true, false_or, true_or, and_true, true_and, and_false, false_and, not_false_eq_true, not_true_eq_false, ↓reduceIte, if_true, if_false, b4]) ?_
  refine w_b hrk ?_
  by_cases c1 : k = o
  · refine w_i (by rw [c1]) ?_
    refine w_i q3 ?_
    refine w_b q4 ?_
    refine w_i hAk ?_
    exact hgo 0 (.inl rfl)
  · refine w_n (by rw [xeqF (by omega)]; exact fun h => h) ?_
    refine w_i q3 ?_
    by_cases c2 : D.2.2.2.1 3 = 0
    · refine w_i (by simp (disch := omega) only [vin, mk_I, ml_I, mr_I, mk_R, ml_R, mi_R, mkN_eq, mlN_eq, miN_eq, mkN_ne, mlN_ne, miN_ne, mrN_ne, mi_eq, mi_na, mi_nj, mr_eq, mr_na, mr_nj, xL0, xL1, xL2, xL3, xL4, xL5, xL6, xL7, xL8, xL9, xL10, xL12, xL16, xL20, xL24, xL31, xL50, xL60, xL89, xL99, xL100, xL200, xI_add, xI_sub, xI_mul, xI_neg, xI_nat, xI_cl, Int.toNat_natCast, Int.reduceToNat, xltT, xltF, xleT, xleF, xeqT, xeqF, nleT, nleF, nltT, nltF, neqT, neqF, ileT, ileF, iltT, iltF, ieqT, ieqF, or_false, or_true, false_or, true_or, and_true, true_and, and_false, false_and, not_false_eq_true, not_true_eq_false, ↓reduceIte, if_true, if_false, p3]) ?_
      refine w_b q4 ?_
      refine w_i hAk ?_
      by_cases c3 : D.2.2.2.2.1.length < 4
      · refine w_n (by simp (disch := omega) only [vin, mk_I, ml_I, mr_I, mk_R, ml_R, mi_R, mkN_eq, mlN_eq, miN_eq, mkN_ne, mlN_ne, miN_ne, mrN_ne, mi_eq, mi_na, mi_nj, mr_eq, mr_na, mr_nj, xL0, xL1, xL2, xL3, xL4, xL5, xL6, xL7, xL8, xL9, xL10, xL12, xL16, xL20, xL24, xL31, xL50, xL60, xL89, xL99, xL100, xL200, xI_add, xI_sub, xI_mul, xI_neg, xI_nat, xI_cl, Int.toNat_natCast, Int.reduceToNat, xltT, xltF, xleT, xleF, xeqT, xeqF, nleT, nleF, nltT, nltF, neqT, neqF, ileT, ileF, iltT, iltF, ieqT, ieqF, or_false, or_true, false_or, true_or, and_true, true_and, and_false, false_and, not_false_eq_true, not_true_eq_false, ↓reduceIte, if_true, if_false, hAl]) ?_
        refine w_b q4 ?_
        refine w_i hAk ?_
        exact hgo 1 (.inr ⟨rfl, c1, c2, c3⟩)
      · refine w_i (by simp (disch := omega) only [vin, mk_I, ml_I, mr_I, mk_R, ml_R, mi_R, mkN_eq, mlN_eq, miN_eq, mkN_ne, mlN_ne, miN_ne, mrN_ne, mi_eq, mi_na, mi_nj, mr_eq, mr_na, mr_nj, xL0, xL1, xL2, xL3, xL4, xL5, xL6, xL7, xL8, xL9, xL10, xL12, xL16, xL20, xL24, xL31, xL50, xL60, xL89, xL99, xL100, xL200, xI_add, xI_sub, xI_mul, xI_neg, xI_nat, xI_cl, Int.toNat_natCast, Int.reduceToNat, xltT, xltF, xleT, xleF, xeqT, xeqF, nleT, nleF, nltT, nltF, neqT, neqF, ileT, ileF, iltT, iltF, ieqT, ieqF, or_false, or_true, false_or, true_or, and_true, true_and, and_false, false_and, not_false_eq_true, not_true_eq_false, ↓reduceIte, if_true, if_false, hAl]) ?_
        refine w_b q4 ?_
        refine w_i hAk ?_
        exact hgo 0 (.inl rfl)
    · refine w_n (by simp (disch := omega) only [vin, mk_I, ml_I, mr_I, mk_R, ml_R, mi_R, mkN_eq, mlN_eq, miN_eq, mkN_ne, mlN_ne, miN_ne, mrN_ne, mi_eq, mi_na, mi_nj, mr_eq, mr_na, mr_nj, xL0, xL1, xL2, xL3, xL4, xL5, xL6, xL7, xL8, xL9, xL10, xL12, xL16, xL20, xL24, xL31, xL50, xL60, xL89, xL99, xL100, xL200, xI_add, xI_sub, xI_mul, xI_neg, xI_nat, xI_cl, Int.toNat_natCast, Int.reduceToNat, xltT, xltF, xleT, xleF, xeqT, xeqF, nleT, nleF, nltT, nltF, neqT, neqF, ileT, ileF, iltT, iltF, ieqT, ieqF, or_false, or_true, false_or, true_or, and_true, true_and, and_false, false_and, not_false_eq_true, not_true_eq_false, ↓reduceIte, if_true, if_false, p3]) ?_
      refine w_b q4 ?_
      refine w_i hAk ?_
      exact hgo 0 (.inl rfl)
end
