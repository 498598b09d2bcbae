section
variable {m m' : vM} {N N' s k y : Nat} {X : Nat → Prop} {D : zD} {Z : zS} {v : aR} {E : Nat → List (Int × Int)} {Lw : Nat → Int} {pend : List aR} {c : Nat → Int}
/-- an answer, told to one of those that a door asks -/
def hz (st : Int) (v : aR) (z : Nat × aR) : Nat × aR := if st = 1 ∧ z.2 0 = v 0 ∧ z.2 2 < 0 then (z.1, fu z.2 2 (v 2 - 1)) else z
theorem hz_fst {st : Int} {z : Nat × aR} : (hz st v z).1 = z.1 := by unfold hz; split <;> rfl
theorem L_zhear {q A K n : Nat} {f : aR} {kz : List (Nat × aR)} (hk : k < n) (hn : n ≤ 10) (hst : 0 ≤ f 3 ∧ f 3 ≤ 3) (hv0 : 0 ≤ v 0 ∧ v 0 ≤ 9) (hv2 : 0 ≤ v 2 ∧ v 2 ≤ 2) : ∀ (l2 l1 : List (Nat × aR)) (m : vM) (Z : zS) (kc ks : Nat), ZR N m s Z → Z.1 = n → Z.2.2.2.2.1 k = (q, A, K, f, l1 ++ l2, kz) → ro N m 5 (y, v) → l1.length + l2.length ≤ 4 → (∀ z ∈ l2, 0 ≤ z.2 0 ∧ z.2 0 ≤ 9 ∧ -1 ≤ z.2 2 ∧ z.2 2 ≤ 1) → ∀ fl, l2.length < fl → wq (fL_X5_hear fl 27 N m kc ks s y q A (xI ((l1.length + l2.length : Nat) : Int)) (xI (l1.length : Nat))) (fun z => z.1 = N ∧ ZR N z.2 s (zset Z k (q, A, K, f, l1 ++ l2.map (hz (f 3) v), kz)) ∧ fM N (tX m) m z.2) := by
  intro l2
  induction l2 with
  | nil =>
    intro l1 m Z kc ks h hn1 hD hy hl hz0 fl hf
    obtain ⟨g, rfl⟩ : ∃ g, fl = g + 1 := ⟨fl - 1, by simp at hf; omega⟩
    show wq (fB_X5_hear_27 (fL_X5_hear g) N m kc ks s y q A _ _) _
    unfold fB_X5_hear_27
    refine w_i (by simp (disch := omega) only [vin, mk_I, ml_I, mr_I, mk_R, ml_R, mi_R, mkN_eq, mlN_eq, miN_eq, mkN_ne, mlN_ne, miN_ne, mrN_ne, mi_eq, mi_na, mi_nj, mr_eq, mr_na, mr_nj, xL0, xL1, xL2, xL3, xL4, xL5, xL6, xL7, xL8, xL9, xL10, xL12, xL16, xL20, xL24, xL31, xL50, xL60, xL89, xL99, xL100, xL200, xI_add, xI_sub, xI_mul, xI_neg, xI_nat, xI_cl, Int.toNat_natCast, Int.reduceToNat, xltT, xltF, xleT, xleF, xeqT, xeqF, nleT, nleF, nltT, nltF, neqT, neqF, ileT, ileF, iltT, iltF, ieqT, ieqF, or_false, or_true, false_or, true_or, and_true, true_and, and_false, false_and, not_false_eq_true, not_true_eq_false, ↓reduceIte, if_true, if_false, List.length_nil, Nat.add_zero]) ?_
    refine w_s ⟨rfl, ?_, fM_rfl⟩
    rw [List.map_nil, ← hD]
    have e : zset Z k (Z.2.2.2.2.1 k) = Z := by
      unfold zset
      congr 5
      funext x
      by_cases g : x = k
      · subst g; simp
      · simp [g]
    rw [e]; exact h
  | cons z l2 ih =>
    intro l1 m Z kc ks h hn1 hD hy hl hz0 fl hf
    rw [List.length_cons] at hl hf
    obtain ⟨g, rfl⟩ : ∃ g, fl = g + 1 := ⟨fl - 1, by omega⟩
    have hdk := h.2.1 k (by omega)
    have hsp := h.2.2.2.2.1 k (by omega)
    rw [hD] at hdk hsp
    obtain ⟨cN, c8, cl, cr⟩ := hdk.2.2.1.1
    obtain ⟨⟨z1, z2⟩, z3, z4, z5⟩ := hdk.2.2.1.2 z (by simp)
    obtain ⟨⟨y1, y2⟩, y3, y4, y5⟩ := hy
    have hz1 := hz0 z List.mem_cons_self
    have hrz : mr m A (xI (l1.length : Nat)).toNatClampNeg = some z.1 := by
      rw [← cr l1.length z (by show (l1 ++ z :: l2)[l1.length]? = some z; rw [List.getElem?_append_right (Nat.le_refl _), Nat.sub_self]; rfl)]
      simp (disch := omega) only [vin, mk_I, ml_I, mr_I, mk_R, ml_R, mi_R, mkN_eq, mlN_eq, miN_eq, mkN_ne, mlN_ne, miN_ne, mrN_ne, mi_eq, mi_na, mi_nj, mr_eq, mr_na, mr_nj, xL0, xL1, xL2, xL3, xL4, xL5, xL6, xL7, xL8, xL9, xL10, xL12, xL16, xL20, xL24, xL31, xL50, xL60, xL89, xL99, xL100, xL200, xI_add, xI_sub, xI_mul, xI_neg, xI_nat, xI_cl, Int.toNat_natCast, Int.reduceToNat, xltT, xltF, xleT, xleF, xeqT, xeqF, nleT, nleF, nltT, nltF, neqT, neqF, ileT, ileF, iltT, iltF, ieqT, ieqF, or_false, or_true, false_or, true_or, and_true, true_and, and_false, false_and, not_false_eq_true, not_true_eq_false, ↓reduceIte, if_true, if_false]
    have hl8 : ml m A = l1.length + (l2.length + 1) := by rw [cl]; show (l1 ++ z :: l2).length = _; rw [List.length_append, List.length_cons]
    have i0 := z5 0 (by omega)
    have i2 := z5 2 (by omega)
    have w0 : mi m y 0 = xI (v 0) := y5 0 (by omega)
    have w2 : mi m y 2 = xI (v 2) := y5 2 (by omega)
    have p3 : mi m q 3 = xI (f 3) := hdk.2.1.1 3 (by omega)
    have hq4 : mk m q = 4 := hdk.1.2.2.1
    have hy4 : ml m y = 5 := y4
    have e1 : ((l1 ++ [hz (f 3) v z]).length + l2.length : Nat) = l1.length + (z :: l2).length := by rw [List.length_append, List.length_cons]; simp; omega
    have e2 : (l1 ++ [hz (f 3) v z]).length = l1.length + 1 := by rw [List.length_append]; rfl
    have e3 : l1 ++ (z :: l2).map (hz (f 3) v) = (l1 ++ [hz (f 3) v z]) ++ l2.map (hz (f 3) v) := by simp
    -- nothing is written
    have hskip : ¬ (f 3 = 1 ∧ z.2 0 = v 0 ∧ z.2 2 < 0) → wq (fL_X5_hear g 27 N m kc ks s y q A (xI ((l1.length + (z :: l2).length : Nat) : Int)) (xI (l1.length : Nat) + 1)) (fun w => w.1 = N ∧ ZR N w.2 s (zset Z k (q, A, K, f, l1 ++ (z :: l2).map (hz (f 3) v), kz)) ∧ fM N (tX m) m w.2) := by
      intro hc
      have e4 : hz (f 3) v z = z := if_neg hc
      have h9 := ih (l1 ++ [hz (f 3) v z]) m Z kc ks h hn1 (by rw [e4, hD]; simp) ⟨⟨y1, y2⟩, y3, y4, y5⟩ (by rw [List.length_append]; simp; omega) (fun w hw => hz0 w (List.mem_cons_of_mem _ hw)) g (by omega)
      rw [e1, e2, ← e3] at h9
      rw [xL1, xI_add]; exact h9
    show wq (fB_X5_hear_27 (fL_X5_hear g) N m kc ks s y q A _ _) _
    unfold fB_X5_hear_27
    refine w_n (by simp (disch := omega) only [vin, mk_I, ml_I, mr_I, mk_R, ml_R, mi_R, mkN_eq, mlN_eq, miN_eq, mkN_ne, mlN_ne, miN_ne, mrN_ne, mi_eq, mi_na, mi_nj, mr_eq, mr_na, mr_nj, xL0, xL1, xL2, xL3, xL4, xL5, xL6, xL7, xL8, xL9, xL10, xL12, xL16, xL20, xL24, xL31, xL50, xL60, xL89, xL99, xL100, xL200, xI_add, xI_sub, xI_mul, xI_neg, xI_nat, xI_cl, Int.toNat_natCast, Int.reduceToNat, xltT, xltF, xleT, xleF, xeqT, xeqF, nleT, nleF, nltT, nltF, neqT, neqF, ileT, ileF, iltT, iltF, ieqT, ieqF, or_false, or_true, false_or, true_or, and_true, true_and, and_false, false_and, not_false_eq_true, not_true_eq_false, ↓reduceIte, if_true, if_false, List.length_cons]) ?_
    refine w_i c8 ?_
    refine w_i (by simp (disch := omega) only [vin, mk_I, ml_I, mr_I, mk_R, ml_R, mi_R, mkN_eq, mlN_eq, miN_eq, mkN_ne, mlN_ne, miN_ne, mrN_ne, mi_eq, mi_na, mi_nj, mr_eq, mr_na, mr_nj, xL0, xL1, xL2, xL3, xL4, xL5, xL6, xL7, xL8, xL9, xL10, xL12, xL16, xL20, xL24, xL31, xL50, xL60, xL89, xL99, xL100, xL200, xI_add, xI_sub, xI_mul, xI_neg, xI_nat, xI_cl, Int.toNat_natCast, Int.reduceToNat, xltT, xltF, xleT, xleF, xeqT, xeqF, nleT, nleF, nltT, nltF, neqT, neqF, ileT, ileF, iltT, iltF, ieqT, ieqF, or_false, or_true, false_or, true_or, and_true, true_and, and_false, false_and, not_false_eq_true, not_true_eq_false, ↓reduceIte, if_true, if_false, hl8]) ?_
    refine w_b hrz ?_
    refine w_i z3 ?_
    refine w_i (by simp (disch := omega) only [vin, mk_I, ml_I, mr_I, mk_R, ml_R, mi_R, mkN_eq, mlN_eq, miN_eq, mkN_ne, mlN_ne, miN_ne, mrN_ne, mi_eq, mi_na, mi_nj, mr_eq, mr_na, mr_nj, xL0, xL1, xL2, xL3, xL4, xL5, xL6, xL7, xL8, xL9, xL10, xL12, xL16, xL20, xL24, xL31, xL50, xL60, xL89, xL99, xL100, xL200, xI_add, xI_sub, xI_mul, xI_neg, xI_nat, xI_cl, Int.toNat_natCast, Int.reduceToNat, xltT, xltF, xleT, xleF, xeqT, xeqF, nleT, nleF, nltT, nltF, neqT, neqF, ileT, ileF, iltT, iltF, ieqT, ieqF, or_false, or_true, false_or, true_or, and_true, true_and, and_false, false_and, not_false_eq_true, not_true_eq_false, ↓reduceIte, if_true, if_false, z4]) ?_
    refine w_i y3 ?_
    refine w_i (by simp (disch := omega) only [vin, mk_I, ml_I, mr_I, mk_R, ml_R, mi_R, mkN_eq, mlN_eq, miN_eq, mkN_ne, mlN_ne, miN_ne, mrN_ne, mi_eq, mi_na, mi_nj, mr_eq, mr_na, mr_nj, xL0, xL1, xL2, xL3, xL4, xL5, xL6, xL7, xL8, xL9, xL10, xL12, xL16, xL20, xL24, xL31, xL50, xL60, xL89, xL99, xL100, xL200, xI_add, xI_sub, xI_mul, xI_neg, xI_nat, xI_cl, Int.toNat_natCast, Int.reduceToNat, xltT, xltF, xleT, xleF, xeqT, xeqF, nleT, nleF, nltT, nltF, neqT, neqF, ileT, ileF, iltT, iltF, ieqT, ieqF, or_false, or_true, false_or, true_or, and_true, true_and, and_false, false_and, not_false_eq_true, not_true_eq_false, ↓reduceIte, if_true, if_false, hy4]) ?_
    by_cases c1 : z.2 0 = v 0
    · refine w_i (by simp (disch := omega) only [vin, mk_I, ml_I, mr_I, mk_R, ml_R, mi_R, mkN_eq, mlN_eq, miN_eq, mkN_ne, mlN_ne, miN_ne, mrN_ne, mi_eq, mi_na, mi_nj, mr_eq, mr_na, mr_nj, xL0, xL1, xL2, xL3, xL4, xL5, xL6, xL7, xL8, xL9, xL10, xL12, xL16, xL20, xL24, xL31, xL50, xL60, xL89, xL99, xL100, xL200, xI_add, xI_sub, xI_mul, xI_neg, xI_nat, xI_cl, Int.toNat_natCast, Int.reduceToNat, xltT, xltF, xleT, xleF, xeqT, xeqF, nleT, nleF, nltT, nltF, neqT, neqF, ileT, ileF, iltT, iltF, ieqT, ieqF, or_false, or_true, false_or, true_or, and_true, true_and, and_false, false_and, not_false_eq_true, not_true_eq_false, ↓reduceIte, if_true, if_false, i0, w0]) ?_
      refine w_i hq4 ?_
      by_cases c2 : f 3 = 1
      · refine w_i (by simp (disch := omega) only [vin, mk_I, ml_I, mr_I, mk_R, ml_R, mi_R, mkN_eq, mlN_eq, miN_eq, mkN_ne, mlN_ne, miN_ne, mrN_ne, mi_eq, mi_na, mi_nj, mr_eq, mr_na, mr_nj, xL0, xL1, xL2, xL3, xL4, xL5, xL6, xL7, xL8, xL9, xL10, xL12, xL16, xL20, xL24, xL31, xL50, xL60, xL89, xL99, xL100, xL200, xI_add, xI_sub, xI_mul, xI_neg, xI_nat, xI_cl, Int.toNat_natCast, Int.reduceToNat, xltT, xltF, xleT, xleF, xeqT, xeqF, nleT, nleF, nltT, nltF, neqT, neqF, ileT, ileF, iltT, iltF, ieqT, ieqF, or_false, or_true, false_or, true_or, and_true, true_and, and_false, false_and, not_false_eq_true, not_true_eq_false, ↓reduceIte, if_true, if_false, p3]) ?_
        refine w_i (by simp (disch := omega) only [vin, mk_I, ml_I, mr_I, mk_R, ml_R, mi_R, mkN_eq, mlN_eq, miN_eq, mkN_ne, mlN_ne, miN_ne, mrN_ne, mi_eq, mi_na, mi_nj, mr_eq, mr_na, mr_nj, xL0, xL1, xL2, xL3, xL4, xL5, xL6, xL7, xL8, xL9, xL10, xL12, xL16, xL20, xL24, xL31, xL50, xL60, xL89, xL99, xL100, xL200, xI_add, xI_sub, xI_mul, xI_neg, xI_nat, xI_cl, Int.toNat_natCast, Int.reduceToNat, xltT, xltF, xleT, xleF, xeqT, xeqF, nleT, nleF, nltT, nltF, neqT, neqF, ileT, ileF, iltT, iltF, ieqT, ieqF, or_false, or_true, false_or, true_or, and_true, true_and, and_false, false_and, not_false_eq_true, not_true_eq_false, ↓reduceIte, if_true, if_false, z4]) ?_
        by_cases c3 : z.2 2 < 0
        · refine w_n (by simp (disch := omega) only [vin, mk_I, ml_I, mr_I, mk_R, ml_R, mi_R, mkN_eq, mlN_eq, miN_eq, mkN_ne, mlN_ne, miN_ne, mrN_ne, mi_eq, mi_na, mi_nj, mr_eq, mr_na, mr_nj, xL0, xL1, xL2, xL3, xL4, xL5, xL6, xL7, xL8, xL9, xL10, xL12, xL16, xL20, xL24, xL31, xL50, xL60, xL89, xL99, xL100, xL200, xI_add, xI_sub, xI_mul, xI_neg, xI_nat, xI_cl, Int.toNat_natCast, Int.reduceToNat, xltT, xltF, xleT, xleF, xeqT, xeqF, nleT, nleF, nltT, nltF, neqT, neqF, ileT, ileF, iltT, iltF, ieqT, ieqF, or_false, or_true, false_or, true_or, and_true, true_and, and_false, false_and, not_false_eq_true, not_true_eq_false, ↓reduceIte, if_true, if_false, i2]) ?_
          refine w_i (by simp (disch := omega) only [vin, mk_I, ml_I, mr_I, mk_R, ml_R, mi_R, mkN_eq, mlN_eq, miN_eq, mkN_ne, mlN_ne, miN_ne, mrN_ne, mi_eq, mi_na, mi_nj, mr_eq, mr_na, mr_nj, xL0, xL1, xL2, xL3, xL4, xL5, xL6, xL7, xL8, xL9, xL10, xL12, xL16, xL20, xL24, xL31, xL50, xL60, xL89, xL99, xL100, xL200, xI_add, xI_sub, xI_mul, xI_neg, xI_nat, xI_cl, Int.toNat_natCast, Int.reduceToNat, xltT, xltF, xleT, xleF, xeqT, xeqF, nleT, nleF, nltT, nltF, neqT, neqF, ileT, ileF, iltT, iltF, ieqT, ieqF, or_false, or_true, false_or, true_or, and_true, true_and, and_false, false_and, not_false_eq_true, not_true_eq_false, ↓reduceIte, if_true, if_false, hy4]) ?_
          refine w_i (by simp (disch := omega) only [vin, mk_I, ml_I, mr_I, mk_R, ml_R, mi_R, mkN_eq, mlN_eq, miN_eq, mkN_ne, mlN_ne, miN_ne, mrN_ne, mi_eq, mi_na, mi_nj, mr_eq, mr_na, mr_nj, xL0, xL1, xL2, xL3, xL4, xL5, xL6, xL7, xL8, xL9, xL10, xL12, xL16, xL20, xL24, xL31, xL50, xL60, xL89, xL99, xL100, xL200, xI_add, xI_sub, xI_mul, xI_neg, xI_nat, xI_cl, Int.toNat_natCast, Int.reduceToNat, xltT, xltF, xleT, xleF, xeqT, xeqF, nleT, nleF, nltT, nltF, neqT, neqF, ileT, ileF, iltT, iltF, ieqT, ieqF, or_false, or_true, false_or, true_or, and_true, true_and, and_false, false_and, not_false_eq_true, not_true_eq_false, ↓reduceIte, if_true, if_false, z4]) ?_
          have e4 : hz (f 3) v z = (z.1, fu z.2 2 (v 2 - 1)) := if_pos ⟨c2, c1, c3⟩
          rw [w2, xL1, xI_sub]
          have hd1 := dR_row (v := v 2 - 1) (r := 2) hdk (z := z) (l1 := l1) (l2 := l2) rfl hsp
          rw [← e4] at hd1
          have hf1 : fM N (fun x => x = z.1) m (mI m z.1 2 (xI (v 2 - 1))) := fM_I rfl
          have hZ1 : ZR N (mI m z.1 2 (xI (v 2 - 1))) s (zset Z k (q, A, K, f, l1 ++ hz (f 3) v z :: l2, kz)) := by
            refine ZR_set h (by omega) hf1 (Nat.le_refl _) hd1 (by rw [hD]) ?_ (fun w hw => ?_) (fun x _ hx => ?_)
            · show (l1 ++ hz (f 3) v z :: l2).Pairwise _
              have e9 : (l1 ++ hz (f 3) v z :: l2).map Prod.fst = (l1 ++ z :: l2).map Prod.fst := by simp [hz_fst]
              have h9 : ((l1 ++ z :: l2).map Prod.fst).Pairwise (fun a b => a ≠ b) := by rw [List.pairwise_map]; exact hsp
              rw [← e9, List.pairwise_map] at h9; exact h9
            · rw [hD]
              have hw : w ∈ l1 ++ hz (f 3) v z :: l2 := hw
              refine .inl ?_
              rcases List.mem_append.mp hw with e | e
              · exact ⟨w, List.mem_append.mpr (.inl e), rfl⟩
              · rcases List.mem_cons.mp e with e | e
                · exact ⟨z, by simp, by rw [e]; exact hz_fst.symm⟩
                · exact ⟨w, List.mem_append.mpr (.inr (List.mem_cons_of_mem _ e)), rfl⟩
            · rw [hD]; exact .inr ⟨z, by simp, hx⟩
          have hyz : y ≠ z.1 := fun e => by rw [e, z4] at hy4; omega
          have h9 := ih (l1 ++ [hz (f 3) v z]) (mI m z.1 2 (xI (v 2 - 1))) _ kc ks hZ1 hn1 (by rw [zset_eq]; simp) (ro_fr ⟨⟨y1, y2⟩, y3, y4, y5⟩ hf1 (Nat.le_refl _) hyz) (by rw [List.length_append]; simp; omega) (fun w hw => hz0 w (List.mem_cons_of_mem _ hw)) g (by omega)
          rw [e1, e2, ← e3] at h9
          refine w_r (by rw [xI_add]; rfl) (w_m h9 ?_)
          rintro ⟨N1, m1⟩ ⟨j1, j2, j3⟩
          have fa : fM N (tX m) m (mI m z.1 2 (xI (v 2 - 1))) := fM_w hf1 (fun x _ hx => by rw [hx]; exact ⟨z1, .inr (.inr ⟨z3, z4⟩)⟩)
          refine ⟨j1, ?_, fM_trans fa j3 (Nat.le_refl _) (fun x hx hy => tX_fM fa hx hy)⟩
          have e5 : ∀ D D', zset (zset Z k D) k D' = zset Z k D' := by
            intro D D'
            unfold zset
            congr 5
            funext x
            by_cases g : x = k
            · subst g; simp
            · simp [g]
          rw [e5] at j2; exact j2
        · refine w_i (by simp (disch := omega) only [vin, mk_I, ml_I, mr_I, mk_R, ml_R, mi_R, mkN_eq, mlN_eq, miN_eq, mkN_ne, mlN_ne, miN_ne, mrN_ne, mi_eq, mi_na, mi_nj, mr_eq, mr_na, mr_nj, xL0, xL1, xL2, xL3, xL4, xL5, xL6, xL7, xL8, xL9, xL10, xL12, xL16, xL20, xL24, xL31, xL50, xL60, xL89, xL99, xL100, xL200, xI_add, xI_sub, xI_mul, xI_neg, xI_nat, xI_cl, Int.toNat_natCast, Int.reduceToNat, xltT, xltF, xleT, xleF, xeqT, xeqF, nleT, nleF, nltT, nltF, neqT, neqF, ileT, ileF, iltT, iltF, ieqT, ieqF, or_false, or_true, false_or, true_or, and_true, true_and, and_false, false_and, not_false_eq_true, not_true_eq_false, ↓reduceIte, if_true, if_false, i2]) ?_
          exact hskip (fun g => c3 g.2.2)
      · refine w_n (by simp (disch := omega) only [vin, mk_I, ml_I, mr_I, mk_R, ml_R, mi_R, mkN_eq, mlN_eq, miN_eq, mkN_ne, mlN_ne, miN_ne, mrN_ne, mi_eq, mi_na, mi_nj, mr_eq, mr_na, mr_nj, xL0, xL1, xL2, xL3, xL4, xL5, xL6, xL7, xL8, xL9, xL10, xL12, xL16, xL20, xL24, xL31, xL50, xL60, xL89, xL99, xL100, xL200, xI_add, xI_sub, xI_mul, xI_neg, xI_nat, xI_cl, Int.toNat_natCast, Int.reduceToNat, xltT, xltF, xleT, xleF, xeqT, xeqF, nleT, nleF, nltT, nltF, neqT, neqF, ileT, ileF, iltT, iltF, ieqT, ieqF, or_false, or_true, false_or, true_or, and_true, true_and, and_false, false_and, not_false_eq_true, not_true_eq_false, ↓reduceIte, if_true, if_false, p3]) ?_
        exact hskip (fun g => c2 g.1)
    · refine w_n (by simp (disch := omega) only [vin, mk_I, ml_I, mr_I, mk_R, ml_R, mi_R, mkN_eq, mlN_eq, miN_eq, mkN_ne, mlN_ne, miN_ne, mrN_ne, mi_eq, mi_na, mi_nj, mr_eq, mr_na, mr_nj, xL0, xL1, xL2, xL3, xL4, xL5, xL6, xL7, xL8, xL9, xL10, xL12, xL16, xL20, xL24, xL31, xL50, xL60, xL89, xL99, xL100, xL200, xI_add, xI_sub, xI_mul, xI_neg, xI_nat, xI_cl, Int.toNat_natCast, Int.reduceToNat, xltT, xltF, xleT, xleF, xeqT, xeqF, nleT, nleF, nltT, nltF, neqT, neqF, ileT, ileF, iltT, iltF, ieqT, ieqF, or_false, or_true, false_or, true_or, and_true, true_and, and_false, false_and, not_false_eq_true, not_true_eq_false, ↓reduceIte, if_true, if_false, i0, w0]) ?_
      exact hskip (fun g => c1 g.2.1)
/-- a question is remembered -/
theorem S_zkeep {m0 : vM} (h : ZR N m s Z) (hN : 149 ≤ N) (hk : k < Z.1) (hy : ro N m 5 (y, v)) (hl : (Z.2.2.2.2.1 k).2.2.2.2.2.length ≤ 60) (hm0 : m0 = mI (mI (mN m N 6 2) N 0 (xI (v 0))) N 1 (xI (v 4))) : wq (Option.bind (f_X5_more (N + 1) m0 (Z.2.2.2.2.1 k).2.2.1 N) fun q => if mk q.2.2 (Z.2.2.2.2.1 k).1 = 4 then some (q.2.1, mR q.2.2 (Z.2.2.2.2.1 k).1 6 (some q.1)) else none) (fun z => ∃ Z', ZR z.1 z.2 s Z' ∧ uz Z' = a_keep (uz Z) k (r6 (v 0) (v 4) (v 5) 0 0 0) ∧ zk Z Z' ∧ N ≤ z.1 ∧ fM N (tX m) m z.2) := by
  have hdk := h.2.1 k hk
  have hsp := h.2.2.2.2.1 k hk
  generalize hDg : Z.2.2.2.2.1 k = D at hdk hsp hl ⊢
  obtain ⟨q1, q2, q3, q4, q5⟩ := hdk.1
  have e2 : (uz Z).2.2.1 k = ud D := by rw [← hDg]; rfl
  have f1 : fM N (fun _ => False) m m0 := by
    rw [hm0]
    exact fM_trans (fM_trans (fM_N (Nat.le_refl _)) (fM_I0 (Nat.le_refl _)) (Nat.le_refl _) (fun _ _ h => h)) (fM_I0 (Nat.le_refl _)) (Nat.le_refl _) (fun _ _ h => h)
  have hro : ro (N + 1) m0 2 (N, r6 (v 0) (v 4) (v 5) 0 0 0) := by
    refine ⟨⟨hN, Nat.lt_succ_self N⟩, ?_, ?_, fun r hr => ?_⟩
    · rw [hm0]; show mk (mN m N 6 2) N = 6; exact mkN_eq
    · rw [hm0]; show ml (mN m N 6 2) N = 2; exact mlN_eq
    · have hr2 : r = 0 ∨ r = 1 := by omega
      rw [hm0]
      rcases hr2 with g | g <;> subst g <;> simp (disch := omega) only [vin, mk_I, ml_I, mr_I, mk_R, ml_R, mi_R, mkN_eq, mlN_eq, miN_eq, mkN_ne, mlN_ne, miN_ne, mrN_ne, mi_eq, mi_na, mi_nj, mr_eq, mr_na, mr_nj, xL0, xL1, xL2, xL3, xL4, xL5, xL6, xL7, xL8, xL9, xL10, xL12, xL16, xL20, xL24, xL31, xL50, xL60, xL89, xL99, xL100, xL200, xI_add, xI_sub, xI_mul, xI_neg, xI_nat, xI_cl, Int.toNat_natCast, Int.reduceToNat, xltT, xltF, xleT, xleF, xeqT, xeqF, nleT, nleF, nltT, nltF, neqT, neqF, ileT, ileF, iltT, iltF, ieqT, ieqF, or_false, or_true, false_or, true_or, and_true, true_and, and_false, false_and, not_false_eq_true, not_true_eq_false, ↓reduceIte, if_true, if_false] <;> rfl
  have hN1 : D.1 ≠ N := by omega
  refine w_c (S_more (a8_fr hdk.2.2.2.1 f1 (Nat.le_succ N) (fun h => h)) (by omega) (fun z hz => ?_) ⟨Nat.lt_succ_self N, hro.2.1⟩) ?_
  · have g := hdk.2.2.2.2 z hz
    exact ⟨by have := g.1.2; omega, by rw [fM_k f1 g.1.2]; exact g.2.1⟩
  · rintro ⟨y1, y2, m2⟩ ⟨e1, e3, f2, h8⟩
    have e1 : y1 = N + 1 := e1
    have e3 : y2 = N + 1 + 1 := e3
    subst e1 e3
    dsimp only at f2 h8 ⊢
    have f12 : fM N (fun _ => False) m m2 := fM_trans f1 f2 (Nat.le_succ N) (fun _ _ h => h)
    have f3 : fM N (fun x => x = D.1) m (mR m2 D.1 6 (some (N + 1))) := fM_trans (fM_w f12 (fun _ _ h => h.elim)) (fM_R (X := fun x => x = D.1) rfl) (Nat.le_refl _) (fun _ _ h => h)
    refine w_i (by rw [fM_k f12 q2]; exact q3) ?_
    have hne : ∀ x, mk m x = 6 → x ≠ D.1 := fun x hx e => by rw [e, q3] at hx; omega
    have hD1 : dR (N + 1 + 1) (mR m2 D.1 6 (some (N + 1))) (D.1, D.2.1, N + 1, D.2.2.2.1, D.2.2.2.2.1, D.2.2.2.2.2 ++ [(N, r6 (v 0) (v 4) (v 5) 0 0 0)]) := by
      refine dR_keep hdk f3 (by omega) (fun j => ?_) ?_ mr_eq (a8_fr (h8 _) (fM_R (X := fun x => x = D.1) rfl) (Nat.le_refl _) (fun g => by have g : N + 1 = D.1 := g; omega)) (fun z hz => ?_)
      · rw [mi_R, fM_i f12 q2 (fun h => h)]
      · rw [mr_nj (by omega), fM_r f12 q2 (fun h => h)]
      · rcases List.mem_append.mp hz with g | g
        · exact ro_fr (hdk.2.2.2.2 z g) f3 (by omega) (hne _ (hdk.2.2.2.2 z g).2.1)
        · rw [List.mem_singleton.mp g]
          exact ro_fr hro (fM_trans (fM_w f2 (fun _ _ h => h.elim)) (fM_R (X := fun x => x = D.1) rfl) (Nat.le_refl _) (fun _ _ h => h)) (by omega) (fun g => by have g : N = D.1 := g; omega)
    refine w_s ⟨zset Z k (D.1, D.2.1, N + 1, D.2.2.2.1, D.2.2.2.2.1, D.2.2.2.2.2 ++ [(N, r6 (v 0) (v 4) (v 5) 0 0 0)]), ZR_set h hk f3 (by omega) hD1 (by rw [hDg]) hsp (fun w hw => .inl ⟨w, by rw [hDg]; exact hw, rfl⟩) (fun x _ hx => .inl (by rw [hDg]; exact hx)), ?_, zk_set (by rw [hDg]), by omega, fM_w f3 (fun x _ hx => by rw [hx]; exact ⟨q1, .inl q3⟩)⟩
    rw [uz_set]
    unfold a_keep a_set
    rw [e2]
    unfold ud
    simp only [List.map_append, List.map_cons, List.map_nil]
theorem ZR_len (h : INm E Lw (uz Z) pend c) (hk : k < Z.1) : (Z.2.2.2.2.1 k).2.2.2.2.1.length ≤ 4 ∧ (Z.2.2.2.2.1 k).2.2.2.2.2.length ≤ 60 ∧ Z.2.2.2.2.2.length ≤ 60 := by
  have hW := (IN_W h (k := k) hk).1
  have h1 : ((Z.2.2.2.2.1 k).2.2.2.2.1.map Prod.snd).length ≤ 4 := hW.2.2.2.2.2.1
  have h2 : ((Z.2.2.2.2.1 k).2.2.2.2.2.map Prod.snd).length ≤ 60 := hW.2.2.2.2.2.2.1
  have h3 : (Z.2.2.2.2.2.map Prod.snd).length ≤ 60 := h.2.2.1
  rw [List.length_map] at h1 h2 h3
  exact ⟨h1, h2, h3⟩
theorem S_zhear (h : ZR N m s Z) (hN : 149 ≤ N) (hy : ro N m 5 (y, v)) (hI : INm E Lw (uz Z) (v :: pend) c) (hc : ∀ k, k < Z.1 → 20 ≤ c k) : wq (f_X5_hear N m s y) (fun z => ∃ Z', ZR z.1 z.2 s Z' ∧ uz Z' = a_hear (uz Z) v ∧ zk Z Z' ∧ N ≤ z.1 ∧ fM N (tX m) m z.2) := by
  obtain ⟨⟨⟨a1, a2, a3, a4, a5, a6, a7⟩, ⟨b1, b2, b3, b4, b5⟩⟩, c0, d, e⟩ := h
  have h : ZR N m s Z := ⟨⟨⟨a1, a2, a3, a4, a5, a6, a7⟩, ⟨b1, b2, b3, b4, b5⟩⟩, c0, d, e⟩
  have hv := hI.2.2.2.2.2.1 v List.mem_cons_self
  obtain ⟨hv1, hv2⟩ := hv
  have hv1 : 0 ≤ v 0 ∧ v 0 < Z.1 ∧ 0 ≤ v 1 ∧ v 1 < Z.1 := hv1
  obtain ⟨K, hK⟩ : ∃ K : Nat, v 1 = K := ⟨(v 1).toNat, by omega⟩
  have eK : (v 1).toNat = K := by omega
  have hkn : K < Z.1 := by omega
  have hn : Z.1 ≤ 10 := hI.1.1
  obtain ⟨hW, _, _⟩ := IN_W hI (k := K) hkn
  obtain ⟨hla, hlk, hlv⟩ := ZR_len hI hkn
  have hdk := c0 K hkn
  have hwk := S_zwake h hN hn hkn hlv hla
  have hkeep0 := S_zkeep (m0 := mI (mI (mN m N 6 2) N 0 (xI (v 0))) N 1 (xI (v 4))) h hN hkn hy hlk rfl
  have hsp := e.2.1 K hkn
  have hDK : (uz Z).2.2.1 K = ud (Z.2.2.2.2.1 K) := rfl
  generalize hDg : Z.2.2.2.2.1 K = D at hdk hla hlk hsp hDK hkeep0
  rw [hDK] at hW
  obtain ⟨q1, q2, q3, q4, q5⟩ := hdk.1
  obtain ⟨⟨y1, y2⟩, y3, y4, y5⟩ := hy
  have hy4 : ml m y = 5 := y4
  have i0 : mi m y 0 = xI (v 0) := y5 0 (by omega)
  have i1 : mi m y 1 = xI (v 1) := y5 1 (by omega)
  have i2 : mi m y 2 = xI (v 2) := y5 2 (by omega)
  have i4 : mi m y 4 = xI (v 4) := y5 4 (by omega)
  have hst : 0 ≤ D.2.2.2.1 3 ∧ D.2.2.2.1 3 ≤ 3 := hW.2.2.2.1
  have p3 : mi m D.1 3 = xI (D.2.2.2.1 3) := hdk.2.1.1 3 (by omega)
  have hrk : mr m Z.2.2.1 (mi m y 1).toNatClampNeg = some D.1 := by
    rw [i1, hK, ← hDg, ← b5 K hkn]; simp (disch := omega) only [vin, mk_I, ml_I, mr_I, mk_R, ml_R, mi_R, mkN_eq, mlN_eq, miN_eq, mkN_ne, mlN_ne, miN_ne, mrN_ne, mi_eq, mi_na, mi_nj, mr_eq, mr_na, mr_nj, xL0, xL1, xL2, xL3, xL4, xL5, xL6, xL7, xL8, xL9, xL10, xL12, xL16, xL20, xL24, xL31, xL50, xL60, xL89, xL99, xL100, xL200, xI_add, xI_sub, xI_mul, xI_neg, xI_nat, xI_cl, Int.toNat_natCast, Int.reduceToNat, xltT, xltF, xleT, xleF, xeqT, xeqF, nleT, nleF, nltT, nltF, neqT, neqF, ileT, ileF, iltT, iltF, ieqT, ieqF, or_false, or_true, false_or, true_or, and_true, true_and, and_false, false_and, not_false_eq_true, not_true_eq_false, ↓reduceIte, if_true, if_false]
  unfold f_X5_hear a_hear
  rw [eK, hDK]
  refine w_i a3 ?_
  refine w_b a4 ?_
  refine w_i y3 ?_
  refine w_i (by simp (disch := omega) only [vin, mk_I, ml_I, mr_I, mk_R, ml_R, mi_R, mkN_eq, mlN_eq, miN_eq, mkN_ne, mlN_ne, miN_ne, mrN_ne, mi_eq, mi_na, mi_nj, mr_eq, mr_na, mr_nj, xL0, xL1, xL2, xL3, xL4, xL5, xL6, xL7, xL8, xL9, xL10, xL12, xL16, xL20, xL24, xL31, xL50, xL60, xL89, xL99, xL100, xL200, xI_add, xI_sub, xI_mul, xI_neg, xI_nat, xI_cl, Int.toNat_natCast, Int.reduceToNat, xltT, xltF, xleT, xleF, xeqT, xeqF, nleT, nleF, nltT, nltF, neqT, neqF, ileT, ileF, iltT, iltF, ieqT, ieqF, or_false, or_true, false_or, true_or, and_true, true_and, and_false, false_and, not_false_eq_true, not_true_eq_false, ↓reduceIte, if_true, if_false, hy4]) ?_
  refine w_i b3 ?_
  refine w_i (by simp (disch := omega) only [vin, mk_I, ml_I, mr_I, mk_R, ml_R, mi_R, mkN_eq, mlN_eq, miN_eq, mkN_ne, mlN_ne, miN_ne, mrN_ne, mi_eq, mi_na, mi_nj, mr_eq, mr_na, mr_nj, xL0, xL1, xL2, xL3, xL4, xL5, xL6, xL7, xL8, xL9, xL10, xL12, xL16, xL20, xL24, xL31, xL50, xL60, xL89, xL99, xL100, xL200, xI_add, xI_sub, xI_mul, xI_neg, xI_nat, xI_cl, Int.toNat_natCast, Int.reduceToNat, xltT, xltF, xleT, xleF, xeqT, xeqF, nleT, nleF, nltT, nltF, neqT, neqF, ileT, ileF, iltT, iltF, ieqT, ieqF, or_false, or_true, false_or, true_or, and_true, true_and, and_false, false_and, not_false_eq_true, not_true_eq_false, ↓reduceIte, if_true, if_false, b4, i1]) ?_
  refine w_b hrk ?_
  refine w_i (by simp (disch := omega) only [vin, mk_I, ml_I, mr_I, mk_R, ml_R, mi_R, mkN_eq, mlN_eq, miN_eq, mkN_ne, mlN_ne, miN_ne, mrN_ne, mi_eq, mi_na, mi_nj, mr_eq, mr_na, mr_nj, xL0, xL1, xL2, xL3, xL4, xL5, xL6, xL7, xL8, xL9, xL10, xL12, xL16, xL20, xL24, xL31, xL50, xL60, xL89, xL99, xL100, xL200, xI_add, xI_sub, xI_mul, xI_neg, xI_nat, xI_cl, Int.toNat_natCast, Int.reduceToNat, xltT, xltF, xleT, xleF, xeqT, xeqF, nleT, nleF, nltT, nltF, neqT, neqF, ileT, ileF, iltT, iltF, ieqT, ieqF, or_false, or_true, false_or, true_or, and_true, true_and, and_false, false_and, not_false_eq_true, not_true_eq_false, ↓reduceIte, if_true, if_false, hy4]) ?_
  by_cases g1 : 0 < v 2
  · rw [if_pos g1]
    refine w_n (by simp (disch := omega) only [vin, mk_I, ml_I, mr_I, mk_R, ml_R, mi_R, mkN_eq, mlN_eq, miN_eq, mkN_ne, mlN_ne, miN_ne, mrN_ne, mi_eq, mi_na, mi_nj, mr_eq, mr_na, mr_nj, xL0, xL1, xL2, xL3, xL4, xL5, xL6, xL7, xL8, xL9, xL10, xL12, xL16, xL20, xL24, xL31, xL50, xL60, xL89, xL99, xL100, xL200, xI_add, xI_sub, xI_mul, xI_neg, xI_nat, xI_cl, Int.toNat_natCast, Int.reduceToNat, xltT, xltF, xleT, xleF, xeqT, xeqF, nleT, nleF, nltT, nltF, neqT, neqF, ileT, ileF, iltT, iltF, ieqT, ieqF, or_false, or_true, false_or, true_or, and_true, true_and, and_false, false_and, not_false_eq_true, not_true_eq_false, ↓reduceIte, if_true, if_false, i2]) ?_
    refine w_i q3 ?_
    refine w_b q4 ?_
    refine w_i hdk.2.2.1.1.2.1 ?_
    have hro : ro N m 5 (y, v) := ⟨⟨y1, y2⟩, y3, y4, y5⟩
    have hz0 : ∀ z ∈ D.2.2.2.2.1, 0 ≤ z.2 0 ∧ z.2 0 ≤ 9 ∧ -1 ≤ z.2 2 ∧ z.2 2 ≤ 1 := by
      intro z hz
      have := hW.2.2.2.2.2.2.2.1 z.2 (List.mem_map.mpr ⟨z, hz, rfl⟩)
      omega
    have h9 := L_zhear (s := s) (k := K) (q := D.1) (A := D.2.1) (K := D.2.2.1) (f := D.2.2.2.1) (kz := D.2.2.2.2.2) hkn hn hst (by omega) (by omega) D.2.2.2.2.1 [] m Z 0 0 h rfl (by rw [hDg]; rfl) hro (by simp; exact hla) hz0 vF (by unfold vF; omega)
    refine w_r ?_ (w_m h9 ?_)
    · have e1 : ml m D.2.1 = D.2.2.2.2.1.length := hdk.2.2.1.1.2.2.1
      have e5 : ([] : List (Nat × aR)).length + D.2.2.2.2.1.length = D.2.2.2.2.1.length := by simp
      rw [e1, xI_nat, e5]; rfl
    · rintro ⟨N1, m1⟩ ⟨j1, j2, j3⟩
      have j1 : N1 = N := j1
      subst j1
      refine ⟨_, j2, ?_, zk_set (by rw [hDg]), Nat.le_refl _, j3⟩
      rw [uz_set]
      show a_set (uz Z) K (ud (D.1, D.2.1, D.2.2.1, D.2.2.2.1, [] ++ D.2.2.2.2.1.map (hz (D.2.2.2.1 3) v), D.2.2.2.2.2)) = if D.2.2.2.1 3 = 1 then a_told (uz Z) K (v 0) (v 2 - 1) else uz Z
      by_cases g2 : D.2.2.2.1 3 = 1
      · rw [if_pos g2]
        unfold a_told a_set
        rw [hDK]
        unfold ud a_take
        simp only [List.nil_append, List.map_map]
        congr 4
        simp only [Prod.mk.injEq, true_and, and_true]
        apply List.map_congr_left
        intro z hzm
        show (hz (D.2.2.2.1 3) v z).2 = if z.2 0 = v 0 ∧ z.2 2 < 0 then fu z.2 2 (v 2 - 1) else z.2
        unfold hz
        by_cases g3 : z.2 0 = v 0 ∧ z.2 2 < 0
        · rw [if_pos ⟨g2, g3⟩, if_pos g3]
        · rw [if_neg (fun g => g3 g.2), if_neg g3]
      · rw [if_neg g2]
        have e6 : D.2.2.2.2.1.map (hz (D.2.2.2.1 3) v) = D.2.2.2.2.1 := by
          have : ∀ z ∈ D.2.2.2.2.1, hz (D.2.2.2.1 3) v z = z := fun z _ => if_neg (fun g => g2 g.1)
          conv => rhs; rw [← List.map_id D.2.2.2.2.1]
          exact List.map_congr_left this
        rw [List.nil_append, e6]
        have : ud (D.1, D.2.1, D.2.2.1, D.2.2.2.1, D.2.2.2.2.1, D.2.2.2.2.2) = (uz Z).2.2.1 K := by rw [hDK]
        rw [this, set_self]
  · rw [if_neg g1]
    refine w_i (by simp (disch := omega) only [vin, mk_I, ml_I, mr_I, mk_R, ml_R, mi_R, mkN_eq, mlN_eq, miN_eq, mkN_ne, mlN_ne, miN_ne, mrN_ne, mi_eq, mi_na, mi_nj, mr_eq, mr_na, mr_nj, xL0, xL1, xL2, xL3, xL4, xL5, xL6, xL7, xL8, xL9, xL10, xL12, xL16, xL20, xL24, xL31, xL50, xL60, xL89, xL99, xL100, xL200, xI_add, xI_sub, xI_mul, xI_neg, xI_nat, xI_cl, Int.toNat_natCast, Int.reduceToNat, xltT, xltF, xleT, xleF, xeqT, xeqF, nleT, nleF, nltT, nltF, neqT, neqF, ileT, ileF, iltT, iltF, ieqT, ieqF, or_false, or_true, false_or, true_or, and_true, true_and, and_false, false_and, not_false_eq_true, not_true_eq_false, ↓reduceIte, if_true, if_false, i2]) ?_
    refine w_i q3 ?_
    show wq _ (fun z : Nat × vM => ∃ Z', ZR z.1 z.2 s Z' ∧ uz Z' = (if 1 < D.2.2.2.1 3 then a_send (uz Z) (v 1) (v 0) (if D.2.2.2.1 3 = 2 then 2 else 1) (v 4) else a_keep (if D.2.2.2.1 3 = 0 then a_wake (uz Z) K else uz Z) K (r6 (v 0) (v 4) (v 5) 0 0 0)) ∧ zk Z Z' ∧ N ≤ z.1 ∧ fM N (tX m) m z.2)
    by_cases g2 : 1 < D.2.2.2.1 3
    · rw [if_pos g2]
      refine w_n (by simp (disch := omega) only [vin, mk_I, ml_I, mr_I, mk_R, ml_R, mi_R, mkN_eq, mlN_eq, miN_eq, mkN_ne, mlN_ne, miN_ne, mrN_ne, mi_eq, mi_na, mi_nj, mr_eq, mr_na, mr_nj, xL0, xL1, xL2, xL3, xL4, xL5, xL6, xL7, xL8, xL9, xL10, xL12, xL16, xL20, xL24, xL31, xL50, xL60, xL89, xL99, xL100, xL200, xI_add, xI_sub, xI_mul, xI_neg, xI_nat, xI_cl, Int.toNat_natCast, Int.reduceToNat, xltT, xltF, xleT, xleF, xeqT, xeqF, nleT, nleF, nltT, nltF, neqT, neqF, ileT, ileF, iltT, iltF, ieqT, ieqF, or_false, or_true, false_or, true_or, and_true, true_and, and_false, false_and, not_false_eq_true, not_true_eq_false, ↓reduceIte, if_true, if_false, p3]) ?_
      refine w_i (by simp (disch := omega) only [vin, mk_I, ml_I, mr_I, mk_R, ml_R, mi_R, mkN_eq, mlN_eq, miN_eq, mkN_ne, mlN_ne, miN_ne, mrN_ne, mi_eq, mi_na, mi_nj, mr_eq, mr_na, mr_nj, xL0, xL1, xL2, xL3, xL4, xL5, xL6, xL7, xL8, xL9, xL10, xL12, xL16, xL20, xL24, xL31, xL50, xL60, xL89, xL99, xL100, xL200, xI_add, xI_sub, xI_mul, xI_neg, xI_nat, xI_cl, Int.toNat_natCast, Int.reduceToNat, xltT, xltF, xleT, xleF, xeqT, xeqF, nleT, nleF, nltT, nltF, neqT, neqF, ileT, ileF, iltT, iltF, ieqT, ieqF, or_false, or_true, false_or, true_or, and_true, true_and, and_false, false_and, not_false_eq_true, not_true_eq_false, ↓reduceIte, if_true, if_false, hy4]) ?_
      refine w_i (by simp (disch := omega) only [vin, mk_I, ml_I, mr_I, mk_R, ml_R, mi_R, mkN_eq, mlN_eq, miN_eq, mkN_ne, mlN_ne, miN_ne, mrN_ne, mi_eq, mi_na, mi_nj, mr_eq, mr_na, mr_nj, xL0, xL1, xL2, xL3, xL4, xL5, xL6, xL7, xL8, xL9, xL10, xL12, xL16, xL20, xL24, xL31, xL50, xL60, xL89, xL99, xL100, xL200, xI_add, xI_sub, xI_mul, xI_neg, xI_nat, xI_cl, Int.toNat_natCast, Int.reduceToNat, xltT, xltF, xleT, xleF, xeqT, xeqF, nleT, nleF, nltT, nltF, neqT, neqF, ileT, ileF, iltT, iltF, ieqT, ieqF, or_false, or_true, false_or, true_or, and_true, true_and, and_false, false_and, not_false_eq_true, not_true_eq_false, ↓reduceIte, if_true, if_false, hy4]) ?_
      have hsend : ∀ w : Int, wq (f_X5_send N m s (mi m y 1) (mi m y 0) (xI w) (mi m y 4)) (fun z => ∃ Z', ZR z.1 z.2 s Z' ∧ uz Z' = a_send (uz Z) (v 1) (v 0) w (v 4) ∧ zk Z Z' ∧ N ≤ z.1 ∧ fM N (tX m) m z.2) := by
        intro w
        rw [i0, i1, i4]
        refine w_m (S_zsend h hN hlv) ?_
        rintro z ⟨Z', k1, k2, k3, k4, k5, k6⟩
        exact ⟨Z', k1, k2, k3, k5, fM_w k6 (fun x _ hx => by rw [hx]; exact ⟨a1, .inr (.inl a3)⟩)⟩
      by_cases g3 : D.2.2.2.1 3 = 2
      · rw [if_pos g3]
        refine w_i (by simp (disch := omega) only [vin, mk_I, ml_I, mr_I, mk_R, ml_R, mi_R, mkN_eq, mlN_eq, miN_eq, mkN_ne, mlN_ne, miN_ne, mrN_ne, mi_eq, mi_na, mi_nj, mr_eq, mr_na, mr_nj, xL0, xL1, xL2, xL3, xL4, xL5, xL6, xL7, xL8, xL9, xL10, xL12, xL16, xL20, xL24, xL31, xL50, xL60, xL89, xL99, xL100, xL200, xI_add, xI_sub, xI_mul, xI_neg, xI_nat, xI_cl, Int.toNat_natCast, Int.reduceToNat, xltT, xltF, xleT, xleF, xeqT, xeqF, nleT, nleF, nltT, nltF, neqT, neqF, ileT, ileF, iltT, iltF, ieqT, ieqF, or_false, or_true, false_or, true_or, and_true, true_and, and_false, false_and, not_false_eq_true, not_true_eq_false, ↓reduceIte, if_true, if_false, p3]) ?_
        refine w_i (by simp (disch := omega) only [vin, mk_I, ml_I, mr_I, mk_R, ml_R, mi_R, mkN_eq, mlN_eq, miN_eq, mkN_ne, mlN_ne, miN_ne, mrN_ne, mi_eq, mi_na, mi_nj, mr_eq, mr_na, mr_nj, xL0, xL1, xL2, xL3, xL4, xL5, xL6, xL7, xL8, xL9, xL10, xL12, xL16, xL20, xL24, xL31, xL50, xL60, xL89, xL99, xL100, xL200, xI_add, xI_sub, xI_mul, xI_neg, xI_nat, xI_cl, Int.toNat_natCast, Int.reduceToNat, xltT, xltF, xleT, xleF, xeqT, xeqF, nleT, nleF, nltT, nltF, neqT, neqF, ileT, ileF, iltT, iltF, ieqT, ieqF, or_false, or_true, false_or, true_or, and_true, true_and, and_false, false_and, not_false_eq_true, not_true_eq_false, ↓reduceIte, if_true, if_false, hy4]) ?_
        exact w_c (hsend 2) (fun z hz => w_s hz)
      · rw [if_neg g3]
        refine w_n (by simp (disch := omega) only [vin, mk_I, ml_I, mr_I, mk_R, ml_R, mi_R, mkN_eq, mlN_eq, miN_eq, mkN_ne, mlN_ne, miN_ne, mrN_ne, mi_eq, mi_na, mi_nj, mr_eq, mr_na, mr_nj, xL0, xL1, xL2, xL3, xL4, xL5, xL6, xL7, xL8, xL9, xL10, xL12, xL16, xL20, xL24, xL31, xL50, xL60, xL89, xL99, xL100, xL200, xI_add, xI_sub, xI_mul, xI_neg, xI_nat, xI_cl, Int.toNat_natCast, Int.reduceToNat, xltT, xltF, xleT, xleF, xeqT, xeqF, nleT, nleF, nltT, nltF, neqT, neqF, ileT, ileF, iltT, iltF, ieqT, ieqF, or_false, or_true, false_or, true_or, and_true, true_and, and_false, false_and, not_false_eq_true, not_true_eq_false, ↓reduceIte, if_true, if_false, p3]) ?_
        refine w_i (by simp (disch := omega) only [vin, mk_I, ml_I, mr_I, mk_R, ml_R, mi_R, mkN_eq, mlN_eq, miN_eq, mkN_ne, mlN_ne, miN_ne, mrN_ne, mi_eq, mi_na, mi_nj, mr_eq, mr_na, mr_nj, xL0, xL1, xL2, xL3, xL4, xL5, xL6, xL7, xL8, xL9, xL10, xL12, xL16, xL20, xL24, xL31, xL50, xL60, xL89, xL99, xL100, xL200, xI_add, xI_sub, xI_mul, xI_neg, xI_nat, xI_cl, Int.toNat_natCast, Int.reduceToNat, xltT, xltF, xleT, xleF, xeqT, xeqF, nleT, nleF, nltT, nltF, neqT, neqF, ileT, ileF, iltT, iltF, ieqT, ieqF, or_false, or_true, false_or, true_or, and_true, true_and, and_false, false_and, not_false_eq_true, not_true_eq_false, ↓reduceIte, if_true, if_false, hy4]) ?_
        exact w_c (hsend 1) (fun z hz => w_s hz)
    · rw [if_neg g2]
      refine w_i (by simp (disch := omega) only [vin, mk_I, ml_I, mr_I, mk_R, ml_R, mi_R, mkN_eq, mlN_eq, miN_eq, mkN_ne, mlN_ne, miN_ne, mrN_ne, mi_eq, mi_na, mi_nj, mr_eq, mr_na, mr_nj, xL0, xL1, xL2, xL3, xL4, xL5, xL6, xL7, xL8, xL9, xL10, xL12, xL16, xL20, xL24, xL31, xL50, xL60, xL89, xL99, xL100, xL200, xI_add, xI_sub, xI_mul, xI_neg, xI_nat, xI_cl, Int.toNat_natCast, Int.reduceToNat, xltT, xltF, xleT, xleF, xeqT, xeqF, nleT, nleF, nltT, nltF, neqT, neqF, ileT, ileF, iltT, iltF, ieqT, ieqF, or_false, or_true, false_or, true_or, and_true, true_and, and_false, false_and, not_false_eq_true, not_true_eq_false, ↓reduceIte, if_true, if_false, p3]) ?_
      by_cases g3 : D.2.2.2.1 3 = 0
      · rw [if_pos g3]
        refine w_i (by simp (disch := omega) only [vin, mk_I, ml_I, mr_I, mk_R, ml_R, mi_R, mkN_eq, mlN_eq, miN_eq, mkN_ne, mlN_ne, miN_ne, mrN_ne, mi_eq, mi_na, mi_nj, mr_eq, mr_na, mr_nj, xL0, xL1, xL2, xL3, xL4, xL5, xL6, xL7, xL8, xL9, xL10, xL12, xL16, xL20, xL24, xL31, xL50, xL60, xL89, xL99, xL100, xL200, xI_add, xI_sub, xI_mul, xI_neg, xI_nat, xI_cl, Int.toNat_natCast, Int.reduceToNat, xltT, xltF, xleT, xleF, xeqT, xeqF, nleT, nleF, nltT, nltF, neqT, neqF, ileT, ileF, iltT, iltF, ieqT, ieqF, or_false, or_true, false_or, true_or, and_true, true_and, and_false, false_and, not_false_eq_true, not_true_eq_false, ↓reduceIte, if_true, if_false, p3]) ?_
        refine w_i (by simp (disch := omega) only [vin, mk_I, ml_I, mr_I, mk_R, ml_R, mi_R, mkN_eq, mlN_eq, miN_eq, mkN_ne, mlN_ne, miN_ne, mrN_ne, mi_eq, mi_na, mi_nj, mr_eq, mr_na, mr_nj, xL0, xL1, xL2, xL3, xL4, xL5, xL6, xL7, xL8, xL9, xL10, xL12, xL16, xL20, xL24, xL31, xL50, xL60, xL89, xL99, xL100, xL200, xI_add, xI_sub, xI_mul, xI_neg, xI_nat, xI_cl, Int.toNat_natCast, Int.reduceToNat, xltT, xltF, xleT, xleF, xeqT, xeqF, nleT, nleF, nltT, nltF, neqT, neqF, ileT, ileF, iltT, iltF, ieqT, ieqF, or_false, or_true, false_or, true_or, and_true, true_and, and_false, false_and, not_false_eq_true, not_true_eq_false, ↓reduceIte, if_true, if_false, hy4]) ?_
        refine w_c (w_r (by rw [i1, hK]) hwk) ?_
        rintro ⟨N1, m1⟩ ⟨Z1, k1, k2, k3, k4, k5⟩
        dsimp only at k1 k4 k5 ⊢
        have hq1 : mk m1 D.1 = 4 := by rw [fM_k k5 q2]; exact q3
        have hn5 : ¬ tX m y := by
          rintro ⟨_, g | g | g⟩
          · rw [y3] at g; omega
          · rw [y3] at g; omega
          · omega
        have hyr : ro N1 m1 5 (y, v) := ro_fr ⟨⟨y1, y2⟩, y3, y4, y5⟩ k5 k4 hn5
        have hyr2 := hyr
        obtain ⟨⟨u1, u2⟩, u3, u4, u5⟩ := hyr
        have hu4 : ml m1 y = 5 := u4
        have j0 : mi m1 y 0 = xI (v 0) := u5 0 (by omega)
        have j4 : mi m1 y 4 = xI (v 4) := u5 4 (by omega)
        have hkn1 : K < Z1.1 := by rw [k3.1]; exact hkn
        have hid : (Z1.2.2.2.2.1 K).1 = D.1 := by rw [k3.2.2 K, hDg]
        have hI1 : INm E (fun j => if j = K then (uz Z).2.1 2 else Lw j) (uz Z1) (v :: pend) c := by
          rw [k2]; exact IN_wake hI hkn (by rw [hDK]; exact g3) (hc K hkn)
        have hlk1 := (ZR_len hI1 hkn1).2.1
        have hd1 := k1.2.1 K hkn1
        have hkp := S_zkeep (m0 := mI (mI (mN m1 N1 6 2) N1 0 (xI (v 0))) N1 1 (xI (v 4))) k1 (by omega) hkn1 hyr2 hlk1 rfl
        generalize hDg1 : Z1.2.2.2.2.1 K = D1 at hid hd1 hkp
        have hr6 : mr m1 D.1 6 = some D1.2.2.1 := by rw [← hid]; exact hd1.1.2.2.2.2
        have hyN : y ≠ N1 := by omega
        refine w_i (by rw [hid] at *; exact hq1) ?_
        refine w_b hr6 ?_
        refine w_i (by simp (disch := omega) only [vin, mk_I, ml_I, mr_I, mk_R, ml_R, mi_R, mkN_eq, mlN_eq, miN_eq, mkN_ne, mlN_ne, miN_ne, mrN_ne, mi_eq, mi_na, mi_nj, mr_eq, mr_na, mr_nj, xL0, xL1, xL2, xL3, xL4, xL5, xL6, xL7, xL8, xL9, xL10, xL12, xL16, xL20, xL24, xL31, xL50, xL60, xL89, xL99, xL100, xL200, xI_add, xI_sub, xI_mul, xI_neg, xI_nat, xI_cl, Int.toNat_natCast, Int.reduceToNat, xltT, xltF, xleT, xleF, xeqT, xeqF, nleT, nleF, nltT, nltF, neqT, neqF, ileT, ileF, iltT, iltF, ieqT, ieqF, or_false, or_true, false_or, true_or, and_true, true_and, and_false, false_and, not_false_eq_true, not_true_eq_false, ↓reduceIte, if_true, if_false, u3]) ?_
        refine w_i (by simp (disch := omega) only [vin, mk_I, ml_I, mr_I, mk_R, ml_R, mi_R, mkN_eq, mlN_eq, miN_eq, mkN_ne, mlN_ne, miN_ne, mrN_ne, mi_eq, mi_na, mi_nj, mr_eq, mr_na, mr_nj, xL0, xL1, xL2, xL3, xL4, xL5, xL6, xL7, xL8, xL9, xL10, xL12, xL16, xL20, xL24, xL31, xL50, xL60, xL89, xL99, xL100, xL200, xI_add, xI_sub, xI_mul, xI_neg, xI_nat, xI_cl, Int.toNat_natCast, Int.reduceToNat, xltT, xltF, xleT, xleF, xeqT, xeqF, nleT, nleF, nltT, nltF, neqT, neqF, ileT, ileF, iltT, iltF, ieqT, ieqF, or_false, or_true, false_or, true_or, and_true, true_and, and_false, false_and, not_false_eq_true, not_true_eq_false, ↓reduceIte, if_true, if_false, hu4]) ?_
        refine w_i (by simp (disch := omega) only [vin, mk_I, ml_I, mr_I, mk_R, ml_R, mi_R, mkN_eq, mlN_eq, miN_eq, mkN_ne, mlN_ne, miN_ne, mrN_ne, mi_eq, mi_na, mi_nj, mr_eq, mr_na, mr_nj, xL0, xL1, xL2, xL3, xL4, xL5, xL6, xL7, xL8, xL9, xL10, xL12, xL16, xL20, xL24, xL31, xL50, xL60, xL89, xL99, xL100, xL200, xI_add, xI_sub, xI_mul, xI_neg, xI_nat, xI_cl, Int.toNat_natCast, Int.reduceToNat, xltT, xltF, xleT, xleF, xeqT, xeqF, nleT, nleF, nltT, nltF, neqT, neqF, ileT, ileF, iltT, iltF, ieqT, ieqF, or_false, or_true, false_or, true_or, and_true, true_and, and_false, false_and, not_false_eq_true, not_true_eq_false, ↓reduceIte, if_true, if_false]) ?_
        refine w_i (by simp (disch := omega) only [vin, mk_I, ml_I, mr_I, mk_R, ml_R, mi_R, mkN_eq, mlN_eq, miN_eq, mkN_ne, mlN_ne, miN_ne, mrN_ne, mi_eq, mi_na, mi_nj, mr_eq, mr_na, mr_nj, xL0, xL1, xL2, xL3, xL4, xL5, xL6, xL7, xL8, xL9, xL10, xL12, xL16, xL20, xL24, xL31, xL50, xL60, xL89, xL99, xL100, xL200, xI_add, xI_sub, xI_mul, xI_neg, xI_nat, xI_cl, Int.toNat_natCast, Int.reduceToNat, xltT, xltF, xleT, xleF, xeqT, xeqF, nleT, nleF, nltT, nltF, neqT, neqF, ileT, ileF, iltT, iltF, ieqT, ieqF, or_false, or_true, false_or, true_or, and_true, true_and, and_false, false_and, not_false_eq_true, not_true_eq_false, ↓reduceIte, if_true, if_false, hu4]) ?_
        refine w_i (by simp (disch := omega) only [vin, mk_I, ml_I, mr_I, mk_R, ml_R, mi_R, mkN_eq, mlN_eq, miN_eq, mkN_ne, mlN_ne, miN_ne, mrN_ne, mi_eq, mi_na, mi_nj, mr_eq, mr_na, mr_nj, xL0, xL1, xL2, xL3, xL4, xL5, xL6, xL7, xL8, xL9, xL10, xL12, xL16, xL20, xL24, xL31, xL50, xL60, xL89, xL99, xL100, xL200, xI_add, xI_sub, xI_mul, xI_neg, xI_nat, xI_cl, Int.toNat_natCast, Int.reduceToNat, xltT, xltF, xleT, xleF, xeqT, xeqF, nleT, nleF, nltT, nltF, neqT, neqF, ileT, ileF, iltT, iltF, ieqT, ieqF, or_false, or_true, false_or, true_or, and_true, true_and, and_false, false_and, not_false_eq_true, not_true_eq_false, ↓reduceIte, if_true, if_false]) ?_
        have em : mI (mI (mN m1 N1 6 2) N1 0 (mi (mN m1 N1 6 2) y 0)) N1 1 (mi (mI (mN m1 N1 6 2) N1 0 (mi (mN m1 N1 6 2) y 0)) y 4) = mI (mI (mN m1 N1 6 2) N1 0 (xI (v 0))) N1 1 (xI (v 4)) := by
          rw [mi_na hyN, miN_ne hyN, miN_ne hyN, j0, j4]
        rw [em]
        rw [hid] at hkp
        refine w_m hkp ?_
        rintro z ⟨Z2, p1, p2, p3, p4, p5⟩
        refine ⟨Z2, p1, ?_, zk_trans k3 p3, by omega, fM_trans k5 p5 k4 (fun x hx hy => tX_fM k5 hx hy)⟩
        rw [p2, k2]
      · rw [if_neg g3]
        refine w_n (by simp (disch := omega) only [vin, mk_I, ml_I, mr_I, mk_R, ml_R, mi_R, mkN_eq, mlN_eq, miN_eq, mkN_ne, mlN_ne, miN_ne, mrN_ne, mi_eq, mi_na, mi_nj, mr_eq, mr_na, mr_nj, xL0, xL1, xL2, xL3, xL4, xL5, xL6, xL7, xL8, xL9, xL10, xL12, xL16, xL20, xL24, xL31, xL50, xL60, xL89, xL99, xL100, xL200, xI_add, xI_sub, xI_mul, xI_neg, xI_nat, xI_cl, Int.toNat_natCast, Int.reduceToNat, xltT, xltF, xleT, xleF, xeqT, xeqF, nleT, nleF, nltT, nltF, neqT, neqF, ileT, ileF, iltT, iltF, ieqT, ieqF, or_false, or_true, false_or, true_or, and_true, true_and, and_false, false_and, not_false_eq_true, not_true_eq_false, ↓reduceIte, if_true, if_false, p3]) ?_
        have hyN : y ≠ N := by omega
        refine w_b q5 ?_
        refine w_i (by simp (disch := omega) only [vin, mk_I, ml_I, mr_I, mk_R, ml_R, mi_R, mkN_eq, mlN_eq, miN_eq, mkN_ne, mlN_ne, miN_ne, mrN_ne, mi_eq, mi_na, mi_nj, mr_eq, mr_na, mr_nj, xL0, xL1, xL2, xL3, xL4, xL5, xL6, xL7, xL8, xL9, xL10, xL12, xL16, xL20, xL24, xL31, xL50, xL60, xL89, xL99, xL100, xL200, xI_add, xI_sub, xI_mul, xI_neg, xI_nat, xI_cl, Int.toNat_natCast, Int.reduceToNat, xltT, xltF, xleT, xleF, xeqT, xeqF, nleT, nleF, nltT, nltF, neqT, neqF, ileT, ileF, iltT, iltF, ieqT, ieqF, or_false, or_true, false_or, true_or, and_true, true_and, and_false, false_and, not_false_eq_true, not_true_eq_false, ↓reduceIte, if_true, if_false, hy4]) ?_
        refine w_i (by simp (disch := omega) only [vin, mk_I, ml_I, mr_I, mk_R, ml_R, mi_R, mkN_eq, mlN_eq, miN_eq, mkN_ne, mlN_ne, miN_ne, mrN_ne, mi_eq, mi_na, mi_nj, mr_eq, mr_na, mr_nj, xL0, xL1, xL2, xL3, xL4, xL5, xL6, xL7, xL8, xL9, xL10, xL12, xL16, xL20, xL24, xL31, xL50, xL60, xL89, xL99, xL100, xL200, xI_add, xI_sub, xI_mul, xI_neg, xI_nat, xI_cl, Int.toNat_natCast, Int.reduceToNat, xltT, xltF, xleT, xleF, xeqT, xeqF, nleT, nleF, nltT, nltF, neqT, neqF, ileT, ileF, iltT, iltF, ieqT, ieqF, or_false, or_true, false_or, true_or, and_true, true_and, and_false, false_and, not_false_eq_true, not_true_eq_false, ↓reduceIte, if_true, if_false]) ?_
        refine w_i (by simp (disch := omega) only [vin, mk_I, ml_I, mr_I, mk_R, ml_R, mi_R, mkN_eq, mlN_eq, miN_eq, mkN_ne, mlN_ne, miN_ne, mrN_ne, mi_eq, mi_na, mi_nj, mr_eq, mr_na, mr_nj, xL0, xL1, xL2, xL3, xL4, xL5, xL6, xL7, xL8, xL9, xL10, xL12, xL16, xL20, xL24, xL31, xL50, xL60, xL89, xL99, xL100, xL200, xI_add, xI_sub, xI_mul, xI_neg, xI_nat, xI_cl, Int.toNat_natCast, Int.reduceToNat, xltT, xltF, xleT, xleF, xeqT, xeqF, nleT, nleF, nltT, nltF, neqT, neqF, ileT, ileF, iltT, iltF, ieqT, ieqF, or_false, or_true, false_or, true_or, and_true, true_and, and_false, false_and, not_false_eq_true, not_true_eq_false, ↓reduceIte, if_true, if_false, hy4]) ?_
        refine w_i (by simp (disch := omega) only [vin, mk_I, ml_I, mr_I, mk_R, ml_R, mi_R, mkN_eq, mlN_eq, miN_eq, mkN_ne, mlN_ne, miN_ne, mrN_ne, mi_eq, mi_na, mi_nj, mr_eq, mr_na, mr_nj, xL0, xL1, xL2, xL3, xL4, xL5, xL6, xL7, xL8, xL9, xL10, xL12, xL16, xL20, xL24, xL31, xL50, xL60, xL89, xL99, xL100, xL200, xI_add, xI_sub, xI_mul, xI_neg, xI_nat, xI_cl, Int.toNat_natCast, Int.reduceToNat, xltT, xltF, xleT, xleF, xeqT, xeqF, nleT, nleF, nltT, nltF, neqT, neqF, ileT, ileF, iltT, iltF, ieqT, ieqF, or_false, or_true, false_or, true_or, and_true, true_and, and_false, false_and, not_false_eq_true, not_true_eq_false, ↓reduceIte, if_true, if_false]) ?_
        have em : mI (mI (mN m N 6 2) N 0 (mi (mN m N 6 2) y 0)) N 1 (mi (mI (mN m N 6 2) N 0 (mi (mN m N 6 2) y 0)) y 4) = mI (mI (mN m N 6 2) N 0 (xI (v 0))) N 1 (xI (v 4)) := by
          rw [mi_na hyN, miN_ne hyN, miN_ne hyN, i0, i4]
        rw [em]
        exact hkeep0
end
