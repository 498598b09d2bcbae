/-- a row that is being written -/
def TR (N : Nat) (m m' : vM) (F : Nat → Int) (c : Nat) : Prop := fM N (fun _ => False) m m' ∧ (mk m' N = 6 ∧ ml m' N = 9) ∧ ∀ w, w < c → mi m' N w = xI (F w)
section
variable {m m' : vM} {N N' s k y b q c : Nat} {F : Nat → Int} {v : Int32} {X : Nat → Prop} {D : zD} {Z : zS} {S : aS} {E : Nat → List (Int × Int)} {Lw : Nat → Int}
theorem TR0 : TR N m (mN m N 6 9) F 0 := ⟨fM_N (Nat.le_refl _), ⟨mkN_eq, mlN_eq⟩, fun w hw => absurd hw (by omega)⟩
theorem TRs (h : TR N m m' F c) (e : v = xI (F c)) : TR N m (mI m' N c v) F (c + 1) := by
  refine ⟨fM_trans h.1 (fM_I0 (Nat.le_refl _)) (Nat.le_refl _) (fun _ _ h => h), h.2.1, fun w hw => ?_⟩
  by_cases g : w = c
  · subst g; rw [mi_eq, e]
  · rw [mi_nj g]; exact h.2.2 w (by omega)
theorem TR_d (h : dR N m D) (t : TR N m m' F c) : dR (N + 1) m' D := dR_fr h t.1 (Nat.le_succ N) (fun h => h) (fun _ _ h => h) (fun _ _ h => h) (fun _ _ _ h => h)
theorem TR_P (h : PS N m s Z) (hn : Z.1 ≤ 10) (t : TR N m m' F c) : PS (N + 1) m' s Z := PS_fr h hn t.1 (Nat.le_succ N)
theorem tl_0 {d : aD} : tl d 0 = d.1 3 := rfl
theorem tl_1 {d : aD} : tl d 1 = d.1 4 := rfl
theorem tl_2 {d : aD} : tl d 2 = d.1 2 := rfl
theorem tl_3 {d : aD} : tl d 3 = d.2.1.length := rfl
theorem tl_4 {d : aD} : tl d 4 = ((if d.1 3 = 1 then nA 0 d.2.1 + nA 1 d.2.1 else 0 : Nat) : Int) := rfl
theorem tl_5 {d : aD} : tl d 5 = ((if d.1 3 = 1 then nA 1 d.2.1 else 0 : Nat) : Int) := rfl
theorem tl_6 {d : aD} : tl d 6 = d.2.2.length := rfl
theorem tl_7 {d : aD} : tl d 7 = d.1 5 := rfl
theorem tl_8 {d : aD} : tl d 8 = d.1 6 := rfl
variable {Q : Int32 × Nat × vM → Prop}
set_option maxHeartbeats 1000000 in
theorem L_same7 {A B : Int} {G : Nat} (hI : INm E Lw (uz Z) [] (fun _ => 20)) (hQ : ∀ g, G ≤ g → ∀ N m, PS N m s Z → wq (fL_X5_isSame g 289 N m Z.1 (9 * Z.1) s 0 (xI A) (xI B) 0 0 0 0 0 0) Q) : ∀ r i, i + r = Z.1 → ∀ N m, PS N m s Z → ∀ a b : Int, a + a_sum (uz Z) 5 i r = A → b + (a_sum (uz Z) 5 i r + a_sum (uz Z) 6 i r) = B → ∀ f, G + 20 * r < f → wq (fL_X5_isSame f 7 N m i (9 * i) s 0 (xI a) (xI b) (xI (i : Nat)) 0 0 0 0 0) Q := by
  have hn : Z.1 ≤ 10 := hI.1.1
  intro r
  induction r with
  | zero =>
    intro i hi N m h a b ha hb f hf
    obtain ⟨g, rfl⟩ : ∃ g, f = g + 1 := ⟨f - 1, by omega⟩
    have ha : a + 0 = A := ha
    have hb : b + (0 + 0) = B := hb
    obtain rfl : a = A := by omega
    obtain rfl : b = B := by omega
    obtain rfl : i = Z.1 := by omega
    have h9 := hQ g (by omega) N m h
    obtain ⟨⟨⟨a1, a2, a3, a4, a5, a6, a7⟩, ⟨b1, b2, b3, b4, b5⟩⟩, c0, ⟨d1, d2⟩, e⟩ := h.2.1
    show wq (fB_X5_isSame_7 (fL_X5_isSame g) N m Z.1 (9 * Z.1) s 0 (xI a) (xI b) (xI (Z.1 : Nat)) 0 0 0 0 0) Q
    unfold fB_X5_isSame_7
    refine w_i a3 ?_
    refine w_b a4 ?_
    refine w_i b3 ?_
    refine w_i (by simp (disch := omega) only [vin, mk_I, ml_I, mr_I, mk_R, ml_R, mi_R, mkN_eq, mlN_eq, miN_eq, mkN_ne, mlN_ne, miN_ne, mrN_ne, mi_eq, mi_na, mi_nj, mr_eq, mr_na, mr_nj, xL0, xL1, xL2, xL3, xL4, xL5, xL6, xL7, xL8, xL9, xL10, xL12, xL16, xL20, xL24, xL31, xL50, xL60, xL89, xL99, xL100, xL200, xI_add, xI_sub, xI_mul, xI_neg, xI_nat, xI_cl, Int.toNat_natCast, Int.reduceToNat, xltT, xltF, xleT, xleF, xeqT, xeqF, nleT, nleF, nltT, nltF, neqT, neqF, ileT, ileF, iltT, iltF, ieqT, ieqF, or_false, or_true, false_or, true_or, and_true, true_and, and_false, false_and, not_false_eq_true, not_true_eq_false, ↓reduceIte, if_true, if_false, b4]) ?_
    exact h9
  | succ r ih =>
    intro i hi N m h a b ha hb f hf
    have hk : i < Z.1 := by omega
    obtain ⟨hla, hlk, hlv⟩ := ZR_len hI hk
    have hd9 := hI.2.1 i hk
    have hW := IN_Wa hI i hk
    have h0 := h
    obtain ⟨⟨⟨a1, a2, a3, a4, a5, a6, a7⟩, ⟨b1, b2, b3, b4, b5⟩⟩, c0, ⟨d1, d2⟩, e⟩ := h.2.1
    have hdk := c0 i hk
    have hDK : (uz Z).2.2.1 i = ud (Z.2.2.2.2.1 i) := rfl
    have e5 : a_sum (uz Z) 5 i (r + 1) = (ud (Z.2.2.2.2.1 i)).1 5 + a_sum (uz Z) 5 (i + 1) r := rfl
    have e6 : a_sum (uz Z) 6 i (r + 1) = (ud (Z.2.2.2.2.1 i)).1 6 + a_sum (uz Z) 6 (i + 1) r := rfl
    rw [e5] at ha hb
    rw [e6] at hb
    have hsame := fun (m10 : vM) (t : TR N m m10 (tl (ud (Z.2.2.2.2.1 i))) 9) (g : Nat) (hg : G + 20 * r < g) => L_same126 (s := s) (i2 := xI a) (i3 := xI b) (kc := i + 1) (ks := 9 * i + 9) (g := (Z.2.2.2.2.1 i).2.2.2.2.1.length + 1 + g) (q := (Z.2.2.2.2.1 i).1) (Q := Q) (TR_P h hn t) hI hk t.2.1.1 t.2.1.2 (fun w hw => t.2.2 w (by omega)) (L_same160 (TR_P h hn t) hI hk (by
      have h9 := ih (i + 1) (by omega) (N + 1) m10 (TR_P h hn t) (a + (Z.2.2.2.2.1 i).2.2.2.1 5) (b + ((Z.2.2.2.2.1 i).2.2.2.1 5 + (Z.2.2.2.2.1 i).2.2.2.1 6)) (by rw [← ha]; show _ = a + ((Z.2.2.2.2.1 i).2.2.2.1 5 + _); omega) (by rw [← hb]; show _ = b + ((Z.2.2.2.2.1 i).2.2.2.1 5 + _ + ((Z.2.2.2.2.1 i).2.2.2.1 6 + _)); omega) g hg
      exact h9) _ 0 (Nat.zero_add _)) 9 0 (by omega)
    have hrk : mr m Z.2.2.1 (xI (i : Nat)).toNatClampNeg = some (Z.2.2.2.2.1 i).1 := by rw [← b5 i hk]; simp (disch := omega) only [vin, mk_I, ml_I, mr_I, mk_R, ml_R, mi_R, mkN_eq, mlN_eq, miN_eq, mkN_ne, mlN_ne, miN_ne, mrN_ne, mi_eq, mi_na, mi_nj, mr_eq, mr_na, mr_nj, xL0, xL1, xL2, xL3, xL4, xL5, xL6, xL7, xL8, xL9, xL10, xL12, xL16, xL20, xL24, xL31, xL50, xL60, xL89, xL99, xL100, xL200, xI_add, xI_sub, xI_mul, xI_neg, xI_nat, xI_cl, Int.toNat_natCast, Int.reduceToNat, xltT, xltF, xleT, xleF, xeqT, xeqF, nleT, nleF, nltT, nltF, neqT, neqF, ileT, ileF, iltT, iltF, ieqT, ieqF, or_false, or_true, false_or, true_or, and_true, true_and, and_false, false_and, not_false_eq_true, not_true_eq_false, ↓reduceIte, if_true, if_false]
    rw [hDK] at hW hd9
    generalize Z.2.2.2.2.1 i = D at hdk hsame hla hlk hDK hrk hW hd9
    have hst : 0 ≤ D.2.2.2.1 3 ∧ D.2.2.2.1 3 ≤ 3 := hW.2.2.2.1
    have hza : ∀ z ∈ D.2.2.2.2.1, -1 ≤ z.2 2 ∧ z.2 2 ≤ 1 := fun z hz => hd9.2.1.2 z.2 (List.mem_map.mpr ⟨z, hz, rfl⟩)
    have hd3 : D.2.2.2.1 3 = 0 → D.2.2.2.1 4 = 0 := by
      have g : (D.2.2.2.1 3 = 0 ∧ D.2.2.2.1 4 = 0 ∧ Lw i + 4 ≤ (uz Z).2.1 2) ∨ (D.2.2.2.1 3 = 1 ∧ 1 ≤ D.2.2.2.1 4 ∧ Lw i ≤ (uz Z).2.1 2 ∧ (uz Z).2.1 2 - Lw i + D.2.2.2.1 4 ≤ 20) ∨ (D.2.2.2.1 3 = 2 ∧ 1 ≤ D.2.2.2.1 4 ∧ D.2.2.2.1 4 ≤ 12 ∧ Lw i + 4 ≤ (uz Z).2.1 2 + D.2.2.2.1 4) ∨ (D.2.2.2.1 3 = 3 ∧ 1 ≤ D.2.2.2.1 4 ∧ D.2.2.2.1 4 ≤ 4 ∧ Lw i + 4 ≤ (uz Z).2.1 2 + D.2.2.2.1 4) := hd9.1.2.2
      omega
    obtain ⟨g, rfl⟩ : ∃ g, f = (9 + 1 + (D.2.2.2.2.1.length + 1 + g)) + 1 := ⟨f - 12 - D.2.2.2.2.1.length, by omega⟩
    have hsame := fun m10 t => hsame m10 t g (by omega)
    generalize (9 + 1 + (D.2.2.2.2.1.length + 1 + g)) = f at hsame ⊢
    show wq (fB_X5_isSame_7 (fL_X5_isSame f) N m i (9 * i) s 0 (xI a) (xI b) (xI (i : Nat)) 0 0 0 0 0) Q
    generalize hF : tl (ud D) = F at hsame
    unfold fB_X5_isSame_7
    refine w_i a3 ?_
    refine w_b a4 ?_
    refine w_i b3 ?_
    refine w_n (by simp (disch := omega) only [vin, mk_I, ml_I, mr_I, mk_R, ml_R, mi_R, mkN_eq, mlN_eq, miN_eq, mkN_ne, mlN_ne, miN_ne, mrN_ne, mi_eq, mi_na, mi_nj, mr_eq, mr_na, mr_nj, xL0, xL1, xL2, xL3, xL4, xL5, xL6, xL7, xL8, xL9, xL10, xL12, xL16, xL20, xL24, xL31, xL50, xL60, xL89, xL99, xL100, xL200, xI_add, xI_sub, xI_mul, xI_neg, xI_nat, xI_cl, Int.toNat_natCast, Int.reduceToNat, xltT, xltF, xleT, xleF, xeqT, xeqF, nleT, nleF, nltT, nltF, neqT, neqF, ileT, ileF, iltT, iltF, ieqT, ieqF, or_false, or_true, false_or, true_or, and_true, true_and, and_false, false_and, not_false_eq_true, not_true_eq_false, ↓reduceIte, if_true, if_false, b4]) ?_
    refine w_b a4 ?_
    refine w_i b3 ?_
    refine w_i (by simp (disch := omega) only [vin, mk_I, ml_I, mr_I, mk_R, ml_R, mi_R, mkN_eq, mlN_eq, miN_eq, mkN_ne, mlN_ne, miN_ne, mrN_ne, mi_eq, mi_na, mi_nj, mr_eq, mr_na, mr_nj, xL0, xL1, xL2, xL3, xL4, xL5, xL6, xL7, xL8, xL9, xL10, xL12, xL16, xL20, xL24, xL31, xL50, xL60, xL89, xL99, xL100, xL200, xI_add, xI_sub, xI_mul, xI_neg, xI_nat, xI_cl, Int.toNat_natCast, Int.reduceToNat, xltT, xltF, xleT, xleF, xeqT, xeqF, nleT, nleF, nltT, nltF, neqT, neqF, ileT, ileF, iltT, iltF, ieqT, ieqF, or_false, or_true, false_or, true_or, and_true, true_and, and_false, false_and, not_false_eq_true, not_true_eq_false, ↓reduceIte, if_true, if_false, b4]) ?_
    refine w_b hrk ?_
    refine w_i (by omega) ?_
    refine w_i (by omega) ?_
    generalize hm1 : mN m N 6 9 = m1
    have t1 : TR N m m1 F 0 := by rw [← hm1]; exact TR0
    clear hm1
    have d1 := TR_d hdk t1
    refine w_i d1.1.2.2.1 ?_
    refine w_i (by simp (disch := omega) only [vin, mk_I, ml_I, mr_I, mk_R, ml_R, mi_R, mkN_eq, mlN_eq, miN_eq, mkN_ne, mlN_ne, miN_ne, mrN_ne, mi_eq, mi_na, mi_nj, mr_eq, mr_na, mr_nj, xL0, xL1, xL2, xL3, xL4, xL5, xL6, xL7, xL8, xL9, xL10, xL12, xL16, xL20, xL24, xL31, xL50, xL60, xL89, xL99, xL100, xL200, xI_add, xI_sub, xI_mul, xI_neg, xI_nat, xI_cl, Int.toNat_natCast, Int.reduceToNat, xltT, xltF, xleT, xleF, xeqT, xeqF, nleT, nleF, nltT, nltF, neqT, neqF, ileT, ileF, iltT, iltF, ieqT, ieqF, or_false, or_true, false_or, true_or, and_true, true_and, and_false, false_and, not_false_eq_true, not_true_eq_false, ↓reduceIte, if_true, if_false, t1.2.1.2]) ?_
    generalize hm2 : mI m1 N 0 (mi m1 D.1 3) = m2; have t2 : TR N m m2 F (0 + 1) := (by rw [← hm2]; exact TRs t1 ((d1.2.1.1 3 (by omega)).trans (by rw [← hF]; rfl))); clear hm2
    have d2 := TR_d hdk t2
    by_cases g3 : D.2.2.2.1 3 = 0
    · refine w_i ((d2.2.1.1 3 (by omega)).trans (by show xI (D.2.2.2.1 3) = 0; rw [g3]; rfl)) ?_
      refine w_i (by simp (disch := omega) only [vin, mk_I, ml_I, mr_I, mk_R, ml_R, mi_R, mkN_eq, mlN_eq, miN_eq, mkN_ne, mlN_ne, miN_ne, mrN_ne, mi_eq, mi_na, mi_nj, mr_eq, mr_na, mr_nj, xL0, xL1, xL2, xL3, xL4, xL5, xL6, xL7, xL8, xL9, xL10, xL12, xL16, xL20, xL24, xL31, xL50, xL60, xL89, xL99, xL100, xL200, xI_add, xI_sub, xI_mul, xI_neg, xI_nat, xI_cl, Int.toNat_natCast, Int.reduceToNat, xltT, xltF, xleT, xleF, xeqT, xeqF, nleT, nleF, nltT, nltF, neqT, neqF, ileT, ileF, iltT, iltF, ieqT, ieqF, or_false, or_true, false_or, true_or, and_true, true_and, and_false, false_and, not_false_eq_true, not_true_eq_false, ↓reduceIte, if_true, if_false, t2.2.1.2]) ?_
      generalize hm3 : mI m2 N 1 0 = m3; have t3 : TR N m m3 F (1 + 1) := (by rw [← hm3]; exact TRs t2 (by rw [← hF, tl_1]; show _ = xI (D.2.2.2.1 4); rw [hd3 g3]; rfl)); clear hm3
      refine w_i (by simp (disch := omega) only [vin, mk_I, ml_I, mr_I, mk_R, ml_R, mi_R, mkN_eq, mlN_eq, miN_eq, mkN_ne, mlN_ne, miN_ne, mrN_ne, mi_eq, mi_na, mi_nj, mr_eq, mr_na, mr_nj, xL0, xL1, xL2, xL3, xL4, xL5, xL6, xL7, xL8, xL9, xL10, xL12, xL16, xL20, xL24, xL31, xL50, xL60, xL89, xL99, xL100, xL200, xI_add, xI_sub, xI_mul, xI_neg, xI_nat, xI_cl, Int.toNat_natCast, Int.reduceToNat, xltT, xltF, xleT, xleF, xeqT, xeqF, nleT, nleF, nltT, nltF, neqT, neqF, ileT, ileF, iltT, iltF, ieqT, ieqF, or_false, or_true, false_or, true_or, and_true, true_and, and_false, false_and, not_false_eq_true, not_true_eq_false, ↓reduceIte, if_true, if_false, t3.2.1.2]) ?_
      have d3 := TR_d hdk t3
      generalize hm4 : mI m3 N 2 (mi m3 D.1 2) = m4; have t4 : TR N m m4 F (2 + 1) := (by rw [← hm4]; exact TRs t3 ((d3.2.1.1 2 (by omega)).trans (by rw [← hF]; rfl))); clear hm4
      have d4 := TR_d hdk t4
      refine w_b d4.1.2.2.2.1 ?_
      refine w_i d4.2.2.1.1.2.1 ?_
      refine w_i (by simp (disch := omega) only [vin, mk_I, ml_I, mr_I, mk_R, ml_R, mi_R, mkN_eq, mlN_eq, miN_eq, mkN_ne, mlN_ne, miN_ne, mrN_ne, mi_eq, mi_na, mi_nj, mr_eq, mr_na, mr_nj, xL0, xL1, xL2, xL3, xL4, xL5, xL6, xL7, xL8, xL9, xL10, xL12, xL16, xL20, xL24, xL31, xL50, xL60, xL89, xL99, xL100, xL200, xI_add, xI_sub, xI_mul, xI_neg, xI_nat, xI_cl, Int.toNat_natCast, Int.reduceToNat, xltT, xltF, xleT, xleF, xeqT, xeqF, nleT, nleF, nltT, nltF, neqT, neqF, ileT, ileF, iltT, iltF, ieqT, ieqF, or_false, or_true, false_or, true_or, and_true, true_and, and_false, false_and, not_false_eq_true, not_true_eq_false, ↓reduceIte, if_true, if_false, t4.2.1.2]) ?_
      generalize hm5 : mI m4 N 3 (Int32.ofNat (ml m4 D.2.1)) = m5; have t5 : TR N m m5 F (3 + 1) := (by rw [← hm5]; exact TRs t4 (by rw [d4.2.2.1.1.2.2.1, xI_nat, ← hF, tl_3]; unfold ud; rw [List.length_map])); clear hm5
      refine w_b (S_zansm (TR_d hdk t5) hla hza hst) ?_
      refine w_i (by simp (disch := omega) only [vin, mk_I, ml_I, mr_I, mk_R, ml_R, mi_R, mkN_eq, mlN_eq, miN_eq, mkN_ne, mlN_ne, miN_ne, mrN_ne, mi_eq, mi_na, mi_nj, mr_eq, mr_na, mr_nj, xL0, xL1, xL2, xL3, xL4, xL5, xL6, xL7, xL8, xL9, xL10, xL12, xL16, xL20, xL24, xL31, xL50, xL60, xL89, xL99, xL100, xL200, xI_add, xI_sub, xI_mul, xI_neg, xI_nat, xI_cl, Int.toNat_natCast, Int.reduceToNat, xltT, xltF, xleT, xleF, xeqT, xeqF, nleT, nleF, nltT, nltF, neqT, neqF, ileT, ileF, iltT, iltF, ieqT, ieqF, or_false, or_true, false_or, true_or, and_true, true_and, and_false, false_and, not_false_eq_true, not_true_eq_false, ↓reduceIte, if_true, if_false, t5.2.1.2]) ?_
      generalize hm6 : mI m5 N 4 (xI ((if D.2.2.2.1 3 = 1 then nA 0 (ud D).2.1 + nA 1 (ud D).2.1 else 0 : Nat) : Int)) = m6; have t6 : TR N m m6 F (4 + 1) := (by rw [← hm6]; exact TRs t5 (by rw [← hF]; rfl)); clear hm6
      refine w_b (S_zans1 (TR_d hdk t6) hla hza hst) ?_
      refine w_i (by simp (disch := omega) only [vin, mk_I, ml_I, mr_I, mk_R, ml_R, mi_R, mkN_eq, mlN_eq, miN_eq, mkN_ne, mlN_ne, miN_ne, mrN_ne, mi_eq, mi_na, mi_nj, mr_eq, mr_na, mr_nj, xL0, xL1, xL2, xL3, xL4, xL5, xL6, xL7, xL8, xL9, xL10, xL12, xL16, xL20, xL24, xL31, xL50, xL60, xL89, xL99, xL100, xL200, xI_add, xI_sub, xI_mul, xI_neg, xI_nat, xI_cl, Int.toNat_natCast, Int.reduceToNat, xltT, xltF, xleT, xleF, xeqT, xeqF, nleT, nleF, nltT, nltF, neqT, neqF, ileT, ileF, iltT, iltF, ieqT, ieqF, or_false, or_true, false_or, true_or, and_true, true_and, and_false, false_and, not_false_eq_true, not_true_eq_false, ↓reduceIte, if_true, if_false, t6.2.1.2]) ?_
      generalize hm7 : mI m6 N 5 (xI ((if D.2.2.2.1 3 = 1 then nA 1 (ud D).2.1 else 0 : Nat) : Int)) = m7; have t7 : TR N m m7 F (5 + 1) := (by rw [← hm7]; exact TRs t6 (by rw [← hF]; rfl)); clear hm7
      have d7 := TR_d hdk t7
      refine w_b d7.1.2.2.2.2 ?_
      refine w_i d7.2.2.2.1.2.1 ?_
      refine w_i (by simp (disch := omega) only [vin, mk_I, ml_I, mr_I, mk_R, ml_R, mi_R, mkN_eq, mlN_eq, miN_eq, mkN_ne, mlN_ne, miN_ne, mrN_ne, mi_eq, mi_na, mi_nj, mr_eq, mr_na, mr_nj, xL0, xL1, xL2, xL3, xL4, xL5, xL6, xL7, xL8, xL9, xL10, xL12, xL16, xL20, xL24, xL31, xL50, xL60, xL89, xL99, xL100, xL200, xI_add, xI_sub, xI_mul, xI_neg, xI_nat, xI_cl, Int.toNat_natCast, Int.reduceToNat, xltT, xltF, xleT, xleF, xeqT, xeqF, nleT, nleF, nltT, nltF, neqT, neqF, ileT, ileF, iltT, iltF, ieqT, ieqF, or_false, or_true, false_or, true_or, and_true, true_and, and_false, false_and, not_false_eq_true, not_true_eq_false, ↓reduceIte, if_true, if_false, t7.2.1.2]) ?_
      generalize hm8 : mI m7 N 6 (Int32.ofNat (ml m7 D.2.2.1)) = m8; have t8 : TR N m m8 F (6 + 1) := (by rw [← hm8]; exact TRs t7 (by rw [d7.2.2.2.1.2.2.1, xI_nat, ← hF, tl_6]; unfold ud; rw [List.length_map])); clear hm8
      refine w_i (by simp (disch := omega) only [vin, mk_I, ml_I, mr_I, mk_R, ml_R, mi_R, mkN_eq, mlN_eq, miN_eq, mkN_ne, mlN_ne, miN_ne, mrN_ne, mi_eq, mi_na, mi_nj, mr_eq, mr_na, mr_nj, xL0, xL1, xL2, xL3, xL4, xL5, xL6, xL7, xL8, xL9, xL10, xL12, xL16, xL20, xL24, xL31, xL50, xL60, xL89, xL99, xL100, xL200, xI_add, xI_sub, xI_mul, xI_neg, xI_nat, xI_cl, Int.toNat_natCast, Int.reduceToNat, xltT, xltF, xleT, xleF, xeqT, xeqF, nleT, nleF, nltT, nltF, neqT, neqF, ileT, ileF, iltT, iltF, ieqT, ieqF, or_false, or_true, false_or, true_or, and_true, true_and, and_false, false_and, not_false_eq_true, not_true_eq_false, ↓reduceIte, if_true, if_false, t8.2.1.2]) ?_
      have d8 := TR_d hdk t8
      generalize hm9 : mI m8 N 7 (mi m8 D.1 7) = m9; have t9 : TR N m m9 F (7 + 1) := (by rw [← hm9]; exact TRs t8 (d8.2.1.2.1.trans (by rw [← hF]; rfl))); clear hm9
      refine w_i (by simp (disch := omega) only [vin, mk_I, ml_I, mr_I, mk_R, ml_R, mi_R, mkN_eq, mlN_eq, miN_eq, mkN_ne, mlN_ne, miN_ne, mrN_ne, mi_eq, mi_na, mi_nj, mr_eq, mr_na, mr_nj, xL0, xL1, xL2, xL3, xL4, xL5, xL6, xL7, xL8, xL9, xL10, xL12, xL16, xL20, xL24, xL31, xL50, xL60, xL89, xL99, xL100, xL200, xI_add, xI_sub, xI_mul, xI_neg, xI_nat, xI_cl, Int.toNat_natCast, Int.reduceToNat, xltT, xltF, xleT, xleF, xeqT, xeqF, nleT, nleF, nltT, nltF, neqT, neqF, ileT, ileF, iltT, iltF, ieqT, ieqF, or_false, or_true, false_or, true_or, and_true, true_and, and_false, false_and, not_false_eq_true, not_true_eq_false, ↓reduceIte, if_true, if_false, t9.2.1.2]) ?_
      have d9 := TR_d hdk t9
      generalize hm10 : mI m9 N 8 (mi m9 D.1 8) = m10; have t10 : TR N m m10 F (8 + 1) := (by rw [← hm10]; exact TRs t9 (d9.2.1.2.2.trans (by rw [← hF]; rfl))); clear hm10
      exact hsame m10 t10
    · refine w_n (by rw [d2.2.1.1 3 (by omega)]; show ¬ xI (D.2.2.2.1 3) = 0; simp (disch := omega) only [vin, mk_I, ml_I, mr_I, mk_R, ml_R, mi_R, mkN_eq, mlN_eq, miN_eq, mkN_ne, mlN_ne, miN_ne, mrN_ne, mi_eq, mi_na, mi_nj, mr_eq, mr_na, mr_nj, xL0, xL1, xL2, xL3, xL4, xL5, xL6, xL7, xL8, xL9, xL10, xL12, xL16, xL20, xL24, xL31, xL50, xL60, xL89, xL99, xL100, xL200, xI_add, xI_sub, xI_mul, xI_neg, xI_nat, xI_cl, Int.toNat_natCast, Int.reduceToNat, xltT, xltF, xleT, xleF, xeqT, xeqF, nleT, nleF, nltT, nltF, neqT, neqF, ileT, ileF, iltT, iltF, ieqT, ieqF, or_false, or_true, false_or, true_or, and_true, true_and, and_false, false_and, not_false_eq_true, not_true_eq_false, ↓reduceIte, if_true, if_false]) ?_
      refine w_i (by simp (disch := omega) only [vin, mk_I, ml_I, mr_I, mk_R, ml_R, mi_R, mkN_eq, mlN_eq, miN_eq, mkN_ne, mlN_ne, miN_ne, mrN_ne, mi_eq, mi_na, mi_nj, mr_eq, mr_na, mr_nj, xL0, xL1, xL2, xL3, xL4, xL5, xL6, xL7, xL8, xL9, xL10, xL12, xL16, xL20, xL24, xL31, xL50, xL60, xL89, xL99, xL100, xL200, xI_add, xI_sub, xI_mul, xI_neg, xI_nat, xI_cl, Int.toNat_natCast, Int.reduceToNat, xltT, xltF, xleT, xleF, xeqT, xeqF, nleT, nleF, nltT, nltF, neqT, neqF, ileT, ileF, iltT, iltF, ieqT, ieqF, or_false, or_true, false_or, true_or, and_true, true_and, and_false, false_and, not_false_eq_true, not_true_eq_false, ↓reduceIte, if_true, if_false, t2.2.1.2]) ?_
      generalize hm3 : mI m2 N 1 (mi m2 D.1 4) = m3; have t3 : TR N m m3 F (1 + 1) := (by rw [← hm3]; exact TRs t2 ((d2.2.1.1 4 (by omega)).trans (by rw [← hF]; rfl))); clear hm3
      refine w_i (by simp (disch := omega) only [vin, mk_I, ml_I, mr_I, mk_R, ml_R, mi_R, mkN_eq, mlN_eq, miN_eq, mkN_ne, mlN_ne, miN_ne, mrN_ne, mi_eq, mi_na, mi_nj, mr_eq, mr_na, mr_nj, xL0, xL1, xL2, xL3, xL4, xL5, xL6, xL7, xL8, xL9, xL10, xL12, xL16, xL20, xL24, xL31, xL50, xL60, xL89, xL99, xL100, xL200, xI_add, xI_sub, xI_mul, xI_neg, xI_nat, xI_cl, Int.toNat_natCast, Int.reduceToNat, xltT, xltF, xleT, xleF, xeqT, xeqF, nleT, nleF, nltT, nltF, neqT, neqF, ileT, ileF, iltT, iltF, ieqT, ieqF, or_false, or_true, false_or, true_or, and_true, true_and, and_false, false_and, not_false_eq_true, not_true_eq_false, ↓reduceIte, if_true, if_false, t3.2.1.2]) ?_
      have d3 := TR_d hdk t3
      generalize hm4 : mI m3 N 2 (mi m3 D.1 2) = m4; have t4 : TR N m m4 F (2 + 1) := (by rw [← hm4]; exact TRs t3 ((d3.2.1.1 2 (by omega)).trans (by rw [← hF]; rfl))); clear hm4
      have d4 := TR_d hdk t4
      refine w_b d4.1.2.2.2.1 ?_
      refine w_i d4.2.2.1.1.2.1 ?_
      refine w_i (by simp (disch := omega) only [vin, mk_I, ml_I, mr_I, mk_R, ml_R, mi_R, mkN_eq, mlN_eq, miN_eq, mkN_ne, mlN_ne, miN_ne, mrN_ne, mi_eq, mi_na, mi_nj, mr_eq, mr_na, mr_nj, xL0, xL1, xL2, xL3, xL4, xL5, xL6, xL7, xL8, xL9, xL10, xL12, xL16, xL20, xL24, xL31, xL50, xL60, xL89, xL99, xL100, xL200, xI_add, xI_sub, xI_mul, xI_neg, xI_nat, xI_cl, Int.toNat_natCast, Int.reduceToNat, xltT, xltF, xleT, xleF, xeqT, xeqF, nleT, nleF, nltT, nltF, neqT, neqF, ileT, ileF, iltT, iltF, ieqT, ieqF, or_false, or_true, false_or, true_or, and_true, true_and, and_false, false_and, not_false_eq_true, not_true_eq_false, ↓reduceIte, if_true, if_false, t4.2.1.2]) ?_
      generalize hm5 : mI m4 N 3 (Int32.ofNat (ml m4 D.2.1)) = m5; have t5 : TR N m m5 F (3 + 1) := (by rw [← hm5]; exact TRs t4 (by rw [d4.2.2.1.1.2.2.1, xI_nat, ← hF, tl_3]; unfold ud; rw [List.length_map])); clear hm5
      refine w_b (S_zansm (TR_d hdk t5) hla hza hst) ?_
      refine w_i (by simp (disch := omega) only [vin, mk_I, ml_I, mr_I, mk_R, ml_R, mi_R, mkN_eq, mlN_eq, miN_eq, mkN_ne, mlN_ne, miN_ne, mrN_ne, mi_eq, mi_na, mi_nj, mr_eq, mr_na, mr_nj, xL0, xL1, xL2, xL3, xL4, xL5, xL6, xL7, xL8, xL9, xL10, xL12, xL16, xL20, xL24, xL31, xL50, xL60, xL89, xL99, xL100, xL200, xI_add, xI_sub, xI_mul, xI_neg, xI_nat, xI_cl, Int.toNat_natCast, Int.reduceToNat, xltT, xltF, xleT, xleF, xeqT, xeqF, nleT, nleF, nltT, nltF, neqT, neqF, ileT, ileF, iltT, iltF, ieqT, ieqF, or_false, or_true, false_or, true_or, and_true, true_and, and_false, false_and, not_false_eq_true, not_true_eq_false, ↓reduceIte, if_true, if_false, t5.2.1.2]) ?_
      generalize hm6 : mI m5 N 4 (xI ((if D.2.2.2.1 3 = 1 then nA 0 (ud D).2.1 + nA 1 (ud D).2.1 else 0 : Nat) : Int)) = m6; have t6 : TR N m m6 F (4 + 1) := (by rw [← hm6]; exact TRs t5 (by rw [← hF]; rfl)); clear hm6
      refine w_b (S_zans1 (TR_d hdk t6) hla hza hst) ?_
      refine w_i (by simp (disch := omega) only [vin, mk_I, ml_I, mr_I, mk_R, ml_R, mi_R, mkN_eq, mlN_eq, miN_eq, mkN_ne, mlN_ne, miN_ne, mrN_ne, mi_eq, mi_na, mi_nj, mr_eq, mr_na, mr_nj, xL0, xL1, xL2, xL3, xL4, xL5, xL6, xL7, xL8, xL9, xL10, xL12, xL16, xL20, xL24, xL31, xL50, xL60, xL89, xL99, xL100, xL200, xI_add, xI_sub, xI_mul, xI_neg, xI_nat, xI_cl, Int.toNat_natCast, Int.reduceToNat, xltT, xltF, xleT, xleF, xeqT, xeqF, nleT, nleF, nltT, nltF, neqT, neqF, ileT, ileF, iltT, iltF, ieqT, ieqF, or_false, or_true, false_or, true_or, and_true, true_and, and_false, false_and, not_false_eq_true, not_true_eq_false, ↓reduceIte, if_true, if_false, t6.2.1.2]) ?_
      generalize hm7 : mI m6 N 5 (xI ((if D.2.2.2.1 3 = 1 then nA 1 (ud D).2.1 else 0 : Nat) : Int)) = m7; have t7 : TR N m m7 F (5 + 1) := (by rw [← hm7]; exact TRs t6 (by rw [← hF]; rfl)); clear hm7
      have d7 := TR_d hdk t7
      refine w_b d7.1.2.2.2.2 ?_
      refine w_i d7.2.2.2.1.2.1 ?_
      refine w_i (by simp (disch := omega) only [vin, mk_I, ml_I, mr_I, mk_R, ml_R, mi_R, mkN_eq, mlN_eq, miN_eq, mkN_ne, mlN_ne, miN_ne, mrN_ne, mi_eq, mi_na, mi_nj, mr_eq, mr_na, mr_nj, xL0, xL1, xL2, xL3, xL4, xL5, xL6, xL7, xL8, xL9, xL10, xL12, xL16, xL20, xL24, xL31, xL50, xL60, xL89, xL99, xL100, xL200, xI_add, xI_sub, xI_mul, xI_neg, xI_nat, xI_cl, Int.toNat_natCast, Int.reduceToNat, xltT, xltF, xleT, xleF, xeqT, xeqF, nleT, nleF, nltT, nltF, neqT, neqF, ileT, ileF, iltT, iltF, ieqT, ieqF, or_false, or_true, false_or, true_or, and_true, true_and, and_false, false_and, not_false_eq_true, not_true_eq_false, ↓reduceIte, if_true, if_false, t7.2.1.2]) ?_
      generalize hm8 : mI m7 N 6 (Int32.ofNat (ml m7 D.2.2.1)) = m8; have t8 : TR N m m8 F (6 + 1) := (by rw [← hm8]; exact TRs t7 (by rw [d7.2.2.2.1.2.2.1, xI_nat, ← hF, tl_6]; unfold ud; rw [List.length_map])); clear hm8
      refine w_i (by simp (disch := omega) only [vin, mk_I, ml_I, mr_I, mk_R, ml_R, mi_R, mkN_eq, mlN_eq, miN_eq, mkN_ne, mlN_ne, miN_ne, mrN_ne, mi_eq, mi_na, mi_nj, mr_eq, mr_na, mr_nj, xL0, xL1, xL2, xL3, xL4, xL5, xL6, xL7, xL8, xL9, xL10, xL12, xL16, xL20, xL24, xL31, xL50, xL60, xL89, xL99, xL100, xL200, xI_add, xI_sub, xI_mul, xI_neg, xI_nat, xI_cl, Int.toNat_natCast, Int.reduceToNat, xltT, xltF, xleT, xleF, xeqT, xeqF, nleT, nleF, nltT, nltF, neqT, neqF, ileT, ileF, iltT, iltF, ieqT, ieqF, or_false, or_true, false_or, true_or, and_true, true_and, and_false, false_and, not_false_eq_true, not_true_eq_false, ↓reduceIte, if_true, if_false, t8.2.1.2]) ?_
      have d8 := TR_d hdk t8
      generalize hm9 : mI m8 N 7 (mi m8 D.1 7) = m9; have t9 : TR N m m9 F (7 + 1) := (by rw [← hm9]; exact TRs t8 (d8.2.1.2.1.trans (by rw [← hF]; rfl))); clear hm9
      refine w_i (by simp (disch := omega) only [vin, mk_I, ml_I, mr_I, mk_R, ml_R, mi_R, mkN_eq, mlN_eq, miN_eq, mkN_ne, mlN_ne, miN_ne, mrN_ne, mi_eq, mi_na, mi_nj, mr_eq, mr_na, mr_nj, xL0, xL1, xL2, xL3, xL4, xL5, xL6, xL7, xL8, xL9, xL10, xL12, xL16, xL20, xL24, xL31, xL50, xL60, xL89, xL99, xL100, xL200, xI_add, xI_sub, xI_mul, xI_neg, xI_nat, xI_cl, Int.toNat_natCast, Int.reduceToNat, xltT, xltF, xleT, xleF, xeqT, xeqF, nleT, nleF, nltT, nltF, neqT, neqF, ileT, ileF, iltT, iltF, ieqT, ieqF, or_false, or_true, false_or, true_or, and_true, true_and, and_false, false_and, not_false_eq_true, not_true_eq_false, ↓reduceIte, if_true, if_false, t9.2.1.2]) ?_
      have d9 := TR_d hdk t9
      generalize hm10 : mI m9 N 8 (mi m9 D.1 8) = m10; have t10 : TR N m m10 F (8 + 1) := (by rw [← hm10]; exact TRs t9 (d9.2.1.2.2.trans (by rw [← hF]; rfl))); clear hm10
      exact hsame m10 t10
end
