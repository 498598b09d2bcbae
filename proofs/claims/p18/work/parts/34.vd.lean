/-! the class's own face -/
def VV (m : vM) : Prop := mk m 0 = 3 ∧ mr m 0 0 = some 1 ∧ mr m 0 1 = some 75 ∧ VB 1 m ∧ VB 75 m
/-- doors that are not built yet -/
def Zr (b : Nat) (σ : aN) (n : Nat) : Prop := ∀ k, n ≤ k → k < 10 → σ (b + 14 + 6 * k) 3 = xI 0 ∧ σ (b + 14 + 6 * k) 4 = xI 0 ∧ σ (b + 14 + 6 * k) 5 = xI 0 ∧ σ (b + 14 + 6 * k) 6 = xI 0 ∧ σ (b + 14 + 6 * k) 7 = xI 0 ∧ σ (b + 14 + 6 * k) 11 = xI 0
def a_new (s p r : Int) : aD := (fun j => if j = 0 then s else if j = 1 then p else if j = 2 then r else if j = 7 then -4 else 0, [], [])
def a_build (S : aS) (s p r : Int) : aS := (S.1 + 1, S.2.1, du S.2.2.1 S.1 (a_new s p r), S.2.2.2)
def a_link (S : aS) (k : Nat) (o t : Int) : aS := a_set S k ((S.2.2.1 k).1, (S.2.2.1 k).2.1 ++ [r6 o t (-1) 0 0 0], (S.2.2.1 k).2.2)
def a_rule (S : aS) (k : Nat) (r p : Int) : aS := a_set S k (fu (fu (S.2.2.1 k).1 2 r) 1 p, (S.2.2.1 k).2)
noncomputable def a_opl (S : aS) (k : Nat) (i : Int) : Nat → Int
  | 0 => -1
  | r + 1 => if ((a_tick S).2.2.1 k).1 3 = 2 then i else a_opl (a_tick S) k (i + 1) r
noncomputable def a_ops (S : aS) (k : Nat) : Int := if (S.2.2.1 k).1 3 = 2 then 0 else a_opl S k 1 100
section
variable {k : Nat} {σ τ : aN} {S : aS} {m : vM} {E : Nat → List (Int × Int)} {Lw : Nat → Int}
theorem isIn_y {x a b : Int} (h : a ≤ x ∧ x ≤ b ∧ -2147483648 ≤ a ∧ b < 2147483648) : f_X3_isIn m (xI x) (xI a) (xI b) = some (xI 1) := by
  unfold f_X3_isIn
  simp (disch := omega) only [vin, mk_xW, ml_xW, mr_xW, mi_xW, mI_xW, mC_xW, up_eq, up_na, up_nj, xL0, xL1, xL2, xL3, xL4, xL5, xL6, xL7, xL8, xL9, xL10, xL12, xL16, xL20, xL24, xL31, xL50, xL60, xL89, xL99, xL100, xL200, xI_add, xI_sub, xI_mul, xI_neg, xI_nat, xI_cl, Int.toNat_natCast, Int.reduceToNat, xltT, xltF, xleT, xleF, xeqT, xeqF, nleT, nleF, nltT, nltF, neqT, neqF, ileT, ileF, iltT, iltF, ieqT, ieqF, or_false, or_true, false_or, true_or, and_true, true_and, and_false, false_and, not_false_eq_true, not_true_eq_false, ↓reduceIte, if_true, if_false]
theorem IN_st {c : Nat → Int} {pend : List aR} (h : INm E Lw S pend c) : ∀ k, k < S.1 → 0 ≤ (S.2.2.1 k).1 3 ∧ (S.2.2.1 k).1 3 ≤ 3 := fun k hk => (IN_W h hk).1.2.2.2.1
theorem IN_Wa {c : Nat → Int} {pend : List aR} (h : INm E Lw S pend c) : ∀ k, k < S.1 → WDr (S.2.2.1 k) := fun k hk => (IN_W h hk).1
theorem IN_whis {t : Int} (h : INm E Lw S [] (fun _ => 20)) (hk : k < S.1) : ∃ Lw', INm E Lw' (a_whis S k t) [] (fun _ => 20) := by
  unfold a_whis
  by_cases e : (S.2.2.1 k).1 3 = 0
  · rw [if_pos e]
    by_cases e2 : (S.2.2.1 k).1 0 = t
    · rw [if_pos e2]; exact ⟨_, IN_wake h hk e (Int.le_refl _)⟩
    · rw [if_neg e2]
      have hd : DI S.1 (S.2.1 2) E Lw 20 k (S.2.2.1 k) := h.2.1 k hk
      obtain ⟨⟨⟨b1, b2, b3⟩, b4, hq⟩, g2, g3, g4⟩ := hd
      have hk0 := g3 (by omega)
      have hd2 : DI S.1 (S.2.1 2) E Lw 20 k (a_turn (S.2.2.1 k).1 0, (S.2.2.1 k).2) := by
        refine ⟨⟨?_, ?_, ?_⟩, g2, fun _ => hk0, g4⟩
        · simp [a_turn, fu]; exact ⟨b1, b2, b3⟩
        · simp [a_turn, fu]; exact b4
        · simp [a_turn, fu]; omega
      refine ⟨Lw, IN_door h hd2 (fun v hv e3 => ?_)⟩
      have := h.2.2.2.2.2.2.2 v hv
      rw [e3] at this; exact this
  · rw [if_neg e]; exact ⟨Lw, h⟩
theorem S_X3door {w : Int} (hV : VV m) (hR : RS 1 σ S) (hn : S.1 ≤ 10) (hk : k < S.1) (hW : WDr (S.2.2.1 k)) (hw : 0 ≤ w ∧ w ≤ 8) : f_X3_door (xW m σ) 0 (xI (k : Nat)) (xI w) = some (xI (dF (mkd (S.2.2.1 k)) w)) := by
  obtain ⟨a0, a1, a2, hV1, hV2⟩ := hV
  have hid := S_isDoor (x := (k : Nat)) hV1 hR hn (by omega)
  rw [if_pos (by omega)] at hid
  obtain ⟨v0, v2, v3, v4, v5, v6, v7, _, v9⟩ := hV1
  obtain ⟨hr, hdB⟩ := v9 k (by omega)
  have hr2 : mr m (1 + 1) (xI (k : Nat)).toNatClampNeg = some (1 + 14 + 6 * k) := by rw [← hr]; simp (disch := omega) only [vin, mk_xW, ml_xW, mr_xW, mi_xW, mI_xW, mC_xW, up_eq, up_na, up_nj, xL0, xL1, xL2, xL3, xL4, xL5, xL6, xL7, xL8, xL9, xL10, xL12, xL16, xL20, xL24, xL31, xL50, xL60, xL89, xL99, xL100, xL200, xI_add, xI_sub, xI_mul, xI_neg, xI_nat, xI_cl, Int.toNat_natCast, Int.reduceToNat, xltT, xltF, xleT, xleF, xeqT, xeqF, nleT, nleF, nltT, nltF, neqT, neqF, ileT, ileF, iltT, iltF, ieqT, ieqF, or_false, or_true, false_or, true_or, and_true, true_and, and_false, false_and, not_false_eq_true, not_true_eq_false, ↓reduceIte, if_true, if_false]
  apply wq_eq
  unfold f_X3_door; simp only [mk_xW, ml_xW, mr_xW, mi_xW, mI_xW, mC_xW]
  refine w_i a0 ?_
  refine w_b a1 ?_
  refine w_i v0 ?_
  refine w_b hid ?_
  refine w_n (by decide) ?_
  refine w_b (x := xI 1) (isIn_y (a := 0) (b := 8) (by omega)) ?_
  refine w_n (by decide) ?_
  refine w_b a1 ?_
  refine w_i v0 ?_
  refine w_b v2 ?_
  refine w_i v5 ?_
  refine w_i (by simp (disch := omega) only [vin, mk_xW, ml_xW, mr_xW, mi_xW, mI_xW, mC_xW, up_eq, up_na, up_nj, xL0, xL1, xL2, xL3, xL4, xL5, xL6, xL7, xL8, xL9, xL10, xL12, xL16, xL20, xL24, xL31, xL50, xL60, xL89, xL99, xL100, xL200, xI_add, xI_sub, xI_mul, xI_neg, xI_nat, xI_cl, Int.toNat_natCast, Int.reduceToNat, xltT, xltF, xleT, xleF, xeqT, xeqF, nleT, nleF, nltT, nltF, neqT, neqF, ileT, ileF, iltT, iltF, ieqT, ieqF, or_false, or_true, false_or, true_or, and_true, true_and, and_false, false_and, not_false_eq_true, not_true_eq_false, ↓reduceIte, if_true, if_false, v6]) ?_
  refine w_b hr2 ?_
  refine w_i hdB.1 ?_
  refine w_b (S_dfact hdB (hR.2.2.1 k hk) (WD_mkd hW) hw) ?_
  exact w_s rfl
theorem S_X3asks {i : Nat} {a : aR} {w : Int} (hV : VV m) (hR : RS 1 σ S) (hn : S.1 ≤ 10) (hk : k < S.1) (hW : WDr (S.2.2.1 k)) (hi : (mkd (S.2.2.1 k)).2.1[i]? = some a) (hw : 0 ≤ w ∧ w ≤ 2) : f_X3_asks (xW m σ) 0 (xI (k : Nat)) (xI (i : Nat)) (xI w) = some (xI (a w.toNat)) := by
  obtain ⟨a0, a1, a2, hV1, hV2⟩ := hV
  have hid := S_isDoor (x := (k : Nat)) hV1 hR hn (by omega)
  rw [if_pos (by omega)] at hid
  obtain ⟨v0, v2, v3, v4, v5, v6, v7, _, v9⟩ := hV1
  obtain ⟨hr, hdB⟩ := v9 k (by omega)
  have hr2 : mr m (1 + 1) (xI (k : Nat)).toNatClampNeg = some (1 + 14 + 6 * k) := by rw [← hr]; simp (disch := omega) only [vin, mk_xW, ml_xW, mr_xW, mi_xW, mI_xW, mC_xW, up_eq, up_na, up_nj, xL0, xL1, xL2, xL3, xL4, xL5, xL6, xL7, xL8, xL9, xL10, xL12, xL16, xL20, xL24, xL31, xL50, xL60, xL89, xL99, xL100, xL200, xI_add, xI_sub, xI_mul, xI_neg, xI_nat, xI_cl, Int.toNat_natCast, Int.reduceToNat, xltT, xltF, xleT, xleF, xeqT, xeqF, nleT, nleF, nltT, nltF, neqT, neqF, ileT, ileF, iltT, iltF, ieqT, ieqF, or_false, or_true, false_or, true_or, and_true, true_and, and_false, false_and, not_false_eq_true, not_true_eq_false, ↓reduceIte, if_true, if_false]
  have hd := hR.2.2.1 k hk
  have hW2 := WD_mkd hW
  have hl4 := hW2.2.2.2.2.2.1
  have hil := dr_lt hi
  apply wq_eq
  unfold f_X3_asks; simp only [mk_xW, ml_xW, mr_xW, mi_xW, mI_xW, mC_xW]
  refine w_i a0 ?_
  refine w_b a1 ?_
  refine w_i v0 ?_
  refine w_b hid ?_
  refine w_n (by decide) ?_
  refine w_b (x := xI 1) (isIn_y (a := 0) (b := 2) (by omega)) ?_
  refine w_n (by decide) ?_
  refine w_b a1 ?_
  refine w_i v0 ?_
  refine w_b v2 ?_
  refine w_i v5 ?_
  refine w_i (by simp (disch := omega) only [vin, mk_xW, ml_xW, mr_xW, mi_xW, mI_xW, mC_xW, up_eq, up_na, up_nj, xL0, xL1, xL2, xL3, xL4, xL5, xL6, xL7, xL8, xL9, xL10, xL12, xL16, xL20, xL24, xL31, xL50, xL60, xL89, xL99, xL100, xL200, xI_add, xI_sub, xI_mul, xI_neg, xI_nat, xI_cl, Int.toNat_natCast, Int.reduceToNat, xltT, xltF, xleT, xleF, xeqT, xeqF, nleT, nleF, nltT, nltF, neqT, neqF, ileT, ileF, iltT, iltF, ieqT, ieqF, or_false, or_true, false_or, true_or, and_true, true_and, and_false, false_and, not_false_eq_true, not_true_eq_false, ↓reduceIte, if_true, if_false, v6]) ?_
  refine w_b hr2 ?_
  refine w_i hdB.1 ?_
  refine w_b (x := xI 1) (by rw [hd.2.1, xL1, xI_sub]; exact isIn_y (a := 0) (by omega)) ?_
  refine w_n (by decide) ?_
  refine w_b (S_afact hdB hd hW2 hi hw) ?_
  exact w_s rfl
theorem S_X3voice {i : Nat} {v : aR} {w : Int} (hV : VV m) (hR : RS 1 σ S) (hl : S.2.2.2.length ≤ 60) (hi : S.2.2.2[i]? = some v) (hw : 0 ≤ w ∧ w ≤ 3) : f_X3_voice (xW m σ) 0 (xI (i : Nat)) (xI w) = some (xI (v w.toNat)) := by
  obtain ⟨a0, a1, a2, hV1, hV2⟩ := hV
  obtain ⟨v0, v2, v3, v4, v5, v6, v7, _, v9⟩ := hV1
  have hil := dr_lt hi
  have h0 := hR.2.2.2.1.1
  have v70 := v7.1
  apply wq_eq
  unfold f_X3_voice; simp only [mk_xW, ml_xW, mr_xW, mi_xW, mI_xW, mC_xW]
  refine w_i a0 ?_
  refine w_b a1 ?_
  refine w_i v0 ?_
  refine w_b v3 ?_
  refine w_i v70 ?_
  refine w_b (x := xI 1) (by rw [h0, xL1, xI_sub]; exact isIn_y (a := 0) (by omega)) ?_
  refine w_n (by decide) ?_
  refine w_b (x := xI 1) (isIn_y (a := 0) (b := 3) (by omega)) ?_
  refine w_n (by decide) ?_
  refine w_b a1 ?_
  refine w_i v0 ?_
  refine w_b v3 ?_
  refine w_i v70 ?_
  refine w_b (S_vfact v7 hR.2.2.2.1 hl hi hw) ?_
  exact w_s rfl
theorem S_X3count {w : Int} (hV : VV m) (hR : RS 1 σ S) (hn : S.1 ≤ 10) (hs : ∀ k, k < S.1 → 0 ≤ (S.2.2.1 k).1 3 ∧ (S.2.2.1 k).1 3 ≤ 3) (hw : 0 ≤ w ∧ w ≤ 8) : f_X3_count (xW m σ) 0 (xI w) = some (xI (cF S w)) := by
  obtain ⟨a0, a1, a2, hV1, hV2⟩ := hV
  apply wq_eq
  unfold f_X3_count; simp only [mk_xW, ml_xW, mr_xW, mi_xW, mI_xW, mC_xW]
  refine w_b (x := xI 1) (isIn_y (a := 0) (b := 8) (by omega)) ?_
  refine w_n (by decide) ?_
  refine w_i a0 ?_
  refine w_b a1 ?_
  refine w_i hV1.1 ?_
  refine w_b (S_cfact hV1 hR hn hs hw) ?_
  exact w_s rfl
theorem S_X3reach (hV : VV m) (hR : RS 1 σ S) (hn : S.1 ≤ 10) (hk : k < S.1) (hW : ∀ k, k < S.1 → WDr (S.2.2.1 k)) : f_X3_reach (xW m σ) 0 (xI (k : Nat)) = some (xI (a_rch S k : Nat)) := by
  obtain ⟨a0, a1, a2, hV1, hV2⟩ := hV
  have hid := S_isDoor (x := (k : Nat)) hV1 hR hn (by omega)
  rw [if_pos (by omega)] at hid
  apply wq_eq
  unfold f_X3_reach; simp only [mk_xW, ml_xW, mr_xW, mi_xW, mI_xW, mC_xW]
  refine w_i a0 ?_
  refine w_b a1 ?_
  refine w_i hV1.1 ?_
  refine w_b hid ?_
  refine w_n (by decide) ?_
  refine w_b a1 ?_
  refine w_i hV1.1 ?_
  refine w_b (S_reach hV1 hR hn hW hk) ?_
  exact w_s rfl
theorem S_X3whisper {t : Int} (hV : VV m) (hR : RS 1 σ S) (hI : INm E Lw S [] (fun _ => 20)) (hk : k < S.1) (ht : 0 ≤ t ∧ t ≤ 99) : wq (f_X3_whisper (xW m σ) 0 (xI (k : Nat)) (xI t)) (fun z => ∃ τ, z = (xI (a_whok S k t), xW m τ) ∧ RS 1 τ (a_whis S k t) ∧ fr 1 74 σ τ) := by
  obtain ⟨a0, a1, a2, hV1, hV2⟩ := hV
  have hn := hI.1.1
  have hid := S_isDoor (x := (k : Nat)) hV1 hR hn (by omega)
  rw [if_pos (by omega)] at hid
  unfold f_X3_whisper; simp only [mk_xW, ml_xW, mr_xW, mi_xW, mI_xW, mC_xW]
  refine w_i a0 ?_
  refine w_b a1 ?_
  refine w_i hV1.1 ?_
  refine w_b hid ?_
  refine w_n (by decide) ?_
  refine w_b (x := xI 1) (isIn_y (a := 0) (b := 99) (by omega)) ?_
  refine w_n (by decide) ?_
  refine w_b a1 ?_
  refine w_i hV1.1 ?_
  refine w_c (S_whis hV1 hR hI hk ht) ?_
  rintro z ⟨τ, rfl, t1, t2⟩
  refine w_i ?_ (w_s ⟨τ, rfl, t1, t2⟩)
  unfold a_whok
  split
  · split
    · exact .inr rfl
    · exact .inl rfl
  · exact .inl rfl
theorem S_X3pass (hV : VV m) (hR : RS 1 σ S) (hI : INm E Lw S [] (fun _ => 20)) : wq (f_X3_pass (xW m σ) 0 (xI 1)) (fun z => ∃ τ, z = (xI (a_t3 S).1, xW m τ) ∧ RS 1 τ (a_tick S) ∧ fr 1 74 σ τ) := by
  obtain ⟨a0, a1, a2, hV1, hV2⟩ := hV
  unfold f_X3_pass
  refine w_b (x := xI 1) (isIn_y (a := 1) (b := 200) (by omega)) ?_
  refine w_n (by decide) ?_
  show wq (fB_X3_pass_25 (fL_X3_pass 999999) (xW m σ) 0 (xI 1) 0 0) _
  unfold fB_X3_pass_25; simp only [mk_xW, ml_xW, mr_xW, mi_xW, mI_xW, mC_xW]
  refine w_n (by decide) ?_
  refine w_i a0 ?_
  refine w_b a1 ?_
  refine w_i hV1.1 ?_
  refine w_c (S_tick hV1 hR hI) ?_
  rintro z ⟨τ, rfl, t1, t2⟩
  show wq (fB_X3_pass_25 (fL_X3_pass 999998) (xW m τ) 0 (xI 1) (0 + xI (a_t3 S).1) (0 + 1)) _
  unfold fB_X3_pass_25
  refine w_i (by decide) ?_
  refine w_s ⟨τ, ?_, t1, t2⟩
  rw [xL0, xI_add, Int.zero_add]
theorem L_opens (hV : VV m) (hk : k < 10) : ∀ r i, i + r = 101 → ∀ (σ : aN) (T : aS) (Lw : Nat → Int), RS 75 σ T → k < T.1 → INm E Lw T [] (fun _ => 20) → ∀ f, r < f → wq (fL_X3_opens f 52 (xW m σ) 0 (xI (k : Nat)) (xI (i : Nat))) (fun z => ∃ τ, z = (xI (a_opl T k i r), xW m τ) ∧ fr 75 74 σ τ) := by
  obtain ⟨a0, a1, a2, hV1, hV2⟩ := hV
  have hV20 := hV2
  obtain ⟨v0, v2, v3, v4, v5, v6, v7, _, v9⟩ := hV2
  obtain ⟨hr, hdB⟩ := v9 k hk
  have hr2 : mr m (75 + 1) (xI (k : Nat)).toNatClampNeg = some (75 + 14 + 6 * k) := by rw [← hr]; simp (disch := omega) only [vin, mk_xW, ml_xW, mr_xW, mi_xW, mI_xW, mC_xW, up_eq, up_na, up_nj, xL0, xL1, xL2, xL3, xL4, xL5, xL6, xL7, xL8, xL9, xL10, xL12, xL16, xL20, xL24, xL31, xL50, xL60, xL89, xL99, xL100, xL200, xI_add, xI_sub, xI_mul, xI_neg, xI_nat, xI_cl, Int.toNat_natCast, Int.reduceToNat, xltT, xltF, xleT, xleF, xeqT, xeqF, nleT, nleF, nltT, nltF, neqT, neqF, ileT, ileF, iltT, iltF, ieqT, ieqF, or_false, or_true, false_or, true_or, and_true, true_and, and_false, false_and, not_false_eq_true, not_true_eq_false, ↓reduceIte, if_true, if_false]
  intro r
  induction r with
  | zero =>
    intro i hi σ T Lw hR hkn hI f hf
    obtain ⟨g, rfl⟩ : ∃ g, f = g + 1 := ⟨f - 1, by omega⟩
    show wq (fB_X3_opens_52 (fL_X3_opens g) (xW m σ) 0 _ _) _
    unfold fB_X3_opens_52; simp only [mk_xW, ml_xW, mr_xW, mi_xW, mI_xW, mC_xW]
    refine w_i (by simp (disch := omega) only [vin, mk_xW, ml_xW, mr_xW, mi_xW, mI_xW, mC_xW, up_eq, up_na, up_nj, xL0, xL1, xL2, xL3, xL4, xL5, xL6, xL7, xL8, xL9, xL10, xL12, xL16, xL20, xL24, xL31, xL50, xL60, xL89, xL99, xL100, xL200, xI_add, xI_sub, xI_mul, xI_neg, xI_nat, xI_cl, Int.toNat_natCast, Int.reduceToNat, xltT, xltF, xleT, xleF, xeqT, xeqF, nleT, nleF, nltT, nltF, neqT, neqF, ileT, ileF, iltT, iltF, ieqT, ieqF, or_false, or_true, false_or, true_or, and_true, true_and, and_false, false_and, not_false_eq_true, not_true_eq_false, ↓reduceIte, if_true, if_false]) ?_
    exact w_s ⟨σ, rfl, fr_rfl⟩
  | succ r ih =>
    intro i hi σ T Lw hR hkn hI f hf
    obtain ⟨g, rfl⟩ : ∃ g, f = g + 1 := ⟨f - 1, by omega⟩
    show wq (fB_X3_opens_52 (fL_X3_opens g) (xW m σ) 0 _ _) _
    unfold fB_X3_opens_52; simp only [mk_xW, ml_xW, mr_xW, mi_xW, mI_xW, mC_xW]
    refine w_n (by simp (disch := omega) only [vin, mk_xW, ml_xW, mr_xW, mi_xW, mI_xW, mC_xW, up_eq, up_na, up_nj, xL0, xL1, xL2, xL3, xL4, xL5, xL6, xL7, xL8, xL9, xL10, xL12, xL16, xL20, xL24, xL31, xL50, xL60, xL89, xL99, xL100, xL200, xI_add, xI_sub, xI_mul, xI_neg, xI_nat, xI_cl, Int.toNat_natCast, Int.reduceToNat, xltT, xltF, xleT, xleF, xeqT, xeqF, nleT, nleF, nltT, nltF, neqT, neqF, ileT, ileF, iltT, iltF, ieqT, ieqF, or_false, or_true, false_or, true_or, and_true, true_and, and_false, false_and, not_false_eq_true, not_true_eq_false, ↓reduceIte, if_true, if_false]) ?_
    refine w_i a0 ?_
    refine w_b a2 ?_
    refine w_i v0 ?_
    refine w_c (S_tick hV20 hR hI) ?_
    rintro z ⟨τ, rfl, t1, t2⟩
    obtain ⟨Lw', hI2⟩ := IN_tick hI
    have hn2 : (a_tick T).1 = T.1 := by
      have h3 : ∀ r k (U : aS), (a_dks U k r).2.1 = U.1 := by
        intro r
        induction r with
        | zero => intro k U; rfl
        | succ r ih => intro k U; exact (ih (k + 1) (a_dk U k)).trans dk_n
      exact (h3 _ _ _).trans a_t2_n
    have f3 : τ (75 + 14 + 6 * k) 3 = xI (((a_tick T).2.2.1 k).1 3) := (t1.2.2.1 k (by rw [hn2]; exact hkn)).1 3 (by omega)
    have hst := IN_st hI2 k (by rw [hn2]; exact hkn)
    refine w_i a0 ?_
    refine w_b a2 ?_
    refine w_i v0 ?_
    refine w_b v2 ?_
    refine w_i v5 ?_
    refine w_i (by simp (disch := omega) only [vin, mk_xW, ml_xW, mr_xW, mi_xW, mI_xW, mC_xW, up_eq, up_na, up_nj, xL0, xL1, xL2, xL3, xL4, xL5, xL6, xL7, xL8, xL9, xL10, xL12, xL16, xL20, xL24, xL31, xL50, xL60, xL89, xL99, xL100, xL200, xI_add, xI_sub, xI_mul, xI_neg, xI_nat, xI_cl, Int.toNat_natCast, Int.reduceToNat, xltT, xltF, xleT, xleF, xeqT, xeqF, nleT, nleF, nltT, nltF, neqT, neqF, ileT, ileF, iltT, iltF, ieqT, ieqF, or_false, or_true, false_or, true_or, and_true, true_and, and_false, false_and, not_false_eq_true, not_true_eq_false, ↓reduceIte, if_true, if_false, v6]) ?_
    refine w_b hr2 ?_
    refine w_i hdB.1 ?_
    have e0 : a_opl T k i (r + 1) = if ((a_tick T).2.2.1 k).1 3 = 2 then (i : Int) else a_opl (a_tick T) k (i + 1) r := rfl
    rw [e0]
    by_cases e : ((a_tick T).2.2.1 k).1 3 = 2
    · rw [if_pos e]
      refine w_i (by simp (disch := omega) only [vin, mk_xW, ml_xW, mr_xW, mi_xW, mI_xW, mC_xW, up_eq, up_na, up_nj, xL0, xL1, xL2, xL3, xL4, xL5, xL6, xL7, xL8, xL9, xL10, xL12, xL16, xL20, xL24, xL31, xL50, xL60, xL89, xL99, xL100, xL200, xI_add, xI_sub, xI_mul, xI_neg, xI_nat, xI_cl, Int.toNat_natCast, Int.reduceToNat, xltT, xltF, xleT, xleF, xeqT, xeqF, nleT, nleF, nltT, nltF, neqT, neqF, ileT, ileF, iltT, iltF, ieqT, ieqF, or_false, or_true, false_or, true_or, and_true, true_and, and_false, false_and, not_false_eq_true, not_true_eq_false, ↓reduceIte, if_true, if_false, f3]) ?_
      exact w_s ⟨τ, rfl, t2⟩
    · rw [if_neg e]
      refine w_n (by simp (disch := omega) only [vin, mk_xW, ml_xW, mr_xW, mi_xW, mI_xW, mC_xW, up_eq, up_na, up_nj, xL0, xL1, xL2, xL3, xL4, xL5, xL6, xL7, xL8, xL9, xL10, xL12, xL16, xL20, xL24, xL31, xL50, xL60, xL89, xL99, xL100, xL200, xI_add, xI_sub, xI_mul, xI_neg, xI_nat, xI_cl, Int.toNat_natCast, Int.reduceToNat, xltT, xltF, xleT, xleF, xeqT, xeqF, nleT, nleF, nltT, nltF, neqT, neqF, ileT, ileF, iltT, iltF, ieqT, ieqF, or_false, or_true, false_or, true_or, and_true, true_and, and_false, false_and, not_false_eq_true, not_true_eq_false, ↓reduceIte, if_true, if_false, f3]) ?_
      refine w_r ?_ (w_m (ih (i + 1) (by omega) τ _ Lw' t1 (by rw [hn2]; exact hkn) hI2 g (by omega)) ?_)
      · simp (disch := omega) only [vin, mk_xW, ml_xW, mr_xW, mi_xW, mI_xW, mC_xW, up_eq, up_na, up_nj, xL0, xL1, xL2, xL3, xL4, xL5, xL6, xL7, xL8, xL9, xL10, xL12, xL16, xL20, xL24, xL31, xL50, xL60, xL89, xL99, xL100, xL200, xI_add, xI_sub, xI_mul, xI_neg, xI_nat, xI_cl, Int.toNat_natCast, Int.reduceToNat, xltT, xltF, xleT, xleF, xeqT, xeqF, nleT, nleF, nltT, nltF, neqT, neqF, ileT, ileF, iltT, iltF, ieqT, ieqF, or_false, or_true, false_or, true_or, and_true, true_and, and_false, false_and, not_false_eq_true, not_true_eq_false, ↓reduceIte, if_true, if_false, Int.natCast_add, Int.cast_ofNat_Int]
      · rintro z ⟨ρ, e1, p1⟩
        exact ⟨ρ, e1, fr_trans t2 p1⟩
theorem S_X3opens (hV : VV m) (hR : RS 1 σ S) (hI : INm E Lw S [] (fun _ => 20)) (hk : k < S.1) : wq (f_X3_opens (xW m σ) 0 (xI (k : Nat))) (fun z => ∃ τ, z = (xI (a_ops S k), xW m τ) ∧ fr 75 74 σ τ) := by
  have hV0 := hV
  obtain ⟨a0, a1, a2, hV1, hV2⟩ := hV
  have hn := hI.1.1
  have hid := S_isDoor (x := (k : Nat)) hV1 hR hn (by omega)
  rw [if_pos (by omega)] at hid
  have hV10 := hV1
  obtain ⟨v0, v2, v3, v4, v5, v6, v7, _, v9⟩ := hV1
  obtain ⟨hr, hdB⟩ := v9 k (by omega)
  have hr2 : mr m (1 + 1) (xI (k : Nat)).toNatClampNeg = some (1 + 14 + 6 * k) := by rw [← hr]; simp (disch := omega) only [vin, mk_xW, ml_xW, mr_xW, mi_xW, mI_xW, mC_xW, up_eq, up_na, up_nj, xL0, xL1, xL2, xL3, xL4, xL5, xL6, xL7, xL8, xL9, xL10, xL12, xL16, xL20, xL24, xL31, xL50, xL60, xL89, xL99, xL100, xL200, xI_add, xI_sub, xI_mul, xI_neg, xI_nat, xI_cl, Int.toNat_natCast, Int.reduceToNat, xltT, xltF, xleT, xleF, xeqT, xeqF, nleT, nleF, nltT, nltF, neqT, neqF, ileT, ileF, iltT, iltF, ieqT, ieqF, or_false, or_true, false_or, true_or, and_true, true_and, and_false, false_and, not_false_eq_true, not_true_eq_false, ↓reduceIte, if_true, if_false]
  have f3 : σ (1 + 14 + 6 * k) 3 = xI ((S.2.2.1 k).1 3) := (hR.2.2.1 k hk).1 3 (by omega)
  have hst := IN_st hI k hk
  unfold f_X3_opens a_ops; simp only [mk_xW, ml_xW, mr_xW, mi_xW, mI_xW, mC_xW]
  refine w_i a0 ?_
  refine w_b a1 ?_
  refine w_i v0 ?_
  refine w_b hid ?_
  refine w_n (by decide) ?_
  refine w_b a1 ?_
  refine w_i v0 ?_
  refine w_b v2 ?_
  refine w_i v5 ?_
  refine w_i (by simp (disch := omega) only [vin, mk_xW, ml_xW, mr_xW, mi_xW, mI_xW, mC_xW, up_eq, up_na, up_nj, xL0, xL1, xL2, xL3, xL4, xL5, xL6, xL7, xL8, xL9, xL10, xL12, xL16, xL20, xL24, xL31, xL50, xL60, xL89, xL99, xL100, xL200, xI_add, xI_sub, xI_mul, xI_neg, xI_nat, xI_cl, Int.toNat_natCast, Int.reduceToNat, xltT, xltF, xleT, xleF, xeqT, xeqF, nleT, nleF, nltT, nltF, neqT, neqF, ileT, ileF, iltT, iltF, ieqT, ieqF, or_false, or_true, false_or, true_or, and_true, true_and, and_false, false_and, not_false_eq_true, not_true_eq_false, ↓reduceIte, if_true, if_false, v6]) ?_
  refine w_b hr2 ?_
  refine w_i hdB.1 ?_
  by_cases e : (S.2.2.1 k).1 3 = 2
  · rw [if_pos e]
    refine w_i (by simp (disch := omega) only [vin, mk_xW, ml_xW, mr_xW, mi_xW, mI_xW, mC_xW, up_eq, up_na, up_nj, xL0, xL1, xL2, xL3, xL4, xL5, xL6, xL7, xL8, xL9, xL10, xL12, xL16, xL20, xL24, xL31, xL50, xL60, xL89, xL99, xL100, xL200, xI_add, xI_sub, xI_mul, xI_neg, xI_nat, xI_cl, Int.toNat_natCast, Int.reduceToNat, xltT, xltF, xleT, xleF, xeqT, xeqF, nleT, nleF, nltT, nltF, neqT, neqF, ileT, ileF, iltT, iltF, ieqT, ieqF, or_false, or_true, false_or, true_or, and_true, true_and, and_false, false_and, not_false_eq_true, not_true_eq_false, ↓reduceIte, if_true, if_false, f3]) ?_
    exact w_s ⟨σ, rfl, fr_rfl⟩
  · rw [if_neg e]
    refine w_n (by simp (disch := omega) only [vin, mk_xW, ml_xW, mr_xW, mi_xW, mI_xW, mC_xW, up_eq, up_na, up_nj, xL0, xL1, xL2, xL3, xL4, xL5, xL6, xL7, xL8, xL9, xL10, xL12, xL16, xL20, xL24, xL31, xL50, xL60, xL89, xL99, xL100, xL200, xI_add, xI_sub, xI_mul, xI_neg, xI_nat, xI_cl, Int.toNat_natCast, Int.reduceToNat, xltT, xltF, xleT, xleF, xeqT, xeqF, nleT, nleF, nltT, nltF, neqT, neqF, ileT, ileF, iltT, iltF, ieqT, ieqF, or_false, or_true, false_or, true_or, and_true, true_and, and_false, false_and, not_false_eq_true, not_true_eq_false, ↓reduceIte, if_true, if_false, f3]) ?_
    refine w_b a2 ?_
    refine w_b a1 ?_
    refine w_i hV2.1 ?_
    refine w_c (S_vaultcopy hV2 hV10 (by omega) hn (IN_Wa hI) hI.2.2.1 hR) ?_
    rintro z ⟨τ, rfl, t1, t2⟩
    refine w_m (L_opens hV0 (by omega) 100 1 (by omega) τ S Lw t1 hk hI vF (by unfold vF; omega)) ?_
    rintro z ⟨ρ, e1, p1⟩
    exact ⟨ρ, e1, fr_trans t2 p1⟩
theorem S_X3would (hV : VV m) (hR : RS 1 σ S) (hI : INm E Lw S [] (fun _ => 20)) (hk : k < S.1) : wq (f_X3_would (xW m σ) 0 (xI (k : Nat)) (xI 1)) (fun z => ∃ τ, z = (xI (a_opn (a_tick (a_whis S k ((S.2.2.1 k).1 0))) 0 (a_tick (a_whis S k ((S.2.2.1 k).1 0))).1), xW m τ) ∧ fr 75 74 σ τ) := by
  have hV0 := hV
  obtain ⟨a0, a1, a2, hV1, hV2⟩ := hV
  have hn := hI.1.1
  have hid := S_isDoor (x := (k : Nat)) hV1 hR hn (by omega)
  rw [if_pos (by omega)] at hid
  have hV20 := hV2
  obtain ⟨v0, v2, v3, v4, v5, v6, v7, _, v9⟩ := hV2
  obtain ⟨hr, hdB⟩ := v9 k (by omega)
  have hr2 : mr m (75 + 1) (xI (k : Nat)).toNatClampNeg = some (75 + 14 + 6 * k) := by rw [← hr]; simp (disch := omega) only [vin, mk_xW, ml_xW, mr_xW, mi_xW, mI_xW, mC_xW, up_eq, up_na, up_nj, xL0, xL1, xL2, xL3, xL4, xL5, xL6, xL7, xL8, xL9, xL10, xL12, xL16, xL20, xL24, xL31, xL50, xL60, xL89, xL99, xL100, xL200, xI_add, xI_sub, xI_mul, xI_neg, xI_nat, xI_cl, Int.toNat_natCast, Int.reduceToNat, xltT, xltF, xleT, xleF, xeqT, xeqF, nleT, nleF, nltT, nltF, neqT, neqF, ileT, ileF, iltT, iltF, ieqT, ieqF, or_false, or_true, false_or, true_or, and_true, true_and, and_false, false_and, not_false_eq_true, not_true_eq_false, ↓reduceIte, if_true, if_false]
  have h00 := (IN_Wa hI k hk).1
  unfold f_X3_would; simp only [mk_xW, ml_xW, mr_xW, mi_xW, mI_xW, mC_xW]
  refine w_i a0 ?_
  refine w_b a1 ?_
  refine w_i hV1.1 ?_
  refine w_b hid ?_
  refine w_n (by decide) ?_
  refine w_b (x := xI 1) (isIn_y (a := 1) (b := 100) (by omega)) ?_
  refine w_n (by decide) ?_
  refine w_c (P := fun z => ∃ τ, z = (xI (a_opn (a_tick (a_whis S k ((S.2.2.1 k).1 0))) 0 (a_tick (a_whis S k ((S.2.2.1 k).1 0))).1), xW m τ) ∧ fr 75 74 σ τ) ?_ (fun z h => w_s h)
  unfold f_X3_openedByWhisper; simp only [mk_xW, ml_xW, mr_xW, mi_xW, mI_xW, mC_xW]
  refine w_i a0 ?_
  refine w_b a2 ?_
  refine w_b a1 ?_
  refine w_i v0 ?_
  refine w_c (S_vaultcopy hV20 hV1 (by omega) hn (IN_Wa hI) hI.2.2.1 hR) ?_
  rintro z ⟨τ, rfl, t1, t2⟩
  have f0 : τ (75 + 14 + 6 * k) 0 = xI ((S.2.2.1 k).1 0) := (t1.2.2.1 k hk).1 0 (by omega)
  refine w_i a0 ?_
  refine w_b a2 ?_
  refine w_b a2 ?_
  refine w_i v0 ?_
  refine w_b v2 ?_
  refine w_i v5 ?_
  refine w_i (by simp (disch := omega) only [vin, mk_xW, ml_xW, mr_xW, mi_xW, mI_xW, mC_xW, up_eq, up_na, up_nj, xL0, xL1, xL2, xL3, xL4, xL5, xL6, xL7, xL8, xL9, xL10, xL12, xL16, xL20, xL24, xL31, xL50, xL60, xL89, xL99, xL100, xL200, xI_add, xI_sub, xI_mul, xI_neg, xI_nat, xI_cl, Int.toNat_natCast, Int.reduceToNat, xltT, xltF, xleT, xleF, xeqT, xeqF, nleT, nleF, nltT, nltF, neqT, neqF, ileT, ileF, iltT, iltF, ieqT, ieqF, or_false, or_true, false_or, true_or, and_true, true_and, and_false, false_and, not_false_eq_true, not_true_eq_false, ↓reduceIte, if_true, if_false, v6]) ?_
  refine w_b hr2 ?_
  refine w_i hdB.1 ?_
  refine w_i v0 ?_
  refine w_c (w_r (by rw [mi_xW, f0]) (S_whis hV20 t1 hI hk h00)) ?_
  rintro z ⟨ρ, rfl, p1, p2⟩
  obtain ⟨Lw1, hI1⟩ := IN_whis (t := (S.2.2.1 k).1 0) hI hk
  show wq (fB_X3_openedByWhisper_37 (fL_X3_openedByWhisper 999999) (xW m ρ) 0 (xI (k : Nat)) (xI 1) 0 0) _
  unfold fB_X3_openedByWhisper_37; simp only [mk_xW, ml_xW, mr_xW, mi_xW, mI_xW, mC_xW]
  refine w_n (by decide) ?_
  refine w_i a0 ?_
  refine w_b a2 ?_
  refine w_i v0 ?_
  refine w_c (S_tick hV20 p1 hI1) ?_
  rintro z ⟨φ, rfl, q1, q2⟩
  obtain ⟨Lw2, hI2⟩ := IN_tick hI1
  refine w_i a0 ?_
  refine w_b a2 ?_
  refine w_i v0 ?_
  refine w_b (S_open2 hV20 q1 hI2.1.1 (IN_st hI2)) ?_
  show wq (fB_X3_openedByWhisper_37 (fL_X3_openedByWhisper 999998) (xW m φ) 0 (xI (k : Nat)) (xI 1) (0 ||| xI (a_opn (a_tick (a_whis S k ((S.2.2.1 k).1 0))) 0 (a_tick (a_whis S k ((S.2.2.1 k).1 0))).1)) (0 + 1)) _
  unfold fB_X3_openedByWhisper_37
  refine w_i (by decide) ?_
  refine w_s ⟨φ, ?_, fr_trans t2 (fr_trans p2 q2)⟩
  rw [Int32.zero_or]
end
