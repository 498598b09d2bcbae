section
variable {b k : Nat} {σ τ : aN} {S T : aS} {d : aD} {m : vM} {E : Nat → List (Int × Int)} {Lw : Nat → Int} {pend : List aR} {c : Nat → Int} {v : aR}
theorem IN_W (h : INm E Lw S pend c) (hk : k < S.1) : WDr (S.2.2.1 k) ∧ (S.2.2.1 k).2.1.Pairwise (fun a b => a 0 ≠ b 0) ∧ ∀ a ∈ (S.2.2.1 k).2.1, a 0 < S.1 ∧ (a 0, a 1) ∈ E k := by
  have hd := h.2.1 k hk
  obtain ⟨⟨⟨b1, b2, b3⟩, b4, hq⟩, g2, g3, g4⟩ := hd
  have hE := h.1.2.1 k hk
  have hc := h.1.2.2 k hk
  have hn := h.1.1
  have hm : ∀ a ∈ (S.2.2.1 k).2.1, (a 0, a 1) ∈ E k := fun a ha => by rw [← g2.1]; exact List.mem_map.mpr ⟨a, ha, rfl⟩
  have hl : (S.2.2.1 k).2.1.length = (E k).length := by rw [← g2.1]; unfold sk; rw [List.length_map]
  refine ⟨⟨b1, b2, b3, by omega, by omega, by omega, IN_kept h hk, fun a ha => ?_, fun q hq2 => ?_⟩, ?_, fun a ha => ⟨(hE.2.1 _ (hm a ha)).2.1, hm a ha⟩⟩
  · have h1 := hE.2.1 _ (hm a ha)
    have h2 := g2.2 a ha
    simp only at h1
    omega
  · have h1 := g4.1 q hq2
    have h2 := (h.1.2.1 (q 0).toNat (by omega)).2.1 _ h1.2.1
    simp only at h2
    omega
  · have := hE.2.2
    rw [← g2.1] at this
    unfold sk at this
    rw [List.pairwise_map] at this
    exact this
theorem mkd_pw (h : d.2.1.Pairwise (fun a b => a 0 ≠ b 0)) : (mkd d).2.1.Pairwise (fun a b => a 0 ≠ b 0) := by
  unfold mkd
  rw [List.pairwise_map]
  refine List.Pairwise.imp ?_ h
  intro a b hab
  rw [fu_ne (by omega), fu_ne (by omega)]
  exact hab
theorem set_self : a_set S k (S.2.2.1 k) = S := by
  unfold a_set
  have : du S.2.2.1 k (S.2.2.1 k) = S.2.2.1 := by
    funext x; by_cases g : x = k
    · subst g; rw [du_eq]
    · rw [du_ne g]
  rw [this]
theorem S_keep {r : aR} (hV : VB b m) (hR : RS b σ T) (hn : T.1 ≤ 10) (hk : k < T.1) (h3 : (T.2.2.1 k).1 3 = 1) (hl : (T.2.2.1 k).2.2.length < 60) : wq (f_X0_remember (xW m σ) (b + 14 + 6 * k) (xI (r 0)) (xI (r 1))) (fun z => ∃ τ, z = xW m τ ∧ RS b τ (a_keep T k r) ∧ frV b σ τ) := by
  have hdB := (hV.2.2.2.2.2.2.2.2 k (by omega)).2
  have hd := hR.2.2.1 k hk
  rw [mkd_w h3] at hd
  refine w_m (S_remember (r := r) hdB hd hl rfl rfl) ?_
  rintro z ⟨τ, e, t1, t2⟩
  exact ⟨τ, e, RS_set hR hn hk (by rw [mkd_w (by exact h3)]; exact t1) t2, frV_d t2 (by omega)⟩
theorem S_hear (hV : VB b m) (hR : RS b σ S) (hI : INm E Lw S (v :: pend) c) (hc : ∀ k, k < S.1 → 20 ≤ c k) : wq (f_X1_hear (xW m σ) b (xI (v 0)) (xI (v 1)) (xI (v 2)) (xI (v 4))) (fun z => ∃ τ, z = xW m τ ∧ RS b τ (a_hear S v) ∧ frV b σ τ) := by
  have hV0 := hV
  obtain ⟨Lw', hI2⟩ := IN_hear hI hc
  have hv := hI.2.2.2.2.2.1 v List.mem_cons_self
  obtain ⟨hv1, hv2⟩ := hv
  obtain ⟨K, hK⟩ : ∃ K : Nat, v 1 = K := ⟨(v 1).toNat, by omega⟩
  have eK : (v 1).toNat = K := by omega
  have hkn : K < S.1 := by omega
  have hn := hI.1.1
  obtain ⟨hW, hP, _⟩ := IN_W hI hkn
  have hkeep := IN_kept hI2 (k := K) (by
    have e9 : (a_hear S v).1 = S.1 := by
      unfold a_hear
      split
      · split <;> rfl
      · split
        · exact send_n
        · show (if _ then a_wake _ _ else _ : aS).1 = _
          split
          · exact asks_n
          · rfl
    rw [e9]; exact hkn)
  have hlen := hI.2.2.1
  obtain ⟨v0, v2, v3, v4, v5, v6, v7, _, v9⟩ := hV
  obtain ⟨hr, hdB⟩ := v9 K (by omega)
  have hd := hR.2.2.1 K hkn
  have hdo := hI.2.1 K hkn
  have hst := hdo.1.2.2
  have f3 : σ (b + 14 + 6 * K) 3 = xI ((S.2.2.1 K).1 3) := hd.1 3 (by omega)
  have hid := S_isDoor (x := v 1) hV0 hR hn (by omega)
  rw [if_pos (by omega)] at hid
  unfold f_X1_hear; simp only [mk_xW, ml_xW, mr_xW, mi_xW, mI_xW, mC_xW]
  refine w_i v0 ?_
  refine w_b hid ?_
  refine w_n (by decide) ?_
  refine w_b v2 ?_
  refine w_i v5 ?_
  refine w_i (by simp (disch := omega) only [vin, mk_xW, ml_xW, mr_xW, mi_xW, mI_xW, mC_xW, up_eq, up_na, up_nj, xL0, xL1, xL2, xL3, xL4, xL5, xL6, xL7, xL8, xL9, xL10, xL12, xL16, xL20, xL24, xL31, xL50, xL60, xL89, xL99, xL100, xL200, xI_add, xI_sub, xI_mul, xI_neg, xI_nat, xI_cl, Int.toNat_natCast, Int.reduceToNat, xltT, xltF, xleT, xleF, xeqT, xeqF, nleT, nleF, nltT, nltF, neqT, neqF, ileT, ileF, iltT, iltF, ieqT, ieqF, or_false, or_true, false_or, true_or, and_true, true_and, and_false, false_and, not_false_eq_true, not_true_eq_false, ↓reduceIte, if_true, if_false, v6]) ?_
  refine w_b (x := b + 14 + 6 * K) (by rw [← hr]; simp (disch := omega) only [vin, mk_xW, ml_xW, mr_xW, mi_xW, mI_xW, mC_xW, up_eq, up_na, up_nj, xL0, xL1, xL2, xL3, xL4, xL5, xL6, xL7, xL8, xL9, xL10, xL12, xL16, xL20, xL24, xL31, xL50, xL60, xL89, xL99, xL100, xL200, xI_add, xI_sub, xI_mul, xI_neg, xI_nat, xI_cl, Int.toNat_natCast, Int.reduceToNat, xltT, xltF, xleT, xleF, xeqT, xeqF, nleT, nleF, nltT, nltF, neqT, neqF, ileT, ileF, iltT, iltF, ieqT, ieqF, or_false, or_true, false_or, true_or, and_true, true_and, and_false, false_and, not_false_eq_true, not_true_eq_false, ↓reduceIte, if_true, if_false, eK]) ?_
  unfold a_hear at hkeep ⊢
  rw [eK] at hkeep ⊢
  by_cases e1 : 0 < v 2
  · rw [if_pos e1]
    have hans : ∀ w : Int, w = v 2 - 1 → wq (f_X0_takeAnswer (xW m σ) (b + 14 + 6 * K) (xI (v 0)) (xI w)) (fun z => ∃ τ, z = xW m τ ∧ RS b τ (if (S.2.2.1 K).1 3 = 1 then a_told S K (v 0) (v 2 - 1) else S) ∧ frV b σ τ) := by
      intro w hw
      refine w_m (S_takeAnswer hdB hd (WD_mkd hW) (mkd_pw hP) (by omega)) ?_
      rintro z ⟨τ, e, t1, t2⟩
      refine ⟨τ, e, ?_, frV_d t2 (by omega)⟩
      by_cases e2 : (S.2.2.1 K).1 3 = 1
      · rw [if_pos e2]
        rw [if_pos (show (mkd (S.2.2.1 K)).1 3 = 1 from e2), mkd_w e2, hw] at t1
        exact RS_set hR hn hkn (by rw [mkd_w (by exact e2)]; exact t1) t2
      · rw [if_neg e2]
        rw [if_neg (show ¬ (mkd (S.2.2.1 K)).1 3 = 1 from e2)] at t1
        have := RS_set hR hn hkn t1 t2
        rwa [set_self] at this
    refine w_n (by simp (disch := omega) only [vin, mk_xW, ml_xW, mr_xW, mi_xW, mI_xW, mC_xW, up_eq, up_na, up_nj, xL0, xL1, xL2, xL3, xL4, xL5, xL6, xL7, xL8, xL9, xL10, xL12, xL16, xL20, xL24, xL31, xL50, xL60, xL89, xL99, xL100, xL200, xI_add, xI_sub, xI_mul, xI_neg, xI_nat, xI_cl, Int.toNat_natCast, Int.reduceToNat, xltT, xltF, xleT, xleF, xeqT, xeqF, nleT, nleF, nltT, nltF, neqT, neqF, ileT, ileF, iltT, iltF, ieqT, ieqF, or_false, or_true, false_or, true_or, and_true, true_and, and_false, false_and, not_false_eq_true, not_true_eq_false, ↓reduceIte, if_true, if_false]) ?_
    by_cases e2 : v 2 = 2
    · refine w_i (by simp (disch := omega) only [vin, mk_xW, ml_xW, mr_xW, mi_xW, mI_xW, mC_xW, up_eq, up_na, up_nj, xL0, xL1, xL2, xL3, xL4, xL5, xL6, xL7, xL8, xL9, xL10, xL12, xL16, xL20, xL24, xL31, xL50, xL60, xL89, xL99, xL100, xL200, xI_add, xI_sub, xI_mul, xI_neg, xI_nat, xI_cl, Int.toNat_natCast, Int.reduceToNat, xltT, xltF, xleT, xleF, xeqT, xeqF, nleT, nleF, nltT, nltF, neqT, neqF, ileT, ileF, iltT, iltF, ieqT, ieqF, or_false, or_true, false_or, true_or, and_true, true_and, and_false, false_and, not_false_eq_true, not_true_eq_false, ↓reduceIte, if_true, if_false]) ?_
      refine w_i hdB.1 ?_
      refine w_c (hans 1 (by omega)) (fun z h => w_s h)
    · refine w_n (by simp (disch := omega) only [vin, mk_xW, ml_xW, mr_xW, mi_xW, mI_xW, mC_xW, up_eq, up_na, up_nj, xL0, xL1, xL2, xL3, xL4, xL5, xL6, xL7, xL8, xL9, xL10, xL12, xL16, xL20, xL24, xL31, xL50, xL60, xL89, xL99, xL100, xL200, xI_add, xI_sub, xI_mul, xI_neg, xI_nat, xI_cl, Int.toNat_natCast, Int.reduceToNat, xltT, xltF, xleT, xleF, xeqT, xeqF, nleT, nleF, nltT, nltF, neqT, neqF, ileT, ileF, iltT, iltF, ieqT, ieqF, or_false, or_true, false_or, true_or, and_true, true_and, and_false, false_and, not_false_eq_true, not_true_eq_false, ↓reduceIte, if_true, if_false]) ?_
      refine w_i hdB.1 ?_
      refine w_c (hans 0 (by omega)) (fun z h => w_s h)
  · rw [if_neg e1] at hkeep ⊢
    refine w_i (by simp (disch := omega) only [vin, mk_xW, ml_xW, mr_xW, mi_xW, mI_xW, mC_xW, up_eq, up_na, up_nj, xL0, xL1, xL2, xL3, xL4, xL5, xL6, xL7, xL8, xL9, xL10, xL12, xL16, xL20, xL24, xL31, xL50, xL60, xL89, xL99, xL100, xL200, xI_add, xI_sub, xI_mul, xI_neg, xI_nat, xI_cl, Int.toNat_natCast, Int.reduceToNat, xltT, xltF, xleT, xleF, xeqT, xeqF, nleT, nleF, nltT, nltF, neqT, neqF, ileT, ileF, iltT, iltF, ieqT, ieqF, or_false, or_true, false_or, true_or, and_true, true_and, and_false, false_and, not_false_eq_true, not_true_eq_false, ↓reduceIte, if_true, if_false]) ?_
    refine w_i hdB.1 ?_
    by_cases e2 : 1 < (S.2.2.1 K).1 3
    · rw [if_pos e2]
      by_cases e3 : (S.2.2.1 K).1 3 = 2
      · refine w_i (by simp (disch := omega) only [vin, mk_xW, ml_xW, mr_xW, mi_xW, mI_xW, mC_xW, up_eq, up_na, up_nj, xL0, xL1, xL2, xL3, xL4, xL5, xL6, xL7, xL8, xL9, xL10, xL12, xL16, xL20, xL24, xL31, xL50, xL60, xL89, xL99, xL100, xL200, xI_add, xI_sub, xI_mul, xI_neg, xI_nat, xI_cl, Int.toNat_natCast, Int.reduceToNat, xltT, xltF, xleT, xleF, xeqT, xeqF, nleT, nleF, nltT, nltF, neqT, neqF, ileT, ileF, iltT, iltF, ieqT, ieqF, or_false, or_true, false_or, true_or, and_true, true_and, and_false, false_and, not_false_eq_true, not_true_eq_false, ↓reduceIte, if_true, if_false, f3]) ?_
        refine w_b v3 ?_
        refine w_i v7.1 ?_
        refine w_c (S_send (f := v 1) (t := v 0) (w := 2) (l := v 4) hV0 hR hlen) ?_
        rintro z ⟨τ, rfl, t1, t2⟩
        rw [if_pos e3]
        exact w_s ⟨τ, rfl, t1, frV_v t2⟩
      · refine w_n (by simp (disch := omega) only [vin, mk_xW, ml_xW, mr_xW, mi_xW, mI_xW, mC_xW, up_eq, up_na, up_nj, xL0, xL1, xL2, xL3, xL4, xL5, xL6, xL7, xL8, xL9, xL10, xL12, xL16, xL20, xL24, xL31, xL50, xL60, xL89, xL99, xL100, xL200, xI_add, xI_sub, xI_mul, xI_neg, xI_nat, xI_cl, Int.toNat_natCast, Int.reduceToNat, xltT, xltF, xleT, xleF, xeqT, xeqF, nleT, nleF, nltT, nltF, neqT, neqF, ileT, ileF, iltT, iltF, ieqT, ieqF, or_false, or_true, false_or, true_or, and_true, true_and, and_false, false_and, not_false_eq_true, not_true_eq_false, ↓reduceIte, if_true, if_false, f3]) ?_
        refine w_i (by simp (disch := omega) only [vin, mk_xW, ml_xW, mr_xW, mi_xW, mI_xW, mC_xW, up_eq, up_na, up_nj, xL0, xL1, xL2, xL3, xL4, xL5, xL6, xL7, xL8, xL9, xL10, xL12, xL16, xL20, xL24, xL31, xL50, xL60, xL89, xL99, xL100, xL200, xI_add, xI_sub, xI_mul, xI_neg, xI_nat, xI_cl, Int.toNat_natCast, Int.reduceToNat, xltT, xltF, xleT, xleF, xeqT, xeqF, nleT, nleF, nltT, nltF, neqT, neqF, ileT, ileF, iltT, iltF, ieqT, ieqF, or_false, or_true, false_or, true_or, and_true, true_and, and_false, false_and, not_false_eq_true, not_true_eq_false, ↓reduceIte, if_true, if_false, f3]) ?_
        refine w_b v3 ?_
        refine w_i v7.1 ?_
        refine w_c (S_send (f := v 1) (t := v 0) (w := 1) (l := v 4) hV0 hR hlen) ?_
        rintro z ⟨τ, rfl, t1, t2⟩
        rw [if_neg e3]
        exact w_s ⟨τ, rfl, t1, frV_v t2⟩
    · rw [if_neg e2] at hkeep ⊢
      refine w_n (by simp (disch := omega) only [vin, mk_xW, ml_xW, mr_xW, mi_xW, mI_xW, mC_xW, up_eq, up_na, up_nj, xL0, xL1, xL2, xL3, xL4, xL5, xL6, xL7, xL8, xL9, xL10, xL12, xL16, xL20, xL24, xL31, xL50, xL60, xL89, xL99, xL100, xL200, xI_add, xI_sub, xI_mul, xI_neg, xI_nat, xI_cl, Int.toNat_natCast, Int.reduceToNat, xltT, xltF, xleT, xleF, xeqT, xeqF, nleT, nleF, nltT, nltF, neqT, neqF, ileT, ileF, iltT, iltF, ieqT, ieqF, or_false, or_true, false_or, true_or, and_true, true_and, and_false, false_and, not_false_eq_true, not_true_eq_false, ↓reduceIte, if_true, if_false, f3]) ?_
      refine w_n (by simp (disch := omega) only [vin, mk_xW, ml_xW, mr_xW, mi_xW, mI_xW, mC_xW, up_eq, up_na, up_nj, xL0, xL1, xL2, xL3, xL4, xL5, xL6, xL7, xL8, xL9, xL10, xL12, xL16, xL20, xL24, xL31, xL50, xL60, xL89, xL99, xL100, xL200, xI_add, xI_sub, xI_mul, xI_neg, xI_nat, xI_cl, Int.toNat_natCast, Int.reduceToNat, xltT, xltF, xleT, xleF, xeqT, xeqF, nleT, nleF, nltT, nltF, neqT, neqF, ileT, ileF, iltT, iltF, ieqT, ieqF, or_false, or_true, false_or, true_or, and_true, true_and, and_false, false_and, not_false_eq_true, not_true_eq_false, ↓reduceIte, if_true, if_false, f3]) ?_
      by_cases e3 : (S.2.2.1 K).1 3 = 0
      · rw [if_pos e3] at hkeep ⊢
        refine w_i (by simp (disch := omega) only [vin, mk_xW, ml_xW, mr_xW, mi_xW, mI_xW, mC_xW, up_eq, up_na, up_nj, xL0, xL1, xL2, xL3, xL4, xL5, xL6, xL7, xL8, xL9, xL10, xL12, xL16, xL20, xL24, xL31, xL50, xL60, xL89, xL99, xL100, xL200, xI_add, xI_sub, xI_mul, xI_neg, xI_nat, xI_cl, Int.toNat_natCast, Int.reduceToNat, xltT, xltF, xleT, xleF, xeqT, xeqF, nleT, nleF, nltT, nltF, neqT, neqF, ileT, ileF, iltT, iltF, ieqT, ieqF, or_false, or_true, false_or, true_or, and_true, true_and, and_false, false_and, not_false_eq_true, not_true_eq_false, ↓reduceIte, if_true, if_false, f3]) ?_
        have hw := S_wake hV0 hR hn hkn (by omega) (hdo.2.2.1 (by omega)) hW hlen
        refine w_c (w_r (by rw [hK]) hw) ?_
        rintro z ⟨τ, rfl, t1, t2⟩
        refine w_i hdB.1 ?_
        have hds : (a_wake S K).2.2.1 K = (fu (fu (fu (S.2.2.1 K).1 3 1) 4 ((S.2.2.1 K).1 1)) 7 (S.2.1 2), a_unask (S.2.2.1 K).2.1, []) := by
          unfold a_wake; rw [asks_d]; simp [a_wake0, du_eq]
        have hk2 := S_keep (r := r6 (v 0) (v 4) (v 5) 0 0 0) (k := K) hV0 t1 (by show (a_asks _ _ _).1 ≤ 10; rw [asks_n]; exact hn) (by show _ < (a_asks _ _ _).1; rw [asks_n]; exact hkn) (by rw [hds]; simp [fu]) (by rw [hds]; exact Nat.zero_lt_succ _)
        refine w_c hk2 ?_
        rintro z ⟨ρ, rfl, p1, p2⟩
        exact w_s ⟨ρ, rfl, p1, frV_trans t2 p2⟩
      · rw [if_neg e3] at hkeep ⊢
        refine w_n (by simp (disch := omega) only [vin, mk_xW, ml_xW, mr_xW, mi_xW, mI_xW, mC_xW, up_eq, up_na, up_nj, xL0, xL1, xL2, xL3, xL4, xL5, xL6, xL7, xL8, xL9, xL10, xL12, xL16, xL20, xL24, xL31, xL50, xL60, xL89, xL99, xL100, xL200, xI_add, xI_sub, xI_mul, xI_neg, xI_nat, xI_cl, Int.toNat_natCast, Int.reduceToNat, xltT, xltF, xleT, xleF, xeqT, xeqF, nleT, nleF, nltT, nltF, neqT, neqF, ileT, ileF, iltT, iltF, ieqT, ieqF, or_false, or_true, false_or, true_or, and_true, true_and, and_false, false_and, not_false_eq_true, not_true_eq_false, ↓reduceIte, if_true, if_false, f3]) ?_
        have hk1 : (S.2.2.1 K).2.2.length < 60 := by
          have h9 : ((S.2.2.1 K).2.2 ++ [r6 (v 0) (v 4) (v 5) 0 0 0]).length ≤ 60 := by
            have e9 : (a_keep S K (r6 (v 0) (v 4) (v 5) 0 0 0)).2.2.1 K = ((S.2.2.1 K).1, (S.2.2.1 K).2.1, (S.2.2.1 K).2.2 ++ [r6 (v 0) (v 4) (v 5) 0 0 0]) := du_eq
            rw [e9] at hkeep; exact hkeep
          rw [List.length_append] at h9
          simp at h9; omega
        refine w_c (S_keep (r := r6 (v 0) (v 4) (v 5) 0 0 0) hV0 hR hn hkn (by omega) hk1) ?_
        rintro z ⟨ρ, rfl, p1, p2⟩
        exact w_s ⟨ρ, rfl, p1, p2⟩
/-! a door decides -/
def RSk (b : Nat) (σ : aN) (S : aS) (k : Nat) (d : aD) : Prop := σ b 0 = xI (S.2.1 0) ∧ σ b 1 = xI S.1 ∧ (∀ j, j < S.1 → j ≠ k → RDr (b + 14 + 6 * j) σ (mkd (S.2.2.1 j))) ∧ RDr (b + 14 + 6 * k) σ d ∧ RVr (b + 2) σ S.2.2.2 ∧ σ (b + 2) 1 = xI (S.2.1 1)
theorem RSk_RS (h : RSk b σ S k d) (e : d = mkd (S.2.2.1 k)) : RS b σ S := by
  obtain ⟨h1, h2, h3, h4, h5, h6⟩ := h
  refine ⟨h1, h2, fun j hj => ?_, h5, h6⟩
  by_cases g : j = k
  · subst g; rw [← e]; exact h4
  · exact h3 j hj g
theorem RSk_set (h : RS b σ S) (hk : k < S.1) (hd : RDr (b + 14 + 6 * k) τ d) (hf : fr (b + 14 + 6 * k) 6 σ τ) (d' : aD) : RSk b τ (a_set S k d') k d := by
  obtain ⟨h1, h2, h3, h4, h5⟩ := h
  refine ⟨by rw [hf b (by omega)]; exact h1, by rw [hf b (by omega)]; exact h2, fun j hj g => ?_, hd, RVr_fr h4 (fun x g1 g2 => hf x (by omega)), by rw [hf _ (by omega)]; exact h5⟩
  show RDr _ τ (mkd (du S.2.2.1 k d' j))
  rw [du_ne g]
  exact RDr_fr (h3 j hj) (fun x g1 g2 => hf x (by omega))
theorem L_tell {L : List aR} {i3 : Int} (hV : VB b m) (hk : k < 10) (hW : WDr d) (hL : d.2.2 = L) (hi3 : i3 = 0 ∨ i3 = 1) : ∀ r i, i + r = L.length → ∀ f, r < f → ∀ (σ : aN) (T : aS), RSk b σ T k d → T.2.2.2.length ≤ 60 → wq (fL_X1_waitOn f 47 (xW m σ) b (xI (k : Nat)) (b + 14 + 6 * k) (xI i3) (xI (i : Nat))) (fun z => ∃ τ, z = (xI i3, xW m τ) ∧ RSk b τ (a_tells T k (i3 + 1) (L.drop i)) k (d.1, a_unask d.2.1, []) ∧ frV b σ τ) := by
  have hdB := (hV.2.2.2.2.2.2.2.2 k hk).2
  have hdB0 := hdB
  have hvB := hV.2.2.2.2.2.2.1
  have hvB1 := hvB.1
  obtain ⟨v0, v2, v3, v4, v5, v6, _, _, _⟩ := hV
  obtain ⟨k0, r8, r9, r10, r12, r13, k1, k2, k3, k4, k5, l1, l2, l3, l4, l5⟩ := hdB
  have hl6 := hW.2.2.2.2.2.2.1
  rw [hL] at hl6
  intro r
  induction r with
  | zero =>
    intro i hi f hf σ T hR hlen
    obtain ⟨g, rfl⟩ : ∃ g, f = g + 1 := ⟨f - 1, by omega⟩
    have f11 := hR.2.2.2.1.2.2.1
    rw [hL] at f11
    rw [List.drop_of_length_le (by omega)]
    show wq (fB_X1_waitOn_47 (fL_X1_waitOn g) (xW m σ) b _ _ _ _) _
    unfold fB_X1_waitOn_47; simp only [mk_xW, ml_xW, mr_xW, mi_xW, mI_xW, mC_xW]
    refine w_i k0 ?_
    refine w_i (by simp (disch := omega) only [vin, mk_xW, ml_xW, mr_xW, mi_xW, mI_xW, mC_xW, up_eq, up_na, up_nj, xL0, xL1, xL2, xL3, xL4, xL5, xL6, xL7, xL8, xL9, xL10, xL12, xL16, xL20, xL24, xL31, xL50, xL60, xL89, xL99, xL100, xL200, xI_add, xI_sub, xI_mul, xI_neg, xI_nat, xI_cl, Int.toNat_natCast, Int.reduceToNat, xltT, xltF, xleT, xleF, xeqT, xeqF, nleT, nleF, nltT, nltF, neqT, neqF, ileT, ileF, iltT, iltF, ieqT, ieqF, or_false, or_true, false_or, true_or, and_true, true_and, and_false, false_and, not_false_eq_true, not_true_eq_false, ↓reduceIte, if_true, if_false, f11]) ?_
    refine w_c (S_forget hdB0 hR.2.2.2.1 hW) ?_
    rintro z ⟨τ, rfl, t1, t2⟩
    refine w_i (by rcases hi3 with e | e <;> subst e <;> simp (disch := omega) only [vin, mk_xW, ml_xW, mr_xW, mi_xW, mI_xW, mC_xW, up_eq, up_na, up_nj, xL0, xL1, xL2, xL3, xL4, xL5, xL6, xL7, xL8, xL9, xL10, xL12, xL16, xL20, xL24, xL31, xL50, xL60, xL89, xL99, xL100, xL200, xI_add, xI_sub, xI_mul, xI_neg, xI_nat, xI_cl, Int.toNat_natCast, Int.reduceToNat, xltT, xltF, xleT, xleF, xeqT, xeqF, nleT, nleF, nltT, nltF, neqT, neqF, ileT, ileF, iltT, iltF, ieqT, ieqF, or_false, or_true, false_or, true_or, and_true, true_and, and_false, false_and, not_false_eq_true, not_true_eq_false, ↓reduceIte, if_true, if_false]) ?_
    obtain ⟨h1, h2, h3, h4, h5, h6⟩ := hR
    exact w_s ⟨τ, rfl, ⟨by rw [t2 b (by omega)]; exact h1, by rw [t2 b (by omega)]; exact h2, fun j hj g => RDr_fr (h3 j hj g) (fun x g1 g2 => t2 x (by omega)), t1, RVr_fr h5 (fun x g1 g2 => t2 x (by omega)), by rw [t2 _ (by omega)]; exact h6⟩, frV_d t2 hk⟩
  | succ r ih =>
    intro i hi f hf σ T hR hlen
    obtain ⟨g, rfl⟩ : ∃ g, f = g + 1 := ⟨f - 1, by omega⟩
    obtain ⟨q, h1, h2⟩ := dr_at (l := L) (i := i) (by omega)
    have hd := hR.2.2.2.1
    have f11 := hd.2.2.1
    rw [hL] at f11
    have g0 : σ (b + 14 + 6 * k + 4) i = xI (q 0) := hd.2.2.2.2 i q (by rw [hL]; exact h1) 0 (by omega)
    have g1 : σ (b + 14 + 6 * k + 5) i = xI (q 1) := hd.2.2.2.2 i q (by rw [hL]; exact h1) 1 (by omega)
    rw [h2]
    have hsend : ∀ w : Int, wq (f_X2_add (xW m σ) (b + 2) (xI (k : Nat)) (xI (q 0)) (xI w) (xI (q 1))) (fun z => ∃ τ, z = xW m τ ∧ RSk b τ (a_send T k (q 0) w (q 1)) k d ∧ fr (b + 2) 6 σ τ) := by
      intro w
      obtain ⟨a1, a2, a3, a4, a5, a6⟩ := hR
      refine w_m (S_add (S := T) hvB hlen a5 a6) ?_
      rintro z ⟨τ, e, t1, t2, t3⟩
      refine ⟨τ, e, ⟨?_, ?_, fun j hj g => ?_, RDr_fr a4 (fun x g1 g2 => t3 x (by omega)), t1, t2⟩, t3⟩
      · rw [t3 b (by omega), send_g (by omega)]; exact a1
      · rw [t3 b (by omega), send_n]; exact a2
      · rw [send_n] at hj
        rw [send_d]
        exact RDr_fr (a3 j hj g) (fun x g1 g2 => t3 x (by omega))
    show wq (fB_X1_waitOn_47 (fL_X1_waitOn g) (xW m σ) b _ _ _ _) _
    unfold fB_X1_waitOn_47; simp only [mk_xW, ml_xW, mr_xW, mi_xW, mI_xW, mC_xW]
    rcases hi3 with e | e
    · subst e
      repeat first | refine w_b r12 ?_ | refine w_b r13 ?_ | refine w_b v3 ?_ | (refine w_i ?_ ?_; · (simp (disch := omega) only [vin, mk_xW, ml_xW, mr_xW, mi_xW, mI_xW, mC_xW, up_eq, up_na, up_nj, xL0, xL1, xL2, xL3, xL4, xL5, xL6, xL7, xL8, xL9, xL10, xL12, xL16, xL20, xL24, xL31, xL50, xL60, xL89, xL99, xL100, xL200, xI_add, xI_sub, xI_mul, xI_neg, xI_nat, xI_cl, Int.toNat_natCast, Int.reduceToNat, xltT, xltF, xleT, xleF, xeqT, xeqF, nleT, nleF, nltT, nltF, neqT, neqF, ileT, ileF, iltT, iltF, ieqT, ieqF, or_false, or_true, false_or, true_or, and_true, true_and, and_false, false_and, not_false_eq_true, not_true_eq_false, ↓reduceIte, if_true, if_false, k0, k1, k2, k3, k4, k5, l1, l2, l3, l4, l5, f11, v0, hvB1])) | (refine w_n ?_ ?_; · (simp (disch := omega) only [vin, mk_xW, ml_xW, mr_xW, mi_xW, mI_xW, mC_xW, up_eq, up_na, up_nj, xL0, xL1, xL2, xL3, xL4, xL5, xL6, xL7, xL8, xL9, xL10, xL12, xL16, xL20, xL24, xL31, xL50, xL60, xL89, xL99, xL100, xL200, xI_add, xI_sub, xI_mul, xI_neg, xI_nat, xI_cl, Int.toNat_natCast, Int.reduceToNat, xltT, xltF, xleT, xleF, xeqT, xeqF, nleT, nleF, nltT, nltF, neqT, neqF, ileT, ileF, iltT, iltF, ieqT, ieqF, or_false, or_true, false_or, true_or, and_true, true_and, and_false, false_and, not_false_eq_true, not_true_eq_false, ↓reduceIte, if_true, if_false, k0, k1, k2, k3, k4, k5, l1, l2, l3, l4, l5, f11, v0, hvB1]))
      refine w_c (w_r (by simp (disch := omega) only [vin, mk_xW, ml_xW, mr_xW, mi_xW, mI_xW, mC_xW, up_eq, up_na, up_nj, xL0, xL1, xL2, xL3, xL4, xL5, xL6, xL7, xL8, xL9, xL10, xL12, xL16, xL20, xL24, xL31, xL50, xL60, xL89, xL99, xL100, xL200, xI_add, xI_sub, xI_mul, xI_neg, xI_nat, xI_cl, Int.toNat_natCast, Int.reduceToNat, xltT, xltF, xleT, xleF, xeqT, xeqF, nleT, nleF, nltT, nltF, neqT, neqF, ileT, ileF, iltT, iltF, ieqT, ieqF, or_false, or_true, false_or, true_or, and_true, true_and, and_false, false_and, not_false_eq_true, not_true_eq_false, ↓reduceIte, if_true, if_false, g0, g1]) (hsend 1)) ?_
      rintro z ⟨τ, rfl, t1, t2⟩
      refine w_r ?_ (w_m (ih (i + 1) (by omega) g (by omega) τ _ t1 (send_len hlen)) ?_)
      · simp (disch := omega) only [vin, mk_xW, ml_xW, mr_xW, mi_xW, mI_xW, mC_xW, up_eq, up_na, up_nj, xL0, xL1, xL2, xL3, xL4, xL5, xL6, xL7, xL8, xL9, xL10, xL12, xL16, xL20, xL24, xL31, xL50, xL60, xL89, xL99, xL100, xL200, xI_add, xI_sub, xI_mul, xI_neg, xI_nat, xI_cl, Int.toNat_natCast, Int.reduceToNat, xltT, xltF, xleT, xleF, xeqT, xeqF, nleT, nleF, nltT, nltF, neqT, neqF, ileT, ileF, iltT, iltF, ieqT, ieqF, or_false, or_true, false_or, true_or, and_true, true_and, and_false, false_and, not_false_eq_true, not_true_eq_false, ↓reduceIte, if_true, if_false, Int.natCast_add, Int.cast_ofNat_Int]
      · rintro z ⟨ρ, e, p1, p2⟩
        exact ⟨ρ, e, p1, frV_trans (frV_v t2) p2⟩
    · subst e
      repeat first | refine w_b r12 ?_ | refine w_b r13 ?_ | refine w_b v3 ?_ | (refine w_i ?_ ?_; · (simp (disch := omega) only [vin, mk_xW, ml_xW, mr_xW, mi_xW, mI_xW, mC_xW, up_eq, up_na, up_nj, xL0, xL1, xL2, xL3, xL4, xL5, xL6, xL7, xL8, xL9, xL10, xL12, xL16, xL20, xL24, xL31, xL50, xL60, xL89, xL99, xL100, xL200, xI_add, xI_sub, xI_mul, xI_neg, xI_nat, xI_cl, Int.toNat_natCast, Int.reduceToNat, xltT, xltF, xleT, xleF, xeqT, xeqF, nleT, nleF, nltT, nltF, neqT, neqF, ileT, ileF, iltT, iltF, ieqT, ieqF, or_false, or_true, false_or, true_or, and_true, true_and, and_false, false_and, not_false_eq_true, not_true_eq_false, ↓reduceIte, if_true, if_false, k0, k1, k2, k3, k4, k5, l1, l2, l3, l4, l5, f11, v0, hvB1])) | (refine w_n ?_ ?_; · (simp (disch := omega) only [vin, mk_xW, ml_xW, mr_xW, mi_xW, mI_xW, mC_xW, up_eq, up_na, up_nj, xL0, xL1, xL2, xL3, xL4, xL5, xL6, xL7, xL8, xL9, xL10, xL12, xL16, xL20, xL24, xL31, xL50, xL60, xL89, xL99, xL100, xL200, xI_add, xI_sub, xI_mul, xI_neg, xI_nat, xI_cl, Int.toNat_natCast, Int.reduceToNat, xltT, xltF, xleT, xleF, xeqT, xeqF, nleT, nleF, nltT, nltF, neqT, neqF, ileT, ileF, iltT, iltF, ieqT, ieqF, or_false, or_true, false_or, true_or, and_true, true_and, and_false, false_and, not_false_eq_true, not_true_eq_false, ↓reduceIte, if_true, if_false, k0, k1, k2, k3, k4, k5, l1, l2, l3, l4, l5, f11, v0, hvB1]))
      refine w_c (w_r (by simp (disch := omega) only [vin, mk_xW, ml_xW, mr_xW, mi_xW, mI_xW, mC_xW, up_eq, up_na, up_nj, xL0, xL1, xL2, xL3, xL4, xL5, xL6, xL7, xL8, xL9, xL10, xL12, xL16, xL20, xL24, xL31, xL50, xL60, xL89, xL99, xL100, xL200, xI_add, xI_sub, xI_mul, xI_neg, xI_nat, xI_cl, Int.toNat_natCast, Int.reduceToNat, xltT, xltF, xleT, xleF, xeqT, xeqF, nleT, nleF, nltT, nltF, neqT, neqF, ileT, ileF, iltT, iltF, ieqT, ieqF, or_false, or_true, false_or, true_or, and_true, true_and, and_false, false_and, not_false_eq_true, not_true_eq_false, ↓reduceIte, if_true, if_false, g0, g1]) (hsend 2)) ?_
      rintro z ⟨τ, rfl, t1, t2⟩
      refine w_r ?_ (w_m (ih (i + 1) (by omega) g (by omega) τ _ t1 (send_len hlen)) ?_)
      · simp (disch := omega) only [vin, mk_xW, ml_xW, mr_xW, mi_xW, mI_xW, mC_xW, up_eq, up_na, up_nj, xL0, xL1, xL2, xL3, xL4, xL5, xL6, xL7, xL8, xL9, xL10, xL12, xL16, xL20, xL24, xL31, xL50, xL60, xL89, xL99, xL100, xL200, xI_add, xI_sub, xI_mul, xI_neg, xI_nat, xI_cl, Int.toNat_natCast, Int.reduceToNat, xltT, xltF, xleT, xleF, xeqT, xeqF, nleT, nleF, nltT, nltF, neqT, neqF, ileT, ileF, iltT, iltF, ieqT, ieqF, or_false, or_true, false_or, true_or, and_true, true_and, and_false, false_and, not_false_eq_true, not_true_eq_false, ↓reduceIte, if_true, if_false, Int.natCast_add, Int.cast_ofNat_Int]
      · rintro z ⟨ρ, e, p1, p2⟩
        exact ⟨ρ, e, p1, frV_trans (frV_v t2) p2⟩
theorem S_waitOn (hV : VB b m) (hR : RS b σ S) (hI : INm E Lw S pend c) (hk : k < S.1) (h3 : (S.2.2.1 k).1 3 = 1) : wq (f_X1_waitOn (xW m σ) b (xI (k : Nat))) (fun z => ∃ τ, z = (xI (a_up S k), xW m τ) ∧ RS b τ (a_dk S k) ∧ frV b σ τ) := by
  have hV0 := hV
  have hn := hI.1.1
  obtain ⟨hW, hP, _⟩ := IN_W hI hk
  have hst := (hI.2.1 k hk).1.2.2
  have hlen := hI.2.2.1
  obtain ⟨v0, v2, v3, v4, v5, v6, v7, _, v9⟩ := hV
  obtain ⟨hr, hdB⟩ := v9 k (by omega)
  have hd := hR.2.2.1 k hk
  rw [mkd_w h3] at hd
  have f4 := hd.1 4 (by omega)
  have hd1 := RDr_up (v := (S.2.2.1 k).1 4 - 1) hd (show 4 < 7 by omega)
  have hW1 : WDr (fu (S.2.2.1 k).1 4 ((S.2.2.1 k).1 4 - 1), (S.2.2.1 k).2) := by
    obtain ⟨w0, w1, w2, w3, w4, w5, w6, w7, w8⟩ := hW
    refine ⟨?_, ?_, ?_, ?_, ?_, w5, w6, w7, w8⟩ <;> simp [fu] <;> omega
  have hrd := S_ready hdB hd1 hW1
  unfold f_X1_waitOn; simp only [mk_xW, ml_xW, mr_xW, mi_xW, mI_xW, mC_xW]
  refine w_i v0 ?_
  refine w_b v2 ?_
  refine w_i v5 ?_
  refine w_i (by simp (disch := omega) only [vin, mk_xW, ml_xW, mr_xW, mi_xW, mI_xW, mC_xW, up_eq, up_na, up_nj, xL0, xL1, xL2, xL3, xL4, xL5, xL6, xL7, xL8, xL9, xL10, xL12, xL16, xL20, xL24, xL31, xL50, xL60, xL89, xL99, xL100, xL200, xI_add, xI_sub, xI_mul, xI_neg, xI_nat, xI_cl, Int.toNat_natCast, Int.reduceToNat, xltT, xltF, xleT, xleF, xeqT, xeqF, nleT, nleF, nltT, nltF, neqT, neqF, ileT, ileF, iltT, iltF, ieqT, ieqF, or_false, or_true, false_or, true_or, and_true, true_and, and_false, false_and, not_false_eq_true, not_true_eq_false, ↓reduceIte, if_true, if_false, v6]) ?_
  refine w_b (x := b + 14 + 6 * k) (by rw [← hr]; simp (disch := omega) only [vin, mk_xW, ml_xW, mr_xW, mi_xW, mI_xW, mC_xW, up_eq, up_na, up_nj, xL0, xL1, xL2, xL3, xL4, xL5, xL6, xL7, xL8, xL9, xL10, xL12, xL16, xL20, xL24, xL31, xL50, xL60, xL89, xL99, xL100, xL200, xI_add, xI_sub, xI_mul, xI_neg, xI_nat, xI_cl, Int.toNat_natCast, Int.reduceToNat, xltT, xltF, xleT, xleF, xeqT, xeqF, nleT, nleF, nltT, nltF, neqT, neqF, ileT, ileF, iltT, iltF, ieqT, ieqF, or_false, or_true, false_or, true_or, and_true, true_and, and_false, false_and, not_false_eq_true, not_true_eq_false, ↓reduceIte, if_true, if_false]) ?_
  refine w_i hdB.1 ?_
  rw [show up σ (b + 14 + 6 * k) 4 (σ (b + 14 + 6 * k) 4 - 1) = up σ (b + 14 + 6 * k) 4 (xI ((S.2.2.1 k).1 4 - 1)) by simp only [f4, xL0, xL1, xL2, xL3, xL4, xL5, xL6, xL7, xL8, xL9, xL10, xL12, xL16, xL20, xL24, xL31, xL50, xL60, xL89, xL99, xL100, xL200, xI_sub]]
  have hfu : fu (S.2.2.1 k).1 4 ((S.2.2.1 k).1 4 - 1) 4 = (S.2.2.1 k).1 4 - 1 := fu_eq
  unfold a_up a_dk
  by_cases e : a_now (S.2.2.1 k)
  · rw [if_pos e, if_pos e]
    refine w_b (hrd.trans (by rw [if_pos (show (fu (S.2.2.1 k).1 4 ((S.2.2.1 k).1 4 - 1)) 4 ≤ 0 ∨ nA 0 (S.2.2.1 k).2.1 + nA 1 (S.2.2.1 k).2.1 = (S.2.2.1 k).2.1.length by rw [hfu]; exact e.2)])) ?_
    refine w_n (by decide) ?_
    refine w_c (S_decide hdB hd1 hW1) ?_
    rintro z ⟨τ, rfl, t1, t2⟩
    have ey : a_yes (fu (S.2.2.1 k).1 4 ((S.2.2.1 k).1 4 - 1), (S.2.2.1 k).2) = a_yes (S.2.2.1 k) := by unfold a_yes; simp [fu]
    rw [ey] at t1
    have t3 := t1.1 3 (by omega)
    refine w_i hdB.1 ?_
    have hft : fr (b + 14 + 6 * k) 6 σ τ := fr_trans (fr_up (by omega)) t2
    have hRk := RSk_set hR hk t1 hft (a_turn (fu (S.2.2.1 k).1 4 ((S.2.2.1 k).1 4 - 1)) (a_yes (S.2.2.1 k)), (S.2.2.1 k).2.1, [])
    have hWt : WDr (a_turn (fu (S.2.2.1 k).1 4 ((S.2.2.1 k).1 4 - 1)) (a_yes (S.2.2.1 k)), (S.2.2.1 k).2) := by
      obtain ⟨w0, w1, w2, w3, w4, w5, w6, w7, w8⟩ := hW
      refine ⟨?_, ?_, ?_, ?_, ?_, w5, w6, w7, w8⟩ <;> unfold a_turn <;> split <;> simp [fu] <;> omega
    have hne : (a_turn (fu (S.2.2.1 k).1 4 ((S.2.2.1 k).1 4 - 1)) (a_yes (S.2.2.1 k))) 3 ≠ 1 := by unfold a_turn; split <;> simp [fu]
    have hfin : ∀ i3, i3 = a_yes (S.2.2.1 k) → wq (fL_X1_waitOn vF 47 (xW m τ) b (xI (k : Nat)) (b + 14 + 6 * k) (xI i3) (xI (0 : Nat))) (fun z => ∃ τ, z = (xI (a_yes (S.2.2.1 k)), xW m τ) ∧ RS b τ (a_tells (a_set S k (a_turn (fu (S.2.2.1 k).1 4 ((S.2.2.1 k).1 4 - 1)) (a_yes (S.2.2.1 k)), (S.2.2.1 k).2.1, [])) k (a_yes (S.2.2.1 k) + 1) (S.2.2.1 k).2.2) ∧ frV b σ τ) := by
      intro i3 hi3
      subst hi3
      have hl6 := hW.2.2.2.2.2.2.1
      refine w_m (L_tell (L := (S.2.2.1 k).2.2) hV0 (by omega) hWt rfl a_yes01 _ 0 (Nat.zero_add _) vF (by unfold vF; omega) τ _ hRk hlen) ?_
      rintro z ⟨ρ, e1, p1, p2⟩
      rw [List.drop_zero] at p1
      refine ⟨ρ, e1, RSk_RS p1 ?_, frV_trans (frV_d hft (by omega)) p2⟩
      rw [tells_d]
      show _ = mkd (du S.2.2.1 k _ k)
      rw [du_eq, mkd_o hne]
    rcases (a_yes01 (d := S.2.2.1 k)) with g | g
    · refine w_n ?_ ?_
      · rw [mi_xW, t3, g]; simp [a_turn, fu]; decide
      · exact hfin 0 g.symm
    · refine w_i ?_ ?_
      · rw [mi_xW, t3, g]; simp [a_turn, fu]; decide
      · exact hfin 1 g.symm
  · rw [if_neg e, if_neg e, if_pos h3]
    refine w_b (hrd.trans (by rw [if_neg (show ¬ ((fu (S.2.2.1 k).1 4 ((S.2.2.1 k).1 4 - 1)) 4 ≤ 0 ∨ nA 0 (S.2.2.1 k).2.1 + nA 1 (S.2.2.1 k).2.1 = (S.2.2.1 k).2.1.length) by rw [hfu]; exact fun g => e ⟨h3, g⟩)])) ?_
    refine w_i (by decide) ?_
    refine w_s ⟨_, rfl, RS_set hR hn hk ?_ (fr_up (by omega)), frV_d (k := k) (fr_up (by omega)) (by omega)⟩
    rw [mkd_w (by simp [fu]; exact h3)]
    exact hd1
end
