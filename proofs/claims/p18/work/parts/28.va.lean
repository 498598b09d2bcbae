/-! a vault of the class: its cells -/
def VB (b : Nat) (m : vM) : Prop := mk m b = 1 ∧ mr m b 2 = some (b + 1) ∧ mr m b 3 = some (b + 2) ∧ mr m b 4 = some (b + 8) ∧ mk m (b + 1) = 7 ∧ ml m (b + 1) = 10 ∧ vB (b + 2) m ∧ vB (b + 8) m ∧ ∀ k, k < 10 → mr m (b + 1) k = some (b + 14 + 6 * k) ∧ dB (b + 14 + 6 * k) m
def RS (b : Nat) (σ : aN) (S : aS) : Prop := σ b 0 = xI (S.2.1 0) ∧ σ b 1 = xI S.1 ∧ (∀ k, k < S.1 → RDr (b + 14 + 6 * k) σ (mkd (S.2.2.1 k))) ∧ RVr (b + 2) σ S.2.2.2 ∧ σ (b + 2) 1 = xI (S.2.1 1)
/-- but doors and voices nothing has changed -/
def frV (b : Nat) (σ τ : aN) : Prop := ∀ x, x < b + 2 ∨ (b + 8 ≤ x ∧ x < b + 14) ∨ b + 74 ≤ x → τ x = σ x
section
variable {b k : Nat} {σ τ ρ : aN} {S : aS} {d : aD} {m : vM}
theorem frV_rfl : frV b σ σ := fun _ _ => rfl
theorem frV_trans (h : frV b σ τ) (g : frV b τ ρ) : frV b σ ρ := fun x hx => (g x hx).trans (h x hx)
theorem frV_d (h : fr (b + 14 + 6 * k) 6 σ τ) (hk : k < 10) : frV b σ τ := fun x hx => h x (by omega)
theorem frV_v (h : fr (b + 2) 6 σ τ) : frV b σ τ := fun x hx => h x (by omega)
theorem frV_fr (h : frV b σ τ) : fr b 74 σ τ := fun x hx => h x (by omega)
theorem mkd_w (h : d.1 3 = 1) : mkd d = d := by
  unfold mkd
  simp only [if_pos h]
  have e : (fun a : aR => fu a 2 (a 2)) = id := by
    funext a x; by_cases g : x = 2
    · subst g; simp [fu]
    · simp [fu, g]
  rw [e, List.map_id]
theorem mkd_o (h : d.1 3 ≠ 1) : mkd d = (d.1, a_unask d.2.1, d.2.2) := by
  unfold mkd a_unask
  simp only [if_neg h]
theorem mkd_1 : (mkd d).1 = d.1 := rfl
theorem mkd_3 : (mkd d).2.2 = d.2.2 := rfl
theorem WD_mkd (h : WDr d) : WDr (mkd d) := by
  obtain ⟨w0, w1, w2, w3, w4, w5, w6, w7, w8⟩ := h
  refine ⟨w0, w1, w2, w3, w4, by unfold mkd; rw [List.length_map]; exact w5, w6, fun a ha => ?_, w8⟩
  obtain ⟨c, hc, rfl⟩ := List.mem_map.mp ha
  have := w7 c hc
  rw [fu_ne (by omega), fu_ne (by omega), fu_eq]
  split <;> omega
theorem RS_set (h : RS b σ S) (hn : S.1 ≤ 10) (hk : k < S.1) (hd : RDr (b + 14 + 6 * k) τ (mkd d)) (hf : fr (b + 14 + 6 * k) 6 σ τ) : RS b τ (a_set S k d) := by
  obtain ⟨h1, h2, h3, h4, h5⟩ := h
  refine ⟨by rw [hf b (by omega)]; exact h1, by rw [hf b (by omega)]; exact h2, fun j hj => ?_, RVr_fr h4 (fun x g1 g2 => hf x (by omega)), by rw [hf _ (by omega)]; exact h5⟩
  show RDr _ τ (mkd (du S.2.2.1 k d j))
  by_cases e : j = k
  · subst e; rw [du_eq]; exact hd
  · rw [du_ne e]
    exact RDr_fr (h3 j hj) (fun x g1 g2 => hf x (by omega))
theorem RS_send {f t w l : Int} (h : RS b σ S) (hv : RVr (b + 2) τ (a_send S f t w l).2.2.2) (hL : τ (b + 2) 1 = xI ((a_send S f t w l).2.1 1)) (hf : fr (b + 2) 6 σ τ) : RS b τ (a_send S f t w l) := by
  obtain ⟨h1, h2, h3, h4, h5⟩ := h
  refine ⟨?_, ?_, fun j hj => ?_, hv, hL⟩
  · rw [hf b (by omega), send_g (by omega)]; exact h1
  · rw [hf b (by omega), send_n]; exact h2
  · rw [send_n] at hj
    rw [send_d]
    exact RDr_fr (h3 j hj) (fun x g1 g2 => hf x (by omega))
theorem send_len {f t w l : Int} (h : S.2.2.2.length ≤ 60) : (a_send S f t w l).2.2.2.length ≤ 60 := by
  unfold a_send
  split
  · rw [List.length_append]; simp; omega
  · exact h
theorem S_send {f t w l : Int} (hV : VB b m) (h : RS b σ S) (hl : S.2.2.2.length ≤ 60) : wq (f_X2_add (xW m σ) (b + 2) (xI f) (xI t) (xI w) (xI l)) (fun z => ∃ τ, z = xW m τ ∧ RS b τ (a_send S f t w l) ∧ fr (b + 2) 6 σ τ) := by
  refine w_m (S_add (S := S) hV.2.2.2.2.2.2.1 hl h.2.2.2.1 h.2.2.2.2) ?_
  rintro z ⟨τ, e, g1, g2, g3⟩
  exact ⟨τ, e, RS_send h g1 g2 g3, g3⟩
theorem S_isDoor {x : Int} (hV : VB b m) (h : RS b σ S) (hn : S.1 ≤ 10) (hx : -1000 ≤ x ∧ x < 1000) : f_X1_isDoor (xW m σ) b (xI x) = some (xI (if 0 ≤ x ∧ x < S.1 then 1 else 0)) := by
  have k0 := hV.1
  have f1 := h.2.1
  unfold f_X1_isDoor
  by_cases c1 : x < 0
  · simp (disch := omega) only [vin, mk_xW, ml_xW, mr_xW, mi_xW, mI_xW, mC_xW, up_eq, up_na, up_nj, xL0, xL1, xL2, xL3, xL4, xL5, xL6, xL7, xL8, xL9, xL10, xL12, xL16, xL20, xL24, xL31, xL50, xL60, xL89, xL99, xL100, xL200, xI_add, xI_sub, xI_mul, xI_neg, xI_nat, xI_cl, Int.toNat_natCast, Int.reduceToNat, xltT, xltF, xleT, xleF, xeqT, xeqF, nleT, nleF, nltT, nltF, neqT, neqF, ileT, ileF, iltT, iltF, ieqT, ieqF, or_false, or_true, false_or, true_or, and_true, true_and, and_false, false_and, not_false_eq_true, not_true_eq_false, ↓reduceIte, if_true, if_false]
  · by_cases c2 : x < S.1
    · simp (disch := omega) only [vin, mk_xW, ml_xW, mr_xW, mi_xW, mI_xW, mC_xW, up_eq, up_na, up_nj, xL0, xL1, xL2, xL3, xL4, xL5, xL6, xL7, xL8, xL9, xL10, xL12, xL16, xL20, xL24, xL31, xL50, xL60, xL89, xL99, xL100, xL200, xI_add, xI_sub, xI_mul, xI_neg, xI_nat, xI_cl, Int.toNat_natCast, Int.reduceToNat, xltT, xltF, xleT, xleF, xeqT, xeqF, nleT, nleF, nltT, nltF, neqT, neqF, ileT, ileF, iltT, iltF, ieqT, ieqF, or_false, or_true, false_or, true_or, and_true, true_and, and_false, false_and, not_false_eq_true, not_true_eq_false, ↓reduceIte, if_true, if_false, k0, f1]
    · simp (disch := omega) only [vin, mk_xW, ml_xW, mr_xW, mi_xW, mI_xW, mC_xW, up_eq, up_na, up_nj, xL0, xL1, xL2, xL3, xL4, xL5, xL6, xL7, xL8, xL9, xL10, xL12, xL16, xL20, xL24, xL31, xL50, xL60, xL89, xL99, xL100, xL200, xI_add, xI_sub, xI_mul, xI_neg, xI_nat, xI_cl, Int.toNat_natCast, Int.reduceToNat, xltT, xltF, xleT, xleF, xeqT, xeqF, nleT, nleF, nltT, nltF, neqT, neqF, ileT, ileF, iltT, iltF, ieqT, ieqF, or_false, or_true, false_or, true_or, and_true, true_and, and_false, false_and, not_false_eq_true, not_true_eq_false, ↓reduceIte, if_true, if_false, k0, f1]
theorem asks_unask {L : List aR} : a_asks S k (a_unask L) = a_asks S k L := by
  unfold a_asks a_unask
  rw [List.foldl_map]
  congr 1
theorem L_wake {L : List aR} (hV : VB b m) (hk : k < 10) (hL : ∀ a ∈ L, 0 ≤ a 0 ∧ a 0 ≤ 9 ∧ 1 ≤ a 1 ∧ a 1 ≤ 5) (hL4 : L.length ≤ 4) : ∀ r i, i + r = L.length → ∀ f, r < f → ∀ (σ : aN) (T : aS), RS b σ T → k < T.1 → (T.2.2.1 k).1 3 = 1 → (T.2.2.1 k).2.1 = L → T.2.2.2.length ≤ 60 → wq (fL_X1_wake f 13 (xW m σ) b (xI (k : Nat)) (b + 14 + 6 * k) (xI (i : Nat))) (fun z => ∃ τ, z = xW m τ ∧ RS b τ (a_asks T k (L.drop i)) ∧ frV b σ τ) := by
  have hdB := (hV.2.2.2.2.2.2.2.2 k hk).2
  have hvB := hV.2.2.2.2.2.2.1.1
  have hV0 := hV
  obtain ⟨v0, v2, v3, v4, v5, v6, _, _, _⟩ := hV
  obtain ⟨k0, r8, r9, r10, r12, r13, k1, k2, k3, k4, k5, l1, l2, l3, l4, l5⟩ := hdB
  intro r
  induction r with
  | zero =>
    intro i hi f hf σ T hR hkn h3 hl hlen
    obtain ⟨g, rfl⟩ : ∃ g, f = g + 1 := ⟨f - 1, by omega⟩
    have f7 := (hR.2.2.1 k hkn).2.1
    rw [mkd_w h3, hl] at f7
    rw [List.drop_of_length_le (by omega)]
    show wq (fB_X1_wake_13 (fL_X1_wake g) (xW m σ) b _ _ _) _
    unfold fB_X1_wake_13; simp only [mk_xW, ml_xW, mr_xW, mi_xW, mI_xW, mC_xW]
    repeat first | refine w_b r8 ?_ | refine w_b r9 ?_ | refine w_b r10 ?_ | refine w_b r12 ?_ | refine w_b r13 ?_ | (refine w_i ?_ ?_; · (simp (disch := omega) only [vin, mk_xW, ml_xW, mr_xW, mi_xW, mI_xW, mC_xW, up_eq, up_na, up_nj, xL0, xL1, xL2, xL3, xL4, xL5, xL6, xL7, xL8, xL9, xL10, xL12, xL16, xL20, xL24, xL31, xL50, xL60, xL89, xL99, xL100, xL200, xI_add, xI_sub, xI_mul, xI_neg, xI_nat, xI_cl, Int.toNat_natCast, Int.reduceToNat, xltT, xltF, xleT, xleF, xeqT, xeqF, nleT, nleF, nltT, nltF, neqT, neqF, ileT, ileF, iltT, iltF, ieqT, ieqF, or_false, or_true, false_or, true_or, and_true, true_and, and_false, false_and, not_false_eq_true, not_true_eq_false, ↓reduceIte, if_true, if_false, k0, k1, k2, k3, k4, k5, l1, l2, l3, l4, l5, f7])) | (refine w_n ?_ ?_; · (simp (disch := omega) only [vin, mk_xW, ml_xW, mr_xW, mi_xW, mI_xW, mC_xW, up_eq, up_na, up_nj, xL0, xL1, xL2, xL3, xL4, xL5, xL6, xL7, xL8, xL9, xL10, xL12, xL16, xL20, xL24, xL31, xL50, xL60, xL89, xL99, xL100, xL200, xI_add, xI_sub, xI_mul, xI_neg, xI_nat, xI_cl, Int.toNat_natCast, Int.reduceToNat, xltT, xltF, xleT, xleF, xeqT, xeqF, nleT, nleF, nltT, nltF, neqT, neqF, ileT, ileF, iltT, iltF, ieqT, ieqF, or_false, or_true, false_or, true_or, and_true, true_and, and_false, false_and, not_false_eq_true, not_true_eq_false, ↓reduceIte, if_true, if_false, k0, k1, k2, k3, k4, k5, l1, l2, l3, l4, l5, f7]))
    exact w_s ⟨_, rfl, hR, frV_rfl⟩
  | succ r ih =>
    intro i hi f hf σ T hR hkn h3 hl hlen
    obtain ⟨g, rfl⟩ : ∃ g, f = g + 1 := ⟨f - 1, by omega⟩
    obtain ⟨a, h1, h2⟩ := dr_at (l := L) (i := i) (by omega)
    have hd := hR.2.2.1 k hkn
    have f7 := hd.2.1
    rw [mkd_w h3] at hd
    rw [mkd_w h3, hl] at f7
    have ha := hL a (dr_mem h1)
    have g0 : σ (b + 14 + 6 * k + 1) i = xI (a 0) := hd.2.2.2.1 i a (by rw [hl]; exact h1) 0 (by omega)
    have g1 : σ (b + 14 + 6 * k + 2) i = xI (a 1) := hd.2.2.2.1 i a (by rw [hl]; exact h1) 1 (by omega)
    rw [h2]
    show wq (fB_X1_wake_13 (fL_X1_wake g) (xW m σ) b _ _ _) _
    unfold fB_X1_wake_13; simp only [mk_xW, ml_xW, mr_xW, mi_xW, mI_xW, mC_xW]
    repeat first | refine w_b r8 ?_ | refine w_b r9 ?_ | refine w_b v3 ?_ | (refine w_i ?_ ?_; · (simp (disch := omega) only [vin, mk_xW, ml_xW, mr_xW, mi_xW, mI_xW, mC_xW, up_eq, up_na, up_nj, xL0, xL1, xL2, xL3, xL4, xL5, xL6, xL7, xL8, xL9, xL10, xL12, xL16, xL20, xL24, xL31, xL50, xL60, xL89, xL99, xL100, xL200, xI_add, xI_sub, xI_mul, xI_neg, xI_nat, xI_cl, Int.toNat_natCast, Int.reduceToNat, xltT, xltF, xleT, xleF, xeqT, xeqF, nleT, nleF, nltT, nltF, neqT, neqF, ileT, ileF, iltT, iltF, ieqT, ieqF, or_false, or_true, false_or, true_or, and_true, true_and, and_false, false_and, not_false_eq_true, not_true_eq_false, ↓reduceIte, if_true, if_false, k0, k1, k2, k3, k4, k5, l1, l2, l3, l4, l5, f7, v0, hvB])) | (refine w_n ?_ ?_; · (simp (disch := omega) only [vin, mk_xW, ml_xW, mr_xW, mi_xW, mI_xW, mC_xW, up_eq, up_na, up_nj, xL0, xL1, xL2, xL3, xL4, xL5, xL6, xL7, xL8, xL9, xL10, xL12, xL16, xL20, xL24, xL31, xL50, xL60, xL89, xL99, xL100, xL200, xI_add, xI_sub, xI_mul, xI_neg, xI_nat, xI_cl, Int.toNat_natCast, Int.reduceToNat, xltT, xltF, xleT, xleF, xeqT, xeqF, nleT, nleF, nltT, nltF, neqT, neqF, ileT, ileF, iltT, iltF, ieqT, ieqF, or_false, or_true, false_or, true_or, and_true, true_and, and_false, false_and, not_false_eq_true, not_true_eq_false, ↓reduceIte, if_true, if_false, k0, k1, k2, k3, k4, k5, l1, l2, l3, l4, l5, f7, v0, hvB]))
    refine w_c (w_r (by simp (disch := omega) only [vin, mk_xW, ml_xW, mr_xW, mi_xW, mI_xW, mC_xW, up_eq, up_na, up_nj, xL0, xL1, xL2, xL3, xL4, xL5, xL6, xL7, xL8, xL9, xL10, xL12, xL16, xL20, xL24, xL31, xL50, xL60, xL89, xL99, xL100, xL200, xI_add, xI_sub, xI_mul, xI_neg, xI_nat, xI_cl, Int.toNat_natCast, Int.reduceToNat, xltT, xltF, xleT, xleF, xeqT, xeqF, nleT, nleF, nltT, nltF, neqT, neqF, ileT, ileF, iltT, iltF, ieqT, ieqF, or_false, or_true, false_or, true_or, and_true, true_and, and_false, false_and, not_false_eq_true, not_true_eq_false, ↓reduceIte, if_true, if_false, g0, g1]) (S_send (f := k) (t := a 0) (w := 0) (l := a 1) hV0 hR hlen)) ?_
    rintro z ⟨τ, rfl, t1, t2⟩
    refine w_r ?_ (w_m (ih (i + 1) (by omega) g (by omega) τ _ t1 (by rw [send_n]; exact hkn) (by rw [send_d]; exact h3) (by rw [send_d]; exact hl) (send_len hlen)) ?_)
    · simp (disch := omega) only [vin, mk_xW, ml_xW, mr_xW, mi_xW, mI_xW, mC_xW, up_eq, up_na, up_nj, xL0, xL1, xL2, xL3, xL4, xL5, xL6, xL7, xL8, xL9, xL10, xL12, xL16, xL20, xL24, xL31, xL50, xL60, xL89, xL99, xL100, xL200, xI_add, xI_sub, xI_mul, xI_neg, xI_nat, xI_cl, Int.toNat_natCast, Int.reduceToNat, xltT, xltF, xleT, xleF, xeqT, xeqF, nleT, nleF, nltT, nltF, neqT, neqF, ileT, ileF, iltT, iltF, ieqT, ieqF, or_false, or_true, false_or, true_or, and_true, true_and, and_false, false_and, not_false_eq_true, not_true_eq_false, ↓reduceIte, if_true, if_false, Int.natCast_add, Int.cast_ofNat_Int]
    · rintro z ⟨ρ, e, p1, p2⟩
      exact ⟨ρ, e, p1, frV_trans (frV_v t2) p2⟩
theorem S_wake (hV : VB b m) (hR : RS b σ S) (hn : S.1 ≤ 10) (hk : k < S.1) (h3 : (S.2.2.1 k).1 3 ≠ 1) (hk0 : (S.2.2.1 k).2.2 = []) (hW : WDr (S.2.2.1 k)) (hlen : S.2.2.2.length ≤ 60) : wq (f_X1_wake (xW m σ) b (xI (k : Nat))) (fun z => ∃ τ, z = xW m τ ∧ RS b τ (a_wake S k) ∧ frV b σ τ) := by
  have hV0 := hV
  obtain ⟨v0, v2, v3, v4, v5, v6, _, _, v9⟩ := hV
  obtain ⟨hr, hdB⟩ := v9 k (by omega)
  have hd := hR.2.2.1 k hk
  rw [mkd_o h3, hk0] at hd
  unfold f_X1_wake; simp only [mk_xW, ml_xW, mr_xW, mi_xW, mI_xW, mC_xW]
  refine w_i v0 ?_
  refine w_b v2 ?_
  refine w_i v5 ?_
  refine w_i (by simp (disch := omega) only [vin, mk_xW, ml_xW, mr_xW, mi_xW, mI_xW, mC_xW, up_eq, up_na, up_nj, xL0, xL1, xL2, xL3, xL4, xL5, xL6, xL7, xL8, xL9, xL10, xL12, xL16, xL20, xL24, xL31, xL50, xL60, xL89, xL99, xL100, xL200, xI_add, xI_sub, xI_mul, xI_neg, xI_nat, xI_cl, Int.toNat_natCast, Int.reduceToNat, xltT, xltF, xleT, xleF, xeqT, xeqF, nleT, nleF, nltT, nltF, neqT, neqF, ileT, ileF, iltT, iltF, ieqT, ieqF, or_false, or_true, false_or, true_or, and_true, true_and, and_false, false_and, not_false_eq_true, not_true_eq_false, ↓reduceIte, if_true, if_false, v6]) ?_
  refine w_b (x := b + 14 + 6 * k) (by rw [← hr]; simp (disch := omega) only [vin, mk_xW, ml_xW, mr_xW, mi_xW, mI_xW, mC_xW, up_eq, up_na, up_nj, xL0, xL1, xL2, xL3, xL4, xL5, xL6, xL7, xL8, xL9, xL10, xL12, xL16, xL20, xL24, xL31, xL50, xL60, xL89, xL99, xL100, xL200, xI_add, xI_sub, xI_mul, xI_neg, xI_nat, xI_cl, Int.toNat_natCast, Int.reduceToNat, xltT, xltF, xleT, xleF, xeqT, xeqF, nleT, nleF, nltT, nltF, neqT, neqF, ileT, ileF, iltT, iltF, ieqT, ieqF, or_false, or_true, false_or, true_or, and_true, true_and, and_false, false_and, not_false_eq_true, not_true_eq_false, ↓reduceIte, if_true, if_false]) ?_
  refine w_i hdB.1 ?_
  refine w_c (S_start hdB hd) ?_
  rintro z ⟨τ, rfl, t1, t2⟩
  have hR0 : RS b τ (a_wake0 S k) := by
    refine RS_set hR hn hk ?_ t2
    rw [mkd_w (by simp [fu])]
    refine RDr_ext (f := fu (fu (fu (S.2.2.1 k).1 3 1) 4 ((S.2.2.1 k).1 1)) 7 (S.2.1 2)) t1 (fun j hj => ?_)
    rw [fu_ne (show j ≠ 7 by omega)]
  have hwl : ∀ a ∈ a_unask (S.2.2.1 k).2.1, 0 ≤ a 0 ∧ a 0 ≤ 9 ∧ 1 ≤ a 1 ∧ a 1 ≤ 5 := by
    intro a ha
    obtain ⟨c, hc, rfl⟩ := List.mem_map.mp ha
    have := hW.2.2.2.2.2.2.2.1 c hc
    simp [fu]; omega
  have hl4 : (a_unask (S.2.2.1 k).2.1).length ≤ 4 := by unfold a_unask; rw [List.length_map]; exact hW.2.2.2.2.2.1
  refine w_r (by simp (disch := omega) only [xL0, xL1, xL2, xL3, xL4, xL5, xL6, xL7, xL8, xL9, xL10, xL12, xL16, xL20, xL24, xL31, xL50, xL60, xL89, xL99, xL100, xL200]; rfl) (w_m (L_wake (k := k) hV0 (by omega) hwl hl4 _ 0 (Nat.zero_add _) vF (by unfold vF; omega) τ (a_wake0 S k) hR0 hk (by simp [a_wake0, du_eq, fu]) (by simp [a_wake0, du_eq]) hlen) ?_)
  rintro z ⟨ρ, e, p1, p2⟩
  refine ⟨ρ, e, ?_, frV_trans (frV_d t2 (by omega)) p2⟩
  rw [List.drop_zero, asks_unask] at p1
  exact p1
end
