section
variable {m m' : vM} {N N' s k y b q : Nat} {X : Nat → Prop} {D : zD} {Z : zS} {S : aS} {τ : aN} {E : Nat → List (Int × Int)} {Lw : Nat → Int}
theorem whis_n {t : Int} : (a_whis S k t).1 = S.1 := by
  unfold a_whis; split
  · split
    · exact asks_n
    · rfl
  · rfl
theorem whis_g {t : Int} {j : Nat} (hj : j ≠ 1) : (a_whis S k t).2.1 j = S.2.1 j := by
  unfold a_whis; split
  · split
    · exact asks_g hj
    · rfl
  · rfl
/-- what is counted goes up, and not by much -/
def CS (S S' : aS) : Prop := (S.2.1 1 ≤ S'.2.1 1 ∧ S'.2.1 1 ≤ S.2.1 1 + 900) ∧ ∀ k, ((S.2.2.1 k).1 5 ≤ (S'.2.2.1 k).1 5 ∧ (S'.2.2.1 k).1 5 ≤ (S.2.2.1 k).1 5 + 1) ∧ (S.2.2.1 k).1 6 ≤ (S'.2.2.1 k).1 6 ∧ (S'.2.2.1 k).1 6 ≤ (S.2.2.1 k).1 6 + 1
theorem CS_rfl : CS S S := ⟨⟨by omega, by omega⟩, fun _ => ⟨⟨by omega, by omega⟩, by omega, by omega⟩⟩
theorem send_1 {f t w l : Int} : S.2.1 1 ≤ (a_send S f t w l).2.1 1 ∧ (a_send S f t w l).2.1 1 ≤ S.2.1 1 + 1 := by
  unfold a_send; split
  · exact ⟨Int.le_refl _, by show S.2.1 1 ≤ _; omega⟩
  · show S.2.1 1 ≤ fu S.2.1 1 (S.2.1 1 + 1) 1 ∧ fu S.2.1 1 (S.2.1 1 + 1) 1 ≤ _
    rw [fu_eq]; omega
theorem asks_1 : ∀ (L : List aR) (S : aS), S.2.1 1 ≤ (a_asks S k L).2.1 1 ∧ (a_asks S k L).2.1 1 ≤ S.2.1 1 + L.length := by
  intro L
  induction L with
  | nil => intro S; exact ⟨Int.le_refl _, by show S.2.1 1 ≤ _; simp⟩
  | cons a L ih =>
    intro S
    have h1 := ih (a_send S k (a 0) 0 (a 1))
    have h2 := send_1 (S := S) (f := k) (t := a 0) (w := 0) (l := a 1)
    show S.2.1 1 ≤ (a_asks (a_send S k (a 0) 0 (a 1)) k L).2.1 1 ∧ (a_asks (a_send S k (a 0) 0 (a 1)) k L).2.1 1 ≤ _
    rw [List.length_cons]; omega
theorem tells_1 {w : Int} : ∀ (L : List aR) (S : aS), S.2.1 1 ≤ (a_tells S k w L).2.1 1 ∧ (a_tells S k w L).2.1 1 ≤ S.2.1 1 + L.length := by
  intro L
  induction L with
  | nil => intro S; exact ⟨Int.le_refl _, by show S.2.1 1 ≤ _; simp⟩
  | cons a L ih =>
    intro S
    have h1 := ih (a_send S k (a 0) w (a 1))
    have h2 := send_1 (S := S) (f := k) (t := a 0) (w := w) (l := a 1)
    show S.2.1 1 ≤ (a_tells (a_send S k (a 0) w (a 1)) k w L).2.1 1 ∧ (a_tells (a_send S k (a 0) w (a 1)) k w L).2.1 1 ≤ _
    rw [List.length_cons]; omega
theorem wake_1 : S.2.1 1 ≤ (a_wake S k).2.1 1 ∧ (a_wake S k).2.1 1 ≤ S.2.1 1 + (S.2.2.1 k).2.1.length := asks_1 _ (a_wake0 S k)
theorem wake_j {i : Nat} (h : i ≠ 3 ∧ i ≠ 4 ∧ i ≠ 7) (j : Nat) : ((a_wake S k).2.2.1 j).1 i = (S.2.2.1 j).1 i := by
  unfold a_wake; rw [asks_d]; unfold a_wake0 du
  show (if j = k then _ else S.2.2.1 j).1 i = _
  by_cases g : j = k
  · rw [if_pos g, g]
    show fu (fu (fu (S.2.2.1 k).1 3 1) 4 _) 7 _ i = _
    rw [fu_ne h.2.2, fu_ne h.2.1, fu_ne h.1]
  · rw [if_neg g]
theorem turn_5 {f : aR} {i : Int} (hi : i = 0 ∨ i = 1) : a_turn f i 5 = f 5 + i ∧ a_turn f i 6 = f 6 + (1 - i) := by
  unfold a_turn
  rcases hi with h | h <;> subst h <;> simp [fu]
theorem whis_c {t : Int} (hl : (S.2.2.1 k).2.1.length ≤ 4) : CS S (a_whis S k t) := by
  unfold a_whis
  split
  · split
    · have h1 := wake_1 (S := S) (k := k)
      refine ⟨by omega, fun j => ?_⟩
      rw [wake_j (by omega), wake_j (by omega)]; omega
    · refine ⟨by show S.2.1 1 ≤ S.2.1 1 ∧ S.2.1 1 ≤ S.2.1 1 + 900; omega, fun j => ?_⟩
      unfold a_set du
      show ((S.2.2.1 j).1 5 ≤ (if j = k then _ else S.2.2.1 j).1 5 ∧ (if j = k then _ else S.2.2.1 j).1 5 ≤ _) ∧ (S.2.2.1 j).1 6 ≤ (if j = k then _ else S.2.2.1 j).1 6 ∧ (if j = k then _ else S.2.2.1 j).1 6 ≤ _
      by_cases g : j = k
      · rw [if_pos g, g]
        have h5 := turn_5 (f := (S.2.2.1 k).1) (i := 0) (.inl rfl)
        show ((S.2.2.1 k).1 5 ≤ a_turn (S.2.2.1 k).1 0 5 ∧ a_turn (S.2.2.1 k).1 0 5 ≤ _) ∧ (S.2.2.1 k).1 6 ≤ a_turn (S.2.2.1 k).1 0 6 ∧ a_turn (S.2.2.1 k).1 0 6 ≤ _
        omega
      · rw [if_neg g]; omega
  · exact CS_rfl
theorem rule_c {r p : Int} : CS S (a_rule S k r p) := by
  refine ⟨by show S.2.1 1 ≤ S.2.1 1 ∧ S.2.1 1 ≤ S.2.1 1 + 900; omega, fun j => ?_⟩
  unfold a_rule a_set du
  show ((S.2.2.1 j).1 5 ≤ (if j = k then _ else S.2.2.1 j).1 5 ∧ (if j = k then _ else S.2.2.1 j).1 5 ≤ _) ∧ (S.2.2.1 j).1 6 ≤ (if j = k then _ else S.2.2.1 j).1 6 ∧ (if j = k then _ else S.2.2.1 j).1 6 ≤ _
  by_cases g : j = k
  · rw [if_pos g, g]
    show ((S.2.2.1 k).1 5 ≤ fu (fu (S.2.2.1 k).1 2 r) 1 p 5 ∧ fu (fu (S.2.2.1 k).1 2 r) 1 p 5 ≤ _) ∧ (S.2.2.1 k).1 6 ≤ fu (fu (S.2.2.1 k).1 2 r) 1 p 6 ∧ fu (fu (S.2.2.1 k).1 2 r) 1 p 6 ≤ _
    rw [fu_ne (by omega), fu_ne (by omega), fu_ne (by omega), fu_ne (by omega)]; omega
  · rw [if_neg g]; omega
/-- a token is whispered at both -/
theorem S_both {t : Int} (h : BT N m s S) (hk : k < S.1) (ht : 0 ≤ t ∧ t ≤ 99) : wq (f_X3_whisper m 0 (xI (k : Nat)) (xI t)) (fun z => ∃ τ, z = (xI (a_whok S k t), xW m τ) ∧ mk (xW m τ) s = 5 ∧ (∀ x, 149 ≤ x → τ x = m.2.2.1 x) ∧ wq (f_X5_whisper N (xW m τ) s (xI (k : Nat)) (xI t)) (fun z => z.1 = xI (a_whok S k t) ∧ BT z.2.1 z.2.2 s (a_whis S k t) ∧ N ≤ z.2.1)) := by
  obtain ⟨hC, hN, ⟨Z, hZ, rfl⟩, E, Lw, hI⟩ := h
  have hn : Z.1 ≤ 10 := hI.1.1
  have hk : k < Z.1 := hk
  obtain ⟨hla, hlk, hlv⟩ := ZR_len hI hk
  have hW := IN_Wa hI k hk
  have h1 := S_X3whisper hC.1 hC.2 hI hk ht
  rw [xW_self] at h1
  refine w_m h1 ?_
  rintro z ⟨τ, rfl, t1, t2⟩
  have hf : ∀ x, 149 ≤ x → τ x = m.2.2.1 x := fun x hx => t2 x (by omega)
  have hZ1 := ZR_cl hZ hf
  refine ⟨τ, rfl, hZ.1.1.2.2.1, hf, ?_⟩
  have h2 := S_zwhis (t := t) hZ1 hN hn hk hlv hla hW.2.2.2.1 hW.1 ht
  refine w_m h2 ?_
  rintro ⟨zc, N1, m1⟩ ⟨j1, Z1, j2, j3, j4, j5, j6⟩
  obtain ⟨Lw', hI'⟩ := IN_whis (t := t) hI hk
  exact ⟨j1, ⟨CV_fr (CV_cl hC t1) (by rw [whis_n]; exact hn) (fM_ge j6) hN (fun x _ h => h), Nat.le_trans hN j5, ⟨Z1, j2, j3⟩, E, Lw', hI'⟩, j5⟩
theorem S_act {x : Int32} (h : BT N m s S) (hn1 : 1 ≤ S.1) : wq (f_L_act N m 0 s x) (fun z => z.1 = xI 1 ∧ ∃ S', BT z.2.1 z.2.2 s S' ∧ S'.1 = S.1 ∧ (∀ j, j ≠ 1 → S'.2.1 j = S.2.1 j) ∧ N ≤ z.2.1 ∧ (lb (x >>> (8 &&& 31)) 6 < 3 → S' = a_whis S (lb x S.1) ((S.2.2.1 (lb x S.1)).1 0)) ∧ CS S S') := by
  have hB := h
  obtain ⟨hC, hN, ⟨Z, hZ, rfl⟩, E, Lw, hI⟩ := h
  have hn : Z.1 ≤ 10 := hI.1.1
  have hn1 : 1 ≤ Z.1 := hn1
  have q1 := S_below (m := m) (x := x) (n := (Z.1 : Nat)) (by omega)
  have q2 := (lb_eq x (n := (Z.1 : Nat)) (by omega)).2
  have q3 := S_below (m := m) (x := x >>> (8 &&& 31)) (n := 6) (by omega)
  have q4 := (lb_eq (x >>> (8 &&& 31)) (n := 6) (by omega)).2
  have hS1 : (uz Z).1 = Z.1 := rfl
  rw [hS1]
  generalize hkg : lb x (Z.1 : Nat) = k at q1 q2 ⊢
  generalize lb (x >>> (8 &&& 31)) 6 = w at q3 q4 ⊢
  have hk : k < Z.1 := by omega
  have hW := IN_Wa hI k hk
  have hDK : (uz Z).2.2.1 k = ud (Z.2.2.2.2.1 k) := rfl
  have hs0 : 0 ≤ (Z.2.2.2.2.1 k).2.2.2.1 0 ∧ (Z.2.2.2.2.1 k).2.2.2.1 0 ≤ 99 := hW.1
  obtain ⟨⟨⟨a1, a2, a3, a4, a5, a6, a7⟩, ⟨b1, b2, b3, b4, b5⟩⟩, c0, ⟨d1, d2⟩, e⟩ := hZ
  have hZ : ZR N m s Z := ⟨⟨⟨a1, a2, a3, a4, a5, a6, a7⟩, ⟨b1, b2, b3, b4, b5⟩⟩, c0, ⟨d1, d2⟩, e⟩
  have hrk : mr m Z.2.2.1 (xI (k : Nat)).toNatClampNeg = some (Z.2.2.2.2.1 k).1 := by rw [← b5 k hk]; simp (disch := omega) only [vin, mk_I, ml_I, mr_I, mk_R, ml_R, mi_R, mkN_eq, mlN_eq, miN_eq, mkN_ne, mlN_ne, miN_ne, mrN_ne, mi_eq, mi_na, mi_nj, mr_eq, mr_na, mr_nj, xL0, xL1, xL2, xL3, xL4, xL5, xL6, xL7, xL8, xL9, xL10, xL12, xL16, xL20, xL24, xL31, xL50, xL60, xL89, xL99, xL100, xL200, xI_add, xI_sub, xI_mul, xI_neg, xI_nat, xI_cl, Int.toNat_natCast, Int.reduceToNat, xltT, xltF, xleT, xleF, xeqT, xeqF, nleT, nleF, nltT, nltF, neqT, neqF, ileT, ileF, iltT, iltF, ieqT, ieqF, or_false, or_true, false_or, true_or, and_true, true_and, and_false, false_and, not_false_eq_true, not_true_eq_false, ↓reduceIte, if_true, if_false]
  have hdk := c0 k hk
  have p0 : mi m (Z.2.2.2.2.1 k).1 0 = xI ((Z.2.2.2.2.1 k).2.2.2.1 0) := hdk.2.1.1 0 (by omega)
  have p1 : mi m (Z.2.2.2.2.1 k).1 1 = xI ((Z.2.2.2.2.1 k).2.2.2.1 1) := hdk.2.1.1 1 (by omega)
  have p2 : mi m (Z.2.2.2.2.1 k).1 2 = xI ((Z.2.2.2.2.1 k).2.2.2.1 2) := hdk.2.1.1 2 (by omega)
  have q4k := hdk.1.2.2.1
  have hqN := hdk.1.2.1
  have hq149 := hdk.1.1
  -- a whisper of the secret at both
  have hwhisper : wq (Option.bind (mr m s 0) fun y11 =>
    if mk m y11 = 9 then
    if vin (xI (k : Nat)) (ml m y11) then
    Option.bind (mr m y11 (xI (k : Nat)).toNatClampNeg) fun y15 =>
    if mk m y15 = 4 then
    if mk m 0 = 3 then
    Option.bind (f_X3_whisper m 0 (xI (k : Nat)) ((mi m y15 0))) fun q19 =>
    if mk q19.2 s = 5 then
    Option.bind (mr q19.2 s 0) fun y24 =>
    if mk q19.2 y24 = 9 then
    if vin (xI (k : Nat)) (ml q19.2 y24) then
    Option.bind (mr q19.2 y24 (xI (k : Nat)).toNatClampNeg) fun y28 =>
    if mk q19.2 y28 = 4 then
    Option.bind (f_X5_whisper N q19.2 s (xI (k : Nat)) ((mi q19.2 y28 0))) fun q31 =>
    if q19.1 = q31.1 then (
      some ((1 : Int32), q31.2.1, q31.2.2)
    ) else (
      some ((0 : Int32), q31.2.1, q31.2.2)
    )
    else none
    else none
    else none
    else none
    else none
    else none
    else none
    else none) (fun z => z.1 = xI 1 ∧ ∃ S', BT z.2.1 z.2.2 s S' ∧ S'.1 = (uz Z).1 ∧ (∀ j, j ≠ 1 → S'.2.1 j = (uz Z).2.1 j) ∧ N ≤ z.2.1 ∧ (w < 3 → S' = a_whis (uz Z) k (((uz Z).2.2.1 k).1 0)) ∧ CS (uz Z) S') := by
    refine w_b a4 ?_
    refine w_i b3 ?_
    refine w_i (by simp (disch := omega) only [vin, mk_I, ml_I, mr_I, mk_R, ml_R, mi_R, mkN_eq, mlN_eq, miN_eq, mkN_ne, mlN_ne, miN_ne, mrN_ne, mi_eq, mi_na, mi_nj, mr_eq, mr_na, mr_nj, xL0, xL1, xL2, xL3, xL4, xL5, xL6, xL7, xL8, xL9, xL10, xL12, xL16, xL20, xL24, xL31, xL50, xL60, xL89, xL99, xL100, xL200, xI_add, xI_sub, xI_mul, xI_neg, xI_nat, xI_cl, Int.toNat_natCast, Int.reduceToNat, xltT, xltF, xleT, xleF, xeqT, xeqF, nleT, nleF, nltT, nltF, neqT, neqF, ileT, ileF, iltT, iltF, ieqT, ieqF, or_false, or_true, false_or, true_or, and_true, true_and, and_false, false_and, not_false_eq_true, not_true_eq_false, ↓reduceIte, if_true, if_false, b4]) ?_
    refine w_b hrk ?_
    refine w_i q4k ?_
    refine w_i hC.1.1 ?_
    rw [p0]
    refine w_c (S_both hB hk hs0) ?_
    rintro z ⟨τ, rfl, h5, hτ, h2⟩
    refine w_i h5 ?_
    refine w_b (show mr (xW m τ) s 0 = some Z.2.2.1 from a4) ?_
    refine w_i (show mk (xW m τ) Z.2.2.1 = 9 from b3) ?_
    refine w_i (show vin (xI (k : Nat)) (ml (xW m τ) Z.2.2.1) by rw [ml_xW]; simp (disch := omega) only [vin, mk_I, ml_I, mr_I, mk_R, ml_R, mi_R, mkN_eq, mlN_eq, miN_eq, mkN_ne, mlN_ne, miN_ne, mrN_ne, mi_eq, mi_na, mi_nj, mr_eq, mr_na, mr_nj, xL0, xL1, xL2, xL3, xL4, xL5, xL6, xL7, xL8, xL9, xL10, xL12, xL16, xL20, xL24, xL31, xL50, xL60, xL89, xL99, xL100, xL200, xI_add, xI_sub, xI_mul, xI_neg, xI_nat, xI_cl, Int.toNat_natCast, Int.reduceToNat, xltT, xltF, xleT, xleF, xeqT, xeqF, nleT, nleF, nltT, nltF, neqT, neqF, ileT, ileF, iltT, iltF, ieqT, ieqF, or_false, or_true, false_or, true_or, and_true, true_and, and_false, false_and, not_false_eq_true, not_true_eq_false, ↓reduceIte, if_true, if_false, b4]) ?_
    refine w_b (show mr (xW m τ) Z.2.2.1 (xI (k : Nat)).toNatClampNeg = some (Z.2.2.2.2.1 k).1 from hrk) ?_
    refine w_i (show mk (xW m τ) (Z.2.2.2.2.1 k).1 = 4 from q4k) ?_
    have hp0 : mi (xW m τ) (Z.2.2.2.2.1 k).1 0 = xI ((Z.2.2.2.2.1 k).2.2.2.1 0) := by rw [mi_xW, hτ _ hq149]; exact p0
    rw [hp0]
    refine w_c h2 ?_
    rintro ⟨zc, N1, m1⟩ ⟨j1, j2, j3⟩
    have j1 : zc = _ := j1
    subst j1
    refine w_i rfl ?_
    exact w_s ⟨rfl, a_whis (uz Z) k ((Z.2.2.2.2.1 k).2.2.2.1 0), j2, whis_n, fun j hj => whis_g hj, j3, fun _ => rfl, whis_c hW.2.2.2.2.2.1⟩
  unfold f_L_act
  refine w_i a3 ?_
  refine w_b a4 ?_
  refine w_i b3 ?_
  rw [b4, xI_nat]
  refine w_b q1 ?_
  refine w_b q3 ?_
  by_cases c0 : w = 0
  · subst c0
    refine w_i rfl ?_
    exact hwhisper
  refine w_n (by rw [xL0, xeqF (by omega)]; exact fun h => h) ?_
  by_cases c1 : w = 1
  · subst c1
    refine w_i rfl ?_
    exact hwhisper
  refine w_n (by rw [xL1, xeqF (by omega)]; exact fun h => h) ?_
  by_cases c2 : w = 2
  · subst c2
    refine w_i rfl ?_
    exact hwhisper
  refine w_n (by rw [xL2, xeqF (by omega)]; exact fun h => h) ?_
  have hw3 : ∀ {P : Prop}, w < 3 → P := fun h => by omega
  by_cases c3 : w = 3
  · subst c3
    refine w_i rfl ?_
    refine w_b (S_below (n := 2) (by omega)) ?_
    by_cases g : lb (x >>> (4 &&& 31)) 2 = 0
    · refine w_i (by rw [g]; rfl) ?_
      exact w_s ⟨rfl, uz Z, hB, rfl, fun _ _ => rfl, Nat.le_refl _, fun h => hw3 h, CS_rfl⟩
    · have g2 := (lb_eq (x >>> (4 &&& 31)) (n := 2) (by omega)).2
      refine w_n (by rw [xL0, xeqF (by omega)]; exact fun h => h) ?_
      refine w_b (S_below (n := 100) (by omega)) ?_
      have g3 := (lb_eq (x >>> (2 &&& 31)) (n := 100) (by omega)).2
      refine w_i hC.1.1 ?_
      refine w_c (S_both (t := (lb (x >>> (2 &&& 31)) 100 : Nat)) hB hk (by omega)) ?_
      rintro z ⟨τ, rfl, h5, hτ, h2⟩
      refine w_b (S_below (m := xW m τ) (n := 100) (by omega)) ?_
      refine w_i h5 ?_
      refine w_c h2 ?_
      rintro ⟨zc, N1, m1⟩ ⟨j1, j2, j3⟩
      have j1 : zc = _ := j1
      subst j1
      refine w_i rfl ?_
      exact w_s ⟨rfl, _, j2, whis_n, fun j hj => whis_g hj, j3, fun h => hw3 h, whis_c hW.2.2.2.2.2.1⟩
  refine w_n (by rw [xL3, xeqF (by omega)]; exact fun h => h) ?_
  by_cases c4 : w = 4
  · subst c4
    refine w_i rfl ?_
    have hvin : vin (xI (k : Nat)) (ml m Z.2.2.1) := by simp (disch := omega) only [vin, mk_I, ml_I, mr_I, mk_R, ml_R, mi_R, mkN_eq, mlN_eq, miN_eq, mkN_ne, mlN_ne, miN_ne, mrN_ne, mi_eq, mi_na, mi_nj, mr_eq, mr_na, mr_nj, xL0, xL1, xL2, xL3, xL4, xL5, xL6, xL7, xL8, xL9, xL10, xL12, xL16, xL20, xL24, xL31, xL50, xL60, xL89, xL99, xL100, xL200, xI_add, xI_sub, xI_mul, xI_neg, xI_nat, xI_cl, Int.toNat_natCast, Int.reduceToNat, xltT, xltF, xleT, xleF, xeqT, xeqF, nleT, nleF, nltT, nltF, neqT, neqF, ileT, ileF, iltT, iltF, ieqT, ieqF, or_false, or_true, false_or, true_or, and_true, true_and, and_false, false_and, not_false_eq_true, not_true_eq_false, ↓reduceIte, if_true, if_false, b4]
    refine w_b a4 ?_
    refine w_i b3 ?_
    refine w_i hvin ?_
    refine w_b hrk ?_
    refine w_i q4k ?_
    refine w_b a4 ?_
    refine w_i b3 ?_
    refine w_i hvin ?_
    refine w_b hrk ?_
    refine w_i q4k ?_
    refine w_b a4 ?_
    refine w_i b3 ?_
    refine w_i hvin ?_
    refine w_b hrk ?_
    have r1 := (lb_eq (x >>> (3 &&& 31)) (n := 4) (by omega)).2
    have r2 := (lb_eq (x >>> (5 &&& 31)) (n := 20) (by omega)).2
    refine w_b (S_below (n := 4) (by omega)) ?_
    generalize lb (x >>> (3 &&& 31)) 4 = r at r1 ⊢
    refine w_i q4k ?_
    have hqs : (Z.2.2.2.2.1 k).1 ≠ s := fun e9 => by rw [e9, a3] at q4k; omega
    refine w_b (show mr (mI m (Z.2.2.2.2.1 k).1 2 (xI (r : Nat))) s 0 = _ from a4) ?_
    refine w_i (show mk (mI m (Z.2.2.2.2.1 k).1 2 (xI (r : Nat))) Z.2.2.1 = 9 from b3) ?_
    refine w_i (show vin (xI (k : Nat)) (ml (mI m (Z.2.2.2.2.1 k).1 2 (xI (r : Nat))) Z.2.2.1) from hvin) ?_
    refine w_b (show mr (mI m (Z.2.2.2.2.1 k).1 2 (xI (r : Nat))) Z.2.2.1 (xI (k : Nat)).toNatClampNeg = _ from hrk) ?_
    refine w_b (S_below (m := mI m (Z.2.2.2.2.1 k).1 2 (xI (r : Nat))) (n := 20) (by omega)) ?_
    generalize lb (x >>> (5 &&& 31)) 20 = p at r2 ⊢
    rw [show (1 : Int32) + xI (p : Nat) = xI ((p : Nat) + 1) by rw [xL1, xI_add, Int.add_comm]]
    have hd1 := dR_I (v := (r : Nat)) hdk (show 2 < 5 by omega)
    have hd2 := dR_I (v := (p : Nat) + 1) hd1 (show 1 < 5 by omega)
    have f2 : fM N (fun x => x = (Z.2.2.2.2.1 k).1) m (mI (mI m (Z.2.2.2.2.1 k).1 2 (xI (r : Nat))) (Z.2.2.2.2.1 k).1 1 (xI ((p : Nat) + 1))) := fM_trans (fM_I rfl) (fM_I (X := fun x => x = (Z.2.2.2.2.1 k).1) rfl) (Nat.le_refl _) (fun _ _ h => h)
    have hZ2 : ZR N (mI (mI m (Z.2.2.2.2.1 k).1 2 (xI (r : Nat))) (Z.2.2.2.2.1 k).1 1 (xI ((p : Nat) + 1))) s (zset Z k ((Z.2.2.2.2.1 k).1, (Z.2.2.2.2.1 k).2.1, (Z.2.2.2.2.1 k).2.2.1, fu (fu (Z.2.2.2.2.1 k).2.2.2.1 2 (r : Nat)) 1 ((p : Nat) + 1), (Z.2.2.2.2.1 k).2.2.2.2)) := ZR_set hZ hk f2 (Nat.le_refl _) hd2 rfl (e.2.1 k hk) (fun w hw => .inl ⟨w, hw, rfl⟩) (fun x _ hx => .inl hx)
    have hC2 : CV (mI (mI m (Z.2.2.2.2.1 k).1 2 (xI (r : Nat))) (Z.2.2.2.2.1 k).1 1 (xI ((p : Nat) + 1))) (uz Z) := CV_fr hC hn f2 hN (fun x _ hx => by rw [hx]; exact hq149)
    have o2 : mi (mI (mI m (Z.2.2.2.2.1 k).1 2 (xI (r : Nat))) (Z.2.2.2.2.1 k).1 1 (xI ((p : Nat) + 1))) (Z.2.2.2.2.1 k).1 2 = xI (r : Nat) := by rw [mi_nj (by omega), mi_eq]
    have o1 : mi (mI (mI m (Z.2.2.2.2.1 k).1 2 (xI (r : Nat))) (Z.2.2.2.2.1 k).1 1 (xI ((p : Nat) + 1))) (Z.2.2.2.2.1 k).1 1 = xI ((p : Nat) + 1) := mi_eq
    refine w_i q4k ?_
    refine w_b (show mr (mI (mI m (Z.2.2.2.2.1 k).1 2 (xI (r : Nat))) (Z.2.2.2.2.1 k).1 1 (xI ((p : Nat) + 1))) s 0 = _ from a4) ?_
    refine w_i (show mk (mI (mI m (Z.2.2.2.2.1 k).1 2 (xI (r : Nat))) (Z.2.2.2.2.1 k).1 1 (xI ((p : Nat) + 1))) Z.2.2.1 = 9 from b3) ?_
    refine w_i hvin ?_
    refine w_b (show mr (mI (mI m (Z.2.2.2.2.1 k).1 2 (xI (r : Nat))) (Z.2.2.2.2.1 k).1 1 (xI ((p : Nat) + 1))) Z.2.2.1 (xI (k : Nat)).toNatClampNeg = _ from hrk) ?_
    refine w_i q4k ?_
    refine w_b (show mr (mI (mI m (Z.2.2.2.2.1 k).1 2 (xI (r : Nat))) (Z.2.2.2.2.1 k).1 1 (xI ((p : Nat) + 1))) s 0 = _ from a4) ?_
    refine w_i (show mk (mI (mI m (Z.2.2.2.2.1 k).1 2 (xI (r : Nat))) (Z.2.2.2.2.1 k).1 1 (xI ((p : Nat) + 1))) Z.2.2.1 = 9 from b3) ?_
    refine w_i hvin ?_
    refine w_b (show mr (mI (mI m (Z.2.2.2.2.1 k).1 2 (xI (r : Nat))) (Z.2.2.2.2.1 k).1 1 (xI ((p : Nat) + 1))) Z.2.2.1 (xI (k : Nat)).toNatClampNeg = _ from hrk) ?_
    refine w_i q4k ?_
    refine w_i hC2.1.1 ?_
    rw [o1, o2]
    have hset := S_X3set (r := (r : Nat)) (p := (p : Nat) + 1) hC2.1 hC2.2 hn hk (by omega) (by omega)
    rw [xW_self] at hset
    refine w_c hset ?_
    rintro z ⟨τ, rfl, t1, t2⟩
    refine w_i (by rw [p1, p2, xL100, xI_mul, xI_add]; rfl) ?_
    refine w_s ⟨rfl, a_rule (uz Z) k (r : Nat) ((p : Nat) + 1), ⟨CV_cl hC2 t1, hN, ⟨_, ZR_cl hZ2 (fun x hx => t2 x (by omega)), ?_⟩, E, Lw, IN_rule hI hk (by omega) (by omega)⟩, rfl, fun _ _ => rfl, Nat.le_refl _, fun h => hw3 h, rule_c⟩
    rw [uz_set]; rfl
  refine w_n (by rw [xL4, xeqF (by omega)]; exact fun h => h) ?_
  have r1 := (lb_eq (x >>> (3 &&& 31)) (n := (Z.1 : Nat)) (by omega)).2
  have r2 := (lb_eq (x >>> (5 &&& 31)) (n := 5) (by omega)).2
  refine w_b (S_below (n := (Z.1 : Nat)) (by omega)) ?_
  refine w_b (S_below (n := 5) (by omega)) ?_
  rw [show (1 : Int32) + xI ((lb (x >>> (5 &&& 31)) 5 : Nat) : Int) = xI ((lb (x >>> (5 &&& 31)) 5 : Nat) + 1) by rw [xL1, xI_add, Int.add_comm]]
  refine w_c (S_link hB hk (o := lb (x >>> (3 &&& 31)) (Z.1 : Nat)) (by show lb _ _ < Z.1; omega) (by omega)) ?_
  rintro ⟨zc, N1, m1⟩ ⟨j1, S', j2, j3, j4, j5, j6⟩
  have j1 : zc = xI 1 := j1
  subst j1
  refine w_i (.inr rfl) ?_
  exact w_s ⟨rfl, S', j2, j3, fun j _ => by rw [j4], j5, fun h => hw3 h, ⟨by rw [j4]; omega, fun k => by rw [j6]; omega⟩⟩
end
