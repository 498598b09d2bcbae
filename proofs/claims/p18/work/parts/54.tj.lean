section
variable {E : Nat → List (Int × Int)} {Lw : Nat → Int} {S T : aS} {k : Nat} {d d1 d2 : aD}
theorem t3_n : (a_t3 S).2.1 = S.1 := by
  have : ∀ (r k : Nat) (T : aS), (a_dks T k r).2.1 = T.1 := by
    intro r
    induction r with
    | zero => intro k T; rfl
    | succ r ih => intro k T; exact (ih (k + 1) (a_dk T k)).trans dk_n
  exact (this _ _ _).trans a_t2_n
theorem tick_n : (a_tick S).1 = S.1 := t3_n
theorem hears_0 {j : Nat} (hj : j ≠ 1) : ∀ (L : List aR) (T : aS), (a_hears T L).2.1 j = T.2.1 j := by
  intro L
  induction L with
  | nil => intro T; rfl
  | cons v L ih =>
    intro T
    refine (ih (a_hear T v)).trans ?_
    unfold a_hear
    split
    · split <;> rfl
    · split
      · exact send_g hj
      · show (if _ then a_wake _ _ else _ : aS).2.1 j = _
        split
        · exact asks_g hj
        · rfl
theorem dks_0 {j : Nat} (hj : j ≠ 1) : ∀ (r k : Nat) (T : aS), (a_dks T k r).2.2.1 j = T.2.1 j := by
  intro r
  induction r with
  | zero => intro k T; rfl
  | succ r ih =>
    intro k T
    refine (ih (k + 1) (a_dk T k)).trans ?_
    unfold a_dk
    split
    · exact tells_g hj
    · split <;> rfl
theorem tick_0 : (a_tick S).2.1 0 = S.2.1 0 + 1 := by
  show fu (a_t3 S).2.2.1 0 ((a_t3 S).2.2.1 0 + 1) 0 = _
  rw [fu_eq]
  unfold a_t3 a_t2
  rw [dks_0 (by omega), hears_0 (by omega)]
  show fu S.2.1 2 (S.2.1 2 + 1) 0 + 1 = _
  rw [fu_ne (by omega)]
theorem tick_k (hk : k < S.1) : (a_tick S).2.2.1 k = a_dd ((a_t2 S).2.2.1 k) := by
  show (a_dks (a_t2 S) 0 (a_t2 S).1).2.2.2.1 k = _
  rw [dks_d, if_pos (by rw [a_t2_n]; omega)]
theorem tick_o (hk : ¬ k < S.1) : (a_tick S).2.2.1 k = (a_t2 S).2.2.1 k := by
  show (a_dks (a_t2 S) 0 (a_t2 S).1).2.2.2.1 k = _
  rw [dks_d, if_neg (by rw [a_t2_n]; omega)]
theorem t2_HD (k : Nat) : HD ((a_t1 S).2.2.1 k) ((a_t2 S).2.2.1 k) := hears_HD k _ (a_t1 S)
theorem tick_b (hI : INm E Lw S [] (fun _ => 20)) (hk : k < S.1) : TD (S.2.2.1 k) ((a_tick S).2.2.1 k) ∧ ((a_tick S).2.2.1 k).1 5 - (S.2.2.1 k).1 5 = a_uu ((a_t2 S).2.2.1 k) := by
  rw [tick_k hk]
  have hd : DI S.1 (S.2.1 2) E Lw 20 k (S.2.2.1 k) := hI.2.1 k hk
  obtain ⟨Lw', h2⟩ := IN_t2 hI
  have hd2 : DI (a_t2 S).1 ((a_t2 S).2.1 2) E Lw' 21 k ((a_t2 S).2.2.1 k) := h2.2.1 k (by rw [a_t2_n]; exact hk)
  obtain ⟨⟨⟨b1, b2, b3⟩, b4, hq⟩, g2, g3, g4⟩ := hd
  obtain ⟨⟨⟨c1, c2, c3⟩, c4, hq2⟩, _⟩ := hd2
  have e1 : ((a_t1 S).2.2.1 k).1 = a_spend (S.2.2.1 k).1 := congrArg Prod.fst (show (a_t1 S).2.2.1 k = (a_spend (S.2.2.1 k).1, (S.2.2.1 k).2) from if_pos hk)
  exact TD_all (f := fun _ => 0) (d := S.2.2.1 k) (by omega) (by omega) e1 (t2_HD k) (fun x _ h h9 => by omega)
theorem tick_sum (hI : INm E Lw S [] (fun _ => 20)) : (a_t3 S).1 = sm (fun k => ((a_tick S).2.2.1 k).1 5 - (S.2.2.1 k).1 5) 0 S.1 := by
  unfold a_t3
  rw [dks_u, a_t2_n]
  refine sm_ext _ _ (fun j _ h => ?_)
  exact (tick_b hI (k := j) (by omega)).2.symm
theorem tick_CS (hI : INm E Lw S [] (fun _ => 20)) : CS S (a_tick S) := by
  have hn : S.1 ≤ 10 := hI.1.1
  have hv : ∀ v ∈ S.2.2.2, VQ S.1 (S.2.1 2) E Lw v := hI.2.2.2.2.2.1
  have hvl : S.2.2.2.length ≤ 60 := hI.2.2.1
  refine ⟨?_, fun k => ?_⟩
  · have e0 : (a_tick S).2.1 1 = (a_dks (a_t2 S) 0 (a_t2 S).1).2.2.1 1 := by
      show fu (a_t3 S).2.2.1 0 ((a_t3 S).2.2.1 0 + 1) 1 = _
      rw [fu_ne (by omega)]; rfl
    have hl : (a_due S.2.2.2).length ≤ 60 := by
      refine Nat.le_trans (List.length_filter_le _ _) ?_
      rw [List.length_map]; exact hvl
    have h1 := hears_1 (a_due S.2.2.2) (a_t1 S) (fun v hv2 => by
      have : v ∈ S.2.2.2.map a_dec := (List.mem_filter.mp hv2).1
      obtain ⟨u, hu, e⟩ := List.mem_map.mp this
      have hvu := (hv u hu).1
      have e1 : v 1 = u 1 := by rw [← e]; exact dec_o (by omega)
      have hk : (v 1).toNat < S.1 := by rw [e1]; omega
      have e2 : (a_t1 S).2.2.1 (v 1).toNat = (a_spend (S.2.2.1 (v 1).toNat).1, (S.2.2.1 (v 1).toNat).2) := if_pos hk
      rw [e2]
      exact (IN_Wa hI _ hk).2.2.2.2.2.1)
    have e1 : (a_t1 S).2.1 1 = S.2.1 1 := by
      show fu S.2.1 2 (S.2.1 2 + 1) 1 = _
      rw [fu_ne (by omega)]
    obtain ⟨Lw', h2⟩ := IN_t2 hI
    have h3 := dks_1 (a_t2 S).1 0 (a_t2 S) (fun j _ hj => (IN_Wa h2 j (by omega)).2.2.2.2.2.2.1)
    have hn2 : (a_t2 S).1 ≤ 10 := by rw [a_t2_n]; exact hn
    have e2 : (a_t2 S).2.1 1 = (a_hears (a_t1 S) (a_due S.2.2.2)).2.1 1 := rfl
    rw [e0]; omega
  · by_cases hk : k < S.1
    · have h := (tick_b hI hk).1.1
      omega
    · have h := (t2_HD (S := S) k).1.1
      have e : (a_t1 S).2.2.1 k = S.2.2.1 k := if_neg hk
      rw [e] at h
      rw [tick_o hk]
      omega
/-! when a door opens at the soonest -/
theorem opl_r : ∀ (r : Nat) (T : aS) (i : Int), a_opl T k i r = -1 ∨ (i ≤ a_opl T k i r ∧ a_opl T k i r < i + r) := by
  intro r
  induction r with
  | zero => intro T i; exact .inl rfl
  | succ r ih =>
    intro T i
    unfold a_opl
    split
    · exact .inr ⟨Int.le_refl _, by omega⟩
    · rcases ih (a_tick T) (i + 1) with h | h
      · exact .inl h
      · exact .inr (by omega)
theorem opl_s : ∀ (r : Nat) (T : aS) (i : Int), a_opl T k (i + 1) r = -1 ∨ a_opl T k i (r + 1) = a_opl T k (i + 1) r - 1 := by
  intro r
  induction r with
  | zero => intro T i; exact .inl rfl
  | succ r ih =>
    intro T i
    by_cases e : ((a_tick T).2.2.1 k).1 3 = 2
    · refine .inr ?_
      have e1 : a_opl T k i (r + 1 + 1) = i := if_pos e
      have e2 : a_opl T k (i + 1) (r + 1) = i + 1 := if_pos e
      rw [e1, e2]; omega
    · have e1 : a_opl T k i (r + 1 + 1) = a_opl (a_tick T) k (i + 1) (r + 1) := if_neg e
      have e2 : a_opl T k (i + 1) (r + 1) = a_opl (a_tick T) k (i + 1 + 1) r := if_neg e
      rw [e1, e2]
      exact ih (a_tick T) (i + 1)
theorem ops_all : (-1 ≤ a_ops S k ∧ a_ops S k ≤ 100) ∧ (1 < a_ops S k → a_ops (a_tick S) k = a_ops S k - 1) ∧ (a_ops S k = 1 → ((a_tick S).2.2.1 k).1 3 = 2) := by
  by_cases e : (S.2.2.1 k).1 3 = 2
  · have e1 : a_ops S k = 0 := if_pos e
    rw [e1]
    exact ⟨by omega, fun h => by omega, fun h => by omega⟩
  · have e1 : a_ops S k = a_opl S k 1 100 := if_neg e
    rw [e1]
    have hr := opl_r (k := k) 100 S 1
    refine ⟨by omega, fun h => ?_, fun h => ?_⟩
    · by_cases e2 : ((a_tick S).2.2.1 k).1 3 = 2
      · have e3 : a_opl S k 1 100 = 1 := if_pos e2
        omega
      · have e3 : a_opl S k 1 100 = a_opl (a_tick S) k (1 + 1) 99 := if_neg e2
        have e4 : a_ops (a_tick S) k = a_opl (a_tick S) k 1 (99 + 1) := if_neg e2
        rw [e4]
        rcases opl_s (k := k) 99 (a_tick S) 1 with g | g
        · omega
        · rw [e3]; exact g
    · by_cases e2 : ((a_tick S).2.2.1 k).1 3 = 2
      · exact e2
      · have e3 : a_opl S k 1 100 = a_opl (a_tick S) k (1 + 1) 99 := if_neg e2
        have hr2 := opl_r (k := k) 99 (a_tick S) (1 + 1)
        omega
end
