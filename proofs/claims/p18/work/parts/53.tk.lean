/-! what a tick does to one door -/
def HD (d d' : aD) : Prop := ((d'.1 0 = d.1 0 ∧ d'.1 1 = d.1 1 ∧ d'.1 2 = d.1 2 ∧ d'.1 5 = d.1 5 ∧ d'.1 6 = d.1 6) ∧ d'.2.1.length = d.2.1.length) ∧ ((d'.1 3 = d.1 3 ∧ d'.1 4 = d.1 4) ∨ (d.1 3 = 0 ∧ d'.1 3 = 1 ∧ d'.1 4 = d.1 1))
noncomputable def a_dd (d : aD) : aD := @ite _ (a_now d) (Classical.propDecidable _) (a_turn (fu d.1 4 (d.1 4 - 1)) (a_yes d), d.2.1, []) (if d.1 3 = 1 then (fu d.1 4 (d.1 4 - 1), d.2) else d)
noncomputable def a_uu (d : aD) : Int := @ite _ (a_now d) (Classical.propDecidable _) (a_yes d) 0
def sm (f : Nat → Int) (k : Nat) : Nat → Int
  | 0 => 0
  | r + 1 => f k + sm f (k + 1) r
theorem sm_ext {f g : Nat → Int} : ∀ r k, (∀ j, k ≤ j → j < k + r → f j = g j) → sm f k r = sm g k r := by
  intro r
  induction r with
  | zero => intro k _; rfl
  | succ r ih =>
    intro k h
    show f k + sm f (k + 1) r = g k + sm g (k + 1) r
    rw [h k (by omega) (by omega), ih (k + 1) (fun j h1 h2 => h j (by omega) (by omega))]
section
variable {E : Nat → List (Int × Int)} {Lw : Nat → Int} {S : aS} {k : Nat} {d d1 d2 : aD}
theorem HD_rfl : HD d d := ⟨⟨⟨rfl, rfl, rfl, rfl, rfl⟩, rfl⟩, .inl ⟨rfl, rfl⟩⟩
theorem HD_eq (h : d1.1 = d.1) (hl : d1.2.1.length = d.2.1.length) : HD d d1 := by
  unfold HD; rw [h]; exact ⟨⟨⟨rfl, rfl, rfl, rfl, rfl⟩, hl⟩, .inl ⟨rfl, rfl⟩⟩
theorem HD_trans (h : HD d d1) (g : HD d1 d2) : HD d d2 := by
  obtain ⟨⟨⟨a0, a1, a2, a5, a6⟩, al⟩, a⟩ := h
  obtain ⟨⟨⟨b0, b1, b2, b5, b6⟩, bl⟩, b⟩ := g
  refine ⟨⟨⟨by omega, by omega, by omega, by omega, by omega⟩, by omega⟩, ?_⟩
  omega
theorem wake_HD (e : (S.2.2.1 k).1 3 = 0) (j : Nat) : HD (S.2.2.1 j) ((a_wake S k).2.2.1 j) := by
  unfold a_wake; rw [asks_d]; unfold a_wake0 du
  show HD _ (if j = k then _ else S.2.2.1 j)
  by_cases g : j = k
  · rw [if_pos g, g]
    have hl : (a_unask (S.2.2.1 k).2.1).length = (S.2.2.1 k).2.1.length := by unfold a_unask; rw [List.length_map]
    refine ⟨⟨⟨?_, ?_, ?_, ?_, ?_⟩, hl⟩, .inr ⟨e, ?_, ?_⟩⟩ <;> simp [fu]
  · rw [if_neg g]; exact HD_rfl
theorem hear_HD {v : aR} (j : Nat) : HD (S.2.2.1 j) ((a_hear S v).2.2.1 j) := by
  unfold a_hear
  split
  · split
    · unfold a_told du
      show HD _ (if j = (v 1).toNat then _ else S.2.2.1 j)
      by_cases g : j = (v 1).toNat
      · rw [if_pos g, g]
        exact HD_eq rfl (by show (a_take _ _ _).length = _; unfold a_take; rw [List.length_map])
      · rw [if_neg g]; exact HD_rfl
    · exact HD_rfl
  · split
    · rw [send_d]; exact HD_rfl
    · have hk : ∀ T : aS, HD (T.2.2.1 j) ((a_keep T (v 1).toNat (r6 (v 0) (v 4) (v 5) 0 0 0)).2.2.1 j) := by
        intro T
        unfold a_keep du
        show HD _ (if j = (v 1).toNat then _ else T.2.2.1 j)
        by_cases g : j = (v 1).toNat
        · rw [if_pos g, g]; exact HD_eq rfl rfl
        · rw [if_neg g]; exact HD_rfl
      split
      · rename_i g; exact HD_trans (wake_HD g j) (hk _)
      · exact hk _
theorem hears_HD (j : Nat) : ∀ (L : List aR) (S : aS), HD (S.2.2.1 j) ((a_hears S L).2.2.1 j) := by
  intro L
  induction L with
  | nil => intro S; exact HD_rfl
  | cons v L ih => intro S; exact HD_trans (hear_HD j) (ih (a_hear S v))
theorem hear_1 {v : aR} (h : (S.2.2.1 (v 1).toNat).2.1.length ≤ 4) : S.2.1 1 ≤ (a_hear S v).2.1 1 ∧ (a_hear S v).2.1 1 ≤ S.2.1 1 + 4 := by
  unfold a_hear
  split
  · split
    · show S.2.1 1 ≤ S.2.1 1 ∧ S.2.1 1 ≤ S.2.1 1 + 4; omega
    · omega
  · split
    · have h1 := send_1 (S := S) (f := v 1) (t := v 0) (w := (if (S.2.2.1 (v 1).toNat).1 3 = 2 then 2 else 1)) (l := v 4)
      omega
    · show S.2.1 1 ≤ (if _ then a_wake _ _ else _ : aS).2.1 1 ∧ (if _ then a_wake _ _ else _ : aS).2.1 1 ≤ _
      split
      · have h1 := wake_1 (S := S) (k := (v 1).toNat)
        omega
      · omega
theorem hears_1 : ∀ (L : List aR) (S : aS), (∀ v ∈ L, (S.2.2.1 (v 1).toNat).2.1.length ≤ 4) → S.2.1 1 ≤ (a_hears S L).2.1 1 ∧ (a_hears S L).2.1 1 ≤ S.2.1 1 + 4 * L.length := by
  intro L
  induction L with
  | nil => intro S _; exact ⟨Int.le_refl _, by show S.2.1 1 ≤ _; simp⟩
  | cons v L ih =>
    intro S h
    have h1 := ih (a_hear S v) (fun w hw => by rw [(hear_HD (S := S) (v := v) _).1.2]; exact h w (List.mem_cons_of_mem _ hw))
    have h2 := hear_1 (v := v) (h v List.mem_cons_self)
    show S.2.1 1 ≤ (a_hears (a_hear S v) L).2.1 1 ∧ (a_hears (a_hear S v) L).2.1 1 ≤ _
    rw [List.length_cons]; omega
theorem dk_d {j : Nat} : (a_dk S k).2.2.1 j = if j = k then a_dd (S.2.2.1 k) else S.2.2.1 j := by
  unfold a_dk a_dd
  by_cases e : a_now (S.2.2.1 k)
  · rw [if_pos e, if_pos e, tells_d]; rfl
  · rw [if_neg e, if_neg e]
    by_cases e1 : (S.2.2.1 k).1 3 = 1
    · rw [if_pos e1, if_pos e1]; rfl
    · rw [if_neg e1, if_neg e1]
      by_cases g : j = k
      · rw [if_pos g, g]
      · rw [if_neg g]
theorem dks_d {j : Nat} : ∀ (r k : Nat) (S : aS), (a_dks S k r).2.2.2.1 j = if k ≤ j ∧ j < k + r then a_dd (S.2.2.1 j) else S.2.2.1 j := by
  intro r
  induction r with
  | zero =>
    intro k S
    rw [if_neg (by omega)]; rfl
  | succ r ih =>
    intro k S
    show (a_dks (a_dk S k) (k + 1) r).2.2.2.1 j = _
    rw [ih (k + 1) (a_dk S k), dk_d]
    by_cases g : j = k
    · rw [if_neg (by omega), if_pos g, if_pos (by omega), g]
    · by_cases g2 : k + 1 ≤ j ∧ j < k + 1 + r
      · rw [if_pos g2, if_neg g, if_pos (by omega)]
      · rw [if_neg g2, if_neg g, if_neg (by omega)]
theorem dks_u : ∀ (r k : Nat) (S : aS), (a_dks S k r).1 = sm (fun j => a_uu (S.2.2.1 j)) k r := by
  intro r
  induction r with
  | zero => intro k S; rfl
  | succ r ih =>
    intro k S
    show a_up S k + (a_dks (a_dk S k) (k + 1) r).1 = a_uu (S.2.2.1 k) + sm _ (k + 1) r
    rw [ih (k + 1) (a_dk S k)]
    congr 1
    refine sm_ext r (k + 1) (fun j h1 h2 => ?_)
    show a_uu ((a_dk S k).2.2.1 j) = _
    rw [dk_d, if_neg (by omega)]
theorem dk_1 : S.2.1 1 ≤ (a_dk S k).2.1 1 ∧ (a_dk S k).2.1 1 ≤ S.2.1 1 + (S.2.2.1 k).2.2.length := by
  unfold a_dk
  split
  · exact tells_1 _ _
  · split
    · show S.2.1 1 ≤ S.2.1 1 ∧ S.2.1 1 ≤ S.2.1 1 + _; omega
    · omega
theorem dks_1 : ∀ (r k : Nat) (S : aS), (∀ j, k ≤ j → j < k + r → (S.2.2.1 j).2.2.length ≤ 60) → S.2.1 1 ≤ (a_dks S k r).2.2.1 1 ∧ (a_dks S k r).2.2.1 1 ≤ S.2.1 1 + 60 * r := by
  intro r
  induction r with
  | zero => intro k S _; exact ⟨Int.le_refl _, by show S.2.1 1 ≤ _; simp⟩
  | succ r ih =>
    intro k S h
    have h1 := ih (k + 1) (a_dk S k) (fun j h1 h2 => by rw [dk_d, if_neg (by omega)]; exact h j (by omega) (by omega))
    have h2 := dk_1 (S := S) (k := k)
    have h3 := h k (by omega) (by omega)
    show S.2.1 1 ≤ (a_dks (a_dk S k) (k + 1) r).2.2.1 1 ∧ (a_dks (a_dk S k) (k + 1) r).2.2.1 1 ≤ _
    omega
/-- what a tick may do to the numbers of a door -/
def TD (d d3 : aD) : Prop := (0 ≤ d3.1 5 - d.1 5 ∧ 0 ≤ d3.1 6 - d.1 6 ∧ (d3.1 5 - d.1 5) + (d3.1 6 - d.1 6) ≤ 1) ∧ (d3.1 5 - d.1 5 = 1 → d3.1 3 = 2 ∧ d3.1 4 = 12) ∧ (d3.1 6 - d.1 6 = 1 → d3.1 3 = 3 ∧ d3.1 4 = 4) ∧ (d3.1 3 = 0 ↔ d3.1 4 = 0) ∧ (1 < d.1 3 → 1 < d.1 4 → d3.1 3 = d.1 3 ∧ d3.1 4 = d.1 4 - 1) ∧ (d.1 3 = 1 → d3.1 3 ≠ 0 ∧ (d3.1 3 = 1 → d3.1 4 = d.1 4 - 1) ∧ (1 < d3.1 3 → (d3.1 5 - d.1 5) + (d3.1 6 - d.1 6) = 1)) ∧ (d.1 3 = 0 → 1 < d3.1 3 → (d3.1 5 - d.1 5) + (d3.1 6 - d.1 6) = 1) ∧ (d.1 3 = 1 → d.1 4 = 1 → d3.1 3 ≠ 1) ∧ (d3.1 3 = 1 → nA 0 d3.2.1 + nA 1 d3.2.1 ≠ d3.2.1.length)
theorem spend_n {f : aR} : (a_spend f 0 = f 0 ∧ a_spend f 1 = f 1 ∧ a_spend f 2 = f 2 ∧ a_spend f 5 = f 5 ∧ a_spend f 6 = f 6) ∧ ((f 3 < 2 ∧ a_spend f 3 = f 3 ∧ a_spend f 4 = f 4) ∨ (2 ≤ f 3 ∧ f 4 - 1 ≤ 0 ∧ a_spend f 3 = 0 ∧ a_spend f 4 = 0) ∨ (2 ≤ f 3 ∧ 0 < f 4 - 1 ∧ a_spend f 3 = f 3 ∧ a_spend f 4 = f 4 - 1)) := by
  unfold a_spend
  by_cases g : f 3 < 2
  · rw [if_pos g]; exact ⟨⟨rfl, rfl, rfl, rfl, rfl⟩, .inl ⟨g, rfl, rfl⟩⟩
  · rw [if_neg g]
    by_cases g2 : f 4 - 1 ≤ 0
    · rw [if_pos g2]
      exact ⟨⟨rfl, rfl, rfl, rfl, rfl⟩, .inr (.inl ⟨by omega, g2, rfl, rfl⟩)⟩
    · rw [if_neg g2]
      exact ⟨⟨rfl, rfl, rfl, rfl, rfl⟩, .inr (.inr ⟨by omega, by omega, rfl, rfl⟩)⟩
theorem turn_n {f : aR} {i : Int} (hi : i = 0 ∨ i = 1) : (i = 1 → a_turn f i 3 = 2 ∧ a_turn f i 4 = 12) ∧ (i = 0 → a_turn f i 3 = 3 ∧ a_turn f i 4 = 4) := by
  unfold a_turn
  rcases hi with h | h <;> subst h <;> simp [fu]
theorem TD_all {f : aR} {d : aD} {d1 d2 : aD} (hd : (d.1 3 = 0 ∧ d.1 4 = 0) ∨ (d.1 3 = 1 ∧ 1 ≤ d.1 4) ∨ (d.1 3 = 2 ∧ 1 ≤ d.1 4) ∨ (d.1 3 = 3 ∧ 1 ≤ d.1 4)) (hp : 1 ≤ d.1 1) (e1 : d1.1 = a_spend d.1) (h2 : HD d1 d2) (h1 : ∀ x, 1 ≤ d2.1 1 → d2.1 3 = x → x = 1 → 1 ≤ d2.1 4) : TD d (a_dd d2) ∧ (a_dd d2).1 5 - d.1 5 = a_uu d2 := by
  have hs := spend_n (f := d.1)
  rw [← e1] at hs
  obtain ⟨⟨s0, s1, s2, s5, s6⟩, hs⟩ := hs
  obtain ⟨⟨⟨a0, a1, a2, a5, a6⟩, al⟩, a⟩ := h2
  have h1' : d2.1 3 = 1 → 1 ≤ d2.1 4 := fun h => h1 _ (by omega) rfl h
  unfold a_dd a_uu
  by_cases e : a_now d2
  · rw [if_pos e, if_pos e]
    have hy := a_yes01 (d := d2)
    have ht := turn_n (f := fu d2.1 4 (d2.1 4 - 1)) (i := a_yes d2) hy
    have h5 := turn_5 (f := fu d2.1 4 (d2.1 4 - 1)) (i := a_yes d2) hy
    rw [fu_ne (by omega), fu_ne (by omega)] at h5
    obtain ⟨e3, _⟩ := e
    unfold TD
    dsimp only
    generalize a_turn (fu d2.1 4 (d2.1 4 - 1)) (a_yes d2) = t at ht h5 ⊢
    generalize a_yes d2 = y at hy ht h5 ⊢
    refine ⟨⟨?_, ?_, ?_, ?_, ?_, ?_, ?_, ?_, ?_⟩, ?_⟩ <;> omega
  · rw [if_neg e, if_neg e]
    by_cases g : d2.1 3 = 1
    · rw [if_pos g]
      have h4 : ¬ (d2.1 4 - 1 ≤ 0) := fun h => e ⟨g, .inl h⟩
      have hna : nA 0 d2.2.1 + nA 1 d2.2.1 ≠ d2.2.1.length := fun h => e ⟨g, .inr h⟩
      have e3 : fu d2.1 4 (d2.1 4 - 1) 3 = d2.1 3 := fu_ne (by omega)
      have e4 : fu d2.1 4 (d2.1 4 - 1) 4 = d2.1 4 - 1 := fu_eq
      have e5 : fu d2.1 4 (d2.1 4 - 1) 5 = d2.1 5 := fu_ne (by omega)
      have e6 : fu d2.1 4 (d2.1 4 - 1) 6 = d2.1 6 := fu_ne (by omega)
      unfold TD
      dsimp only
      rw [e3, e4, e5, e6]
      refine ⟨⟨?_, ?_, ?_, ?_, ?_, ?_, ?_, ?_, fun _ => hna⟩, ?_⟩ <;> omega
    · rw [if_neg g]
      unfold TD
      refine ⟨⟨?_, ?_, ?_, ?_, ?_, ?_, ?_, ?_, fun h => absurd h g⟩, ?_⟩ <;> omega
end
