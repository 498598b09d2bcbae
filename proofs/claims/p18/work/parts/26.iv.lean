theorem nd_le {l : List Nat} {N : Nat} (h : l.Pairwise (fun a b => a ≠ b)) (hb : ∀ x ∈ l, x < N) : l.length ≤ N := by
  have := List.Nodup.length_le_of_subset (l₁ := l) (l₂ := List.range N) h (fun x hx => List.mem_range.mpr (hb x hx))
  rwa [List.length_range] at this
section
variable {n : Nat} {θ : Int} {E : Nat → List (Int × Int)} {Lw : Nat → Int} {k : Nat} {l : List aR}
theorem E_one (hE : EI n E) (hk : k < n) {o s t : Int} (h1 : (o, s) ∈ E k) (h2 : (o, t) ∈ E k) : s = t := by
  have hp := (hE k hk).2.2
  obtain ⟨i, hi, e1⟩ := List.mem_iff_getElem.mp h1
  obtain ⟨j, hj, e2⟩ := List.mem_iff_getElem.mp h2
  rcases Nat.lt_trichotomy i j with g | g | g
  · have := List.pairwise_iff_getElem.mp hp i j hi hj g
    rw [e1, e2] at this; exact absurd rfl this
  · subst g; rw [e1] at e2; exact congrArg Prod.snd e2
  · have := List.pairwise_iff_getElem.mp hp j i hj hi g
    rw [e1, e2] at this; exact absurd rfl this
/-- no door remembers more than sixty questions -/
theorem KI_len (hE : EI n E) (hn : n ≤ 10) (h : KI n θ E Lw k l) (hw : θ - Lw k ≤ 20) : l.length ≤ 60 := by
  have h1 : (l.map (fun q : aR => (q 0).toNat * 6 + ((q 2 + q 1 - Lw k) / 4).toNat)).length ≤ 60 := by
    refine nd_le ?_ ?_
    · rw [List.pairwise_map]
      have hp := h.2
      have hm := h.1
      refine List.Pairwise.imp_of_mem ?_ hp
      intro a b ha hb hab e
      obtain ⟨a1, a2, a3, a4, a5⟩ := hm a ha
      obtain ⟨b1, b2, b3, b4, b5⟩ := hm b hb
      have e0 : a 0 = b 0 := by omega
      rw [← e0] at b2
      have e1 : a 1 = b 1 := E_one hE (by omega) a2 b2
      have := hab e0
      omega
    · intro x hx
      obtain ⟨q, hq, rfl⟩ := List.mem_map.mp hx
      obtain ⟨a1, a2, a3, a4, a5⟩ := h.1 q hq
      omega
  rwa [List.length_map] at h1
end
section
variable {E : Nat → List (Int × Int)} {Lw : Nat → Int} {S : aS} {pend : List aR} {c : Nat → Int} {k : Nat} {v : aR}
theorem IN_kept (h : INm E Lw S pend c) (hk : k < S.1) : (S.2.2.1 k).2.2.length ≤ 60 := by
  have h1 := h.2.1 k hk
  by_cases e : (S.2.2.1 k).1 3 = 1
  · refine KI_len h.1.2.1 h.1.1 h1.2.2.2 ?_
    have := h1.1.2.2
    have := h.1.2.2 k hk
    omega
  · rw [h1.2.2.1 e]; exact Nat.zero_le _
theorem IN_told {o w : Int} (h : INm E Lw S pend c) (hk : k < S.1) (hw : w = 0 ∨ w = 1) : INm E Lw (a_told S k o w) pend c := by
  have h1 := h.2.1 k hk
  refine IN_door h ⟨h1.1, ⟨by show sk (a_take _ _ _) = _; rw [sk_take]; exact h1.2.1.1, fun a ha => ?_⟩, h1.2.2.1, h1.2.2.2⟩ (fun v hv e => ?_)
  · obtain ⟨b, hb, rfl⟩ := List.mem_map.mp ha
    have := h1.2.1.2 b hb
    by_cases g : b 0 = o ∧ b 2 < 0
    · simp only [if_pos g, fu_eq]; omega
    · simp only [if_neg g]; exact this
  · have := h.2.2.2.2.2.2.2 v hv
    rw [e] at this; exact this
theorem IN_keep (h : INm E Lw S (v :: pend) c) (h2 : v 2 = 0) (hk : (v 1).toNat = k) (h3 : (S.2.2.1 k).1 3 = 1) : INm E Lw (a_keep S k (r6 (v 0) (v 4) (v 5) 0 0 0)) pend c := by
  have hv := h.2.2.2.2.2.1 v List.mem_cons_self
  have hx := h.2.2.2.2.2.2.2 v List.mem_cons_self
  have h0 := h.2.2.2.2.1 v List.mem_cons_self
  have hp := List.pairwise_cons.mp h.2.2.2.2.2.2.1
  have hkn : k < S.1 := by have := hv.1; omega
  have h1 := h.2.1 k hkn
  have hq := h1.1.2.2
  obtain ⟨hv1, hv2 | hv2⟩ := hv
  · change INc S.1 (S.2.1 2) E Lw (du S.2.2.1 k ((S.2.2.1 k).1, (S.2.2.1 k).2.1, (S.2.2.1 k).2.2 ++ [r6 (v 0) (v 4) (v 5) 0 0 0])) S.2.2.2 pend c
    refine IN_door (IN_pop h) ⟨h1.1, h1.2.1, fun g => absurd h3 g, fun q hq => ?_, ?_⟩ (fun u hu e => ?_)
    · rcases List.mem_append.mp hq with g | g
      · exact h1.2.2.2.1 q g
      · rw [List.mem_singleton.mp g]
        simp [r6]
        refine ⟨by omega, ?_, by omega, by omega, by omega⟩
        have e : (k : Int) = v 1 := by omega
        rw [e]; exact hv2.2.1
    · rw [List.pairwise_append]
      refine ⟨h1.2.2.2.2, List.pairwise_singleton _ _, fun a ha b hb => ?_⟩
      rw [List.mem_singleton.mp hb]
      intro e
      simp [r6] at e ⊢
      have := hx h2 a (by rw [hk]; exact ha) e
      omega
    · intro u2 q hq e0
      rcases List.mem_append.mp hq with g | g
      · have := h.2.2.2.2.2.2.2 u (List.mem_cons_of_mem _ hu) u2 q
        rw [e] at this; exact this g e0
      · rw [List.mem_singleton.mp g] at e0 ⊢
        simp [r6] at e0 ⊢
        have := hp.1 u hu h2 u2 e0 (by omega)
        omega
  · omega
theorem IN_hear (h : INm E Lw S (v :: pend) c) (hc : ∀ k, k < S.1 → 20 ≤ c k) : ∃ Lw', INm E Lw' (a_hear S v) pend c := by
  have hv := h.2.2.2.2.2.1 v List.mem_cons_self
  obtain ⟨hv1, hv2⟩ := hv
  have hkn : (v 1).toNat < S.1 := by omega
  have h1 := h.2.1 _ hkn
  have hq := h1.1.2.2
  unfold a_hear
  by_cases e1 : 0 < v 2
  · rw [if_pos e1]
    by_cases e2 : (S.2.2.1 (v 1).toNat).1 3 = 1
    · rw [if_pos e2]
      exact ⟨Lw, IN_told (IN_pop h) hkn (by omega)⟩
    · rw [if_neg e2]; exact ⟨Lw, IN_pop h⟩
  · rw [if_neg e1]
    have e0 : v 2 = 0 := by omega
    by_cases e2 : 1 < (S.2.2.1 (v 1).toNat).1 3
    · rw [if_pos e2]
      refine ⟨Lw, IN_answer (IN_pop h) (by split <;> simp) (by omega) (by omega) ?_⟩
      rcases hv2 with g | g
      · exact g.2.1
      · omega
    · rw [if_neg e2]
      by_cases e3 : (S.2.2.1 (v 1).toNat).1 3 = 0
      · rw [if_pos e3]
        refine ⟨_, IN_keep (IN_wake h hkn e3 (hc _ hkn)) e0 rfl ?_⟩
        unfold a_wake; rw [asks_d]
        simp [a_wake0, du_eq, fu]
      · rw [if_neg e3]
        exact ⟨Lw, IN_keep h e0 rfl (by omega)⟩
theorem IN_tells {w : Int} (hw : w = 1 ∨ w = 2) (hk : k < S.1) : ∀ (L : List aR) (T : aS), T.1 = S.1 → INm E Lw T pend c → (∀ q ∈ L, (0 ≤ q 0 ∧ q 0 < S.1) ∧ ((k : Int), q 1) ∈ E (q 0).toNat) → INm E Lw (a_tells T k w L) pend c := by
  intro L
  induction L with
  | nil => intro T _ h _; exact h
  | cons q L ih =>
    intro T hn h hq
    have h0 := hq q List.mem_cons_self
    exact ih _ (by rw [send_n]; exact hn) (IN_answer h hw (by omega) (by omega) h0.2) (fun p hp => hq p (List.mem_cons_of_mem _ hp))
theorem a_yes01 {d : aD} : a_yes d = 0 ∨ a_yes d = 1 := a_is01
theorem IN_dk (h : INm E Lw S pend c) (hk : k < S.1) : INm E Lw (a_dk S k) pend (fun j => if j = k then 20 else c j) := by
  have h1 := h.2.1 k hk
  obtain ⟨⟨⟨b1, b2, b3⟩, b4, hq⟩, g2, g3, g4⟩ := h1
  have hck := h.1.2.2 k hk
  have hc : INm E Lw S pend c → ∀ d, DI S.1 (S.2.1 2) E Lw 20 k d → (∀ v ∈ pend ++ S.2.2.2, v 1 = k → XI v d.2.2) → INm E Lw (a_set S k d) pend (fun j => if j = k then 20 else c j) := by
    intro g d hd hx
    obtain ⟨a1, a2, a3, a4, a5, a6, a7, a8⟩ := g
    refine ⟨⟨a1.1, a1.2.1, fun j hj => ?_⟩, fun j hj => ?_, a3, a4, a5, a6, a7, fun v hv => ?_⟩
    · by_cases e : j = k
      · simp [e]
      · simp only [if_neg e]; exact a1.2.2 j hj
    · show DI _ _ _ _ _ _ (du S.2.2.1 k d j)
      by_cases e : j = k
      · subst e; rw [du_eq]; simp only [if_true]; exact hd
      · rw [du_ne e]; simp only [if_neg e]; exact a2 j hj
    · show XI v (du S.2.2.1 k d (v 1).toNat).2.2
      by_cases e : (v 1).toNat = k
      · rw [e, du_eq]
        have := (a6 v hv).1
        exact hx v hv (by omega)
      · rw [du_ne e]; exact a8 v hv
  have hxk : ∀ v ∈ pend ++ S.2.2.2, v 1 = k → XI v (S.2.2.1 k).2.2 := fun v hv e => by
    have := h.2.2.2.2.2.2.2 v hv
    rw [e] at this; exact this
  unfold a_dk
  by_cases e : a_now (S.2.2.1 k)
  · rw [if_pos e]
    have e1 := e.1
    refine IN_tells (by rcases (a_yes01 (d := S.2.2.1 k)) with g | g <;> rw [g] <;> simp) hk _ _ rfl (hc h _ ⟨⟨?_, ?_, ?_⟩, g2, fun _ => rfl, ⟨fun q hq => (by cases hq), List.Pairwise.nil⟩⟩ (fun v _ _ _ q hq => (by cases hq))) (fun q hq => ?_)
    · unfold a_turn; split <;> simp [fu] <;> exact ⟨b1, b2, b3⟩
    · unfold a_turn; split <;> simp [fu] <;> exact b4
    · unfold a_turn; split <;> simp [fu] <;> omega
    · have := g4.1 q hq
      exact ⟨this.1, this.2.1⟩
  · rw [if_neg e]
    by_cases e1 : (S.2.2.1 k).1 3 = 1
    · rw [if_pos e1]
      have e2 : ¬ ((S.2.2.1 k).1 4 - 1 ≤ 0) := fun g => e ⟨e1, .inl g⟩
      refine hc h _ ⟨⟨?_, ?_, ?_⟩, g2, fun g => absurd e1 (by simpa [fu] using g), g4⟩ hxk
      · simp [fu]; exact ⟨b1, b2, b3⟩
      · simp [fu]; exact b4
      · simp [fu]; omega
    · rw [if_neg e1]
      have := hc h (S.2.2.1 k) ⟨⟨⟨b1, b2, b3⟩, b4, by omega⟩, g2, g3, g4⟩ hxk
      have e9 : a_set S k (S.2.2.1 k) = S := by
        unfold a_set
        have : du S.2.2.1 k (S.2.2.1 k) = S.2.2.1 := by
          funext x; by_cases g : x = k
          · subst g; rw [du_eq]
          · rw [du_ne g]
        rw [this]
      rwa [e9] at this
theorem dk_n : (a_dk S k).1 = S.1 := by
  unfold a_dk; split
  · rw [tells_n]; rfl
  · split <;> rfl
theorem IN_dks (h : INm E Lw S pend (fun j => if j < k then 20 else 21)) {r : Nat} (hr : k + r = S.1) : INm E Lw (a_dks S k r).2 pend (fun _ => 20) := by
  induction r generalizing S k with
  | zero =>
    have h9 : INm E Lw S pend (fun _ => 20) := IN_c h (fun j hj => by have : j < k := by omega
                                                                      simp [this])
    exact h9
  | succ r ih =>
    refine ih (S := a_dk S k) (k := k + 1) (IN_c (IN_dk h (by omega)) (fun j hj => ?_)) (by rw [dk_n]; omega)
    by_cases e : j = k
    · subst e; simp
    · by_cases e2 : j < k
      · have : j < k + 1 := by omega
        simp [e, e2, this]
      · have : ¬ j < k + 1 := by omega
        simp [e, e2, this]
theorem IN_hears (hc : ∀ k, k < S.1 → 20 ≤ c k) : ∀ (L : List aR) (Lw : Nat → Int) (T : aS), T.1 = S.1 → INm E Lw T L c → ∃ Lw', INm E Lw' (a_hears T L) [] c := by
  intro L
  induction L with
  | nil => intro Lw T _ h; exact ⟨Lw, h⟩
  | cons v L ih =>
    intro Lw T hn h
    obtain ⟨Lw1, h1⟩ := IN_hear h (by rw [hn]; exact hc)
    refine ih Lw1 _ ?_ h1
    rw [← hn]; unfold a_hear
    split
    · split <;> rfl
    · split
      · exact send_n
      · show (if _ then a_wake _ _ else _ : aS).1 = _
        split
        · exact asks_n
        · rfl
end
section
variable {E : Nat → List (Int × Int)} {Lw : Nat → Int} {S : aS} {k : Nat}
theorem sp_sym {u v : aR} (h : sp u v) : sp v u := fun h1 h2 h3 h4 => by
  have := h h2 h1 h3.symm h4.symm; omega
theorem pw_mem {l : List aR} (h : l.Pairwise sp) {a b : aR} (ha : a ∈ l) (hb : b ∈ l) (hn : a ≠ b) : sp a b := by
  obtain ⟨i, hi⟩ := List.mem_iff_getElem?.mp ha
  obtain ⟨j, hj⟩ := List.mem_iff_getElem?.mp hb
  rcases Nat.lt_trichotomy i j with g | g | g
  · exact pw_at h hi hj g
  · subst g; rw [hi] at hj; exact absurd (Option.some.inj hj) hn
  · exact sp_sym (pw_at h hj hi g)
theorem dec_3 {v : aR} : a_dec v 3 = v 3 - 1 := by simp [a_dec, fu]
theorem dec_o {v : aR} {j : Nat} (h : j ≠ 3) : a_dec v j = v j := by simp [a_dec, fu, h]
theorem IN_t1 (h : INm E Lw S [] (fun _ => 20)) : INm E Lw (a_t1 S) (a_due S.2.2.2) (fun _ => 21) := by
  obtain ⟨h1, h2, h3, h4, h5, h6, h7, h8⟩ := h
  have h6 : ∀ v ∈ S.2.2.2, VQ S.1 (S.2.1 2) E Lw v := h6
  have h7 : S.2.2.2.Pairwise sp := h7
  have hall : ∀ v ∈ a_due S.2.2.2 ++ a_stay S.2.2.2, ∃ u ∈ S.2.2.2, v = a_dec u := by
    intro v hv
    have : v ∈ S.2.2.2.map a_dec := by
      rcases List.mem_append.mp hv with g | g
      · exact (List.mem_filter.mp g).1
      · exact (List.mem_filter.mp g).1
    obtain ⟨u, hu, e⟩ := List.mem_map.mp this
    exact ⟨u, hu, e.symm⟩
  have hpm : (S.2.2.2.map a_dec).Pairwise sp := by
    rw [List.pairwise_map]
    refine List.Pairwise.imp ?_ h7
    intro a b hab g1 g2 g3 g4
    rw [dec_o (by omega)] at g1 g2
    rw [dec_o (by omega), dec_o (by omega)] at g3 g4 ⊢
    exact hab g1 g2 g3 g4
  show INc S.1 (fu S.2.1 2 (S.2.1 2 + 1) 2) E Lw _ (a_stay S.2.2.2) _ _
  rw [fu_eq]
  refine ⟨⟨h1.1, h1.2.1, fun _ _ => Int.le_refl _⟩, fun j hj => ?_, ?_, fun v hv => ?_, fun v hv => ?_, fun v hv => ?_, ?_, fun v hv => ?_⟩
  · have e9 : (a_t1 S).2.2.1 j = (a_spend (S.2.2.1 j).1, (S.2.2.1 j).2) := if_pos hj
    rw [e9]
    have h2j : DI S.1 (S.2.1 2) E Lw 20 j (S.2.2.1 j) := h2 j hj
    obtain ⟨⟨⟨b1, b2, b3⟩, b4, hq⟩, g2, g3, g4⟩ := h2j
    refine ⟨?_, g2, ?_, ⟨fun q hq2 => ?_, g4.2⟩⟩
    · show DN (S.2.1 2 + 1) 21 (Lw j) (a_spend _)
      unfold a_spend
      split
      · exact ⟨⟨b1, b2, b3⟩, b4, by omega⟩
      · split
        · refine ⟨?_, ?_, ?_⟩
          · simp [fu]; exact ⟨b1, b2, b3⟩
          · simp [fu]; exact b4
          · simp [fu]; omega
        · refine ⟨?_, ?_, ?_⟩
          · simp [fu]; exact ⟨b1, b2, b3⟩
          · simp [fu]; exact b4
          · simp [fu]; omega
    · intro g
      refine g3 (fun e => g ?_)
      show a_spend _ 3 = 1
      unfold a_spend
      rw [if_pos (by omega)]; exact e
    · obtain ⟨a1, a2, a3, a4, a5⟩ := g4.1 q hq2
      exact ⟨a1, a2, a3, a4, by omega⟩
  · refine Nat.le_trans (List.length_filter_le _ _) ?_
    rw [List.length_map]; exact h3
  · have g : 0 < v 3 := by simpa using (List.mem_filter.mp hv).2
    obtain ⟨u, hu, e⟩ := hall v (List.mem_append.mpr (.inr hv))
    have := h4 u hu
    rw [e, dec_3] at g ⊢
    rw [dec_o (by omega)]; omega
  · have g : v 3 ≤ 0 := by simpa using (List.mem_filter.mp hv).2
    obtain ⟨u, hu, e⟩ := hall v (List.mem_append.mpr (.inl hv))
    have := h4 u hu
    rw [e, dec_3] at g ⊢; omega
  · obtain ⟨u, hu, e⟩ := hall v hv
    obtain ⟨a1, a2⟩ := h6 u hu
    subst e
    unfold VQ
    rw [dec_3, dec_o (by omega), dec_o (by omega), dec_o (by omega), dec_o (by omega), dec_o (by omega)]
    refine ⟨a1, ?_⟩
    rcases a2 with ⟨c1, c2, c3, c4⟩ | a2
    · exact .inl ⟨c1, c2, by omega, c4⟩
    · exact .inr a2
  · rw [List.pairwise_append]
    refine ⟨hpm.filter _, hpm.filter _, fun a ha b hb => ?_⟩
    refine pw_mem hpm (List.mem_filter.mp ha).1 (List.mem_filter.mp hb).1 (fun e => ?_)
    subst e
    have g1 : a 3 ≤ 0 := by simpa using (List.mem_filter.mp ha).2
    have g2 : 0 < a 3 := by simpa using (List.mem_filter.mp hb).2
    omega
  · obtain ⟨u, hu, e⟩ := hall v hv
    have h9 : XI u (S.2.2.1 (u 1).toNat).2.2 := h8 u hu
    have hn := (h6 u hu).1
    subst e
    unfold XI
    have e9 : (a_t1 S).2.2.1 (u 1).toNat = (a_spend (S.2.2.1 (u 1).toNat).1, (S.2.2.1 (u 1).toNat).2) := if_pos (by omega)
    rw [dec_o (by omega), dec_o (by omega), dec_o (by omega), dec_o (by omega), e9]
    exact h9
theorem a_t2_n : (a_t2 S).1 = S.1 := by
  unfold a_t2
  have : ∀ (L : List aR) (T : aS), (a_hears T L).1 = T.1 := by
    intro L
    induction L with
    | nil => intro T; rfl
    | cons v L ih =>
      intro T
      refine (ih (a_hear T v)).trans ?_
      unfold a_hear
      split
      · split <;> rfl
      · split
        · exact send_n
        · show (if _ then a_wake _ _ else _ : aS).1 = _
          split
          · exact asks_n
          · rfl
  rw [this]; rfl
theorem IN_t2 (h : INm E Lw S [] (fun _ => 20)) : ∃ Lw', INm E Lw' (a_t2 S) [] (fun _ => 21) :=
  IN_hears (S := a_t1 S) (fun _ _ => by decide) _ Lw (a_t1 S) rfl (IN_t1 h)
theorem IN_tick (h : INm E Lw S [] (fun _ => 20)) : ∃ Lw', INm E Lw' (a_tick S) [] (fun _ => 20) := by
  obtain ⟨Lw', h1⟩ := IN_t2 h
  refine ⟨Lw', ?_⟩
  have h2 := IN_dks (k := 0) (r := (a_t2 S).1) (IN_c h1 (fun j _ => by simp)) (by omega)
  unfold INm a_tick
  change INc (a_t3 S).2.1 (fu (a_t3 S).2.2.1 0 ((a_t3 S).2.2.1 0 + 1) 2) E Lw' (a_t3 S).2.2.2.1 (a_t3 S).2.2.2.2 [] _
  rw [show fu (a_t3 S).2.2.1 0 ((a_t3 S).2.2.1 0 + 1) 2 = (a_t3 S).2.2.1 2 from fu_ne (by omega)]
  exact h2
end
