/-! what holds throughout: E whom each door asks and how far, Lw when each was last woken -/
def sk (l : List aR) : List (Int × Int) := l.map (fun a => (a 0, a 1))
theorem sk_map {l : List aR} {f : aR → aR} (h : ∀ a, f a 0 = a 0 ∧ f a 1 = a 1) : sk (l.map f) = sk l := by
  unfold sk; rw [List.map_map]; apply List.map_congr_left; intro a _
  show (f a 0, f a 1) = (a 0, a 1); rw [(h a).1, (h a).2]
theorem sk_take {l : List aR} {o v : Int} : sk (a_take l o v) = sk l := sk_map (fun a => by split <;> simp [fu])
theorem sk_unask {l : List aR} : sk (a_unask l) = sk l := sk_map (fun a => by simp [fu])
def sp (u v : aR) : Prop := u 2 = 0 → v 2 = 0 → u 0 = v 0 → u 1 = v 1 → (u 5 + 4 ≤ v 5 ∨ v 5 + 4 ≤ u 5)
def kd (p q : aR) : Prop := p 0 = q 0 → (p 2 + 4 ≤ q 2 ∨ q 2 + 4 ≤ p 2)
def EI (n : Nat) (E : Nat → List (Int × Int)) : Prop := ∀ k, k < n → (E k).length ≤ 4 ∧ (∀ p ∈ E k, 0 ≤ p.1 ∧ p.1 < n ∧ p.1 ≠ k ∧ 1 ≤ p.2 ∧ p.2 ≤ 5) ∧ (E k).Pairwise (fun a b => a.1 ≠ b.1)
def VQ (n : Nat) (θ : Int) (E : Nat → List (Int × Int)) (Lw : Nat → Int) (v : aR) : Prop := (0 ≤ v 0 ∧ v 0 < n ∧ 0 ≤ v 1 ∧ v 1 < n) ∧ ((v 2 = 0 ∧ (v 1, v 4) ∈ E (v 0).toNat ∧ v 5 = θ + v 3 - v 4 ∧ v 5 ≤ Lw (v 0).toNat) ∨ ((v 2 = 1 ∨ v 2 = 2) ∧ (v 0, v 4) ∈ E (v 1).toNat))
/-- a door's numbers -/
def DN (θ c w : Int) (f : aR) : Prop := ((0 ≤ f 0 ∧ f 0 ≤ 99) ∧ (1 ≤ f 1 ∧ f 1 ≤ 20) ∧ (0 ≤ f 2 ∧ f 2 ≤ 3)) ∧ f 7 = w ∧ ((f 3 = 0 ∧ f 4 = 0 ∧ w + 4 ≤ θ) ∨ (f 3 = 1 ∧ 1 ≤ f 4 ∧ w ≤ θ ∧ θ - w + f 4 ≤ c) ∨ (f 3 = 2 ∧ 1 ≤ f 4 ∧ f 4 ≤ 12 ∧ w + 4 ≤ θ + f 4) ∨ (f 3 = 3 ∧ 1 ≤ f 4 ∧ f 4 ≤ 4 ∧ w + 4 ≤ θ + f 4))
def KI (n : Nat) (θ : Int) (E : Nat → List (Int × Int)) (Lw : Nat → Int) (k : Nat) (l : List aR) : Prop := (∀ q ∈ l, (0 ≤ q 0 ∧ q 0 < n) ∧ ((k : Int), q 1) ∈ E (q 0).toNat ∧ q 2 ≤ Lw (q 0).toNat ∧ Lw k ≤ q 2 + q 1 ∧ q 2 + q 1 ≤ θ) ∧ l.Pairwise kd
def DI (n : Nat) (θ : Int) (E : Nat → List (Int × Int)) (Lw : Nat → Int) (c : Int) (k : Nat) (d : aD) : Prop := DN θ c (Lw k) d.1 ∧ (sk d.2.1 = E k ∧ ∀ a ∈ d.2.1, -1 ≤ a 2 ∧ a 2 ≤ 1) ∧ (d.1 3 ≠ 1 → d.2.2 = []) ∧ KI n θ E Lw k d.2.2
/-- a voice and what is remembered of its sender are apart -/
def XI (v : aR) (l : List aR) : Prop := v 2 = 0 → ∀ q ∈ l, q 0 = v 0 → (v 5 + 4 ≤ q 2 ∨ q 2 + 4 ≤ v 5)
def INc (n : Nat) (θ : Int) (E : Nat → List (Int × Int)) (Lw : Nat → Int) (ds : Nat → aD) (vs pend : List aR) (c : Nat → Int) : Prop :=
  (n ≤ 10 ∧ EI n E ∧ ∀ k, k < n → c k ≤ 21) ∧ (∀ k, k < n → DI n θ E Lw (c k) k (ds k)) ∧ vs.length ≤ 60 ∧ (∀ v ∈ vs, 1 ≤ v 3 ∧ v 3 ≤ v 4) ∧ (∀ v ∈ pend, v 3 = 0) ∧ (∀ v ∈ pend ++ vs, VQ n θ E Lw v) ∧ (pend ++ vs).Pairwise sp ∧ (∀ v ∈ pend ++ vs, XI v (ds (v 1).toNat).2.2)
section
variable {n : Nat} {θ : Int} {E : Nat → List (Int × Int)} {Lw : Nat → Int} {ds : Nat → aD} {vs pend : List aR} {c : Nat → Int} {k : Nat} {d : aD} {v : aR}
/-- another door -/
theorem IN_door (h : INc n θ E Lw ds vs pend c) (hd : DI n θ E Lw (c k) k d) (hx : ∀ v ∈ pend ++ vs, v 1 = k → XI v d.2.2) : INc n θ E Lw (du ds k d) vs pend c := by
  obtain ⟨h1, h2, h3, h4, h5, h6, h7, h8⟩ := h
  refine ⟨h1, fun j hj => ?_, h3, h4, h5, h6, h7, fun v hv => ?_⟩
  · by_cases e : j = k
    · subst e; rw [du_eq]; exact hd
    · rw [du_ne e]; exact h2 j hj
  · by_cases e : (v 1).toNat = k
    · rw [e, du_eq]
      have := (h6 v hv).1
      exact hx v hv (by omega)
    · rw [du_ne e]; exact h8 v hv
/-- another bound -/
theorem IN_c {c' : Nat → Int} (h : INc n θ E Lw ds vs pend c) (h1 : ∀ k, k < n → c k ≤ c' k ∧ c' k ≤ 21) : INc n θ E Lw ds vs pend c' := by
  refine ⟨⟨h.1.1, h.1.2.1, fun k hk => (h1 k hk).2⟩, fun k hk => ?_, h.2.2⟩
  have g := h.2.1 k hk
  have g1 := h1 k hk
  refine ⟨?_, g.2⟩
  obtain ⟨⟨a1, a2, a3⟩, a4, a5⟩ := g.1
  exact ⟨⟨a1, a2, a3⟩, a4, by omega⟩
/-- a voice more -/
theorem IN_push (h : INc n θ E Lw ds vs pend c) (hl : vs.length < 60) (hv : VQ n θ E Lw v) (h3 : 1 ≤ v 3 ∧ v 3 ≤ v 4) (hs : ∀ u ∈ pend ++ vs, sp u v) (hx : XI v (ds (v 1).toNat).2.2) : INc n θ E Lw ds (vs ++ [v]) pend c := by
  obtain ⟨g1, g2, g3, g4, g5, g6, g7, g8⟩ := h
  refine ⟨g1, g2, by rw [List.length_append]; exact hl, fun u hu => ?_, g5, fun u hu => ?_, ?_, fun u hu => ?_⟩
  · rcases List.mem_append.mp hu with e | e
    · exact g4 u e
    · rw [List.mem_singleton.mp e]; exact h3
  · rw [← List.append_assoc] at hu
    rcases List.mem_append.mp hu with e | e
    · exact g6 u e
    · rw [List.mem_singleton.mp e]; exact hv
  · rw [← List.append_assoc, List.pairwise_append]
    refine ⟨g7, List.pairwise_singleton _ _, fun a ha b hb => ?_⟩
    rw [List.mem_singleton.mp hb]; exact hs a ha
  · rw [← List.append_assoc] at hu
    rcases List.mem_append.mp hu with e | e
    · exact g8 u e
    · rw [List.mem_singleton.mp e]; exact hx
/-- what is heard is gone -/
theorem IN_pop (h : INc n θ E Lw ds vs (v :: pend) c) : INc n θ E Lw ds vs pend c := by
  obtain ⟨g1, g2, g3, g4, g5, g6, g7, g8⟩ := h
  exact ⟨g1, g2, g3, g4, fun u hu => g5 u (List.mem_cons_of_mem _ hu), fun u hu => g6 u (List.mem_cons_of_mem _ hu), (List.pairwise_cons.mp g7).2, fun u hu => g8 u (List.mem_cons_of_mem _ hu)⟩
/-- a shut door begins to wait -/
theorem IN_wake0 (h : INc n θ E Lw ds vs pend c) (hk : k < n) (h0 : (ds k).1 3 = 0) (hc : 20 ≤ c k) : INc n θ E (fun j => if j = k then θ else Lw j) (du ds k (fu (fu (fu (ds k).1 3 1) 4 ((ds k).1 1)) 7 θ, a_unask (ds k).2.1, [])) vs pend c ∧ (∀ u ∈ pend ++ vs, u 2 = 0 → u 0 = k → u 5 + 4 ≤ θ) ∧ (∀ j, j < n → ∀ q ∈ (ds j).2.2, q 0 = k → q 2 + 4 ≤ θ) := by
  have h9 := h
  obtain ⟨g1, g2, g3, g4, g5, g6, g7, g8⟩ := h
  have hw : Lw k + 4 ≤ θ := by
    have := (g2 k hk).1.2.2; omega
  have hm : ∀ j, Lw j ≤ (if j = k then θ else Lw j) := fun j => by
    by_cases e : j = k
    · subst e; simp; omega
    · simp [e]
  refine ⟨⟨g1, fun j hj => ?_, g3, g4, g5, fun u hu => ?_, g7, fun u hu => ?_⟩, fun u hu e2 e0 => ?_, fun j hj q hq e0 => ?_⟩
  · by_cases e : j = k
    · subst e
      rw [du_eq]
      obtain ⟨⟨⟨a1, a2, a3⟩, a4, a5⟩, a6, a7, a8⟩ := g2 j hj
      refine ⟨⟨⟨?_, ?_, ?_⟩, ?_, ?_⟩, ⟨?_, ?_⟩, ?_, ⟨?_, List.Pairwise.nil⟩⟩
      · simp [fu]; exact a1
      · simp [fu]; exact a2
      · simp [fu]; exact a3
      · simp [fu]
      · simp [fu]; omega
      · show sk (a_unask _) = _; rw [sk_unask]; exact a6.1
      · intro a ha
        obtain ⟨b, _, rfl⟩ := List.mem_map.mp ha
        simp [fu]
      · intro _; rfl
      · intro q hq; cases hq
    · rw [du_ne e]
      obtain ⟨a1, a2, a3, a4, a5⟩ := g2 j hj
      refine ⟨?_, a2, a3, fun q hq => ?_, a5⟩
      · simp only [if_neg e]; exact a1
      · obtain ⟨b1, b2, b3, b4, b5⟩ := a4 q hq
        simp only [if_neg e]
        exact ⟨b1, b2, Int.le_trans b3 (hm _), b4, b5⟩
  · obtain ⟨b1, b2⟩ := g6 u hu
    refine ⟨b1, ?_⟩
    rcases b2 with ⟨b2, b3, b4, b5⟩ | b2
    · exact .inl ⟨b2, b3, b4, Int.le_trans b5 (hm _)⟩
    · exact .inr b2
  · by_cases e : (u 1).toNat = k
    · rw [e, du_eq]; intro _ q hq; cases hq
    · rw [du_ne e]; exact g8 u hu
  · have b := (g6 u hu).2
    have e : (u 0).toNat = k := by omega
    rw [e] at b
    omega
  · have b := ((g2 j hj).2.2.2.1 q hq).2.2.1
    have e : (q 0).toNat = k := by omega
    rw [e] at b
    omega
theorem INc_lw {Lw' : Nat → Int} (h : INc n θ E Lw ds vs pend c) (e : Lw = Lw') : INc n θ E Lw' ds vs pend c := e ▸ h
end
section
variable {S : aS} {f t w l : Int} {k : Nat} {L : List aR}
theorem send_n : (a_send S f t w l).1 = S.1 := by unfold a_send; split <;> rfl
theorem send_d : (a_send S f t w l).2.2.1 = S.2.2.1 := by unfold a_send; split <;> rfl
theorem send_g {j : Nat} (h : j ≠ 1) : (a_send S f t w l).2.1 j = S.2.1 j := by
  unfold a_send; split
  · rfl
  · show fu S.2.1 1 _ j = _; rw [fu_ne h]
theorem asks_n : (a_asks S k L).1 = S.1 := by
  unfold a_asks
  induction L generalizing S with
  | nil => rfl
  | cons a L ih => rw [List.foldl_cons, ih, send_n]
theorem asks_d : (a_asks S k L).2.2.1 = S.2.2.1 := by
  unfold a_asks
  induction L generalizing S with
  | nil => rfl
  | cons a L ih => rw [List.foldl_cons, ih, send_d]
theorem asks_g {j : Nat} (h : j ≠ 1) : (a_asks S k L).2.1 j = S.2.1 j := by
  unfold a_asks
  induction L generalizing S with
  | nil => rfl
  | cons a L ih => rw [List.foldl_cons, ih, send_g h]
theorem tells_n : (a_tells S k w L).1 = S.1 := by
  unfold a_tells
  induction L generalizing S with
  | nil => rfl
  | cons a L ih => rw [List.foldl_cons, ih, send_n]
theorem tells_d : (a_tells S k w L).2.2.1 = S.2.2.1 := by
  unfold a_tells
  induction L generalizing S with
  | nil => rfl
  | cons a L ih => rw [List.foldl_cons, ih, send_d]
theorem tells_g {j : Nat} (h : j ≠ 1) : (a_tells S k w L).2.1 j = S.2.1 j := by
  unfold a_tells
  induction L generalizing S with
  | nil => rfl
  | cons a L ih => rw [List.foldl_cons, ih, send_g h]
end
/-! the same of a state -/
def INm (E : Nat → List (Int × Int)) (Lw : Nat → Int) (S : aS) (pend : List aR) (c : Nat → Int) : Prop := INc S.1 (S.2.1 2) E Lw S.2.2.1 S.2.2.2 pend c
section
variable {E : Nat → List (Int × Int)} {Lw : Nat → Int} {S : aS} {pend : List aR} {c : Nat → Int} {k : Nat}
theorem IN_send {f t w l : Int} (h : INm E Lw S pend c) (hv : VQ S.1 (S.2.1 2) E Lw (r6 f t w l l (S.2.1 2))) (h3 : 1 ≤ l) (hs : ∀ u ∈ pend ++ S.2.2.2, sp u (r6 f t w l l (S.2.1 2))) (hx : XI (r6 f t w l l (S.2.1 2)) (S.2.2.1 t.toNat).2.2) : INm E Lw (a_send S f t w l) pend c := by
  unfold INm
  rw [send_n, send_d, send_g (by omega)]
  unfold a_send
  by_cases e : S.2.2.2.length < 60
  · rw [if_pos e]
    exact IN_push h e hv (by simp [r6]; exact h3) hs hx
  · rw [if_neg e]
    exact h
theorem IN_answer {f t w l : Int} (h : INm E Lw S pend c) (hw : w = 1 ∨ w = 2) (hf : 0 ≤ f ∧ f < S.1) (ht : 0 ≤ t ∧ t < S.1) (he : (f, l) ∈ E t.toNat) : INm E Lw (a_send S f t w l) pend c := by
  have h3 := (h.1.2.1 t.toNat (by omega)).2.1 _ he
  refine IN_send h ⟨⟨hf.1, hf.2, ht.1, ht.2⟩, .inr ⟨hw, he⟩⟩ h3.2.2.2.1 (fun u hu _ g => ?_) (fun g => ?_)
  · have g : w = 0 := g
    omega
  · have g : w = 0 := g
    omega
theorem IN_asks (hk : k < S.1) : ∀ (L : List aR) (T : aS), T.1 = S.1 → INm E Lw T pend c → Lw k = T.2.1 2 → (∀ a ∈ L, (a 0, a 1) ∈ E k) → (sk L).Pairwise (fun a b => a.1 ≠ b.1) → (∀ u ∈ pend ++ T.2.2.2, u 2 = 0 → u 0 = k → u 5 + 4 ≤ T.2.1 2 ∨ ∀ a ∈ L, u 1 ≠ a 0) → (∀ j, j < T.1 → ∀ q ∈ (T.2.2.1 j).2.2, q 0 = k → q 2 + 4 ≤ T.2.1 2) → INm E Lw (a_asks T k L) pend c := by
  intro L
  induction L with
  | nil => intro T _ h _ _ _ _ _; exact h
  | cons a L ih =>
    intro T hn h hw he hp hu hq
    have he0 := he a List.mem_cons_self
    have hE := (h.1.2.1 k (by omega)).2.1 _ he0
    have hp2 := List.pairwise_cons.mp hp
    have h1 : INm E Lw (a_send T k (a 0) 0 (a 1)) pend c := by
      refine IN_send h ⟨⟨by simp [r6], by simp [r6] <;> omega, by simp [r6] <;> omega, by simp [r6] <;> omega⟩, .inl ⟨by simp [r6], by simp [r6]; exact he0, by simp [r6] <;> omega, by simp [r6] <;> omega⟩⟩ hE.2.2.2.1 (fun u hu2 g2 _ g0 g1 => ?_) (fun _ q hq2 g0 => ?_)
      · simp [r6] at g0 g1 ⊢
        rcases hu u hu2 g2 g0 with g | g
        · exact .inl g
        · exact absurd g1 (g a List.mem_cons_self)
      · simp [r6] at g0 ⊢
        exact .inr (hq _ (by omega) q hq2 g0)
    refine ih _ (by rw [send_n]; exact hn) h1 (by rw [send_g (by omega)]; exact hw) (fun b hb => he b (List.mem_cons_of_mem _ hb)) hp2.2 (fun u hu2 g2 g0 => ?_) (by rw [send_n, send_d, send_g (by omega)]; exact hq)
    rw [send_g (by omega)]
    have hu3 : u ∈ pend ++ T.2.2.2 ∨ u = r6 k (a 0) 0 (a 1) (a 1) (T.2.1 2) := by
      by_cases e9 : T.2.2.2.length < 60
      · simp only [a_send, if_pos e9] at hu2
        rw [← List.append_assoc] at hu2
        rcases List.mem_append.mp hu2 with g | g
        · exact .inl g
        · exact .inr (List.mem_singleton.mp g)
      · simp only [a_send, if_neg e9] at hu2
        exact .inl hu2
    rcases hu3 with g | g
    · rcases hu u g g2 g0 with g | g
      · exact .inl g
      · exact .inr (fun b hb => g b (List.mem_cons_of_mem _ hb))
    · refine .inr (fun b hb => ?_)
      rw [g]; simp [r6]
      exact hp2.1 (b 0, b 1) (List.mem_map.mpr ⟨b, hb, rfl⟩)
theorem IN_wake (h : INm E Lw S pend c) (hk : k < S.1) (h0 : (S.2.2.1 k).1 3 = 0) (hc : 20 ≤ c k) : INm E (fun j => if j = k then S.2.1 2 else Lw j) (a_wake S k) pend c := by
  obtain ⟨h1, h2, h3⟩ := IN_wake0 h hk h0 hc
  have hsk := (h.2.1 k hk).2.1.1
  unfold a_wake
  refine IN_asks hk _ (a_wake0 S k) rfl h1 (by simp [a_wake0]) (fun a ha => ?_) ?_ (fun u hu g2 g0 => .inl (h2 u hu g2 g0)) (fun j hj q hq g0 => ?_)
  · rw [← hsk]; exact List.mem_map.mpr ⟨a, ha, rfl⟩
  · rw [hsk]; exact (h.1.2.1 k hk).2.2
  · by_cases e : j = k
    · subst e
      simp [a_wake0, du_eq] at hq
    · have hq : q ∈ (du S.2.2.1 k _ j).2.2 := hq
      rw [du_ne e] at hq
      exact h3 j hj q hq g0
end
