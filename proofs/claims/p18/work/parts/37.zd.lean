def zset (Z : zS) (k : Nat) (D : zD) : zS := (Z.1, Z.2.1, Z.2.2.1, Z.2.2.2.1, fun x => if x = k then D else Z.2.2.2.2.1 x, Z.2.2.2.2.2)
section
variable {m m' : vM} {N N' s k : Nat} {X : Nat → Prop} {D : zD} {Z : zS} {v : Int}
theorem zset_eq : (zset Z k D).2.2.2.2.1 k = D := by simp [zset]
theorem zset_ne {j : Nat} (h : j ≠ k) : (zset Z k D).2.2.2.2.1 j = Z.2.2.2.2.1 j := by simp [zset, h]
def zk (Z Z' : zS) : Prop := Z'.1 = Z.1 ∧ Z'.2.2.1 = Z.2.2.1 ∧ ∀ j, (Z'.2.2.2.2.1 j).1 = (Z.2.2.2.2.1 j).1
theorem zk_rfl : zk Z Z := ⟨rfl, rfl, fun _ => rfl⟩
theorem zk_trans {Z' Z2 : zS} (h : zk Z Z') (g : zk Z' Z2) : zk Z Z2 := ⟨g.1.trans h.1, g.2.1.trans h.2.1, fun j => (g.2.2 j).trans (h.2.2 j)⟩
theorem zk_set (h : D.1 = (Z.2.2.2.2.1 k).1) : zk Z (zset Z k D) := ⟨rfl, rfl, fun j => by
  by_cases e : j = k
  · subst e; rw [zset_eq, h]
  · rw [zset_ne e]⟩
theorem uz_set : uz (zset Z k D) = a_set (uz Z) k (ud D) := by
  unfold uz zset a_set
  simp only
  congr 3
  funext x
  by_cases e : x = k
  · subst e; simp [du]
  · simp [du, e]
/-- one door is another -/
theorem ZR_set (h : ZR N m s Z) (hk : k < Z.1) (f : fM N X m m') (hN : N ≤ N') (hD : dR N' m' D) (e1 : D.1 = (Z.2.2.2.2.1 k).1) (e2 : D.2.2.2.2.1.Pairwise (fun z w => z.1 ≠ w.1)) (e3 : ∀ w ∈ D.2.2.2.2.1, (∃ z ∈ (Z.2.2.2.2.1 k).2.2.2.2.1, z.1 = w.1) ∨ N ≤ w.1) (hX : ∀ x, x < N → X x → x = (Z.2.2.2.2.1 k).1 ∨ ∃ z ∈ (Z.2.2.2.2.1 k).2.2.2.2.1, x = z.1) : ZR N' m' s (zset Z k D) := by
  obtain ⟨⟨⟨a1, a2, a3, a4, a5, a6, a7⟩, ⟨b1, b2, b3, b4, b5⟩⟩, c, ⟨d1, d2⟩, s1, s2, s3, s4⟩ := h
  have ck := c k hk
  have hq4 : mk m (Z.2.2.2.2.1 k).1 = 4 := ck.1.2.2.1
  have hno : ∀ x, x < N → (mk m x ≠ 4 ∧ ¬ (mk m x = 6 ∧ ml m x = 3)) → ¬ X x := by
    intro x hx g hxx
    rcases hX x hx hxx with e | ⟨z, hz, e⟩
    · rw [e] at g; exact g.1 hq4
    · have := ck.2.2.1.2 z hz
      rw [e] at g; exact g.2 ⟨this.2.1, this.2.2.1⟩
  have n5 := hno s a2 ⟨by omega, by omega⟩
  have n9 := hno _ b2 ⟨by omega, by omega⟩
  have n8 : ∀ x, x < N → mk m x = 8 → ¬ X x := fun x hx g => hno x hx ⟨by omega, by omega⟩
  refine ⟨⟨⟨a1, by omega, by rw [fM_k f a2]; exact a3, by rw [fM_r f a2 n5]; exact a4, by rw [fM_r f a2 n5]; exact a5, by rw [fM_i f a2 n5]; exact a6, by rw [fM_i f a2 n5]; exact a7⟩, ⟨b1, Nat.lt_of_lt_of_le b2 hN, by show mk m' Z.2.2.1 = 9; rw [fM_k f b2]; exact b3, by show ml m' Z.2.2.1 = Z.1; rw [fM_l f b2]; exact b4, fun j hj => ?_⟩⟩, fun j hj => ?_, ⟨a8_fr d1 f hN (n8 _ d1.1.2 d1.2.1), fun z hz => ?_⟩, ?_, ?_, ?_, s4⟩
  · show mr m' Z.2.2.1 j = some ((zset Z k D).2.2.2.2.1 j).1
    rw [fM_r f b2 n9, b5 j hj]
    by_cases e : j = k
    · subst e; rw [zset_eq, e1]
    · rw [zset_ne e]
  · show dR N' m' ((zset Z k D).2.2.2.2.1 j)
    have hj : j < Z.1 := hj
    by_cases e : j = k
    · subst e; rw [zset_eq]; exact hD
    · rw [zset_ne e]
      obtain ⟨⟨q1, q2, q3, q4, q5⟩, q6, ⟨q7, q8⟩, q9, q10⟩ := c j hj
      have n4 : ¬ X (Z.2.2.2.2.1 j).1 := by
        intro g
        rcases hX _ q2 g with e9 | ⟨z, hz, e9⟩
        · exact s1 j k hj hk e e9
        · have := (ck.2.2.1.2 z hz).2.1
          rw [← e9, q3] at this; omega
      have nr : ∀ z ∈ (Z.2.2.2.2.1 j).2.2.2.2.1, ¬ X z.1 := by
        intro z hz g
        rcases hX _ (q8 z hz).1.2 g with e9 | ⟨w, hw, e9⟩
        · have := (q8 z hz).2.1
          rw [e9, hq4] at this; omega
        · exact s3 j k hj hk e z hz w hw e9
      refine ⟨⟨q1, by omega, by rw [fM_k f q2]; exact q3, by rw [fM_r f q2 n4]; exact q4, by rw [fM_r f q2 n4]; exact q5⟩, ⟨fun j hj => by rw [fM_i f q2 n4]; exact q6.1 j hj, by rw [fM_i f q2 n4]; exact q6.2.1, by rw [fM_i f q2 n4]; exact q6.2.2⟩, ⟨a8_fr q7 f hN (n8 _ q7.1.2 q7.2.1), fun z hz => ro_fr (q8 z hz) f hN (nr z hz)⟩, a8_fr q9 f hN (n8 _ q9.1.2 q9.2.1), fun z hz => ?_⟩
      have g := q10 z hz
      exact ro_fr g f hN (hno _ g.1.2 ⟨by have := g.2.1; omega, by have := g.2.2.1; omega⟩)
  · have g := d2 z hz
    exact ro_fr g f hN (hno _ g.1.2 ⟨by have := g.2.1; omega, by have := g.2.2.1; omega⟩)
  · intro i j hi hj hij
    have hi : i < Z.1 := hi
    have hj : j < Z.1 := hj
    have he : ∀ x, ((zset Z k D).2.2.2.2.1 x).1 = (Z.2.2.2.2.1 x).1 := by
      intro x
      by_cases e : x = k
      · subst e; rw [zset_eq, e1]
      · rw [zset_ne e]
    rw [he, he]; exact s1 i j hi hj hij
  · intro j hj
    have hj : j < Z.1 := hj
    by_cases e : j = k
    · subst e; rw [zset_eq]; exact e2
    · rw [zset_ne e]; exact s2 j hj
  · intro i j hi hj hij z hz w hw
    have hi : i < Z.1 := hi
    have hj : j < Z.1 := hj
    by_cases ei : i = k
    · subst ei
      rw [zset_eq] at hz
      have ej : j ≠ i := fun g => hij g.symm
      rw [zset_ne ej] at hw
      have g := ((c j hj).2.2.1.2 w hw).1.2
      rcases e3 z hz with ⟨y, hy, e9⟩ | e9
      · rw [← e9]; exact s3 i j hi hj hij y hy w hw
      · omega
    · rw [zset_ne ei] at hz
      have g := ((c i hi).2.2.1.2 z hz).1.2
      by_cases ej : j = k
      · subst ej
        rw [zset_eq] at hw
        rcases e3 w hw with ⟨y, hy, e9⟩ | e9
        · rw [← e9]; exact s3 i j hi hj hij z hz y hy
        · omega
      · rw [zset_ne ej] at hw
        exact s3 i j hi hj hij z hz w hw
theorem dR_I {j : Nat} (h : dR N m D) (hj : j < 5) : dR N (mI m D.1 j (xI v)) (D.1, D.2.1, D.2.2.1, fu D.2.2.2.1 j v, D.2.2.2.2) := by
  obtain ⟨a, ⟨b1, b2, b3⟩, ⟨c1, c2⟩, d1, d2⟩ := h
  have f : fM N (fun x => x = D.1) m (mI m D.1 j (xI v)) := fM_I rfl
  refine ⟨a, ⟨fun i hi => ?_, ?_, ?_⟩, ⟨a8_fr c1 f (Nat.le_refl _) (fun e => ?_), fun z hz => ro_fr (c2 z hz) f (Nat.le_refl _) (fun e => ?_)⟩, a8_fr d1 f (Nat.le_refl _) (fun e => ?_), fun z hz => ro_fr (d2 z hz) f (Nat.le_refl _) (fun e => ?_)⟩
  · by_cases e : i = j
    · subst e; show mi _ D.1 i = xI (fu D.2.2.2.1 i v i); rw [mi_eq, fu_eq]
    · show mi _ D.1 i = xI (fu _ j v i); rw [mi_nj e, fu_ne e]; exact b1 i hi
  · show mi _ D.1 7 = xI (fu _ j v 5); rw [mi_nj (by omega), fu_ne (by omega)]; exact b2
  · show mi _ D.1 8 = xI (fu _ j v 6); rw [mi_nj (by omega), fu_ne (by omega)]; exact b3
  · have g1 := c1.2.1; have g2 := a.2.2.1; rw [e, g2] at g1; omega
  · have g1 := (c2 z hz).2.1; have g2 := a.2.2.1; rw [e, g2] at g1; omega
  · have g1 := d1.2.1; have g2 := a.2.2.1; rw [e, g2] at g1; omega
  · have g1 := (d2 z hz).2.1; have g2 := a.2.2.1; rw [e, g2] at g1; omega
theorem dR_I7 (h : dR N m D) : dR N (mI m D.1 7 (xI v)) (D.1, D.2.1, D.2.2.1, fu D.2.2.2.1 5 v, D.2.2.2.2) := by
  obtain ⟨a, ⟨b1, b2, b3⟩, ⟨c1, c2⟩, d1, d2⟩ := h
  have f : fM N (fun x => x = D.1) m (mI m D.1 7 (xI v)) := fM_I rfl
  refine ⟨a, ⟨fun i hi => ?_, ?_, ?_⟩, ⟨a8_fr c1 f (Nat.le_refl _) (fun e => ?_), fun z hz => ro_fr (c2 z hz) f (Nat.le_refl _) (fun e => ?_)⟩, a8_fr d1 f (Nat.le_refl _) (fun e => ?_), fun z hz => ro_fr (d2 z hz) f (Nat.le_refl _) (fun e => ?_)⟩
  · show mi _ D.1 i = xI (fu _ 5 v i); rw [mi_nj (by omega), fu_ne (by omega)]; exact b1 i hi
  · show mi _ D.1 7 = xI (fu D.2.2.2.1 5 v 5); rw [mi_eq, fu_eq]
  · show mi _ D.1 8 = xI (fu _ 5 v 6); rw [mi_nj (by omega), fu_ne (by omega)]; exact b3
  · have g1 := c1.2.1; have g2 := a.2.2.1; rw [e, g2] at g1; omega
  · have g1 := (c2 z hz).2.1; have g2 := a.2.2.1; rw [e, g2] at g1; omega
  · have g1 := d1.2.1; have g2 := a.2.2.1; rw [e, g2] at g1; omega
  · have g1 := (d2 z hz).2.1; have g2 := a.2.2.1; rw [e, g2] at g1; omega
theorem dR_I8 (h : dR N m D) : dR N (mI m D.1 8 (xI v)) (D.1, D.2.1, D.2.2.1, fu D.2.2.2.1 6 v, D.2.2.2.2) := by
  obtain ⟨a, ⟨b1, b2, b3⟩, ⟨c1, c2⟩, d1, d2⟩ := h
  have f : fM N (fun x => x = D.1) m (mI m D.1 8 (xI v)) := fM_I rfl
  refine ⟨a, ⟨fun i hi => ?_, ?_, ?_⟩, ⟨a8_fr c1 f (Nat.le_refl _) (fun e => ?_), fun z hz => ro_fr (c2 z hz) f (Nat.le_refl _) (fun e => ?_)⟩, a8_fr d1 f (Nat.le_refl _) (fun e => ?_), fun z hz => ro_fr (d2 z hz) f (Nat.le_refl _) (fun e => ?_)⟩
  · show mi _ D.1 i = xI (fu _ 6 v i); rw [mi_nj (by omega), fu_ne (by omega)]; exact b1 i hi
  · show mi _ D.1 7 = xI (fu _ 6 v 5); rw [mi_nj (by omega), fu_ne (by omega)]; exact b2
  · show mi _ D.1 8 = xI (fu D.2.2.2.1 6 v 6); rw [mi_eq, fu_eq]
  · have g1 := c1.2.1; have g2 := a.2.2.1; rw [e, g2] at g1; omega
  · have g1 := (c2 z hz).2.1; have g2 := a.2.2.1; rw [e, g2] at g1; omega
  · have g1 := d1.2.1; have g2 := a.2.2.1; rw [e, g2] at g1; omega
  · have g1 := (d2 z hz).2.1; have g2 := a.2.2.1; rw [e, g2] at g1; omega
/-- numbers of a door that nothing shows -/
theorem dR_ext {f : aR} (h : dR N m D) (e : ∀ j, j < 7 → f j = D.2.2.2.1 j) : dR N m (D.1, D.2.1, D.2.2.1, f, D.2.2.2.2) := by
  obtain ⟨a, ⟨b1, b2, b3⟩, c, d⟩ := h
  exact ⟨a, ⟨fun i hi => by show _ = xI (f i); rw [e i (by omega)]; exact b1 i hi, by show _ = xI (f 5); rw [e 5 (by omega)]; exact b2, by show _ = xI (f 6); rw [e 6 (by omega)]; exact b3⟩, c, d⟩
/-- a number of one of the rows of what a door asks -/
theorem dR_row {l1 l2 : List (Nat × aR)} {z : Nat × aR} {r : Nat} (h : dR N m D) (hz : D.2.2.2.2.1 = l1 ++ z :: l2) (hp : D.2.2.2.2.1.Pairwise (fun z w => z.1 ≠ w.1)) : dR N (mI m z.1 r (xI v)) (D.1, D.2.1, D.2.2.1, D.2.2.2.1, l1 ++ (z.1, fu z.2 r v) :: l2, D.2.2.2.2.2) := by
  obtain ⟨a, ⟨b1, b2, b3⟩, ⟨c1, c2⟩, d1, d2⟩ := h
  have f : fM N (fun x => x = z.1) m (mI m z.1 r (xI v)) := fM_I rfl
  have hz6 := c2 z (by rw [hz]; simp)
  have nq : ¬ D.1 = z.1 := by
    intro e; have g2 := a.2.2.1; rw [e, hz6.2.1] at g2; omega
  have n8 : ∀ x, mk m x = 8 → ¬ x = z.1 := fun x hx e => by rw [e, hz6.2.1] at hx; omega
  rw [hz] at hp
  refine ⟨⟨a.1, a.2.1, a.2.2.1, a.2.2.2.1, a.2.2.2.2⟩, ⟨fun i hi => ?_, ?_, ?_⟩, ⟨?_, fun w hw => ?_⟩, a8_fr d1 f (Nat.le_refl _) (n8 _ d1.2.1), fun w hw => ro_fr (d2 w hw) f (Nat.le_refl _) (fun e => ?_)⟩
  · show mi _ D.1 i = _; rw [mi_na nq]; exact b1 i hi
  · show mi _ D.1 7 = _; rw [mi_na nq]; exact b2
  · show mi _ D.1 8 = _; rw [mi_na nq]; exact b3
  · refine a8_ids (a8_fr c1 f (Nat.le_refl _) (n8 _ c1.2.1)) ?_
    rw [hz]; simp
  · have hw : w ∈ l1 ++ (z.1, fu z.2 r v) :: l2 := hw
    rw [List.pairwise_append] at hp
    obtain ⟨p1, p2, p3⟩ := hp
    rw [List.pairwise_cons] at p2
    rcases List.mem_append.mp hw with g | g
    · exact ro_fr (c2 w (by rw [hz]; exact List.mem_append.mpr (.inl g))) f (Nat.le_refl _) (p3 w g z List.mem_cons_self)
    · rcases List.mem_cons.mp g with g | g
      · subst g
        obtain ⟨e1, e2, e3, e4⟩ := hz6
        refine ⟨e1, e2, e3, fun j hj => ?_⟩
        by_cases e : j = r
        · subst e; show mi _ z.1 j = xI (fu z.2 j v j); rw [mi_eq, fu_eq]
        · show mi _ z.1 j = xI (fu _ r v j); rw [mi_nj e, fu_ne e]; exact e4 j hj
      · exact ro_fr (c2 w (by rw [hz]; exact List.mem_append.mpr (.inr (List.mem_cons_of_mem _ g)))) f (Nat.le_refl _) (fun e => p2.1 w g e.symm)
  · have g := (d2 w hw).2.2.1
    have g2 := hz6.2.2.1
    rw [e, g2] at g; omega
/-- a voice is sent -/
theorem S_zsend {f t w l : Int} (h : ZR N m s Z) (hN : 149 ≤ N) (hl : Z.2.2.2.2.2.length ≤ 60) : wq (f_X5_send N m s (xI f) (xI t) (xI w) (xI l)) (fun z => ∃ Z', ZR z.1 z.2 s Z' ∧ uz Z' = a_send (uz Z) f t w l ∧ zk Z Z' ∧ Z'.2.2.2.2.1 = Z.2.2.2.2.1 ∧ N ≤ z.1 ∧ fM N (fun x => x = s) m z.2) := by
  obtain ⟨⟨⟨a1, a2, a3, a4, a5, a6, a7⟩, hb⟩, c, ⟨d1, d2⟩, s1, s2, s3, s4⟩ := h
  obtain ⟨dN, dk, dl, dr⟩ := d1
  have hlen : (uz Z).2.2.2.length = Z.2.2.2.2.2.length := by unfold uz; rw [List.length_map]
  have hne8 : ∀ x, mk m x = 8 → x ≠ s := fun x hx e => by rw [e, a3] at hx; omega
  have hne6 : ∀ x, mk m x = 6 → x ≠ s := fun x hx e => by rw [e, a3] at hx; omega
  have hne4 : ∀ x, mk m x = 4 → x ≠ s := fun x hx e => by rw [e, a3] at hx; omega
  have hne9 : Z.2.2.1 ≠ s := fun e => by have := hb.2.2.1; rw [e, a3] at this; omega
  unfold f_X5_send
  refine w_i a3 ?_
  refine w_b a5 ?_
  refine w_i dk ?_
  unfold a_send
  rw [hlen]
  by_cases e : Z.2.2.2.2.2.length < 60
  · rw [if_pos e]
    refine w_n (by simp (disch := omega) only [vin, mk_I, ml_I, mr_I, mk_R, ml_R, mi_R, mkN_eq, mlN_eq, miN_eq, mkN_ne, mlN_ne, miN_ne, mrN_ne, mi_eq, mi_na, mi_nj, mr_eq, mr_na, mr_nj, xL0, xL1, xL2, xL3, xL4, xL5, xL6, xL7, xL8, xL9, xL10, xL12, xL16, xL20, xL24, xL31, xL50, xL60, xL89, xL99, xL100, xL200, xI_add, xI_sub, xI_mul, xI_neg, xI_nat, xI_cl, Int.toNat_natCast, Int.reduceToNat, xltT, xltF, xleT, xleF, xeqT, xeqF, nleT, nleF, nltT, nltF, neqT, neqF, ileT, ileF, iltT, iltF, ieqT, ieqF, or_false, or_true, false_or, true_or, and_true, true_and, and_false, false_and, not_false_eq_true, not_true_eq_false, ↓reduceIte, if_true, if_false, dl]) ?_
    refine w_b a5 ?_
    iterate 5 (refine w_i (by simp (disch := omega) only [vin, mk_I, ml_I, mr_I, mk_R, ml_R, mi_R, mkN_eq, mlN_eq, miN_eq, mkN_ne, mlN_ne, miN_ne, mrN_ne, mi_eq, mi_na, mi_nj, mr_eq, mr_na, mr_nj, xL0, xL1, xL2, xL3, xL4, xL5, xL6, xL7, xL8, xL9, xL10, xL12, xL16, xL20, xL24, xL31, xL50, xL60, xL89, xL99, xL100, xL200, xI_add, xI_sub, xI_mul, xI_neg, xI_nat, xI_cl, Int.toNat_natCast, Int.reduceToNat, xltT, xltF, xleT, xleF, xeqT, xeqF, nleT, nleF, nltT, nltF, neqT, neqF, ileT, ileF, iltT, iltF, ieqT, ieqF, or_false, or_true, false_or, true_or, and_true, true_and, and_false, false_and, not_false_eq_true, not_true_eq_false, ↓reduceIte, if_true, if_false]) ?_)
    generalize hm1 : (mI (mI (mI (mI (mI (mN m N 6 5) N 0 (xI f)) N 1 (xI t)) N 2 (xI w)) N 3 (xI l)) N 4 (xI l)) = m1
    have f1 : fM N (fun _ => False) m m1 := by
      rw [← hm1]
      refine fM_trans (fM_trans (fM_trans (fM_trans (fM_trans (fM_N (Nat.le_refl _)) (fM_I0 (Nat.le_refl _)) (Nat.le_refl _) (fun _ _ h => h)) (fM_I0 (Nat.le_refl _)) (Nat.le_refl _) (fun _ _ h => h)) (fM_I0 (Nat.le_refl _)) (Nat.le_refl _) (fun _ _ h => h)) (fM_I0 (Nat.le_refl _)) (Nat.le_refl _) (fun _ _ h => h)) (fM_I0 (Nat.le_refl _)) (Nat.le_refl _) (fun _ _ h => h)
    have hro : ro (N + 1) m1 5 (N, r6 f t w l l ((uz Z).2.1 2)) := by
      refine ⟨⟨by show 149 ≤ N; exact hN, Nat.lt_succ_self N⟩, ?_, ?_, fun r hr => ?_⟩
      · rw [← hm1]; show mk (mN m N 6 5) N = 6; exact mkN_eq
      · rw [← hm1]; show ml (mN m N 6 5) N = 5; exact mlN_eq
      · have hr2 : r = 0 ∨ r = 1 ∨ r = 2 ∨ r = 3 ∨ r = 4 := by omega
        rw [← hm1]
        rcases hr2 with g | g | g | g | g <;> subst g <;> simp (disch := omega) only [vin, mk_I, ml_I, mr_I, mk_R, ml_R, mi_R, mkN_eq, mlN_eq, miN_eq, mkN_ne, mlN_ne, miN_ne, mrN_ne, mi_eq, mi_na, mi_nj, mr_eq, mr_na, mr_nj, xL0, xL1, xL2, xL3, xL4, xL5, xL6, xL7, xL8, xL9, xL10, xL12, xL16, xL20, xL24, xL31, xL50, xL60, xL89, xL99, xL100, xL200, xI_add, xI_sub, xI_mul, xI_neg, xI_nat, xI_cl, Int.toNat_natCast, Int.reduceToNat, xltT, xltF, xleT, xleF, xeqT, xeqF, nleT, nleF, nltT, nltF, neqT, neqF, ileT, ileF, iltT, iltF, ieqT, ieqF, or_false, or_true, false_or, true_or, and_true, true_and, and_false, false_and, not_false_eq_true, not_true_eq_false, ↓reduceIte, if_true, if_false] <;> rfl
    refine w_c (S_more (a8_fr ⟨dN, dk, dl, dr⟩ f1 (Nat.le_succ N) (fun h => h)) (by omega) (fun z hz => ?_) ⟨Nat.lt_succ_self N, hro.2.1⟩) ?_
    · have g := d2 z hz
      exact ⟨by have := g.1.2; omega, by rw [fM_k f1 g.1.2]; exact g.2.1⟩
    · rintro ⟨y1, y2, m2⟩ ⟨e1, e2, f2, h8⟩
      have e1 : y1 = N + 1 := e1
      have e2 : y2 = N + 1 + 1 := e2
      subst e1 e2
      dsimp only at f2 h8 ⊢
      have f12 : fM N (fun _ => False) m m2 := fM_trans f1 f2 (Nat.le_succ N) (fun _ _ h => h)
      have f3 : fM N (fun x => x = s) m (mR m2 s 1 (some (N + 1))) := fM_trans (fM_w f12 (fun _ _ h => h.elim)) (fM_R (X := fun x => x = s) rfl) (Nat.le_refl _) (fun _ _ h => h)
      refine w_i (by rw [fM_k f12 a2]; exact a3) ?_
      refine w_s ⟨(Z.1, Z.2.1, Z.2.2.1, N + 1, Z.2.2.2.2.1, Z.2.2.2.2.2 ++ [(N, r6 f t w l l ((uz Z).2.1 2))]), ⟨⟨⟨a1, by omega, ?_, ?_, ?_, ?_, ?_⟩, ?_⟩, fun k hk => ?_, ⟨?_, fun z hz => ?_⟩, s1, s2, s3, ?_⟩, ?_, ⟨rfl, rfl, fun _ => rfl⟩, rfl, by omega, f3⟩
      · rw [fM_k f3 a2]; exact a3
      · rw [mr_nj (by omega), fM_r f12 a2 (fun h => h)]; exact a4
      · exact mr_eq
      · rw [mi_R, fM_i f12 a2 (fun h => h)]; exact a6
      · rw [mi_R, fM_i f12 a2 (fun h => h)]; exact a7
      · obtain ⟨b1, b2, b3, b4, b5⟩ := hb
        exact ⟨b1, by show Z.2.2.1 < N + 1 + 1; omega, by show mk _ Z.2.2.1 = 9; rw [fM_k f3 b2]; exact b3, by show ml _ Z.2.2.1 = Z.1; rw [fM_l f3 b2]; exact b4, fun k hk => by show mr _ Z.2.2.1 k = _; rw [fM_r f3 b2 hne9]; exact b5 k hk⟩
      · exact dR_fr (c k hk) f3 (by omega) (hne4 _ (c k hk).1.2.2.1) hne8 (fun z hz => hne6 _ ((c k hk).2.2.1.2 z hz).2.1) (fun x hx _ => hne6 x hx)
      · exact a8_fr (h8 _) (fM_R (X := fun x => x = s) rfl) (Nat.le_refl _) (fun g => by have g : N + 1 = s := g; omega)
      · rcases List.mem_append.mp hz with g | g
        · exact ro_fr (d2 z g) f3 (by omega) (hne6 _ (d2 z g).2.1)
        · rw [List.mem_singleton.mp g]
          exact ro_fr hro (fM_trans (fM_w f2 (fun _ _ h => h.elim)) (fM_R (X := fun x => x = s) rfl) (Nat.le_refl _) (fun _ _ h => h)) (by omega) (fun g => by have g : N = s := g; omega)
      · rw [List.pairwise_append]
        refine ⟨s4, List.pairwise_singleton _ _, fun z hz y hy => ?_⟩
        rw [List.mem_singleton.mp hy]
        have := (d2 z hz).1.2
        show z.1 ≠ N; omega
      · unfold uz; simp
  · rw [if_neg e]
    refine w_i (by simp (disch := omega) only [vin, mk_I, ml_I, mr_I, mk_R, ml_R, mi_R, mkN_eq, mlN_eq, miN_eq, mkN_ne, mlN_ne, miN_ne, mrN_ne, mi_eq, mi_na, mi_nj, mr_eq, mr_na, mr_nj, xL0, xL1, xL2, xL3, xL4, xL5, xL6, xL7, xL8, xL9, xL10, xL12, xL16, xL20, xL24, xL31, xL50, xL60, xL89, xL99, xL100, xL200, xI_add, xI_sub, xI_mul, xI_neg, xI_nat, xI_cl, Int.toNat_natCast, Int.reduceToNat, xltT, xltF, xleT, xleF, xeqT, xeqF, nleT, nleF, nltT, nltF, neqT, neqF, ileT, ileF, iltT, iltF, ieqT, ieqF, or_false, or_true, false_or, true_or, and_true, true_and, and_false, false_and, not_false_eq_true, not_true_eq_false, ↓reduceIte, if_true, if_false, dl]) ?_
    have f3 : fM N (fun x => x = s) m (mI m s 3 (mi m s 3 + 1)) := fM_I rfl
    refine w_s ⟨(Z.1, fu Z.2.1 1 (Z.2.1 1 + 1), Z.2.2.1, Z.2.2.2.1, Z.2.2.2.2.1, Z.2.2.2.2.2), ⟨⟨⟨a1, a2, a3, a4, a5, ?_, ?_⟩, ?_⟩, fun k hk => ?_, ⟨?_, fun z hz => ?_⟩, s1, s2, s3, s4⟩, ?_, ⟨rfl, rfl, fun _ => rfl⟩, rfl, Nat.le_refl _, f3⟩
    · show mi _ s 2 = xI (fu Z.2.1 1 (Z.2.1 1 + 1) 0); rw [mi_nj (by omega), fu_ne (by omega)]; exact a6
    · show mi _ s 3 = xI (fu Z.2.1 1 (Z.2.1 1 + 1) 1); rw [mi_eq, fu_eq, a7, xL1, xI_add]
    · exact hb
    · exact dR_fr (c k hk) f3 (Nat.le_refl _) (hne4 _ (c k hk).1.2.2.1) hne8 (fun z hz => hne6 _ ((c k hk).2.2.1.2 z hz).2.1) (fun x hx _ => hne6 x hx)
    · exact a8_fr ⟨dN, dk, dl, dr⟩ f3 (Nat.le_refl _) (hne8 _ dk)
    · exact ro_fr (d2 z hz) f3 (Nat.le_refl _) (hne6 _ (d2 z hz).2.1)
    · rfl
end
