/-! memory of the reference -/
section
variable {m m' m2 : vM} {a x j y k n N N' : Nat} {v : Int32} {r : Option Nat}
theorem mk_I : mk (mI m a j v) x = mk m x := rfl
theorem ml_I : ml (mI m a j v) x = ml m x := rfl
theorem mr_I : mr (mI m a j v) x y = mr m x y := rfl
theorem mk_R : mk (mR m a j r) x = mk m x := rfl
theorem ml_R : ml (mR m a j r) x = ml m x := rfl
theorem mi_R : mi (mR m a j r) x y = mi m x y := rfl
theorem mkN_eq : mk (mN m a k n) a = k := by simp [mk, mN]
theorem mlN_eq : ml (mN m a k n) a = n := by simp [ml, mN]
theorem miN_eq : mi (mN m a k n) a y = 0 := by simp [mi, mN]
theorem mkN_ne (h : x ≠ a) : mk (mN m a k n) x = mk m x := by simp [mk, mN, h]
theorem mlN_ne (h : x ≠ a) : ml (mN m a k n) x = ml m x := by simp [ml, mN, h]
theorem miN_ne (h : x ≠ a) : mi (mN m a k n) x y = mi m x y := by simp [mi, mN, h]
theorem mrN_ne (h : x ≠ a) : mr (mN m a k n) x y = mr m x y := by simp [mr, mN, h]
theorem mi_eq : mi (mI m a j v) a j = v := by simp [mi, mI]
theorem mi_na (h : x ≠ a) : mi (mI m a j v) x y = mi m x y := by simp [mi, mI, h]
theorem mi_nj (h : y ≠ j) : mi (mI m a j v) x y = mi m x y := by simp [mi, mI, h]
theorem mr_eq : mr (mR m a j r) a j = r := by simp [mr, mR]
theorem mr_na (h : x ≠ a) : mr (mR m a j r) x y = mr m x y := by simp [mr, mR, h]
theorem mr_nj (h : y ≠ j) : mr (mR m a j r) x y = mr m x y := by simp [mr, mR, h]
/-- of the first N ids none but those of X is written; none changes its kind -/
def fM (N : Nat) (X : Nat → Prop) (m m' : vM) : Prop := ∀ x, x < N → (m'.1 x = m.1 x ∧ m'.2.1 x = m.2.1 x) ∧ (¬ X x → m'.2.2.1 x = m.2.2.1 x ∧ m'.2.2.2 x = m.2.2.2 x)
variable {X Y : Nat → Prop}
theorem fM_rfl : fM N X m m := fun _ _ => ⟨⟨rfl, rfl⟩, fun _ => ⟨rfl, rfl⟩⟩
theorem fM_trans (h : fM N X m m') (g : fM N' Y m' m2) (hN : N ≤ N') (hX : ∀ x, x < N → Y x → X x) : fM N X m m2 := by
  intro x hx
  obtain ⟨⟨a1, a2⟩, a3⟩ := h x hx
  obtain ⟨⟨b1, b2⟩, b3⟩ := g x (by omega)
  refine ⟨⟨b1.trans a1, b2.trans a2⟩, fun hn => ?_⟩
  obtain ⟨c1, c2⟩ := a3 hn
  obtain ⟨d1, d2⟩ := b3 (fun hy => hn (hX x hx hy))
  exact ⟨d1.trans c1, d2.trans c2⟩
theorem fM_w (h : fM N X m m') (hX : ∀ x, x < N → X x → Y x) : fM N Y m m' := fun x hx => ⟨(h x hx).1, fun hn => (h x hx).2 (fun g => hn (hX x hx g))⟩
theorem fM_I (h : X a) : fM N X m (mI m a j v) := fun x _ => ⟨⟨rfl, rfl⟩, fun hn => ⟨by funext y; exact mi_na (fun e => hn (e ▸ h)), rfl⟩⟩
theorem fM_R (h : X a) : fM N X m (mR m a j r) := fun x _ => ⟨⟨rfl, rfl⟩, fun hn => ⟨rfl, by funext y; exact mr_na (fun e => hn (e ▸ h))⟩⟩
theorem fM_I0 (h : N ≤ a) : fM N X m (mI m a j v) := fun x hx => ⟨⟨rfl, rfl⟩, fun _ => ⟨by funext y; exact mi_na (by omega), rfl⟩⟩
theorem fM_R0 (h : N ≤ a) : fM N X m (mR m a j r) := fun x hx => ⟨⟨rfl, rfl⟩, fun _ => ⟨rfl, by funext y; exact mr_na (by omega)⟩⟩
theorem fM_N (h : N ≤ a) : fM N X m (mN m a k n) := fun x hx => ⟨⟨mkN_ne (by omega), mlN_ne (by omega)⟩, fun _ => ⟨by funext y; exact miN_ne (by omega), by funext y; exact mrN_ne (by omega)⟩⟩
theorem fM_k (h : fM N X m m') (hx : x < N) : mk m' x = mk m x := (h x hx).1.1
theorem fM_l (h : fM N X m m') (hx : x < N) : ml m' x = ml m x := (h x hx).1.2
theorem fM_i (h : fM N X m m') (hx : x < N) (hn : ¬ X x) : mi m' x y = mi m x y := congrFun ((h x hx).2 hn).1 y
theorem fM_r (h : fM N X m m') (hx : x < N) (hn : ¬ X x) : mr m' x y = mr m x y := congrFun ((h x hx).2 hn).2 y
end
theorem dr_lt' {α : Type} {l : List α} {i : Nat} {a : α} (h : l[i]? = some a) : i < l.length := (List.getElem?_eq_some_iff.mp h).1
/-- a row of L numbers -/
def ro (N : Nat) (m : vM) (L : Nat) (z : Nat × aR) : Prop := (149 ≤ z.1 ∧ z.1 < N) ∧ mk m z.1 = 6 ∧ ml m z.1 = L ∧ ∀ r, r < L → mi m z.1 r = xI (z.2 r)
/-- a row of rows -/
def a8 (N : Nat) (m : vM) (a : Nat) (zs : List (Nat × aR)) : Prop := (149 ≤ a ∧ a < N) ∧ mk m a = 8 ∧ ml m a = zs.length ∧ ∀ i z, zs[i]? = some z → mr m a i = some z.1
abbrev zD : Type := Nat × Nat × Nat × aR × List (Nat × aR) × List (Nat × aR)
abbrev zS : Type := Nat × aR × Nat × Nat × (Nat → zD) × List (Nat × aR)
def dR (N : Nat) (m : vM) (D : zD) : Prop := (149 ≤ D.1 ∧ D.1 < N ∧ mk m D.1 = 4 ∧ mr m D.1 5 = some D.2.1 ∧ mr m D.1 6 = some D.2.2.1) ∧ ((∀ j, j < 5 → mi m D.1 j = xI (D.2.2.2.1 j)) ∧ mi m D.1 7 = xI (D.2.2.2.1 5) ∧ mi m D.1 8 = xI (D.2.2.2.1 6)) ∧ (a8 N m D.2.1 D.2.2.2.2.1 ∧ ∀ z ∈ D.2.2.2.2.1, ro N m 3 z) ∧ (a8 N m D.2.2.1 D.2.2.2.2.2 ∧ ∀ z ∈ D.2.2.2.2.2, ro N m 2 z)
def zsep (Z : zS) : Prop := (∀ j k, j < Z.1 → k < Z.1 → j ≠ k → (Z.2.2.2.2.1 j).1 ≠ (Z.2.2.2.2.1 k).1) ∧ (∀ k, k < Z.1 → (Z.2.2.2.2.1 k).2.2.2.2.1.Pairwise (fun z w => z.1 ≠ w.1)) ∧ (∀ j k, j < Z.1 → k < Z.1 → j ≠ k → ∀ z ∈ (Z.2.2.2.2.1 j).2.2.2.2.1, ∀ w ∈ (Z.2.2.2.2.1 k).2.2.2.2.1, z.1 ≠ w.1) ∧ Z.2.2.2.2.2.Pairwise (fun z w => z.1 ≠ w.1)
def zhd (N : Nat) (m : vM) (s : Nat) (Z : zS) : Prop := (149 ≤ s ∧ s < N ∧ mk m s = 5 ∧ mr m s 0 = some Z.2.2.1 ∧ mr m s 1 = some Z.2.2.2.1 ∧ mi m s 2 = xI (Z.2.1 0) ∧ mi m s 3 = xI (Z.2.1 1)) ∧ (149 ≤ Z.2.2.1 ∧ Z.2.2.1 < N ∧ mk m Z.2.2.1 = 9 ∧ ml m Z.2.2.1 = Z.1 ∧ ∀ k, k < Z.1 → mr m Z.2.2.1 k = some (Z.2.2.2.2.1 k).1)
def ZR (N : Nat) (m : vM) (s : Nat) (Z : zS) : Prop := zhd N m s Z ∧ (∀ k, k < Z.1 → dR N m (Z.2.2.2.2.1 k)) ∧ (a8 N m Z.2.2.2.1 Z.2.2.2.2.2 ∧ ∀ z ∈ Z.2.2.2.2.2, ro N m 5 z) ∧ zsep Z
def ud (D : zD) : aD := (D.2.2.2.1, D.2.2.2.2.1.map Prod.snd, D.2.2.2.2.2.map Prod.snd)
def uz (Z : zS) : aS := (Z.1, Z.2.1, fun k => ud (Z.2.2.2.2.1 k), Z.2.2.2.2.2.map Prod.snd)
/-- the reference's own cells: doors, what is asked, itself -/
def tX (m : vM) (x : Nat) : Prop := 149 ≤ x ∧ (mk m x = 4 ∨ mk m x = 5 ∨ (mk m x = 6 ∧ ml m x = 3))
section
variable {m m' : vM} {N N' s : Nat} {X : Nat → Prop} {L : Nat} {z : Nat × aR} {zs : List (Nat × aR)} {D : zD} {Z : zS} {a : Nat}
theorem ro_fr (h : ro N m L z) (f : fM N X m m') (hN : N ≤ N') (hX : ¬ X z.1) : ro N' m' L z := by
  obtain ⟨⟨h1, h2⟩, h3, h4, h5⟩ := h
  exact ⟨⟨h1, by omega⟩, by rw [fM_k f h2]; exact h3, by rw [fM_l f h2]; exact h4, fun r hr => by rw [fM_i f h2 hX]; exact h5 r hr⟩
theorem a8_fr (h : a8 N m a zs) (f : fM N X m m') (hN : N ≤ N') (hX : ¬ X a) : a8 N' m' a zs := by
  obtain ⟨⟨h1, h2⟩, h3, h4, h5⟩ := h
  exact ⟨⟨h1, by omega⟩, by rw [fM_k f h2]; exact h3, by rw [fM_l f h2]; exact h4, fun i z hz => by rw [fM_r f h2 hX]; exact h5 i z hz⟩
theorem a8_ids (h : a8 N m a zs) {ws : List (Nat × aR)} (e : ws.map Prod.fst = zs.map Prod.fst) : a8 N m a ws := by
  obtain ⟨h1, h3, h4, h5⟩ := h
  have hl : ws.length = zs.length := by have := congrArg List.length e; rwa [List.length_map, List.length_map] at this
  refine ⟨h1, h3, h4.trans hl.symm, fun i z hz => ?_⟩
  have g : (ws.map Prod.fst)[i]? = some z.1 := by rw [List.getElem?_map, hz]; rfl
  rw [e, List.getElem?_map] at g
  cases e2 : zs[i]? with
  | none => rw [e2] at g; cases g
  | some w =>
    rw [e2] at g
    have g : w.1 = z.1 := by simpa using g
    rw [h5 i w e2, g]
theorem dR_fr (h : dR N m D) (f : fM N X m m') (hN : N ≤ N') (h1 : ¬ X D.1) (h2 : ∀ x, mk m x = 8 → ¬ X x) (h3 : ∀ z ∈ D.2.2.2.2.1, ¬ X z.1) (h4 : ∀ x, mk m x = 6 → ml m x = 2 → ¬ X x) : dR N' m' D := by
  obtain ⟨⟨a1, a2, a3, a4, a5⟩, ⟨b1, b2, b3⟩, ⟨c1, c2⟩, d1, d2⟩ := h
  refine ⟨⟨a1, by omega, by rw [fM_k f a2]; exact a3, by rw [fM_r f a2 h1]; exact a4, by rw [fM_r f a2 h1]; exact a5⟩, ⟨fun j hj => by rw [fM_i f a2 h1]; exact b1 j hj, by rw [fM_i f a2 h1]; exact b2, by rw [fM_i f a2 h1]; exact b3⟩, ⟨a8_fr c1 f hN (h2 _ c1.2.1), fun z hz => ro_fr (c2 z hz) f hN (h3 z hz)⟩, a8_fr d1 f hN (h2 _ d1.2.1), fun z hz => ro_fr (d2 z hz) f hN (h4 _ (d2 z hz).2.1 (d2 z hz).2.2.1)⟩
/-- nothing of the reference has been written -/
theorem ZR_fr (h : ZR N m s Z) (f : fM N X m m') (hN : N ≤ N') (hX : ∀ x, 149 ≤ x → X x → mk m x = 8 ∨ mk m x = 6 → False) (hX2 : ∀ x, 149 ≤ x → mk m x = 4 ∨ mk m x = 5 ∨ mk m x = 9 → ¬ X x) : ZR N' m' s Z := by
  obtain ⟨⟨⟨a1, a2, a3, a4, a5, a6, a7⟩, ⟨b1, b2, b3, b4, b5⟩⟩, c, ⟨d1, d2⟩, e⟩ := h
  have n5 := hX2 s a1 (.inr (.inl a3))
  have n9 := hX2 _ b1 (.inr (.inr b3))
  refine ⟨⟨⟨a1, by omega, by rw [fM_k f a2]; exact a3, by rw [fM_r f a2 n5]; exact a4, by rw [fM_r f a2 n5]; exact a5, by rw [fM_i f a2 n5]; exact a6, by rw [fM_i f a2 n5]; exact a7⟩, ⟨b1, by omega, by rw [fM_k f b2]; exact b3, by rw [fM_l f b2]; exact b4, fun k hk => by rw [fM_r f b2 n9]; exact b5 k hk⟩⟩, fun k hk => ?_, ⟨a8_fr d1 f hN (fun g => hX _ d1.1.1 g (.inl d1.2.1)), fun z hz => ro_fr (d2 z hz) f hN (fun g => hX _ (d2 z hz).1.1 g (.inr (d2 z hz).2.1))⟩, e⟩
  obtain ⟨⟨q1, q2, q3, q4, q5⟩, q6, ⟨q7, q8⟩, q9, q10⟩ := c k hk
  have n4 := hX2 _ q1 (.inl q3)
  refine ⟨⟨q1, by omega, by rw [fM_k f q2]; exact q3, by rw [fM_r f q2 n4]; exact q4, by rw [fM_r f q2 n4]; exact q5⟩, ⟨fun j hj => by rw [fM_i f q2 n4]; exact q6.1 j hj, by rw [fM_i f q2 n4]; exact q6.2.1, by rw [fM_i f q2 n4]; exact q6.2.2⟩, ⟨a8_fr q7 f hN (fun g => hX _ q7.1.1 g (.inl q7.2.1)), fun z hz => ro_fr (q8 z hz) f hN (fun g => hX _ (q8 z hz).1.1 g (.inr (q8 z hz).2.1))⟩, a8_fr q9 f hN (fun g => hX _ q9.1.1 g (.inl q9.2.1)), fun z hz => ro_fr (q10 z hz) f hN (fun g => hX _ (q10 z hz).1.1 g (.inr (q10 z hz).2.1))⟩
theorem L_more {p1 : Nat} {kc ks : Nat} (hp : a8 N m a zs) (hl : zs.length ≤ 65) (hm : ∀ z ∈ zs, z.1 < N ∧ mk m z.1 = 6) (h1 : p1 < N ∧ mk m p1 = 6) : ∀ r i, i + r = zs.length → ∀ f, r < f → ∀ m', fM N (fun _ => False) m m' → mk m' N = 8 → ml m' N = zs.length + 1 → (∀ j z, j < i → zs[j]? = some z → mr m' N j = some z.1) → wq (fL_X5_more f 10 (N + 1) m' kc ks a p1 N (xI (i : Nat))) (fun z => z.1 = N ∧ z.2.1 = N + 1 ∧ fM N (fun _ => False) m z.2.2 ∧ ∀ c, a8 (N + 1) z.2.2 N (zs ++ [(p1, c)])) := by
  obtain ⟨⟨p0, pN⟩, p2, p3, p4⟩ := hp
  intro r
  induction r with
  | zero =>
    intro i hi f hf m' hfm k8 l8 hr
    obtain ⟨g, rfl⟩ : ∃ g, f = g + 1 := ⟨f - 1, by omega⟩
    have e1 : mk m' a = 8 := by rw [fM_k hfm pN]; exact p2
    have e2 : ml m' a = zs.length := by rw [fM_l hfm pN]; exact p3
    have e3 : mk m' p1 = 6 := by rw [fM_k hfm h1.1]; exact h1.2
    show wq (fB_X5_more_10 (fL_X5_more g) (N + 1) m' kc ks a p1 N (xI (i : Nat))) _
    unfold fB_X5_more_10
    repeat first | (refine w_i ?_ ?_; · (simp (disch := omega) only [vin, mk_I, ml_I, mr_I, mk_R, ml_R, mi_R, mkN_eq, mlN_eq, miN_eq, mkN_ne, mlN_ne, miN_ne, mrN_ne, mi_eq, mi_na, mi_nj, mr_eq, mr_na, mr_nj, xL0, xL1, xL2, xL3, xL4, xL5, xL6, xL7, xL8, xL9, xL10, xL12, xL16, xL20, xL24, xL31, xL50, xL60, xL89, xL99, xL100, xL200, xI_add, xI_sub, xI_mul, xI_neg, xI_nat, xI_cl, Int.toNat_natCast, Int.reduceToNat, xltT, xltF, xleT, xleF, xeqT, xeqF, nleT, nleF, nltT, nltF, neqT, neqF, ileT, ileF, iltT, iltF, ieqT, ieqF, or_false, or_true, false_or, true_or, and_true, true_and, and_false, false_and, not_false_eq_true, not_true_eq_false, ↓reduceIte, if_true, if_false, e1, e2, e3, k8, l8])) | (refine w_n ?_ ?_; · (simp (disch := omega) only [vin, mk_I, ml_I, mr_I, mk_R, ml_R, mi_R, mkN_eq, mlN_eq, miN_eq, mkN_ne, mlN_ne, miN_ne, mrN_ne, mi_eq, mi_na, mi_nj, mr_eq, mr_na, mr_nj, xL0, xL1, xL2, xL3, xL4, xL5, xL6, xL7, xL8, xL9, xL10, xL12, xL16, xL20, xL24, xL31, xL50, xL60, xL89, xL99, xL100, xL200, xI_add, xI_sub, xI_mul, xI_neg, xI_nat, xI_cl, Int.toNat_natCast, Int.reduceToNat, xltT, xltF, xleT, xleF, xeqT, xeqF, nleT, nleF, nltT, nltF, neqT, neqF, ileT, ileF, iltT, iltF, ieqT, ieqF, or_false, or_true, false_or, true_or, and_true, true_and, and_false, false_and, not_false_eq_true, not_true_eq_false, ↓reduceIte, if_true, if_false, e1, e2, e3, k8, l8]))
    refine w_s ⟨rfl, rfl, fM_trans hfm (fM_R0 (Nat.le_refl _)) (Nat.le_refl _) (fun _ _ h => h), fun c => ⟨⟨by show 149 ≤ N; omega, by show N < N + 1; omega⟩, k8, ?_, fun j z hz => ?_⟩⟩
    · rw [ml_R, l8, List.length_append]; rfl
    · simp (disch := omega) only [e2, xI_add, xI_sub, xI_mul, xI_neg, xI_nat, xI_cl, Int.toNat_natCast, Int.reduceToNat]
      by_cases c1 : j < zs.length
      · rw [List.getElem?_append_left c1] at hz
        rw [mr_nj (by omega)]
        exact hr j z (by omega) hz
      · have hj := dr_lt' hz
        rw [List.length_append] at hj
        have e : j = zs.length := by simp at hj; omega
        subst e
        rw [List.getElem?_append_right (Nat.le_refl _), Nat.sub_self] at hz
        have e : (p1, c) = z := by simpa using hz
        subst e
        rw [mr_eq]
  | succ r ih =>
    intro i hi f hf m' hfm k8 l8 hr
    obtain ⟨g, rfl⟩ : ∃ g, f = g + 1 := ⟨f - 1, by omega⟩
    obtain ⟨z, h2, _⟩ := dr_at (l := zs) (i := i) (by omega)
    have hz := hm z (List.mem_of_getElem? h2)
    have e1 : mk m' a = 8 := by rw [fM_k hfm pN]; exact p2
    have e2 : ml m' a = zs.length := by rw [fM_l hfm pN]; exact p3
    have e4 : mr m' a i = some z.1 := by rw [fM_r hfm pN (fun h => h)]; exact p4 i z h2
    have e4' : mr m' a (xI (i : Nat)).toNatClampNeg = some z.1 := by rw [← e4]; simp (disch := omega) only [vin, mk_I, ml_I, mr_I, mk_R, ml_R, mi_R, mkN_eq, mlN_eq, miN_eq, mkN_ne, mlN_ne, miN_ne, mrN_ne, mi_eq, mi_na, mi_nj, mr_eq, mr_na, mr_nj, xL0, xL1, xL2, xL3, xL4, xL5, xL6, xL7, xL8, xL9, xL10, xL12, xL16, xL20, xL24, xL31, xL50, xL60, xL89, xL99, xL100, xL200, xI_add, xI_sub, xI_mul, xI_neg, xI_nat, xI_cl, Int.toNat_natCast, Int.reduceToNat, xltT, xltF, xleT, xleF, xeqT, xeqF, nleT, nleF, nltT, nltF, neqT, neqF, ileT, ileF, iltT, iltF, ieqT, ieqF, or_false, or_true, false_or, true_or, and_true, true_and, and_false, false_and, not_false_eq_true, not_true_eq_false, ↓reduceIte, if_true, if_false]
    have e5 : mk m' z.1 = 6 := by rw [fM_k hfm hz.1]; exact hz.2
    show wq (fB_X5_more_10 (fL_X5_more g) (N + 1) m' kc ks a p1 N (xI (i : Nat))) _
    unfold fB_X5_more_10
    repeat first | refine w_b e4' ?_ | (refine w_i ?_ ?_; · (simp (disch := omega) only [vin, mk_I, ml_I, mr_I, mk_R, ml_R, mi_R, mkN_eq, mlN_eq, miN_eq, mkN_ne, mlN_ne, miN_ne, mrN_ne, mi_eq, mi_na, mi_nj, mr_eq, mr_na, mr_nj, xL0, xL1, xL2, xL3, xL4, xL5, xL6, xL7, xL8, xL9, xL10, xL12, xL16, xL20, xL24, xL31, xL50, xL60, xL89, xL99, xL100, xL200, xI_add, xI_sub, xI_mul, xI_neg, xI_nat, xI_cl, Int.toNat_natCast, Int.reduceToNat, xltT, xltF, xleT, xleF, xeqT, xeqF, nleT, nleF, nltT, nltF, neqT, neqF, ileT, ileF, iltT, iltF, ieqT, ieqF, or_false, or_true, false_or, true_or, and_true, true_and, and_false, false_and, not_false_eq_true, not_true_eq_false, ↓reduceIte, if_true, if_false, e1, e2, e5, k8, l8])) | (refine w_n ?_ ?_; · (simp (disch := omega) only [vin, mk_I, ml_I, mr_I, mk_R, ml_R, mi_R, mkN_eq, mlN_eq, miN_eq, mkN_ne, mlN_ne, miN_ne, mrN_ne, mi_eq, mi_na, mi_nj, mr_eq, mr_na, mr_nj, xL0, xL1, xL2, xL3, xL4, xL5, xL6, xL7, xL8, xL9, xL10, xL12, xL16, xL20, xL24, xL31, xL50, xL60, xL89, xL99, xL100, xL200, xI_add, xI_sub, xI_mul, xI_neg, xI_nat, xI_cl, Int.toNat_natCast, Int.reduceToNat, xltT, xltF, xleT, xleF, xeqT, xeqF, nleT, nleF, nltT, nltF, neqT, neqF, ileT, ileF, iltT, iltF, ieqT, ieqF, or_false, or_true, false_or, true_or, and_true, true_and, and_false, false_and, not_false_eq_true, not_true_eq_false, ↓reduceIte, if_true, if_false, e1, e2, e5, k8, l8]))
    refine w_r ?_ (ih (i + 1) (by omega) g (by omega) (mR m' N i (some z.1)) (fM_trans hfm (fM_R0 (Nat.le_refl _)) (Nat.le_refl _) (fun _ _ h => h)) k8 l8 (fun j w hj hw => ?_))
    · simp (disch := omega) only [vin, mk_I, ml_I, mr_I, mk_R, ml_R, mi_R, mkN_eq, mlN_eq, miN_eq, mkN_ne, mlN_ne, miN_ne, mrN_ne, mi_eq, mi_na, mi_nj, mr_eq, mr_na, mr_nj, xL0, xL1, xL2, xL3, xL4, xL5, xL6, xL7, xL8, xL9, xL10, xL12, xL16, xL20, xL24, xL31, xL50, xL60, xL89, xL99, xL100, xL200, xI_add, xI_sub, xI_mul, xI_neg, xI_nat, xI_cl, Int.toNat_natCast, Int.reduceToNat, xltT, xltF, xleT, xleF, xeqT, xeqF, nleT, nleF, nltT, nltF, neqT, neqF, ileT, ileF, iltT, iltF, ieqT, ieqF, or_false, or_true, false_or, true_or, and_true, true_and, and_false, false_and, not_false_eq_true, not_true_eq_false, ↓reduceIte, if_true, if_false, Int.natCast_add, Int.cast_ofNat_Int]
    · by_cases e : j = i
      · subst e
        rw [h2] at hw
        rw [mr_eq]; cases hw; rfl
      · rw [mr_nj e]; exact hr j w (by omega) hw
theorem S_more {p1 : Nat} (hp : a8 N m a zs) (hl : zs.length ≤ 65) (hm : ∀ z ∈ zs, z.1 < N ∧ mk m z.1 = 6) (h1 : p1 < N ∧ mk m p1 = 6) : wq (f_X5_more N m a p1) (fun z => z.1 = N ∧ z.2.1 = N + 1 ∧ fM N (fun _ => False) m z.2.2 ∧ ∀ c, a8 (N + 1) z.2.2 N (zs ++ [(p1, c)])) := by
  have hp0 := hp
  obtain ⟨⟨p0, pN⟩, p2, p3, p4⟩ := hp
  unfold f_X5_more
  iterate 4 (first | (refine w_i ?_ ?_; · (simp (disch := omega) only [vin, mk_I, ml_I, mr_I, mk_R, ml_R, mi_R, mkN_eq, mlN_eq, miN_eq, mkN_ne, mlN_ne, miN_ne, mrN_ne, mi_eq, mi_na, mi_nj, mr_eq, mr_na, mr_nj, xL0, xL1, xL2, xL3, xL4, xL5, xL6, xL7, xL8, xL9, xL10, xL12, xL16, xL20, xL24, xL31, xL50, xL60, xL89, xL99, xL100, xL200, xI_add, xI_sub, xI_mul, xI_neg, xI_nat, xI_cl, Int.toNat_natCast, Int.reduceToNat, xltT, xltF, xleT, xleF, xeqT, xeqF, nleT, nleF, nltT, nltF, neqT, neqF, ileT, ileF, iltT, iltF, ieqT, ieqF, or_false, or_true, false_or, true_or, and_true, true_and, and_false, false_and, not_false_eq_true, not_true_eq_false, ↓reduceIte, if_true, if_false, p2, p3])) | (refine w_n ?_ ?_; · (simp (disch := omega) only [vin, mk_I, ml_I, mr_I, mk_R, ml_R, mi_R, mkN_eq, mlN_eq, miN_eq, mkN_ne, mlN_ne, miN_ne, mrN_ne, mi_eq, mi_na, mi_nj, mr_eq, mr_na, mr_nj, xL0, xL1, xL2, xL3, xL4, xL5, xL6, xL7, xL8, xL9, xL10, xL12, xL16, xL20, xL24, xL31, xL50, xL60, xL89, xL99, xL100, xL200, xI_add, xI_sub, xI_mul, xI_neg, xI_nat, xI_cl, Int.toNat_natCast, Int.reduceToNat, xltT, xltF, xleT, xleF, xeqT, xeqF, nleT, nleF, nltT, nltF, neqT, neqF, ileT, ileF, iltT, iltF, ieqT, ieqF, or_false, or_true, false_or, true_or, and_true, true_and, and_false, false_and, not_false_eq_true, not_true_eq_false, ↓reduceIte, if_true, if_false, p2, p3])))
  refine w_r ?_ (L_more (kc := 0 + 1) (ks := 0 + (zs.length + 1)) hp0 hl hm h1 zs.length 0 (by omega) vF (by unfold vF; omega) (mN m N 8 (zs.length + 1)) (fM_N (Nat.le_refl _)) mkN_eq mlN_eq (fun j z hj _ => by omega))
  have e9 : (Int32.ofNat (ml m a) + 1).toNatClampNeg = zs.length + 1 := by
    rw [p3, xI_nat, xL1, xI_add, xI_cl (by omega)]; omega
  rw [e9]
  rfl
end
