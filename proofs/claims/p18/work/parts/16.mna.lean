/-- n rows of nine: the outer row is a, the inner ones a + 1 to a + n -/
def mQ (m : vM) (a n : Nat) : vM := (fun x => if x = a then 8 else if a < x ∧ x ≤ a + n then 6 else m.1 x, fun x => if x = a then n else if a < x ∧ x ≤ a + n then 9 else m.2.1 x, fun x y => if a ≤ x ∧ x ≤ a + n then 0 else m.2.2.1 x y, fun x y => if x = a then (if y < n then some (a + (1 + y)) else none) else if a < x ∧ x ≤ a + n then none else m.2.2.2 x y)
theorem vOK.Q {N : Nat} {m : vM} {n : Nat} (h : vOK N m) : vOK (N + (1 + n)) (mQ m N n) := by
  intro x y z hz
  have hz : (if x = N then (if y < n then some (N + (1 + y)) else none) else if N < x ∧ x ≤ N + n then none else m.2.2.2 x y) = some z := hz
  split at hz
  · split at hz
    · cases hz; omega
    · cases hz
  · split at hz
    · cases hz
    · have := h x y z hz; omega
section
variable {p : Program} {l : Launch} {e : Env} {R : Room} {s : State} {m : MethodId} {args : Array Value} {below : List Frame} {meth : Method} {c : Code} {H : Heap} {locs : List Loc} {cells slots : Nat} {Q : State → Prop}
variable {cc : ByteArray} {pc : Nat} {ls : Array Slot} {rest : List Value} {D : va_G} {A : Nat → Prop} {H0 : Heap} {tc : Nat → ClassId} {ad : Nat → Nat} {N : Nat} {M : vM}
theorem vW_q {n q : Nat} {r : Nat → Nat} {f : Nat → va_E} (hO : vOK N M) : ∃ ad' : Nat → Nat, ad' N = q ∧ (∀ x, x < N → ad' x = ad x) ∧
    (vW tc ad N M ++ [(q, .inl (tc 2, n, .inr (.inr (.inr (.inr (fun i => if i < n then some (r i) else none))))))]) ++ va_pl ([] ++ (List.range n).map r) (vr_up f ((List.range n).map r) (.inl (tc 0, 9, .inl (fun _ => 0)))) = vW tc ad' (N + (1 + n)) (mQ M N n) := by
  refine ⟨fun x => if x = N then q else if N < x ∧ x ≤ N + n then r (x - N - 1) else ad x, by simp, fun x hx => by simp [Nat.ne_of_lt hx, Nat.not_lt.mpr (Nat.le_of_lt hx)], ?_⟩
  generalize had : (fun x => if x = N then q else if N < x ∧ x ≤ N + n then r (x - N - 1) else ad x) = ad'
  have a1 : ad' N = q := by rw [← had]; simp
  have a2 : ∀ x, x < N → ad' x = ad x := fun x hx => by rw [← had]; simp [Nat.ne_of_lt hx, Nat.not_lt.mpr (Nat.le_of_lt hx)]
  have a3 : ∀ j, j < n → ad' (N + (1 + j)) = r j := fun j hj => by
    rw [← had]
    have h1 : ¬ N + (1 + j) = N := by omega
    have h2 : N < N + (1 + j) ∧ N + (1 + j) ≤ N + n := by omega
    have h3 : N + (1 + j) - N - 1 = j := by omega
    simp only [h1, h2, h3, if_false, if_true, and_self]
  clear had
  unfold vW va_pl
  rw [List.nil_append, List.range_add, List.range_add, List.map_append, List.map_append, List.map_append, ← List.append_assoc]
  congr 1
  · congr 1
    · apply List.map_congr_left
      intro x hxm
      have hx : x < N := List.mem_range.mp hxm
      have hne : x ≠ N := Nat.ne_of_lt hx
      have hnl : ¬ (N < x ∧ x ≤ N + n) := by omega
      have hnl2 : ¬ (N ≤ x ∧ x ≤ N + n) := by omega
      have h0 : vE tc ad' (mQ M N n) x = vE tc ad' M x := vE_ne (by simp [mQ, hne, hnl]) (by simp [mQ, hne, hnl]) (by funext y; simp [mQ, hnl2]) (by funext y; simp [mQ, hne, hnl])
      have h1 : ∀ j, (mr M x j).map ad' = (mr M x j).map ad := by
        intro j
        cases h9 : mr M x j with
        | none => rfl
        | some i => simp [a2 i (hO x j i h9)]
      rw [h0, a2 x hx]
      simp only [vE, h1]
    · have hk : mk (mQ M N n) N = 8 := by simp [mk, mQ]
      have h1 : ∀ j, (mr (mQ M N n) N j).map ad' = if j < n then some (r j) else none := by
        intro j
        by_cases hj : j < n
        · simp [mr, mQ, hj, a3 j hj]
        · simp [mr, mQ, hj]
      simp [vE_k8 hk, a1, h1]
      simp [ml, mQ]
  · rw [List.map_map, List.map_map, List.map_map]
    apply List.map_congr_left
    intro j hjm
    have hj : j < n := List.mem_range.mp hjm
    have hk : mk (mQ M N n) (N + (1 + j)) = 6 := by
      have h1 : ¬ N + (1 + j) = N := by omega
      have h2 : N < N + (1 + j) ∧ N + (1 + j) ≤ N + n := by omega
      simp only [mk, mQ, h1, h2, if_false, if_true, and_self]
    have hl : ml (mQ M N n) (N + (1 + j)) = 9 := by
      have h1 : ¬ N + (1 + j) = N := by omega
      have h2 : N < N + (1 + j) ∧ N + (1 + j) ≤ N + n := by omega
      simp only [ml, mQ, h1, h2, if_false, if_true, and_self]
    have hi : ∀ y, mi (mQ M N n) (N + (1 + j)) y = 0 := by
      intro y
      have h2 : N ≤ N + (1 + j) ∧ N + (1 + j) ≤ N + n := by omega
      simp only [mi, mQ, h2, if_true, and_self]
    have hm : r j ∈ (List.range n).map r := List.mem_map_of_mem hjm
    show (r j, vr_up f ((List.range n).map r) _ (r j)) = (ad' (N + (1 + j)), vE tc ad' (mQ M N n) (N + (1 + j)))
    rw [vr_up_in hm, a3 j hj, vE_k6 hk, hl]
    congr 5
    funext y
    exact (hi y).symm
theorem wm_mna (hexec : p.tables.exec = Jvm.exec) (hb : c.code = cc) {own : String} {index : Nat} (hown : s.vm.findClass own = some m.cls) (hclink : (Cond.classLink own index "[[I").before args s = true) (hQ : vQ s) (harr : (Cond.arrayClass .int).before args s = true) (hO : vOK N M) (hK : va_K D vwCl (vT tc) s) (hP : va_P D vwCl (vW tc ad N M) H) (hD : va_D A (vW tc ad N M)) (hS : va_S A H0 H locs) (hA : ∀ q, H0.size ≤ q → A q)
    {n : Int32} {n' : Nat} (hn : ¬ n < 0) (hN : n.toNatClampNeg = n') (hbytes : n' ≤ 1000) (hcells : cells + (1 + n') ≤ R.cells) (hslots : slots + (n' + n' * 9) ≤ R.slots) (hdg : decode cc pc = .ok (.multianewarray index 2, 4))
    (kk : ∀ (ad' : Nat → Nat) (H1 : Heap), (∀ x, x < N → ad' x = ad x) → va_P D vwCl (vW tc ad' (N + (1 + n')) (mQ M N n')) H1 → va_D A (vW tc ad' (N + (1 + n')) (mQ M N n')) → va_S A H0 H1 locs →
      W p l e R s m args below meth c H1 locs (cells + (1 + n')) (slots + (n' + n' * 9)) Q (F0 m (pc + 4) ls (.ref (ad' N) :: rest))) : W p l e R s m args below meth c H locs cells slots Q (F0 m pc ls (.int 9 :: .int n :: rest)) := by
  have hcy : s.vm.findClass (FieldType.array .int).toString = some (tc 0) := (hK.2 0 (tc 0, .int) rfl).2
  have e0 : vW tc ad N M = vW tc ad N M ++ va_pl [] (fun _ => .inl (tc 0, 9, .inl (fun _ => 0))) := by simp [va_pl]
  rw [e0] at hP hD
  refine va_mna (D := D) (X := vW tc ad N M) (L := []) (f := fun _ => .inl (tc 0, 9, .inl (fun _ => 0))) (ty := .int) (cy := tc 0) (N' := n') (K' := 9) (z := (9, .inl (fun _ => 0))) hexec hb hown hclink hQ.2.2 harr hcy hK hP hD hS hA hn (by decide) hN rfl (by omega) (by decide) (by decide) rfl rfl hcells hslots (fun c => ?_) hdg (fun q r cA H1 hr1 hr2 hK1 hP1 hD1 hS1 => ?_)
  · first | rfl | (unfold Jvm.Free.Multi.innerC vp_cell; rfl) | (show _ = arrV c 9 _; rw [← arrV_new]; rfl)
  · have e1 := (hK1.2 4 (cA, .array .int) rfl).2
    have e2 := (hK.2 2 (tc 2, .array .int) rfl).2
    have e3 : cA = tc 2 := Option.some.inj (e1.symm.trans e2)
    subst e3
    obtain ⟨ad', g1, g2, g3⟩ := vW_q (tc := tc) (ad := ad) (q := q) (n := n') (r := r) (f := fun _ => .inl (tc 0, 9, .inl (fun _ => 0))) hO
    rw [g3] at hP1 hD1
    rw [← g1]
    refine W.cs (cells' := cells + (1 + n')) (slots' := slots + (n' + n' * 9)) (by omega) (by omega) ?_
    exact kk ad' H1 g2 hP1 hD1 hS1
end
/-- what the law makes fits the claim's room -/
theorem vRc {a : Nat} (h : a ≤ 140000) : a ≤ room_1.cells := Nat.le_trans h (Nat.le_of_ble_eq_true rfl)
theorem vRs {a : Nat} (h : a ≤ 4200000) : a ≤ room_1.slots := Nat.le_trans h (Nat.le_of_ble_eq_true rfl)
