def vZ (tc : Nat → ClassId) (U : State) : Prop := vG tc U ∧ vQ U ∧ va_Nw (.methodLinkNest RX0 78 yX3_isIn "VaultDoors") U ∧ va_Nw (.methodLinkNest RX1 19 yX2_init "VaultDoors") U ∧ va_Nw (.methodLinkNest RX1 27 yX0_init "VaultDoors") U ∧ va_Nw (.methodLinkNest RX2 48 yX3_isIn "VaultDoors") U ∧ va_Nw (.methodLinkNest RL 11 yX5_init "VaultDoorsLaw") U ∧ va_Nw (.methodLinkNest RX5 30 yX4_init "VaultDoorsLaw") U
theorem vZ.warm {tc : Nat → ClassId} {s U : State} (h : vZ tc s) (hW : s.WarmedH U.vm) : vZ tc U := ⟨h.1.moved hW.alike, h.2.1.moved hW.alike, va_Nw.warmM hW h.2.2.1, va_Nw.warmM hW h.2.2.2.1, va_Nw.warmM hW h.2.2.2.2.1, va_Nw.warmM hW h.2.2.2.2.2.1, va_Nw.warmM hW h.2.2.2.2.2.2.1, va_Nw.warmM hW h.2.2.2.2.2.2.2⟩
theorem vZ.same {tc : Nat → ClassId} {u U : State} (h : vZ tc u) (hv : U.vm = u.vm) : vZ tc U := by
  have ha : u.vm.Alike U.vm := by rw [hv]; exact Vm.Alike.refl u.vm
  exact ⟨h.1.moved ha, h.2.1.moved ha, va_Nw.same rfl hv.symm h.2.2.1, va_Nw.same rfl hv.symm h.2.2.2.1, va_Nw.same rfl hv.symm h.2.2.2.2.1, va_Nw.same rfl hv.symm h.2.2.2.2.2.1, va_Nw.same rfl hv.symm h.2.2.2.2.2.2.1, va_Nw.same rfl hv.symm h.2.2.2.2.2.2.2⟩
abbrev qR (D : va_G) (tc : Nat → ClassId) (ad : Nat → Nat) (N : Nat) (m : vM) (U : State) : Prop := va_P D vwCl (vW tc ad N m) U.heap ∧ va_K D vwCl (vT tc) U ∧ vZ tc U
abbrev qW (D : va_G) (tc : Nat → ClassId) (ad : Nat → Nat) (N : Nat) (m : vM) (sz : Nat) (U : State) : Prop := U.heap.size = sz ∧ va_P D vwCl (vW tc ad N m) U.heap ∧ va_K D vwCl (vT tc) U ∧ va_D (fun _ => True) (vW tc ad N m) ∧ vZ tc U
abbrev pB (D : va_G) (A : Nat → Prop) (ws : va_W) (tys : List (ClassId × FieldType)) (t : State) : Prop := va_P D vwCl ws t.heap ∧ va_K D vwCl tys t ∧ va_D A ws
section
variable {D : va_G} {tc : Nat → ClassId} {ad : Nat → Nat} {N : Nat} {m : vM} {av : List Value} {s : State} {H : Heap} {sz : Nat} {A : Nat → Prop}
theorem qR_blind : FrameBlind (va_Pc av (qR D tc ad N m)) := fun a U g mk q => ⟨q.1, q.2.1, va_K.moved (u := U) (U := U.calling g mk a) (Vm.Alike.refl U.vm) q.2.2.1, vZ.same (U := U.calling g mk a) q.2.2.2 rfl⟩
theorem qW_blind : FrameBlind (va_Pc av (qW D tc ad N m sz)) := fun a U g mk q => ⟨q.1, q.2.1, q.2.2.1, va_K.moved (u := U) (U := U.calling g mk a) (Vm.Alike.refl U.vm) q.2.2.2.1, q.2.2.2.2.1, vZ.same (U := U.calling g mk a) q.2.2.2.2.2 rfl⟩
theorem qR_pre (hP : va_P D vwCl (vW tc ad N m) H) (hK : va_K D vwCl (vT tc) s) (hZ : vZ tc s) : ∀ U : State, U.heap = H → s.WarmedH U.vm → va_Pc av (qR D tc ad N m) av.toArray U := fun U hU hW => ⟨rfl, by rw [hU]; exact hP, va_K.moved hW.alike hK, hZ.warm hW⟩
theorem qW_pre (hP : va_P D vwCl (vW tc ad N m) H) (hD : va_D A (vW tc ad N m)) (hK : va_K D vwCl (vT tc) s) (hZ : vZ tc s) : ∀ U : State, U.heap = H → s.WarmedH U.vm → va_Pc av (qW D tc ad N m H.size) av.toArray U := fun U hU hW => ⟨rfl, by rw [hU], by rw [hU]; exact hP, va_K.moved hW.alike hK, hD.weaken (fun _ _ _ _ => trivial), hZ.warm hW⟩
theorem vm_free {ws : va_W} {H0 : Heap} {locs : List Loc} (hD : va_D A ws) (hS : va_S A H0 H locs) (hA : ∀ q, H0.size ≤ q → A q) : ∀ q, va_A ws H.size q → A q := fun q h => h.elim (fun ⟨k, e, hk⟩ => hD.2 k _ hk) (fun h => hA q (Nat.le_trans hS.1 h))
end
def vF : Nat := 1000000
theorem vg_if {α : Type} {c : Prop} [Decidable c] {x : Option α} {z : α} (h : (if c then x else none) = some z) : c ∧ x = some z := by
  by_cases hc : c
  · exact ⟨hc, by rw [if_pos hc] at h; exact h⟩
  · rw [if_neg hc] at h; cases h
theorem vg_bind {α β : Type} {x : Option β} {k : β → Option α} {z : α} (h : Option.bind x k = some z) : ∃ y, x = some y ∧ k y = some z := by
  cases x with
  | none => cases h
  | some y => exact ⟨y, rfl, h⟩
theorem vm_z {x : Int32} (h : x = 0 ∨ x = 1) : narrow .boolean (.int x) = .int x := by
  rcases h with rfl | rfl <;> rfl
theorem vm_lk2 {x : Int32} {d a b : Int} (h0 : ¬ x = 0) (h1 : ¬ x = 1) : Op.lookupswitch.offset (#[((0 : Int), a), (1, b)] : Array (Int × Int)).toList d x.toInt = d := by
  have e0 : x.toInt ≠ 0 := fun h => h0 (Int32.toInt_inj.mp h)
  have e1 : x.toInt ≠ 1 := fun h => h1 (Int32.toInt_inj.mp h)
  simp [Op.lookupswitch.offset, Ne.symm e0, Ne.symm e1, e0, e1]
theorem vs_swk (z : Int32) (k : Int32) (h : z.toInt = k.toInt) : z = k := Int32.toInt_inj.mp h
theorem vs_sw8 (z : Int32) : (z.toInt < 0 ∨ 7 < z.toInt) ∨ z = 0 ∨ z = 1 ∨ z = 2 ∨ z = 3 ∨ z = 4 ∨ z = 5 ∨ z = 6 ∨ z = 7 := by
  by_cases h : z.toInt < 0 ∨ 7 < z.toInt
  · exact Or.inl h
  · have hz : z.toInt = 0 ∨ z.toInt = 1 ∨ z.toInt = 2 ∨ z.toInt = 3 ∨ z.toInt = 4 ∨ z.toInt = 5 ∨ z.toInt = 6 ∨ z.toInt = 7 := by omega
    refine Or.inr ?_
    rcases hz with h | h | h | h | h | h | h | h
    · exact Or.inl (vs_swk z 0 h)
    · exact Or.inr (Or.inl (vs_swk z 1 h))
    · exact Or.inr (Or.inr (Or.inl (vs_swk z 2 h)))
    · exact Or.inr (Or.inr (Or.inr (Or.inl (vs_swk z 3 h))))
    · exact Or.inr (Or.inr (Or.inr (Or.inr (Or.inl (vs_swk z 4 h)))))
    · exact Or.inr (Or.inr (Or.inr (Or.inr (Or.inr (Or.inl (vs_swk z 5 h))))))
    · exact Or.inr (Or.inr (Or.inr (Or.inr (Or.inr (Or.inr (Or.inl (vs_swk z 6 h)))))))
    · exact Or.inr (Or.inr (Or.inr (Or.inr (Or.inr (Or.inr (Or.inr (vs_swk z 7 h)))))))
theorem vs_sw15 (z : Int32) : (z.toInt < 0 ∨ 14 < z.toInt) ∨ z = 0 ∨ z = 1 ∨ z = 2 ∨ z = 3 ∨ z = 4 ∨ z = 5 ∨ z = 6 ∨ z = 7 ∨ z = 8 ∨ z = 9 ∨ z = 10 ∨ z = 11 ∨ z = 12 ∨ z = 13 ∨ z = 14 := by
  by_cases h : z.toInt < 0 ∨ 14 < z.toInt
  · exact Or.inl h
  · have hz : z.toInt = 0 ∨ z.toInt = 1 ∨ z.toInt = 2 ∨ z.toInt = 3 ∨ z.toInt = 4 ∨ z.toInt = 5 ∨ z.toInt = 6 ∨ z.toInt = 7 ∨ z.toInt = 8 ∨ z.toInt = 9 ∨ z.toInt = 10 ∨ z.toInt = 11 ∨ z.toInt = 12 ∨ z.toInt = 13 ∨ z.toInt = 14 := by omega
    refine Or.inr ?_
    rcases hz with h | h | h | h | h | h | h | h | h | h | h | h | h | h | h
    · exact Or.inl (vs_swk z 0 h)
    · exact Or.inr (Or.inl (vs_swk z 1 h))
    · exact Or.inr (Or.inr (Or.inl (vs_swk z 2 h)))
    · exact Or.inr (Or.inr (Or.inr (Or.inl (vs_swk z 3 h))))
    · exact Or.inr (Or.inr (Or.inr (Or.inr (Or.inl (vs_swk z 4 h)))))
    · exact Or.inr (Or.inr (Or.inr (Or.inr (Or.inr (Or.inl (vs_swk z 5 h))))))
    · exact Or.inr (Or.inr (Or.inr (Or.inr (Or.inr (Or.inr (Or.inl (vs_swk z 6 h)))))))
    · exact Or.inr (Or.inr (Or.inr (Or.inr (Or.inr (Or.inr (Or.inr (Or.inl (vs_swk z 7 h))))))))
    · exact Or.inr (Or.inr (Or.inr (Or.inr (Or.inr (Or.inr (Or.inr (Or.inr (Or.inl (vs_swk z 8 h)))))))))
    · exact Or.inr (Or.inr (Or.inr (Or.inr (Or.inr (Or.inr (Or.inr (Or.inr (Or.inr (Or.inl (vs_swk z 9 h))))))))))
    · exact Or.inr (Or.inr (Or.inr (Or.inr (Or.inr (Or.inr (Or.inr (Or.inr (Or.inr (Or.inr (Or.inl (vs_swk z 10 h)))))))))))
    · exact Or.inr (Or.inr (Or.inr (Or.inr (Or.inr (Or.inr (Or.inr (Or.inr (Or.inr (Or.inr (Or.inr (Or.inl (vs_swk z 11 h))))))))))))
    · exact Or.inr (Or.inr (Or.inr (Or.inr (Or.inr (Or.inr (Or.inr (Or.inr (Or.inr (Or.inr (Or.inr (Or.inr (Or.inl (vs_swk z 12 h)))))))))))))
    · exact Or.inr (Or.inr (Or.inr (Or.inr (Or.inr (Or.inr (Or.inr (Or.inr (Or.inr (Or.inr (Or.inr (Or.inr (Or.inr (Or.inl (vs_swk z 13 h))))))))))))))
    · exact Or.inr (Or.inr (Or.inr (Or.inr (Or.inr (Or.inr (Or.inr (Or.inr (Or.inr (Or.inr (Or.inr (Or.inr (Or.inr (Or.inr (vs_swk z 14 h))))))))))))))
theorem vs_sw3 (z : Int32) : (z.toInt < 0 ∨ 2 < z.toInt) ∨ z = 0 ∨ z = 1 ∨ z = 2 := by
  by_cases h : z.toInt < 0 ∨ 2 < z.toInt
  · exact Or.inl h
  · have hz : z.toInt = 0 ∨ z.toInt = 1 ∨ z.toInt = 2 := by omega
    refine Or.inr ?_
    rcases hz with h | h | h
    · exact Or.inl (vs_swk z 0 h)
    · exact Or.inr (Or.inl (vs_swk z 1 h))
    · exact Or.inr (Or.inr (vs_swk z 2 h))
theorem vs_sw4 (z : Int32) : (z.toInt < 0 ∨ 3 < z.toInt) ∨ z = 0 ∨ z = 1 ∨ z = 2 ∨ z = 3 := by
  by_cases h : z.toInt < 0 ∨ 3 < z.toInt
  · exact Or.inl h
  · have hz : z.toInt = 0 ∨ z.toInt = 1 ∨ z.toInt = 2 ∨ z.toInt = 3 := by omega
    refine Or.inr ?_
    rcases hz with h | h | h | h
    · exact Or.inl (vs_swk z 0 h)
    · exact Or.inr (Or.inl (vs_swk z 1 h))
    · exact Or.inr (Or.inr (Or.inl (vs_swk z 2 h)))
    · exact Or.inr (Or.inr (Or.inr (vs_swk z 3 h)))
theorem vs_sw5 (z : Int32) : (z.toInt < 0 ∨ 4 < z.toInt) ∨ z = 0 ∨ z = 1 ∨ z = 2 ∨ z = 3 ∨ z = 4 := by
  by_cases h : z.toInt < 0 ∨ 4 < z.toInt
  · exact Or.inl h
  · have hz : z.toInt = 0 ∨ z.toInt = 1 ∨ z.toInt = 2 ∨ z.toInt = 3 ∨ z.toInt = 4 := by omega
    refine Or.inr ?_
    rcases hz with h | h | h | h | h
    · exact Or.inl (vs_swk z 0 h)
    · exact Or.inr (Or.inl (vs_swk z 1 h))
    · exact Or.inr (Or.inr (Or.inl (vs_swk z 2 h)))
    · exact Or.inr (Or.inr (Or.inr (Or.inl (vs_swk z 3 h))))
    · exact Or.inr (Or.inr (Or.inr (Or.inr (vs_swk z 4 h))))
theorem vs_sw6 (z : Int32) : (z.toInt < 0 ∨ 5 < z.toInt) ∨ z = 0 ∨ z = 1 ∨ z = 2 ∨ z = 3 ∨ z = 4 ∨ z = 5 := by
  by_cases h : z.toInt < 0 ∨ 5 < z.toInt
  · exact Or.inl h
  · have hz : z.toInt = 0 ∨ z.toInt = 1 ∨ z.toInt = 2 ∨ z.toInt = 3 ∨ z.toInt = 4 ∨ z.toInt = 5 := by omega
    refine Or.inr ?_
    rcases hz with h | h | h | h | h | h
    · exact Or.inl (vs_swk z 0 h)
    · exact Or.inr (Or.inl (vs_swk z 1 h))
    · exact Or.inr (Or.inr (Or.inl (vs_swk z 2 h)))
    · exact Or.inr (Or.inr (Or.inr (Or.inl (vs_swk z 3 h))))
    · exact Or.inr (Or.inr (Or.inr (Or.inr (Or.inl (vs_swk z 4 h)))))
    · exact Or.inr (Or.inr (Or.inr (Or.inr (Or.inr (vs_swk z 5 h)))))
theorem vs_sw7 (z : Int32) : (z.toInt < 0 ∨ 6 < z.toInt) ∨ z = 0 ∨ z = 1 ∨ z = 2 ∨ z = 3 ∨ z = 4 ∨ z = 5 ∨ z = 6 := by
  by_cases h : z.toInt < 0 ∨ 6 < z.toInt
  · exact Or.inl h
  · have hz : z.toInt = 0 ∨ z.toInt = 1 ∨ z.toInt = 2 ∨ z.toInt = 3 ∨ z.toInt = 4 ∨ z.toInt = 5 ∨ z.toInt = 6 := by omega
    refine Or.inr ?_
    rcases hz with h | h | h | h | h | h | h
    · exact Or.inl (vs_swk z 0 h)
    · exact Or.inr (Or.inl (vs_swk z 1 h))
    · exact Or.inr (Or.inr (Or.inl (vs_swk z 2 h)))
    · exact Or.inr (Or.inr (Or.inr (Or.inl (vs_swk z 3 h))))
    · exact Or.inr (Or.inr (Or.inr (Or.inr (Or.inl (vs_swk z 4 h)))))
    · exact Or.inr (Or.inr (Or.inr (Or.inr (Or.inr (Or.inl (vs_swk z 5 h))))))
    · exact Or.inr (Or.inr (Or.inr (Or.inr (Or.inr (Or.inr (vs_swk z 6 h))))))
theorem vs_sw9 (z : Int32) : (z.toInt < 0 ∨ 8 < z.toInt) ∨ z = 0 ∨ z = 1 ∨ z = 2 ∨ z = 3 ∨ z = 4 ∨ z = 5 ∨ z = 6 ∨ z = 7 ∨ z = 8 := by
  by_cases h : z.toInt < 0 ∨ 8 < z.toInt
  · exact Or.inl h
  · have hz : z.toInt = 0 ∨ z.toInt = 1 ∨ z.toInt = 2 ∨ z.toInt = 3 ∨ z.toInt = 4 ∨ z.toInt = 5 ∨ z.toInt = 6 ∨ z.toInt = 7 ∨ z.toInt = 8 := by omega
    refine Or.inr ?_
    rcases hz with h | h | h | h | h | h | h | h | h
    · exact Or.inl (vs_swk z 0 h)
    · exact Or.inr (Or.inl (vs_swk z 1 h))
    · exact Or.inr (Or.inr (Or.inl (vs_swk z 2 h)))
    · exact Or.inr (Or.inr (Or.inr (Or.inl (vs_swk z 3 h))))
    · exact Or.inr (Or.inr (Or.inr (Or.inr (Or.inl (vs_swk z 4 h)))))
    · exact Or.inr (Or.inr (Or.inr (Or.inr (Or.inr (Or.inl (vs_swk z 5 h))))))
    · exact Or.inr (Or.inr (Or.inr (Or.inr (Or.inr (Or.inr (Or.inl (vs_swk z 6 h)))))))
    · exact Or.inr (Or.inr (Or.inr (Or.inr (Or.inr (Or.inr (Or.inr (Or.inl (vs_swk z 7 h))))))))
    · exact Or.inr (Or.inr (Or.inr (Or.inr (Or.inr (Or.inr (Or.inr (Or.inr (vs_swk z 8 h))))))))
