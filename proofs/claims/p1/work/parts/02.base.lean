/-! what every contract of this claim is said with -/
abbrev vs_I : String := "java/lang/IllegalArgumentException"
abbrev vs_J : String := "java/lang/IllegalStateException"
abbrev vs_B : String := "java/lang/IndexOutOfBoundsException"
abbrev vs_N : List String := ["java/lang/RuntimeException", "java/lang/Exception"]
/-- the constructors above an exception's own -/
def vs_D (U : State) : Prop := va_Nw (.declares (Bundle.initS "java/lang/RuntimeException")) U ∧ va_Nw (.declares (Bundle.initS "java/lang/Exception")) U ∧ va_Nw (.declares (Bundle.initS Bundle.tN)) U
theorem vs_D.warm {s U : State} (h : vs_D s) (hW : s.WarmedH U.vm) : vs_D U := ⟨va_Nw.warmD hW h.1, va_Nw.warmD hW h.2.1, va_Nw.warmD hW h.2.2⟩
theorem vs_D.same {u U : State} (h : vs_D u) (hv : U.vm = u.vm) : vs_D U := ⟨va_Nw.same rfl hv.symm h.1, va_Nw.same rfl hv.symm h.2.1, va_Nw.same rfl hv.symm h.2.2⟩
/-- what a throw and its catching need of the machine: two statics of Throwable, apart from A; casts; the texts -/
def vs_T (A : Nat → Prop) (U : State) (H : Heap) : Prop :=
  (vx_Zq Bundle.tN "UNASSIGNED_STACK" Bundle.steD A U H ∧ vx_Zq Bundle.tN "SUPPRESSED_SENTINEL" Bundle.listD A U H) ∧
  ((va_Nw (.castable vs_I vs_I) U ∧ va_Nw (.castable vs_J vs_J) U ∧ va_Nw (.castable vs_B vs_B) U) ∧
  (va_Nc vs_I vs_J U ∧ va_Nc vs_I vs_B U ∧ va_Nc vs_J vs_I U ∧ va_Nc vs_J vs_B U ∧ va_Nc vs_B vs_I U ∧ va_Nc vs_B vs_J U ∧ vs_D U)) ∧
  ∀ q ∈ ([(25, "secret is not 0 to 99"), (37, "patience is not 1 to 20, or rule is not 0 to 3"), (45, "there are 10 doors"), (57, "no such door"), (60, "both are the same, or distance is not 1 to 5"), (78, "it is not shut, asks this one already, or asks 4"), (84, "rule is not 0 to 3, or patience is not 1 to 20"), (92, "token is not 0 to 99"), (98, "no such door, or what is not 0 to 8"), (103, "no such door, or what is not 0 to 2"), (105, "no such place"), (120, "no such voice, or what is not 0 to 3"), (124, "what is not 0 to 8"), (130, "ticks is not 1 to 200"), (140, "ticks is not 1 to 100"), (145, "ticks is not 1 to 30")] : List (Nat × String)), ∃ a : Nat, vk_R RX3 q.1 q.2 a U
theorem vs_T.kept {A : Nat → Prop} {U : State} {H0 H : Heap} {locs : List Loc} (h : vs_T A U H0) (hS : va_S A H0 H locs) : vs_T A U H := ⟨⟨h.1.1.kept hS.2.1, h.1.2.kept hS.2.1⟩, h.2⟩
theorem vs_T.narrow {A B : Nat → Prop} {U : State} {H : Heap} (h : vs_T A U H) (hAB : ∀ q, B q → A q) : vs_T B U H := ⟨⟨h.1.1.narrow hAB, h.1.2.narrow hAB⟩, h.2⟩
theorem vs_T.warm {A : Nat → Prop} {s U : State} {H : Heap} (h : vs_T A s H) (hW : s.WarmedH U.vm) : vs_T A U H :=
  ⟨⟨vx_Zq.moved hW.alike h.1.1, vx_Zq.moved hW.alike h.1.2⟩, ⟨⟨va_Nw.warmC hW h.2.1.1.1, va_Nw.warmC hW h.2.1.1.2.1, va_Nw.warmC hW h.2.1.1.2.2⟩, va_Nc.moved hW.alike h.2.1.2.1, va_Nc.moved hW.alike h.2.1.2.2.1, va_Nc.moved hW.alike h.2.1.2.2.2.1, va_Nc.moved hW.alike h.2.1.2.2.2.2.1, va_Nc.moved hW.alike h.2.1.2.2.2.2.2.1, va_Nc.moved hW.alike h.2.1.2.2.2.2.2.2.1, h.2.1.2.2.2.2.2.2.2.warm hW⟩, fun q hq => by obtain ⟨a, ha⟩ := h.2.2 q hq; exact ⟨a, vk_R.warm hW ha⟩⟩
theorem vs_T.same {A : Nat → Prop} {u U : State} {H : Heap} (h : vs_T A u H) (hv : U.vm = u.vm) : vs_T A U H := by
  have ha : u.vm.Alike U.vm := by rw [hv]; exact Vm.Alike.refl u.vm
  exact ⟨⟨vx_Zq.moved ha h.1.1, vx_Zq.moved ha h.1.2⟩, ⟨⟨va_Nw.same rfl hv.symm h.2.1.1.1, va_Nw.same rfl hv.symm h.2.1.1.2.1, va_Nw.same rfl hv.symm h.2.1.1.2.2⟩, va_Nc.moved ha h.2.1.2.1, va_Nc.moved ha h.2.1.2.2.1, va_Nc.moved ha h.2.1.2.2.2.1, va_Nc.moved ha h.2.1.2.2.2.2.1, va_Nc.moved ha h.2.1.2.2.2.2.2.1, va_Nc.moved ha h.2.1.2.2.2.2.2.2.1, h.2.1.2.2.2.2.2.2.2.same hv⟩, fun q hq => by obtain ⟨a, hA⟩ := h.2.2 q hq; exact ⟨a, vk_R.same hv hA⟩⟩
/-- the four starts: a reader's, a writer's, each with and without what a throw needs -/
abbrev pR (D : va_G) (ws : va_W) (tys : List (ClassId × FieldType)) (U : State) : Prop := va_P D vwCl ws U.heap ∧ va_K D vwCl tys U
abbrev pX (D : va_G) (ws : va_W) (tys : List (ClassId × FieldType)) (U : State) : Prop := pR D ws tys U ∧ vs_T (fun _ => False) U U.heap
abbrev pZ (D : va_G) (ws : va_W) (tys : List (ClassId × FieldType)) (sz : Nat) (U : State) : Prop := U.heap.size = sz ∧ va_P D vwCl ws U.heap ∧ va_K D vwCl tys U ∧ va_D (fun _ => True) ws
abbrev pY (D : va_G) (ws : va_W) (tys : List (ClassId × FieldType)) (sz : Nat) (U : State) : Prop := pZ D ws tys sz U ∧ vs_T (va_A ws sz) U U.heap
/-- a writer's end -/
abbrev pB (D : va_G) (A : Nat → Prop) (ws : va_W) (tys : List (ClassId × FieldType)) (t : State) : Prop := va_P D vwCl ws t.heap ∧ va_K D vwCl tys t ∧ va_D A ws
section
variable {D : va_G} {ws : va_W} {tys : List (ClassId × FieldType)} {av : List Value} {s : State} {H : Heap} {sz : Nat}
theorem pR_blind : FrameBlind (va_Pc av (pR D ws tys)) := fun a U g mk q => ⟨q.1, q.2.1, va_K.moved (u := U) (U := U.calling g mk a) (Vm.Alike.refl U.vm) q.2.2⟩
theorem pX_blind : FrameBlind (va_Pc av (pX D ws tys)) := fun a U g mk q => ⟨q.1, ⟨q.2.1.1, va_K.moved (u := U) (U := U.calling g mk a) (Vm.Alike.refl U.vm) q.2.1.2⟩, vs_T.same (U := U.calling g mk a) q.2.2 rfl⟩
theorem pZ_blind : FrameBlind (va_Pc av (pZ D ws tys sz)) := fun a U g mk q => ⟨q.1, q.2.1, q.2.2.1, va_K.moved (u := U) (U := U.calling g mk a) (Vm.Alike.refl U.vm) q.2.2.2.1, q.2.2.2.2⟩
theorem pY_blind : FrameBlind (va_Pc av (pY D ws tys sz)) := fun a U g mk q => ⟨q.1, ⟨q.2.1.1, q.2.1.2.1, va_K.moved (u := U) (U := U.calling g mk a) (Vm.Alike.refl U.vm) q.2.1.2.2.1, q.2.1.2.2.2⟩, vs_T.same (U := U.calling g mk a) q.2.2 rfl⟩
theorem pR_pre (hP : va_P D vwCl ws H) (hK : va_K D vwCl tys s) : ∀ U : State, U.heap = H → s.WarmedH U.vm → va_Pc av (pR D ws tys) av.toArray U := fun U hU hW => ⟨rfl, by rw [hU]; exact hP, va_K.moved hW.alike hK⟩
theorem pX_pre (hP : va_P D vwCl ws H) (hK : va_K D vwCl tys s) (hT : vs_T (fun _ => False) s H) : ∀ U : State, U.heap = H → s.WarmedH U.vm → va_Pc av (pX D ws tys) av.toArray U := fun U hU hW => ⟨rfl, ⟨by rw [hU]; exact hP, va_K.moved hW.alike hK⟩, by rw [hU]; exact hT.warm hW⟩
theorem pZ_pre {A : Nat → Prop} (hP : va_P D vwCl ws H) (hD : va_D A ws) (hK : va_K D vwCl tys s) : ∀ U : State, U.heap = H → s.WarmedH U.vm → va_Pc av (pZ D ws tys H.size) av.toArray U := fun U hU hW => ⟨rfl, by rw [hU], by rw [hU]; exact hP, va_K.moved hW.alike hK, hD.weaken (fun _ _ _ _ => trivial)⟩
theorem pY_pre {A : Nat → Prop} (hP : va_P D vwCl ws H) (hD : va_D A ws) (hK : va_K D vwCl tys s) (hT : vs_T (va_A ws H.size) s H) : ∀ U : State, U.heap = H → s.WarmedH U.vm → va_Pc av (pY D ws tys H.size) av.toArray U := fun U hU hW => ⟨rfl, ⟨by rw [hU], by rw [hU]; exact hP, va_K.moved hW.alike hK, hD.weaken (fun _ _ _ _ => trivial)⟩, by rw [hU]; exact hT.warm hW⟩
theorem vs_F {A : Nat → Prop} {t : State} {locs : List Loc} (hS : va_S A s.heap H locs) (h1 : H.size ≤ t.heap.size) (h2 : ∀ q : Nat, q < H.size → t.heap[q]? = H[q]?) : va_F A s t := ⟨Nat.le_trans hS.1 h1, fun q hq hn => (h2 q (Nat.lt_of_lt_of_le hq hS.1)).trans (hS.2.1 q hq hn)⟩
end
/-- a's place between b and c, as a boolean -/
def vs_in (a b c : Int32) : Int32 := if a < b then 0 else if c < a then 0 else 1
theorem vs_in_z (a b c : Int32) : narrow .boolean (.int (vs_in a b c)) = .int (vs_in a b c) := by
  unfold vs_in; split
  · rfl
  · split <;> rfl
theorem vs_in_neg (a : Int32) : vs_in a 0 (-1) = 0 := by
  unfold vs_in
  by_cases h : a < 0
  · rw [if_pos h]
  · rw [if_neg h, if_pos]
    rw [Int32.lt_iff_toInt_lt] at h ⊢
    have e1 : (0 : Int32).toInt = 0 := by decide
    have e2 : (-1 : Int32).toInt = -1 := by decide
    omega
/-- the words that a throw of X wants beside the good ones -/
abbrev vs_W (X : String) : List Cond := [.castable X X, .declares (Bundle.initS "java/lang/RuntimeException"), .declares (Bundle.initS "java/lang/Exception"), .declares (Bundle.initS Bundle.tN)]
theorem vs_Wo {X : String} {s : State} {args : Array Value} (h : va_Nw (.castable X X) s) (d : vs_D s) : ∀ w ∈ vs_W X, w.before args s = true := vx_c (va_Nw.use rfl h) (vx_c (va_Nw.use rfl d.1) (vx_c (va_Nw.use rfl d.2.1) (vx_c (va_Nw.use rfl d.2.2) vx_n)))
/-- the words of the three throws -/
theorem vs_c27 : ∀ w ∈ (vx_atS RX3 27 vs_I vs_N).filter (fun w => !goodWord w), w ∈ vs_W vs_I := by decide +kernel
theorem vs_c47 : ∀ w ∈ (vx_atS RX3 47 vs_J vs_N).filter (fun w => !goodWord w), w ∈ vs_W vs_J := by decide +kernel
theorem vs_c59 : ∀ w ∈ (vx_atS RX3 59 vs_B vs_N).filter (fun w => !goodWord w), w ∈ vs_W vs_B := by decide +kernel
theorem vs_g27 : ∀ w ∈ Cond.classLink RX3 23 vs_I :: Cond.initialized vs_I :: vx_atS RX3 27 vs_I vs_N, vx_ot w = true := by decide +kernel
theorem vs_g47 : ∀ w ∈ Cond.classLink RX3 43 vs_J :: Cond.initialized vs_J :: vx_atS RX3 47 vs_J vs_N, vx_ot w = true := by decide +kernel
theorem vs_g59 : ∀ w ∈ Cond.classLink RX3 55 vs_B :: Cond.initialized vs_B :: vx_atS RX3 59 vs_B vs_N, vx_ot w = true := by decide +kernel
/-- what the making of a vault needs beyond the words: rows of doors, two private constructors of nest mates -/
def vs_O (U : State) : Prop := va_AO RX0 U ∧ va_Nw (.methodLinkNest RX1 19 yX2_init "VaultDoors") U ∧ va_Nw (.methodLinkNest RX1 27 yX0_init "VaultDoors") U
theorem vs_O.warm {s U : State} (h : vs_O s) (hW : s.WarmedH U.vm) : vs_O U := ⟨va_AO.moved hW.alike h.1, va_Nw.warmM hW h.2.1, va_Nw.warmM hW h.2.2⟩
theorem vs_O.same {u U : State} (h : vs_O u) (hv : U.vm = u.vm) : vs_O U := ⟨va_AO.moved (by rw [hv]; exact Vm.Alike.refl u.vm) h.1, va_Nw.same rfl hv.symm h.2.1, va_Nw.same rfl hv.symm h.2.2⟩
abbrev pA (D : va_G) (ws : va_W) (tys : List (ClassId × FieldType)) (sz : Nat) (U : State) : Prop := pZ D ws tys sz U ∧ vs_O U
section
variable {D : va_G} {ws : va_W} {tys : List (ClassId × FieldType)} {av : List Value} {s : State} {H : Heap} {sz : Nat}
theorem pA_blind : FrameBlind (va_Pc av (pA D ws tys sz)) := fun a U g mk q => ⟨q.1, ⟨q.2.1.1, q.2.1.2.1, va_K.moved (u := U) (U := U.calling g mk a) (Vm.Alike.refl U.vm) q.2.1.2.2.1, q.2.1.2.2.2⟩, vs_O.same (U := U.calling g mk a) q.2.2 rfl⟩
theorem pA_pre {A : Nat → Prop} (hP : va_P D vwCl ws H) (hD : va_D A ws) (hK : va_K D vwCl tys s) (hO : vs_O s) : ∀ U : State, U.heap = H → s.WarmedH U.vm → va_Pc av (pA D ws tys H.size) av.toArray U := fun U hU hW => ⟨rfl, ⟨by rw [hU], by rw [hU]; exact hP, va_K.moved hW.alike hK, hD.weaken (fun _ _ _ _ => trivial)⟩, hO.warm hW⟩
end
def vs_ok (a b c : Int32) : Prop := ¬ vs_in a 0 99 = 0 ∧ ¬ vs_in b 1 20 = 0 ∧ ¬ vs_in c 0 3 = 0
theorem vs_i0 : (0 : Int32).toInt = 0 := by decide
theorem vs_step {n : Nat} {z i : Int32} (h : ¬ z ≤ i) (hn : (z.toInt - i.toInt).toNat < n + 1) : (z.toInt - (i + 1).toInt).toNat < n := by
  have h1 : i.toInt < z.toInt := by
    rw [Int32.le_iff_toInt_le] at h; omega
  have h2 : (i + 1).toInt = i.toInt + 1 := by
    have a := Int32.toInt_lt z
    have b := Int32.le_toInt i
    have e1 : (1 : Int32).toInt = 1 := by decide
    rw [Int32.toInt_add, e1]
    exact Int.bmod_eq_of_le (by omega) (by omega)
  omega
theorem vs_uc {f : Nat → Int32} {a b : Int32} : upd (upd f 1 a) 0 b = upd (upd f 0 b) 1 a := by
  funext j; unfold upd; by_cases h0 : j = 0
  · subst h0; rfl
  · simp [h0]
theorem vs_u0 : (fun _ : Nat => (0 : Int32)) = upd (fun _ => 0) 1 0 := by funext j; unfold upd; split <;> rfl
theorem vs_upc {α : Type} (f : Nat → α) (a b : α) {i k : Nat} (h : i ≠ k) : va_up (va_up f i a) k b = va_up (va_up f k b) i a := by
  funext j; unfold va_up; by_cases h0 : j = k
  · subst h0; simp [Ne.symm h]
  · simp [h0]
theorem vs_swk (z : Int32) (k : Int32) (h : z.toInt = k.toInt) : z = k := Int32.toInt_inj.mp h
theorem vs_sw8 (z : Int32) : (z.toInt < 0 ∨ 7 < z.toInt) ∨ z = 0 ∨ z = 1 ∨ z = 2 ∨ z = 3 ∨ z = 4 ∨ z = 5 ∨ z = 6 ∨ z = 7 := by
  by_cases h : z.toInt < 0 ∨ 7 < z.toInt
  · exact Or.inl h
  · have hz : z.toInt = 0 ∨ z.toInt = 1 ∨ z.toInt = 2 ∨ z.toInt = 3 ∨ z.toInt = 4 ∨ z.toInt = 5 ∨ z.toInt = 6 ∨ z.toInt = 7 := by omega
    refine Or.inr ?_
    rcases hz with h | h | h | h | h | h | h | h
    · exact Or.inl (vs_swk z 0 h)
    · exact Or.inr (Or.inl (vs_swk z 1 h))
    · exact Or.inr (Or.inr (Or.inl (vs_swk z 2 h)))
    · exact Or.inr (Or.inr (Or.inr (Or.inl (vs_swk z 3 h))))
    · exact Or.inr (Or.inr (Or.inr (Or.inr (Or.inl (vs_swk z 4 h)))))
    · exact Or.inr (Or.inr (Or.inr (Or.inr (Or.inr (Or.inl (vs_swk z 5 h))))))
    · exact Or.inr (Or.inr (Or.inr (Or.inr (Or.inr (Or.inr (Or.inl (vs_swk z 6 h)))))))
    · exact Or.inr (Or.inr (Or.inr (Or.inr (Or.inr (Or.inr (Or.inr (vs_swk z 7 h)))))))
theorem vs_vi {i : Int32} {n : Nat} (h : ¬ (i < 0 ∨ n ≤ i.toNatClampNeg)) : vp_in i n := h
theorem vs_sw15 (z : Int32) : (z.toInt < 0 ∨ 14 < z.toInt) ∨ z = 0 ∨ z = 1 ∨ z = 2 ∨ z = 3 ∨ z = 4 ∨ z = 5 ∨ z = 6 ∨ z = 7 ∨ z = 8 ∨ z = 9 ∨ z = 10 ∨ z = 11 ∨ z = 12 ∨ z = 13 ∨ z = 14 := by
  by_cases h : z.toInt < 0 ∨ 14 < z.toInt
  · exact Or.inl h
  · have hz : z.toInt = 0 ∨ z.toInt = 1 ∨ z.toInt = 2 ∨ z.toInt = 3 ∨ z.toInt = 4 ∨ z.toInt = 5 ∨ z.toInt = 6 ∨ z.toInt = 7 ∨ z.toInt = 8 ∨ z.toInt = 9 ∨ z.toInt = 10 ∨ z.toInt = 11 ∨ z.toInt = 12 ∨ z.toInt = 13 ∨ z.toInt = 14 := by omega
    refine Or.inr ?_
    rcases hz with h | h | h | h | h | h | h | h | h | h | h | h | h | h | h
    · exact Or.inl (vs_swk z 0 h)
    · exact Or.inr (Or.inl (vs_swk z 1 h))
    · exact Or.inr (Or.inr (Or.inl (vs_swk z 2 h)))
    · exact Or.inr (Or.inr (Or.inr (Or.inl (vs_swk z 3 h))))
    · exact Or.inr (Or.inr (Or.inr (Or.inr (Or.inl (vs_swk z 4 h)))))
    · exact Or.inr (Or.inr (Or.inr (Or.inr (Or.inr (Or.inl (vs_swk z 5 h))))))
    · exact Or.inr (Or.inr (Or.inr (Or.inr (Or.inr (Or.inr (Or.inl (vs_swk z 6 h)))))))
    · exact Or.inr (Or.inr (Or.inr (Or.inr (Or.inr (Or.inr (Or.inr (Or.inl (vs_swk z 7 h))))))))
    · exact Or.inr (Or.inr (Or.inr (Or.inr (Or.inr (Or.inr (Or.inr (Or.inr (Or.inl (vs_swk z 8 h)))))))))
    · exact Or.inr (Or.inr (Or.inr (Or.inr (Or.inr (Or.inr (Or.inr (Or.inr (Or.inr (Or.inl (vs_swk z 9 h))))))))))
    · exact Or.inr (Or.inr (Or.inr (Or.inr (Or.inr (Or.inr (Or.inr (Or.inr (Or.inr (Or.inr (Or.inl (vs_swk z 10 h)))))))))))
    · exact Or.inr (Or.inr (Or.inr (Or.inr (Or.inr (Or.inr (Or.inr (Or.inr (Or.inr (Or.inr (Or.inr (Or.inl (vs_swk z 11 h))))))))))))
    · exact Or.inr (Or.inr (Or.inr (Or.inr (Or.inr (Or.inr (Or.inr (Or.inr (Or.inr (Or.inr (Or.inr (Or.inr (Or.inl (vs_swk z 12 h)))))))))))))
    · exact Or.inr (Or.inr (Or.inr (Or.inr (Or.inr (Or.inr (Or.inr (Or.inr (Or.inr (Or.inr (Or.inr (Or.inr (Or.inr (Or.inl (vs_swk z 13 h))))))))))))))
    · exact Or.inr (Or.inr (Or.inr (Or.inr (Or.inr (Or.inr (Or.inr (Or.inr (Or.inr (Or.inr (Or.inr (Or.inr (Or.inr (Or.inr (vs_swk z 14 h))))))))))))))
