noncomputable def f_X3_isIn (m : vM) (p0 : Int32) (p1 : Int32) (p2 : Int32) : Option (Int32) :=
  if p0 < p1 then (
    some (0 : Int32)
  ) else (
    if p2 < p0 then (
      some (0 : Int32)
    ) else (
      some (1 : Int32)
    )
  )
set_option maxHeartbeats 1000000 in
set_option maxRecDepth 100000 in
theorem cm_X3_isIn (l : Launch) (D : va_G) (tc : Nat → ClassId) (ad : Nat → Nat) {N : Nat} {m0 : vM} {p0 : Int32} {p1 : Int32} {p2 : Int32} (hO : vOK N m0) {z : Int32} (h : f_X3_isIn m0 p0 p1 p2 = some z) : Met l yX3_isIn wsX3_isIn ({ frames := 0, cells := 0, slots := 0, locals := 0 } : Room) (va_Pc [.int p0, .int p1, .int p2] (qR D tc ad N m0)) (va_Qi (fun (r9 : Int32) (_ : Unit) => r9 = z) (fun _ _ => True) (fun _ => False)) 0 0 (fun _ => False) := by
  refine Met.ofW (cc := cX3_isIn) (maxL := 3) (ret := (some .boolean)) (by decide) rfl ?_
  intro p e s m args below meth c s₁ B hml hv
  obtain ⟨rfl, hP, hK, hZ⟩ := hv
  have hx := B.exec
  have hb := B.bytes
  have hr := B.returns
  have hts := atoms_spec (ws := wsX3_isIn) B.pre
  have hown : s.vm.findClass RX3 = some m.cls := findClass_of_methodNamed B.named
  have hlocks := B.notSynchronized
  have hS : va_S (fun _ => False) s.heap s.heap [] := va_S.rf
  have hl := lv_entry ([.int p0, .int p1, .int p2]) (n := 3) (Nat.le_of_ble_eq_true rfl)
  rw [lg_entry_eq]
  generalize (lg_sl ([.int p0, .int p1, .int p2]) ++ List.replicate (3 - (lg_sl ([.int p0, .int p1, .int p2])).length) Slot.unset).toArray = ls at hl ⊢
  have hl : lv_has ls 3 [(0, .int p0), (1, .int p1), (2, .int p2)] := hl
  unfold f_X3_isIn at h
  refine lv_iload_n hx hb dX3_isIn_0 rfl (lv_at hl 0 rfl) ?_
  refine lv_iload_n hx hb dX3_isIn_1 rfl (lv_at hl 1 rfl) ?_
  refine lv_icmp_lt (tgt := 14) hx hb dX3_isIn_2 (by decide) (fun c1 => ?_) (fun c1 => ?_)
  · rw [if_pos c1] at h
    refine lv_iconst (v := 0) hx hb dX3_isIn_14 (by decide) ?_
    have hz := Option.some.inj h
    exact W.zret (v := 0) (ty := .boolean) hx hb hr (by decide) (fun t ht hW => ⟨⟨_, (), rfl, hz, trivial⟩, hS.F ht⟩) hS.2.2 dX3_isIn_15
  · rw [if_neg c1] at h
    refine lv_iload_n hx hb dX3_isIn_5 rfl (lv_at hl 0 rfl) ?_
    refine lv_iload_n hx hb dX3_isIn_6 rfl (lv_at hl 2 rfl) ?_
    refine lv_icmp_gt (tgt := 14) hx hb dX3_isIn_7 (by decide) (fun c2 => ?_) (fun c2 => ?_)
    · rw [if_pos c2] at h
      refine lv_iconst (v := 0) hx hb dX3_isIn_14 (by decide) ?_
      have hz := Option.some.inj h
      exact W.zret (v := 0) (ty := .boolean) hx hb hr (by decide) (fun t ht hW => ⟨⟨_, (), rfl, hz, trivial⟩, hS.F ht⟩) hS.2.2 dX3_isIn_15
    · rw [if_neg c2] at h
      refine lv_iconst (v := 1) hx hb dX3_isIn_10 (by decide) ?_
      refine lv_goto (tgt := 15) hx hb dX3_isIn_11 (by decide) ?_
      have hz := Option.some.inj h
      exact W.zret (v := 1) (ty := .boolean) hx hb hr (by decide) (fun t ht hW => ⟨⟨_, (), rfl, hz, trivial⟩, hS.F ht⟩) hS.2.2 dX3_isIn_15

noncomputable def f_X3_isPatience (m : vM) (p0 : Int32) : Option (Int32) :=
  Option.bind (f_X3_isIn m p0 ((1 : Int32)) ((20 : Int32))) fun q1 =>
  if q1 = 0 ∨ q1 = 1 then
  some q1
  else none
set_option maxHeartbeats 1000000 in
set_option maxRecDepth 100000 in
theorem cm_X3_isPatience (l : Launch) (D : va_G) (tc : Nat → ClassId) (ad : Nat → Nat) {N : Nat} {m0 : vM} {p0 : Int32} (hO : vOK N m0) {z : Int32} (h : f_X3_isPatience m0 p0 = some z) : Met l yX3_isPatience wsX3_isPatience ({ frames := 1, cells := 0, slots := 0, locals := 22 } : Room) (va_Pc [.int p0] (qR D tc ad N m0)) (va_Qi (fun (r9 : Int32) (_ : Unit) => r9 = z) (fun _ _ => True) (fun _ => False)) 0 0 (fun _ => False) := by
  refine Met.ofW (cc := cX3_isPatience) (maxL := 1) (ret := (some .boolean)) (by decide) rfl ?_
  intro p e s m args below meth c s₁ B hml hv
  obtain ⟨rfl, hP, hK, hZ⟩ := hv
  have hx := B.exec
  have hb := B.bytes
  have hr := B.returns
  have hts := atoms_spec (ws := wsX3_isPatience) B.pre
  have hown : s.vm.findClass RX3 = some m.cls := findClass_of_methodNamed B.named
  have hlocks := B.notSynchronized
  have hS : va_S (fun _ => False) s.heap s.heap [] := va_S.rf
  have hl := lv_entry ([.int p0]) (n := 1) (Nat.le_of_ble_eq_true rfl)
  rw [lg_entry_eq]
  generalize (lg_sl ([.int p0]) ++ List.replicate (1 - (lg_sl ([.int p0])).length) Slot.unset).toArray = ls at hl ⊢
  have hl : lv_has ls 1 [(0, .int p0)] := hl
  unfold f_X3_isPatience at h
  refine lv_iload_n hx hb dX3_isPatience_0 rfl (lv_at hl 0 rfl) ?_
  refine lv_iconst (v := 1) hx hb dX3_isPatience_1 (by decide) ?_
  refine lv_bipush (v := 20) hx hb dX3_isPatience_2 (by decide) ?_
  obtain ⟨q1, g2, h⟩ := vg_bind h
  refine va_calli (va_runS (As := [.int p0, .int 1, .int 20]) (rest := []) ⟨hx, hb, hml, hown, hts⟩ (cm_X3_isIn (m0 := m0) l D tc ad hO g2) (va_cwS 3 hts gX3_isPatience_X3_isIn rfl rfl rfl (by decide +kernel) ⟨(Nat.le_of_ble_eq_true rfl), (Nat.le_of_ble_eq_true rfl)⟩) ⟨qR_blind, qR_pre hP hK hZ⟩ rfl rfl hl.1 rfl (lv_room (Nat.le_of_ble_eq_true rfl)) dX3_isPatience_4 ⟨(Nat.le_of_ble_eq_true rfl), (Nat.le_of_ble_eq_true rfl)⟩) hS (fun q9 _ h9 => h9.elim) (fun q9 h9 => h9.elim) (fun w3 u t H1 locs ht hvm hw hB hz1 hk1 hS => ?_)
  have hP := hP.kept (fun k9 q9 hk9 => hk1 q9.1 (hP k9 q9 hk9).lt (fun h9 => h9))
  generalize H1 = H at hP hS ⊢
  clear hk1 hz1 ht hvm
  have hw : w3 = q1 := hw
  rw [hw]
  obtain ⟨g4, h⟩ := vg_if h
  have hz := Option.some.inj h
  exact W.zret (v := q1) (ty := .boolean) hx hb hr (vm_z g4) (fun t ht hW => ⟨⟨_, (), rfl, hz, trivial⟩, hS.F ht⟩) hS.2.2 dX3_isPatience_7

noncomputable def f_X3_isRule (m : vM) (p0 : Int32) : Option (Int32) :=
  Option.bind (f_X3_isIn m p0 ((0 : Int32)) ((3 : Int32))) fun q1 =>
  if q1 = 0 ∨ q1 = 1 then
  some q1
  else none
set_option maxHeartbeats 1000000 in
set_option maxRecDepth 100000 in
theorem cm_X3_isRule (l : Launch) (D : va_G) (tc : Nat → ClassId) (ad : Nat → Nat) {N : Nat} {m0 : vM} {p0 : Int32} (hO : vOK N m0) {z : Int32} (h : f_X3_isRule m0 p0 = some z) : Met l yX3_isRule wsX3_isRule ({ frames := 1, cells := 0, slots := 0, locals := 22 } : Room) (va_Pc [.int p0] (qR D tc ad N m0)) (va_Qi (fun (r9 : Int32) (_ : Unit) => r9 = z) (fun _ _ => True) (fun _ => False)) 0 0 (fun _ => False) := by
  refine Met.ofW (cc := cX3_isRule) (maxL := 1) (ret := (some .boolean)) (by decide) rfl ?_
  intro p e s m args below meth c s₁ B hml hv
  obtain ⟨rfl, hP, hK, hZ⟩ := hv
  have hx := B.exec
  have hb := B.bytes
  have hr := B.returns
  have hts := atoms_spec (ws := wsX3_isRule) B.pre
  have hown : s.vm.findClass RX3 = some m.cls := findClass_of_methodNamed B.named
  have hlocks := B.notSynchronized
  have hS : va_S (fun _ => False) s.heap s.heap [] := va_S.rf
  have hl := lv_entry ([.int p0]) (n := 1) (Nat.le_of_ble_eq_true rfl)
  rw [lg_entry_eq]
  generalize (lg_sl ([.int p0]) ++ List.replicate (1 - (lg_sl ([.int p0])).length) Slot.unset).toArray = ls at hl ⊢
  have hl : lv_has ls 1 [(0, .int p0)] := hl
  unfold f_X3_isRule at h
  refine lv_iload_n hx hb dX3_isRule_0 rfl (lv_at hl 0 rfl) ?_
  refine lv_iconst (v := 0) hx hb dX3_isRule_1 (by decide) ?_
  refine lv_iconst (v := 3) hx hb dX3_isRule_2 (by decide) ?_
  obtain ⟨q1, g2, h⟩ := vg_bind h
  refine va_calli (va_runS (As := [.int p0, .int 0, .int 3]) (rest := []) ⟨hx, hb, hml, hown, hts⟩ (cm_X3_isIn (m0 := m0) l D tc ad hO g2) (va_cwS 3 hts gX3_isRule_X3_isIn rfl rfl rfl (by decide +kernel) ⟨(Nat.le_of_ble_eq_true rfl), (Nat.le_of_ble_eq_true rfl)⟩) ⟨qR_blind, qR_pre hP hK hZ⟩ rfl rfl hl.1 rfl (lv_room (Nat.le_of_ble_eq_true rfl)) dX3_isRule_3 ⟨(Nat.le_of_ble_eq_true rfl), (Nat.le_of_ble_eq_true rfl)⟩) hS (fun q9 _ h9 => h9.elim) (fun q9 h9 => h9.elim) (fun w3 u t H1 locs ht hvm hw hB hz1 hk1 hS => ?_)
  have hP := hP.kept (fun k9 q9 hk9 => hk1 q9.1 (hP k9 q9 hk9).lt (fun h9 => h9))
  generalize H1 = H at hP hS ⊢
  clear hk1 hz1 ht hvm
  have hw : w3 = q1 := hw
  rw [hw]
  obtain ⟨g4, h⟩ := vg_if h
  have hz := Option.some.inj h
  exact W.zret (v := q1) (ty := .boolean) hx hb hr (vm_z g4) (fun t ht hW => ⟨⟨_, (), rfl, hz, trivial⟩, hS.F ht⟩) hS.2.2 dX3_isRule_6

noncomputable def fB_X0_placeOf_2 (rec : Nat → vM → Nat → Int32 → Int32 → Option (Int32)) (m : vM) (r0 : Nat) (i1 : Int32) (i2 : Int32) : Option (Int32) :=
  if mk m r0 = 0 then
  if (mi m r0 7) ≤ i2 then (
    some (-1 : Int32)
  ) else (
    Option.bind (mr m r0 8) fun y3 =>
    if mk m y3 = 6 then
    if vin i2 (ml m y3) then
    if (mi m y3 i2.toNatClampNeg) = i1 then (
      some i2
    ) else (
      rec 2 m r0 i1 (i2 + 1)
    )
    else none
    else none
  )
  else none
noncomputable def fL_X0_placeOf (n : Nat) : Nat → vM → Nat → Int32 → Int32 → Option (Int32) := Nat.rec (fun _ _ _ _ _ => none) (fun _ rec pc m r0 i1 i2 => if pc = 2 then fB_X0_placeOf_2 rec m r0 i1 i2 else none) n
noncomputable def f_X0_placeOf (m : vM) (p0 : Nat) (p1 : Int32) : Option (Int32) :=
  fL_X0_placeOf vF 2 m p0 p1 (0 : Int32)
theorem in_X0_placeOf_X0 : ∀ w ∈ wsX00, w ∈ wsX0_placeOf := by decide +kernel
set_option maxHeartbeats 1000000 in
set_option maxRecDepth 100000 in
theorem cm_X0_placeOf (l : Launch) (D : va_G) (tc : Nat → ClassId) (ad : Nat → Nat) {N : Nat} {m0 : vM} {p0 : Nat} {p1 : Int32} (hO : vOK N m0) (n_p0 : p0 < N) {z : Int32} (h : f_X0_placeOf m0 p0 p1 = some z) : Met l yX0_placeOf wsX0_placeOf ({ frames := 0, cells := 0, slots := 0, locals := 0 } : Room) (va_Pc [.ref (ad p0), .int p1] (qR D tc ad N m0)) (va_Qi (fun (r9 : Int32) (_ : Unit) => r9 = z) (fun _ _ => True) (fun _ => False)) 0 0 (fun _ => False) := by
  refine Met.ofW (cc := cX0_placeOf) (maxL := 3) (ret := (some .int)) (by decide) rfl ?_
  intro p e s m args below meth c s₁ B hml hv
  obtain ⟨rfl, hP, hK, hZ⟩ := hv
  have hx := B.exec
  have hb := B.bytes
  have hr := B.returns
  have hts := atoms_spec (ws := wsX0_placeOf) B.pre
  have hown : s.vm.findClass RX0 = some m.cls := findClass_of_methodNamed B.named
  have hlocks := B.notSynchronized
  have hS : va_S (fun _ => False) s.heap s.heap [] := va_S.rf
  have hl := lv_entry ([.ref (ad p0), .int p1]) (n := 3) (Nat.le_of_ble_eq_true rfl)
  rw [lg_entry_eq]
  generalize (lg_sl ([.ref (ad p0), .int p1]) ++ List.replicate (3 - (lg_sl ([.ref (ad p0), .int p1])).length) Slot.unset).toArray = ls at hl ⊢
  have hl : lv_has ls 3 [(0, .ref (ad p0)), (1, .int p1)] := hl
  have hL : ∀ n : Nat, (∀ (m1 : vM) (r0 : Nat) (i1 : Int32) (i2 : Int32) (H : Heap) (locs : List Loc) (ls : Array Slot), vOK N m1 → r0 < N → fL_X0_placeOf n 2 m1 r0 i1 i2 = some z → va_P D vwCl (vW tc ad N m1) H → va_S (fun _ => False) s.heap H locs → lv_has ls 3 [(0, .ref (ad r0)), (1, .int i1), (2, .int i2)] → W p l e (headSpec wsX0_placeOf ({ frames := 0, cells := 0, slots := 0, locals := 0 } : Room)).room s m ([.ref (ad p0), .int p1] : List Value).toArray below meth c H locs 0 0 (MQ below (va_Qi (fun (r9 : Int32) (_ : Unit) => r9 = z) (fun _ _ => True) (fun _ => False)) ([.ref (ad p0), .int p1] : List Value).toArray s 0 0 (fun _ => False)) (F0 m 2 ls [])) := by
    intro n
    induction n with
    | zero => exact (fun _ _ _ _ _ _ _ _ _ h9 _ _ _ => by have h9 : (none : Option (Int32)) = some z := h9; cases h9)
    | succ n ih =>
      · intro m1 r0 i1 i2 H locs ls hO n_r0 h hP hS hl
        have h : fB_X0_placeOf_2 (fL_X0_placeOf n) m1 r0 i1 i2 = some z := h
        unfold fB_X0_placeOf_2 at h
        refine lv_iload_n hx hb dX0_placeOf_2 rfl (lv_at hl 2 rfl) ?_
        refine lv_aload_n hx hb dX0_placeOf_3 rfl (lv_at hl 0 rfl) ?_
        obtain ⟨g1, h⟩ := vg_if h
        refine va_get (D := D) (ci := 0) (v := .int (mi m1 r0 7)) (C := RX0) (T := TX0) (N := 14) hx hb hts in_X0_placeOf_X0 hown hK hP r0 (vW_k0 n_r0 g1) rfl 7 (by decide) (hts (.fieldLink RX0 49 "VaultDoors$Door" "asked" "I") (List.mem_of_getElem? (i := 1) rfl)) (fun _ h9 => h9) rfl dX0_placeOf_4 ?_
        refine lv_icmp_ge (tgt := 28) hx hb dX0_placeOf_7 (by decide) (fun c2 => ?_) (fun c2 => ?_)
        · rw [if_pos c2] at h
          refine lv_iconst (v := (-1)) hx hb dX0_placeOf_28 (by decide) ?_
          have hz := Option.some.inj h
          exact W.iret (v := (-1)) hx hb hr (fun t ht hW => ⟨⟨_, (), rfl, hz, trivial⟩, hS.F ht⟩) hS.2.2 dX0_placeOf_29
        · rw [if_neg c2] at h
          refine lv_aload_n hx hb dX0_placeOf_10 rfl (lv_at hl 0 rfl) ?_
          obtain ⟨y3, g4, h⟩ := vg_bind h
          have n_y3 := hO _ _ _ g4
          refine va_get (D := D) (ci := 0) (v := .ref (ad y3)) (C := RX0) (T := TX0) (N := 14) hx hb hts in_X0_placeOf_X0 hown hK hP r0 (vW_k0 n_r0 g1) rfl 8 (by decide) (hts (.fieldLink RX0 9 "VaultDoors$Door" "other" "[I") (List.mem_of_getElem? (i := 2) rfl)) (fun _ h9 => h9) (by show some (va_rf (Option.map ad (mr m1 r0 8))) = _; rw [g4]; rfl) dX0_placeOf_11 ?_
          refine lv_iload_n hx hb dX0_placeOf_14 rfl (lv_at hl 2 rfl) ?_
          obtain ⟨g5, h⟩ := vg_if h
          obtain ⟨g6, h⟩ := vg_if h
          refine va_iald (D := D) hx hb hK hP y3 0 (vW_k6 n_y3 g5) rfl (i := i2) g6 dX0_placeOf_15 ?_
          refine lv_iload_n hx hb dX0_placeOf_16 rfl (lv_at hl 1 rfl) ?_
          refine lv_icmp_ne (tgt := 22) hx hb dX0_placeOf_17 (by decide) (fun c7 => ?_) (fun c7 => ?_)
          · rw [if_neg c7] at h
            refine lv_iinc (v := i2 + 1) (lv' := [(2, .int (i2 + 1)), (0, .ref (ad r0)), (1, .int i1)]) hx hb dX0_placeOf_22 hl (k := 2) rfl rfl (by decide) rfl (fun ls hl => ?_)
            refine lv_goto (tgt := 2) hx hb dX0_placeOf_25 (by decide) ?_
            exact (ih) m1 r0 i1 (i2 + 1) _ _ _ hO n_r0 h hP hS (lv_sub hl (l' := [(0, .ref (ad r0)), (1, .int i1), (2, .int (i2 + 1))]) [1, 2, 0] rfl)
          · rw [if_pos c7] at h
            refine lv_iload_n hx hb dX0_placeOf_20 rfl (lv_at hl 2 rfl) ?_
            have hz := Option.some.inj h
            exact W.iret (v := i2) hx hb hr (fun t ht hW => ⟨⟨_, (), rfl, hz, trivial⟩, hS.F ht⟩) hS.2.2 dX0_placeOf_21
  unfold f_X0_placeOf at h
  refine lv_iconst (v := 0) hx hb dX0_placeOf_0 (by decide) ?_
  refine lv_istore_n (lv' := [(2, .int 0), (0, .ref (ad p0)), (1, .int p1)]) hx hb dX0_placeOf_1 rfl hl (by decide) rfl (fun ls hl => ?_)
  exact ((hL vF)) m0 p0 p1 (0 : Int32) _ _ _ hO n_p0 h hP hS (lv_sub hl (l' := [(0, .ref (ad p0)), (1, .int p1), (2, .int 0)]) [1, 2, 0] rfl)

noncomputable def f_X0_addAsked (m : vM) (p0 : Nat) (p1 : Int32) (p2 : Int32) : Option (vM) :=
  if mk m p0 = 0 then
  if 4 ≤ (mi m p0 7) then (
    some m
  ) else (
    Option.bind (mr m p0 8) fun y3 =>
    if mk m y3 = 6 then
    if vin (mi m p0 7) (ml m y3) then
    Option.bind (mr ((mI m y3 (mi m p0 7).toNatClampNeg p1)) p0 9) fun y8 =>
    if mk ((mI m y3 (mi m p0 7).toNatClampNeg p1)) y8 = 6 then
    if vin (mi ((mI m y3 (mi m p0 7).toNatClampNeg p1)) p0 7) (ml ((mI m y3 (mi m p0 7).toNatClampNeg p1)) y8) then
    Option.bind (mr ((mI ((mI m y3 (mi m p0 7).toNatClampNeg p1)) y8 (mi ((mI m y3 (mi m p0 7).toNatClampNeg p1)) p0 7).toNatClampNeg p2)) p0 10) fun y13 =>
    if mk ((mI ((mI m y3 (mi m p0 7).toNatClampNeg p1)) y8 (mi ((mI m y3 (mi m p0 7).toNatClampNeg p1)) p0 7).toNatClampNeg p2)) y13 = 6 then
    if vin (mi ((mI ((mI m y3 (mi m p0 7).toNatClampNeg p1)) y8 (mi ((mI m y3 (mi m p0 7).toNatClampNeg p1)) p0 7).toNatClampNeg p2)) p0 7) (ml ((mI ((mI m y3 (mi m p0 7).toNatClampNeg p1)) y8 (mi ((mI m y3 (mi m p0 7).toNatClampNeg p1)) p0 7).toNatClampNeg p2)) y13) then
    some ((mI ((mI ((mI ((mI m y3 (mi m p0 7).toNatClampNeg p1)) y8 (mi ((mI m y3 (mi m p0 7).toNatClampNeg p1)) p0 7).toNatClampNeg p2)) y13 (mi ((mI ((mI m y3 (mi m p0 7).toNatClampNeg p1)) y8 (mi ((mI m y3 (mi m p0 7).toNatClampNeg p1)) p0 7).toNatClampNeg p2)) p0 7).toNatClampNeg (-1))) p0 7 ((mi ((mI ((mI ((mI m y3 (mi m p0 7).toNatClampNeg p1)) y8 (mi ((mI m y3 (mi m p0 7).toNatClampNeg p1)) p0 7).toNatClampNeg p2)) y13 (mi ((mI ((mI m y3 (mi m p0 7).toNatClampNeg p1)) y8 (mi ((mI m y3 (mi m p0 7).toNatClampNeg p1)) p0 7).toNatClampNeg p2)) p0 7).toNatClampNeg (-1))) p0 7) + 1)))
    else none
    else none
    else none
    else none
    else none
    else none
  )
  else none
theorem in_X0_addAsked_X0 : ∀ w ∈ wsX00, w ∈ wsX0_addAsked := by decide +kernel
set_option maxHeartbeats 1000000 in
set_option maxRecDepth 100000 in
theorem cm_X0_addAsked (l : Launch) (D : va_G) (tc : Nat → ClassId) (ad : Nat → Nat) {N : Nat} {m0 : vM} {sz : Nat} {p0 : Nat} {p1 : Int32} {p2 : Int32} (hO : vOK N m0) (n_p0 : p0 < N) {z : vM} (h : f_X0_addAsked m0 p0 p1 p2 = some z) : Met l yX0_addAsked wsX0_addAsked ({ frames := 0, cells := 0, slots := 0, locals := 0 } : Room) (va_Pc [.ref (ad p0), .int p1, .int p2] (qW D tc ad N m0 sz)) (va_Qv (fun (_ : Unit) => True) (fun _ t => vOK N z ∧ pB D (va_A (vW tc ad N m0) sz) (vW tc ad N z) (vT tc) t) (va_A (vW tc ad N m0) sz)) 0 0 (va_A (vW tc ad N m0) sz) := by
  refine Met.ofW (cc := cX0_addAsked) (maxL := 3) (ret := none) (by decide) rfl ?_
  intro p e s m args below meth c s₁ B hml hv
  obtain ⟨rfl, hsz, hP, hK, hD0, hZ⟩ := hv
  have hx := B.exec
  have hb := B.bytes
  have hr := B.returns
  have hts := atoms_spec (ws := wsX0_addAsked) B.pre
  have hown : s.vm.findClass RX0 = some m.cls := findClass_of_methodNamed B.named
  have hlocks := B.notSynchronized
  subst hsz
  have hD := hD0.self (sz := s.heap.size)
  generalize hAe : va_A (vW tc ad N m0) s.heap.size = A at hD ⊢
  have hA : ∀ q : Nat, s.heap.size ≤ q → A q := fun q h => by rw [← hAe]; exact Or.inr h
  have hS : va_S A s.heap s.heap [] := va_S.rf
  have hl := lv_entry ([.ref (ad p0), .int p1, .int p2]) (n := 3) (Nat.le_of_ble_eq_true rfl)
  rw [lg_entry_eq]
  generalize (lg_sl ([.ref (ad p0), .int p1, .int p2]) ++ List.replicate (3 - (lg_sl ([.ref (ad p0), .int p1, .int p2])).length) Slot.unset).toArray = ls at hl ⊢
  have hl : lv_has ls 3 [(0, .ref (ad p0)), (1, .int p1), (2, .int p2)] := hl
  unfold f_X0_addAsked at h
  refine lv_aload_n hx hb dX0_addAsked_0 rfl (lv_at hl 0 rfl) ?_
  obtain ⟨g1, h⟩ := vg_if h
  refine va_get (D := D) (ci := 0) (v := .int (mi m0 p0 7)) (C := RX0) (T := TX0) (N := 14) hx hb hts in_X0_addAsked_X0 hown hK hP p0 (vW_k0 n_p0 g1) rfl 7 (by decide) (hts (.fieldLink RX0 49 "VaultDoors$Door" "asked" "I") (List.mem_of_getElem? (i := 1) rfl)) (fun _ h9 => h9) rfl dX0_addAsked_1 ?_
  refine lv_iconst (v := 4) hx hb dX0_addAsked_4 (by decide) ?_
  refine lv_icmp_ge (tgt := 48) hx hb dX0_addAsked_5 (by decide) (fun c2 => ?_) (fun c2 => ?_)
  · rw [if_pos c2] at h
    have hz := Option.some.inj h
    exact W.vret hx hb hr (fun t ht hW => ⟨⟨(), rfl, trivial, by rw [← hz]; exact hO, by rw [ht, ← hz]; exact hP, va_K.moved hW.alike hK, by rw [← hz]; exact hD⟩, hS.F ht⟩) hS.2.2 dX0_addAsked_48
  · rw [if_neg c2] at h
    refine lv_aload_n hx hb dX0_addAsked_8 rfl (lv_at hl 0 rfl) ?_
    obtain ⟨y3, g4, h⟩ := vg_bind h
    have n_y3 := hO _ _ _ g4
    refine va_get (D := D) (ci := 0) (v := .ref (ad y3)) (C := RX0) (T := TX0) (N := 14) hx hb hts in_X0_addAsked_X0 hown hK hP p0 (vW_k0 n_p0 g1) rfl 8 (by decide) (hts (.fieldLink RX0 9 "VaultDoors$Door" "other" "[I") (List.mem_of_getElem? (i := 2) rfl)) (fun _ h9 => h9) (by show some (va_rf (Option.map ad (mr m0 p0 8))) = _; rw [g4]; rfl) dX0_addAsked_9 ?_
    refine lv_aload_n hx hb dX0_addAsked_12 rfl (lv_at hl 0 rfl) ?_
    refine va_get (D := D) (ci := 0) (v := .int (mi m0 p0 7)) (C := RX0) (T := TX0) (N := 14) hx hb hts in_X0_addAsked_X0 hown hK hP p0 (vW_k0 n_p0 g1) rfl 7 (by decide) (hts (.fieldLink RX0 49 "VaultDoors$Door" "asked" "I") (List.mem_of_getElem? (i := 1) rfl)) (fun _ h9 => h9) rfl dX0_addAsked_13 ?_
    refine lv_iload_n hx hb dX0_addAsked_16 rfl (lv_at hl 1 rfl) ?_
    obtain ⟨g5, h⟩ := vg_if h
    obtain ⟨g6, h⟩ := vg_if h
    refine va_iast (D := D) hx hb hK hP hD hS y3 0 (vW_k6 n_y3 g5) rfl (i := mi m0 p0 7) (x := p1) g6 dX0_addAsked_17 (fun H locs hP hD hS => ?_)
    rw [vW_p6 (m := m0) n_y3 g5] at hP hD
    have hO7 := vOK.I (a := y3) (j := (mi m0 p0 7).toNatClampNeg) (v := p1) hO
    have hP : va_P D vwCl (vW tc ad N ((mI m0 y3 (mi m0 p0 7).toNatClampNeg p1))) H := hP
    have hD : va_D A (vW tc ad N ((mI m0 y3 (mi m0 p0 7).toNatClampNeg p1))) := hD
    refine lv_aload_n hx hb dX0_addAsked_18 rfl (lv_at hl 0 rfl) ?_
    obtain ⟨y8, g9, h⟩ := vg_bind h
    have n_y8 := hO7 _ _ _ g9
    refine va_get (D := D) (ci := 0) (v := .ref (ad y8)) (C := RX0) (T := TX0) (N := 14) hx hb hts in_X0_addAsked_X0 hown hK hP p0 (vW_k0 n_p0 g1) rfl 9 (by decide) (hts (.fieldLink RX0 15 "VaultDoors$Door" "distance" "[I") (List.mem_of_getElem? (i := 3) rfl)) (fun _ h9 => h9) (by show some (va_rf (Option.map ad (mr ((mI m0 y3 (mi m0 p0 7).toNatClampNeg p1)) p0 9))) = _; rw [g9]; rfl) dX0_addAsked_19 ?_
    refine lv_aload_n hx hb dX0_addAsked_22 rfl (lv_at hl 0 rfl) ?_
    refine va_get (D := D) (ci := 0) (v := .int (mi ((mI m0 y3 (mi m0 p0 7).toNatClampNeg p1)) p0 7)) (C := RX0) (T := TX0) (N := 14) hx hb hts in_X0_addAsked_X0 hown hK hP p0 (vW_k0 n_p0 g1) rfl 7 (by decide) (hts (.fieldLink RX0 49 "VaultDoors$Door" "asked" "I") (List.mem_of_getElem? (i := 1) rfl)) (fun _ h9 => h9) rfl dX0_addAsked_23 ?_
    refine lv_iload_n hx hb dX0_addAsked_26 rfl (lv_at hl 2 rfl) ?_
    obtain ⟨g10, h⟩ := vg_if h
    obtain ⟨g11, h⟩ := vg_if h
    refine va_iast (D := D) hx hb hK hP hD hS y8 0 (vW_k6 n_y8 g10) rfl (i := mi ((mI m0 y3 (mi m0 p0 7).toNatClampNeg p1)) p0 7) (x := p2) g11 dX0_addAsked_27 (fun H locs hP hD hS => ?_)
    rw [vW_p6 (m := ((mI m0 y3 (mi m0 p0 7).toNatClampNeg p1))) n_y8 g10] at hP hD
    have hO12 := vOK.I (a := y8) (j := (mi ((mI m0 y3 (mi m0 p0 7).toNatClampNeg p1)) p0 7).toNatClampNeg) (v := p2) hO7
    have hP : va_P D vwCl (vW tc ad N ((mI ((mI m0 y3 (mi m0 p0 7).toNatClampNeg p1)) y8 (mi ((mI m0 y3 (mi m0 p0 7).toNatClampNeg p1)) p0 7).toNatClampNeg p2))) H := hP
    have hD : va_D A (vW tc ad N ((mI ((mI m0 y3 (mi m0 p0 7).toNatClampNeg p1)) y8 (mi ((mI m0 y3 (mi m0 p0 7).toNatClampNeg p1)) p0 7).toNatClampNeg p2))) := hD
    refine lv_aload_n hx hb dX0_addAsked_28 rfl (lv_at hl 0 rfl) ?_
    obtain ⟨y13, g14, h⟩ := vg_bind h
    have n_y13 := hO12 _ _ _ g14
    refine va_get (D := D) (ci := 0) (v := .ref (ad y13)) (C := RX0) (T := TX0) (N := 14) hx hb hts in_X0_addAsked_X0 hown hK hP p0 (vW_k0 n_p0 g1) rfl 10 (by decide) (hts (.fieldLink RX0 18 "VaultDoors$Door" "answer" "[I") (List.mem_of_getElem? (i := 4) rfl)) (fun _ h9 => h9) (by show some (va_rf (Option.map ad (mr ((mI ((mI m0 y3 (mi m0 p0 7).toNatClampNeg p1)) y8 (mi ((mI m0 y3 (mi m0 p0 7).toNatClampNeg p1)) p0 7).toNatClampNeg p2)) p0 10))) = _; rw [g14]; rfl) dX0_addAsked_29 ?_
    refine lv_aload_n hx hb dX0_addAsked_32 rfl (lv_at hl 0 rfl) ?_
    refine va_get (D := D) (ci := 0) (v := .int (mi ((mI ((mI m0 y3 (mi m0 p0 7).toNatClampNeg p1)) y8 (mi ((mI m0 y3 (mi m0 p0 7).toNatClampNeg p1)) p0 7).toNatClampNeg p2)) p0 7)) (C := RX0) (T := TX0) (N := 14) hx hb hts in_X0_addAsked_X0 hown hK hP p0 (vW_k0 n_p0 g1) rfl 7 (by decide) (hts (.fieldLink RX0 49 "VaultDoors$Door" "asked" "I") (List.mem_of_getElem? (i := 1) rfl)) (fun _ h9 => h9) rfl dX0_addAsked_33 ?_
    refine lv_iconst (v := (-1)) hx hb dX0_addAsked_36 (by decide) ?_
    obtain ⟨g15, h⟩ := vg_if h
    obtain ⟨g16, h⟩ := vg_if h
    refine va_iast (D := D) hx hb hK hP hD hS y13 0 (vW_k6 n_y13 g15) rfl (i := mi ((mI ((mI m0 y3 (mi m0 p0 7).toNatClampNeg p1)) y8 (mi ((mI m0 y3 (mi m0 p0 7).toNatClampNeg p1)) p0 7).toNatClampNeg p2)) p0 7) (x := (-1)) g16 dX0_addAsked_37 (fun H locs hP hD hS => ?_)
    rw [vW_p6 (m := ((mI ((mI m0 y3 (mi m0 p0 7).toNatClampNeg p1)) y8 (mi ((mI m0 y3 (mi m0 p0 7).toNatClampNeg p1)) p0 7).toNatClampNeg p2))) n_y13 g15] at hP hD
    have hO17 := vOK.I (a := y13) (j := (mi ((mI ((mI m0 y3 (mi m0 p0 7).toNatClampNeg p1)) y8 (mi ((mI m0 y3 (mi m0 p0 7).toNatClampNeg p1)) p0 7).toNatClampNeg p2)) p0 7).toNatClampNeg) (v := (-1)) hO12
    have hP : va_P D vwCl (vW tc ad N ((mI ((mI ((mI m0 y3 (mi m0 p0 7).toNatClampNeg p1)) y8 (mi ((mI m0 y3 (mi m0 p0 7).toNatClampNeg p1)) p0 7).toNatClampNeg p2)) y13 (mi ((mI ((mI m0 y3 (mi m0 p0 7).toNatClampNeg p1)) y8 (mi ((mI m0 y3 (mi m0 p0 7).toNatClampNeg p1)) p0 7).toNatClampNeg p2)) p0 7).toNatClampNeg (-1)))) H := hP
    have hD : va_D A (vW tc ad N ((mI ((mI ((mI m0 y3 (mi m0 p0 7).toNatClampNeg p1)) y8 (mi ((mI m0 y3 (mi m0 p0 7).toNatClampNeg p1)) p0 7).toNatClampNeg p2)) y13 (mi ((mI ((mI m0 y3 (mi m0 p0 7).toNatClampNeg p1)) y8 (mi ((mI m0 y3 (mi m0 p0 7).toNatClampNeg p1)) p0 7).toNatClampNeg p2)) p0 7).toNatClampNeg (-1)))) := hD
    refine lv_aload_n hx hb dX0_addAsked_38 rfl (lv_at hl 0 rfl) ?_
    refine lv_dup hx hb dX0_addAsked_39 rfl ?_
    refine va_get (D := D) (ci := 0) (v := .int (mi ((mI ((mI ((mI m0 y3 (mi m0 p0 7).toNatClampNeg p1)) y8 (mi ((mI m0 y3 (mi m0 p0 7).toNatClampNeg p1)) p0 7).toNatClampNeg p2)) y13 (mi ((mI ((mI m0 y3 (mi m0 p0 7).toNatClampNeg p1)) y8 (mi ((mI m0 y3 (mi m0 p0 7).toNatClampNeg p1)) p0 7).toNatClampNeg p2)) p0 7).toNatClampNeg (-1))) p0 7)) (C := RX0) (T := TX0) (N := 14) hx hb hts in_X0_addAsked_X0 hown hK hP p0 (vW_k0 n_p0 g1) rfl 7 (by decide) (hts (.fieldLink RX0 49 "VaultDoors$Door" "asked" "I") (List.mem_of_getElem? (i := 1) rfl)) (fun _ h9 => h9) rfl dX0_addAsked_40 ?_
    refine lv_iconst (v := 1) hx hb dX0_addAsked_43 (by decide) ?_
    refine lv_iadd hx hb dX0_addAsked_44 ?_
    refine va_put (D := D) (ci := 0) (v := .int ((mi ((mI ((mI ((mI m0 y3 (mi m0 p0 7).toNatClampNeg p1)) y8 (mi ((mI m0 y3 (mi m0 p0 7).toNatClampNeg p1)) p0 7).toNatClampNeg p2)) y13 (mi ((mI ((mI m0 y3 (mi m0 p0 7).toNatClampNeg p1)) y8 (mi ((mI m0 y3 (mi m0 p0 7).toNatClampNeg p1)) p0 7).toNatClampNeg p2)) p0 7).toNatClampNeg (-1))) p0 7) + 1)) (ty := .int) (C := RX0) (T := TX0) (N := 14) hx hb hts in_X0_addAsked_X0 tyX0 tyX0_ok nmX0 hown hK hP hD hS p0 (vW_k0 n_p0 g1) rfl 7 (by decide) (hts (.fieldLink RX0 49 "VaultDoors$Door" "asked" "I") (List.mem_of_getElem? (i := 1) rfl)) (fun _ h9 => h9) rfl (by decide +kernel) rfl rfl (Nat.le_of_ble_eq_true rfl) dX0_addAsked_45 (fun H locs hP hD hS => ?_)
    have hO18 := vOK.I (a := p0) (j := 7) (v := ((mi ((mI ((mI ((mI m0 y3 (mi m0 p0 7).toNatClampNeg p1)) y8 (mi ((mI m0 y3 (mi m0 p0 7).toNatClampNeg p1)) p0 7).toNatClampNeg p2)) y13 (mi ((mI ((mI m0 y3 (mi m0 p0 7).toNatClampNeg p1)) y8 (mi ((mI m0 y3 (mi m0 p0 7).toNatClampNeg p1)) p0 7).toNatClampNeg p2)) p0 7).toNatClampNeg (-1))) p0 7) + 1)) hO17
    rw [vW_p0_7 (m := ((mI ((mI ((mI m0 y3 (mi m0 p0 7).toNatClampNeg p1)) y8 (mi ((mI m0 y3 (mi m0 p0 7).toNatClampNeg p1)) p0 7).toNatClampNeg p2)) y13 (mi ((mI ((mI m0 y3 (mi m0 p0 7).toNatClampNeg p1)) y8 (mi ((mI m0 y3 (mi m0 p0 7).toNatClampNeg p1)) p0 7).toNatClampNeg p2)) p0 7).toNatClampNeg (-1)))) n_p0 g1] at hP hD
    have hP : va_P D vwCl (vW tc ad N ((mI ((mI ((mI ((mI m0 y3 (mi m0 p0 7).toNatClampNeg p1)) y8 (mi ((mI m0 y3 (mi m0 p0 7).toNatClampNeg p1)) p0 7).toNatClampNeg p2)) y13 (mi ((mI ((mI m0 y3 (mi m0 p0 7).toNatClampNeg p1)) y8 (mi ((mI m0 y3 (mi m0 p0 7).toNatClampNeg p1)) p0 7).toNatClampNeg p2)) p0 7).toNatClampNeg (-1))) p0 7 ((mi ((mI ((mI ((mI m0 y3 (mi m0 p0 7).toNatClampNeg p1)) y8 (mi ((mI m0 y3 (mi m0 p0 7).toNatClampNeg p1)) p0 7).toNatClampNeg p2)) y13 (mi ((mI ((mI m0 y3 (mi m0 p0 7).toNatClampNeg p1)) y8 (mi ((mI m0 y3 (mi m0 p0 7).toNatClampNeg p1)) p0 7).toNatClampNeg p2)) p0 7).toNatClampNeg (-1))) p0 7) + 1)))) H := hP
    have hD : va_D A (vW tc ad N ((mI ((mI ((mI ((mI m0 y3 (mi m0 p0 7).toNatClampNeg p1)) y8 (mi ((mI m0 y3 (mi m0 p0 7).toNatClampNeg p1)) p0 7).toNatClampNeg p2)) y13 (mi ((mI ((mI m0 y3 (mi m0 p0 7).toNatClampNeg p1)) y8 (mi ((mI m0 y3 (mi m0 p0 7).toNatClampNeg p1)) p0 7).toNatClampNeg p2)) p0 7).toNatClampNeg (-1))) p0 7 ((mi ((mI ((mI ((mI m0 y3 (mi m0 p0 7).toNatClampNeg p1)) y8 (mi ((mI m0 y3 (mi m0 p0 7).toNatClampNeg p1)) p0 7).toNatClampNeg p2)) y13 (mi ((mI ((mI m0 y3 (mi m0 p0 7).toNatClampNeg p1)) y8 (mi ((mI m0 y3 (mi m0 p0 7).toNatClampNeg p1)) p0 7).toNatClampNeg p2)) p0 7).toNatClampNeg (-1))) p0 7) + 1)))) := hD
    have hz := Option.some.inj h
    exact W.vret hx hb hr (fun t ht hW => ⟨⟨(), rfl, trivial, by rw [← hz]; exact hO18, by rw [ht, ← hz]; exact hP, va_K.moved hW.alike hK, by rw [← hz]; exact hD⟩, hS.F ht⟩) hS.2.2 dX0_addAsked_48

noncomputable def f_X0_startWaiting (m : vM) (p0 : Nat) : Option (vM) :=
  if mk m p0 = 0 then
  some ((mI ((mI m p0 3 1)) p0 4 (mi ((mI m p0 3 1)) p0 1)))
  else none
theorem in_X0_startWaiting_X0 : ∀ w ∈ wsX00, w ∈ wsX0_startWaiting := by decide +kernel
set_option maxHeartbeats 1000000 in
set_option maxRecDepth 100000 in
theorem cm_X0_startWaiting (l : Launch) (D : va_G) (tc : Nat → ClassId) (ad : Nat → Nat) {N : Nat} {m0 : vM} {sz : Nat} {p0 : Nat} (hO : vOK N m0) (n_p0 : p0 < N) {z : vM} (h : f_X0_startWaiting m0 p0 = some z) : Met l yX0_startWaiting wsX0_startWaiting ({ frames := 0, cells := 0, slots := 0, locals := 0 } : Room) (va_Pc [.ref (ad p0)] (qW D tc ad N m0 sz)) (va_Qv (fun (_ : Unit) => True) (fun _ t => vOK N z ∧ pB D (va_A (vW tc ad N m0) sz) (vW tc ad N z) (vT tc) t) (va_A (vW tc ad N m0) sz)) 0 0 (va_A (vW tc ad N m0) sz) := by
  refine Met.ofW (cc := cX0_startWaiting) (maxL := 1) (ret := none) (by decide) rfl ?_
  intro p e s m args below meth c s₁ B hml hv
  obtain ⟨rfl, hsz, hP, hK, hD0, hZ⟩ := hv
  have hx := B.exec
  have hb := B.bytes
  have hr := B.returns
  have hts := atoms_spec (ws := wsX0_startWaiting) B.pre
  have hown : s.vm.findClass RX0 = some m.cls := findClass_of_methodNamed B.named
  have hlocks := B.notSynchronized
  subst hsz
  have hD := hD0.self (sz := s.heap.size)
  generalize hAe : va_A (vW tc ad N m0) s.heap.size = A at hD ⊢
  have hA : ∀ q : Nat, s.heap.size ≤ q → A q := fun q h => by rw [← hAe]; exact Or.inr h
  have hS : va_S A s.heap s.heap [] := va_S.rf
  have hl := lv_entry ([.ref (ad p0)]) (n := 1) (Nat.le_of_ble_eq_true rfl)
  rw [lg_entry_eq]
  generalize (lg_sl ([.ref (ad p0)]) ++ List.replicate (1 - (lg_sl ([.ref (ad p0)])).length) Slot.unset).toArray = ls at hl ⊢
  have hl : lv_has ls 1 [(0, .ref (ad p0))] := hl
  unfold f_X0_startWaiting at h
  refine lv_aload_n hx hb dX0_startWaiting_0 rfl (lv_at hl 0 rfl) ?_
  refine lv_iconst (v := 1) hx hb dX0_startWaiting_1 (by decide) ?_
  obtain ⟨g1, h⟩ := vg_if h
  refine va_put (D := D) (ci := 0) (v := .int 1) (ty := .int) (C := RX0) (T := TX0) (N := 14) hx hb hts in_X0_startWaiting_X0 tyX0 tyX0_ok nmX0 hown hK hP hD hS p0 (vW_k0 n_p0 g1) rfl 3 (by decide) (hts (.fieldLink RX0 37 "VaultDoors$Door" "state" "I") (List.mem_of_getElem? (i := 1) rfl)) (fun _ h9 => h9) rfl (by decide +kernel) rfl rfl (Nat.le_of_ble_eq_true rfl) dX0_startWaiting_2 (fun H locs hP hD hS => ?_)
  have hO2 := vOK.I (a := p0) (j := 3) (v := 1) hO
  rw [vW_p0_3 (m := m0) n_p0 g1] at hP hD
  have hP : va_P D vwCl (vW tc ad N ((mI m0 p0 3 1))) H := hP
  have hD : va_D A (vW tc ad N ((mI m0 p0 3 1))) := hD
  refine lv_aload_n hx hb dX0_startWaiting_5 rfl (lv_at hl 0 rfl) ?_
  refine lv_aload_n hx hb dX0_startWaiting_6 rfl (lv_at hl 0 rfl) ?_
  refine va_get (D := D) (ci := 0) (v := .int (mi ((mI m0 p0 3 1)) p0 1)) (C := RX0) (T := TX0) (N := 14) hx hb hts in_X0_startWaiting_X0 hown hK hP p0 (vW_k0 n_p0 g1) rfl 1 (by decide) (hts (.fieldLink RX0 31 "VaultDoors$Door" "patience" "I") (List.mem_of_getElem? (i := 2) rfl)) (fun _ h9 => h9) rfl dX0_startWaiting_7 ?_
  refine va_put (D := D) (ci := 0) (v := .int (mi ((mI m0 p0 3 1)) p0 1)) (ty := .int) (C := RX0) (T := TX0) (N := 14) hx hb hts in_X0_startWaiting_X0 tyX0 tyX0_ok nmX0 hown hK hP hD hS p0 (vW_k0 n_p0 g1) rfl 4 (by decide) (hts (.fieldLink RX0 40 "VaultDoors$Door" "left" "I") (List.mem_of_getElem? (i := 3) rfl)) (fun _ h9 => h9) rfl (by decide +kernel) rfl rfl (Nat.le_of_ble_eq_true rfl) dX0_startWaiting_10 (fun H locs hP hD hS => ?_)
  have hO3 := vOK.I (a := p0) (j := 4) (v := (mi ((mI m0 p0 3 1)) p0 1)) hO2
  rw [vW_p0_4 (m := ((mI m0 p0 3 1))) n_p0 g1] at hP hD
  have hP : va_P D vwCl (vW tc ad N ((mI ((mI m0 p0 3 1)) p0 4 (mi ((mI m0 p0 3 1)) p0 1)))) H := hP
  have hD : va_D A (vW tc ad N ((mI ((mI m0 p0 3 1)) p0 4 (mi ((mI m0 p0 3 1)) p0 1)))) := hD
  have hz := Option.some.inj h
  exact W.vret hx hb hr (fun t ht hW => ⟨⟨(), rfl, trivial, by rw [← hz]; exact hO3, by rw [ht, ← hz]; exact hP, va_K.moved hW.alike hK, by rw [← hz]; exact hD⟩, hS.F ht⟩) hS.2.2 dX0_startWaiting_13

noncomputable def f_X0_open (m : vM) (p0 : Nat) : Option (vM) :=
  if mk m p0 = 0 then
  some ((mI ((mI ((mI m p0 3 2)) p0 4 12)) p0 5 ((mi ((mI ((mI m p0 3 2)) p0 4 12)) p0 5) + 1)))
  else none
theorem in_X0_open_X0 : ∀ w ∈ wsX00, w ∈ wsX0_open := by decide +kernel
set_option maxHeartbeats 1000000 in
set_option maxRecDepth 100000 in
theorem cm_X0_open (l : Launch) (D : va_G) (tc : Nat → ClassId) (ad : Nat → Nat) {N : Nat} {m0 : vM} {sz : Nat} {p0 : Nat} (hO : vOK N m0) (n_p0 : p0 < N) {z : vM} (h : f_X0_open m0 p0 = some z) : Met l yX0_open wsX0_open ({ frames := 0, cells := 0, slots := 0, locals := 0 } : Room) (va_Pc [.ref (ad p0)] (qW D tc ad N m0 sz)) (va_Qv (fun (_ : Unit) => True) (fun _ t => vOK N z ∧ pB D (va_A (vW tc ad N m0) sz) (vW tc ad N z) (vT tc) t) (va_A (vW tc ad N m0) sz)) 0 0 (va_A (vW tc ad N m0) sz) := by
  refine Met.ofW (cc := cX0_open) (maxL := 1) (ret := none) (by decide) rfl ?_
  intro p e s m args below meth c s₁ B hml hv
  obtain ⟨rfl, hsz, hP, hK, hD0, hZ⟩ := hv
  have hx := B.exec
  have hb := B.bytes
  have hr := B.returns
  have hts := atoms_spec (ws := wsX0_open) B.pre
  have hown : s.vm.findClass RX0 = some m.cls := findClass_of_methodNamed B.named
  have hlocks := B.notSynchronized
  subst hsz
  have hD := hD0.self (sz := s.heap.size)
  generalize hAe : va_A (vW tc ad N m0) s.heap.size = A at hD ⊢
  have hA : ∀ q : Nat, s.heap.size ≤ q → A q := fun q h => by rw [← hAe]; exact Or.inr h
  have hS : va_S A s.heap s.heap [] := va_S.rf
  have hl := lv_entry ([.ref (ad p0)]) (n := 1) (Nat.le_of_ble_eq_true rfl)
  rw [lg_entry_eq]
  generalize (lg_sl ([.ref (ad p0)]) ++ List.replicate (1 - (lg_sl ([.ref (ad p0)])).length) Slot.unset).toArray = ls at hl ⊢
  have hl : lv_has ls 1 [(0, .ref (ad p0))] := hl
  unfold f_X0_open at h
  refine lv_aload_n hx hb dX0_open_0 rfl (lv_at hl 0 rfl) ?_
  refine lv_iconst (v := 2) hx hb dX0_open_1 (by decide) ?_
  obtain ⟨g1, h⟩ := vg_if h
  refine va_put (D := D) (ci := 0) (v := .int 2) (ty := .int) (C := RX0) (T := TX0) (N := 14) hx hb hts in_X0_open_X0 tyX0 tyX0_ok nmX0 hown hK hP hD hS p0 (vW_k0 n_p0 g1) rfl 3 (by decide) (hts (.fieldLink RX0 37 "VaultDoors$Door" "state" "I") (List.mem_of_getElem? (i := 1) rfl)) (fun _ h9 => h9) rfl (by decide +kernel) rfl rfl (Nat.le_of_ble_eq_true rfl) dX0_open_2 (fun H locs hP hD hS => ?_)
  have hO2 := vOK.I (a := p0) (j := 3) (v := 2) hO
  rw [vW_p0_3 (m := m0) n_p0 g1] at hP hD
  have hP : va_P D vwCl (vW tc ad N ((mI m0 p0 3 2))) H := hP
  have hD : va_D A (vW tc ad N ((mI m0 p0 3 2))) := hD
  refine lv_aload_n hx hb dX0_open_5 rfl (lv_at hl 0 rfl) ?_
  refine lv_bipush (v := 12) hx hb dX0_open_6 (by decide) ?_
  refine va_put (D := D) (ci := 0) (v := .int 12) (ty := .int) (C := RX0) (T := TX0) (N := 14) hx hb hts in_X0_open_X0 tyX0 tyX0_ok nmX0 hown hK hP hD hS p0 (vW_k0 n_p0 g1) rfl 4 (by decide) (hts (.fieldLink RX0 40 "VaultDoors$Door" "left" "I") (List.mem_of_getElem? (i := 2) rfl)) (fun _ h9 => h9) rfl (by decide +kernel) rfl rfl (Nat.le_of_ble_eq_true rfl) dX0_open_8 (fun H locs hP hD hS => ?_)
  have hO3 := vOK.I (a := p0) (j := 4) (v := 12) hO2
  rw [vW_p0_4 (m := ((mI m0 p0 3 2))) n_p0 g1] at hP hD
  have hP : va_P D vwCl (vW tc ad N ((mI ((mI m0 p0 3 2)) p0 4 12))) H := hP
  have hD : va_D A (vW tc ad N ((mI ((mI m0 p0 3 2)) p0 4 12))) := hD
  refine lv_aload_n hx hb dX0_open_11 rfl (lv_at hl 0 rfl) ?_
  refine lv_dup hx hb dX0_open_12 rfl ?_
  refine va_get (D := D) (ci := 0) (v := .int (mi ((mI ((mI m0 p0 3 2)) p0 4 12)) p0 5)) (C := RX0) (T := TX0) (N := 14) hx hb hts in_X0_open_X0 hown hK hP p0 (vW_k0 n_p0 g1) rfl 5 (by decide) (hts (.fieldLink RX0 43 "VaultDoors$Door" "opened" "I") (List.mem_of_getElem? (i := 3) rfl)) (fun _ h9 => h9) rfl dX0_open_13 ?_
  refine lv_iconst (v := 1) hx hb dX0_open_16 (by decide) ?_
  refine lv_iadd hx hb dX0_open_17 ?_
  refine va_put (D := D) (ci := 0) (v := .int ((mi ((mI ((mI m0 p0 3 2)) p0 4 12)) p0 5) + 1)) (ty := .int) (C := RX0) (T := TX0) (N := 14) hx hb hts in_X0_open_X0 tyX0 tyX0_ok nmX0 hown hK hP hD hS p0 (vW_k0 n_p0 g1) rfl 5 (by decide) (hts (.fieldLink RX0 43 "VaultDoors$Door" "opened" "I") (List.mem_of_getElem? (i := 3) rfl)) (fun _ h9 => h9) rfl (by decide +kernel) rfl rfl (Nat.le_of_ble_eq_true rfl) dX0_open_18 (fun H locs hP hD hS => ?_)
  have hO4 := vOK.I (a := p0) (j := 5) (v := ((mi ((mI ((mI m0 p0 3 2)) p0 4 12)) p0 5) + 1)) hO3
  rw [vW_p0_5 (m := ((mI ((mI m0 p0 3 2)) p0 4 12))) n_p0 g1] at hP hD
  have hP : va_P D vwCl (vW tc ad N ((mI ((mI ((mI m0 p0 3 2)) p0 4 12)) p0 5 ((mi ((mI ((mI m0 p0 3 2)) p0 4 12)) p0 5) + 1)))) H := hP
  have hD : va_D A (vW tc ad N ((mI ((mI ((mI m0 p0 3 2)) p0 4 12)) p0 5 ((mi ((mI ((mI m0 p0 3 2)) p0 4 12)) p0 5) + 1)))) := hD
  have hz := Option.some.inj h
  exact W.vret hx hb hr (fun t ht hW => ⟨⟨(), rfl, trivial, by rw [← hz]; exact hO4, by rw [ht, ← hz]; exact hP, va_K.moved hW.alike hK, by rw [← hz]; exact hD⟩, hS.F ht⟩) hS.2.2 dX0_open_21

noncomputable def f_X0_bar (m : vM) (p0 : Nat) : Option (vM) :=
  if mk m p0 = 0 then
  some ((mI ((mI ((mI m p0 3 3)) p0 4 4)) p0 6 ((mi ((mI ((mI m p0 3 3)) p0 4 4)) p0 6) + 1)))
  else none
theorem in_X0_bar_X0 : ∀ w ∈ wsX00, w ∈ wsX0_bar := by decide +kernel
set_option maxHeartbeats 1000000 in
set_option maxRecDepth 100000 in
theorem cm_X0_bar (l : Launch) (D : va_G) (tc : Nat → ClassId) (ad : Nat → Nat) {N : Nat} {m0 : vM} {sz : Nat} {p0 : Nat} (hO : vOK N m0) (n_p0 : p0 < N) {z : vM} (h : f_X0_bar m0 p0 = some z) : Met l yX0_bar wsX0_bar ({ frames := 0, cells := 0, slots := 0, locals := 0 } : Room) (va_Pc [.ref (ad p0)] (qW D tc ad N m0 sz)) (va_Qv (fun (_ : Unit) => True) (fun _ t => vOK N z ∧ pB D (va_A (vW tc ad N m0) sz) (vW tc ad N z) (vT tc) t) (va_A (vW tc ad N m0) sz)) 0 0 (va_A (vW tc ad N m0) sz) := by
  refine Met.ofW (cc := cX0_bar) (maxL := 1) (ret := none) (by decide) rfl ?_
  intro p e s m args below meth c s₁ B hml hv
  obtain ⟨rfl, hsz, hP, hK, hD0, hZ⟩ := hv
  have hx := B.exec
  have hb := B.bytes
  have hr := B.returns
  have hts := atoms_spec (ws := wsX0_bar) B.pre
  have hown : s.vm.findClass RX0 = some m.cls := findClass_of_methodNamed B.named
  have hlocks := B.notSynchronized
  subst hsz
  have hD := hD0.self (sz := s.heap.size)
  generalize hAe : va_A (vW tc ad N m0) s.heap.size = A at hD ⊢
  have hA : ∀ q : Nat, s.heap.size ≤ q → A q := fun q h => by rw [← hAe]; exact Or.inr h
  have hS : va_S A s.heap s.heap [] := va_S.rf
  have hl := lv_entry ([.ref (ad p0)]) (n := 1) (Nat.le_of_ble_eq_true rfl)
  rw [lg_entry_eq]
  generalize (lg_sl ([.ref (ad p0)]) ++ List.replicate (1 - (lg_sl ([.ref (ad p0)])).length) Slot.unset).toArray = ls at hl ⊢
  have hl : lv_has ls 1 [(0, .ref (ad p0))] := hl
  unfold f_X0_bar at h
  refine lv_aload_n hx hb dX0_bar_0 rfl (lv_at hl 0 rfl) ?_
  refine lv_iconst (v := 3) hx hb dX0_bar_1 (by decide) ?_
  obtain ⟨g1, h⟩ := vg_if h
  refine va_put (D := D) (ci := 0) (v := .int 3) (ty := .int) (C := RX0) (T := TX0) (N := 14) hx hb hts in_X0_bar_X0 tyX0 tyX0_ok nmX0 hown hK hP hD hS p0 (vW_k0 n_p0 g1) rfl 3 (by decide) (hts (.fieldLink RX0 37 "VaultDoors$Door" "state" "I") (List.mem_of_getElem? (i := 1) rfl)) (fun _ h9 => h9) rfl (by decide +kernel) rfl rfl (Nat.le_of_ble_eq_true rfl) dX0_bar_2 (fun H locs hP hD hS => ?_)
  have hO2 := vOK.I (a := p0) (j := 3) (v := 3) hO
  rw [vW_p0_3 (m := m0) n_p0 g1] at hP hD
  have hP : va_P D vwCl (vW tc ad N ((mI m0 p0 3 3))) H := hP
  have hD : va_D A (vW tc ad N ((mI m0 p0 3 3))) := hD
  refine lv_aload_n hx hb dX0_bar_5 rfl (lv_at hl 0 rfl) ?_
  refine lv_iconst (v := 4) hx hb dX0_bar_6 (by decide) ?_
  refine va_put (D := D) (ci := 0) (v := .int 4) (ty := .int) (C := RX0) (T := TX0) (N := 14) hx hb hts in_X0_bar_X0 tyX0 tyX0_ok nmX0 hown hK hP hD hS p0 (vW_k0 n_p0 g1) rfl 4 (by decide) (hts (.fieldLink RX0 40 "VaultDoors$Door" "left" "I") (List.mem_of_getElem? (i := 2) rfl)) (fun _ h9 => h9) rfl (by decide +kernel) rfl rfl (Nat.le_of_ble_eq_true rfl) dX0_bar_7 (fun H locs hP hD hS => ?_)
  have hO3 := vOK.I (a := p0) (j := 4) (v := 4) hO2
  rw [vW_p0_4 (m := ((mI m0 p0 3 3))) n_p0 g1] at hP hD
  have hP : va_P D vwCl (vW tc ad N ((mI ((mI m0 p0 3 3)) p0 4 4))) H := hP
  have hD : va_D A (vW tc ad N ((mI ((mI m0 p0 3 3)) p0 4 4))) := hD
  refine lv_aload_n hx hb dX0_bar_10 rfl (lv_at hl 0 rfl) ?_
  refine lv_dup hx hb dX0_bar_11 rfl ?_
  refine va_get (D := D) (ci := 0) (v := .int (mi ((mI ((mI m0 p0 3 3)) p0 4 4)) p0 6)) (C := RX0) (T := TX0) (N := 14) hx hb hts in_X0_bar_X0 hown hK hP p0 (vW_k0 n_p0 g1) rfl 6 (by decide) (hts (.fieldLink RX0 46 "VaultDoors$Door" "barred" "I") (List.mem_of_getElem? (i := 3) rfl)) (fun _ h9 => h9) rfl dX0_bar_12 ?_
  refine lv_iconst (v := 1) hx hb dX0_bar_15 (by decide) ?_
  refine lv_iadd hx hb dX0_bar_16 ?_
  refine va_put (D := D) (ci := 0) (v := .int ((mi ((mI ((mI m0 p0 3 3)) p0 4 4)) p0 6) + 1)) (ty := .int) (C := RX0) (T := TX0) (N := 14) hx hb hts in_X0_bar_X0 tyX0 tyX0_ok nmX0 hown hK hP hD hS p0 (vW_k0 n_p0 g1) rfl 6 (by decide) (hts (.fieldLink RX0 46 "VaultDoors$Door" "barred" "I") (List.mem_of_getElem? (i := 3) rfl)) (fun _ h9 => h9) rfl (by decide +kernel) rfl rfl (Nat.le_of_ble_eq_true rfl) dX0_bar_17 (fun H locs hP hD hS => ?_)
  have hO4 := vOK.I (a := p0) (j := 6) (v := ((mi ((mI ((mI m0 p0 3 3)) p0 4 4)) p0 6) + 1)) hO3
  rw [vW_p0_6 (m := ((mI ((mI m0 p0 3 3)) p0 4 4))) n_p0 g1] at hP hD
  have hP : va_P D vwCl (vW tc ad N ((mI ((mI ((mI m0 p0 3 3)) p0 4 4)) p0 6 ((mi ((mI ((mI m0 p0 3 3)) p0 4 4)) p0 6) + 1)))) H := hP
  have hD : va_D A (vW tc ad N ((mI ((mI ((mI m0 p0 3 3)) p0 4 4)) p0 6 ((mi ((mI ((mI m0 p0 3 3)) p0 4 4)) p0 6) + 1)))) := hD
  have hz := Option.some.inj h
  exact W.vret hx hb hr (fun t ht hW => ⟨⟨(), rfl, trivial, by rw [← hz]; exact hO4, by rw [ht, ← hz]; exact hP, va_K.moved hW.alike hK, by rw [← hz]; exact hD⟩, hS.F ht⟩) hS.2.2 dX0_bar_20

noncomputable def f_X0_spendTime (m : vM) (p0 : Nat) : Option (vM) :=
  if mk m p0 = 0 then
  if (mi m p0 3) = 2 then (
    if 0 < (mi ((mI m p0 4 ((mi m p0 4) - 1))) p0 4) then (
      some ((mI m p0 4 ((mi m p0 4) - 1)))
    ) else (
      some ((mI ((mI ((mI m p0 4 ((mi m p0 4) - 1))) p0 4 0)) p0 3 0))
    )
  ) else (
    if (mi m p0 3) = 3 then (
      if 0 < (mi ((mI m p0 4 ((mi m p0 4) - 1))) p0 4) then (
        some ((mI m p0 4 ((mi m p0 4) - 1)))
      ) else (
        some ((mI ((mI ((mI m p0 4 ((mi m p0 4) - 1))) p0 4 0)) p0 3 0))
      )
    ) else (
      some m
    )
  )
  else none
theorem in_X0_spendTime_X0 : ∀ w ∈ wsX00, w ∈ wsX0_spendTime := by decide +kernel
set_option maxHeartbeats 1000000 in
set_option maxRecDepth 100000 in
theorem cm_X0_spendTime (l : Launch) (D : va_G) (tc : Nat → ClassId) (ad : Nat → Nat) {N : Nat} {m0 : vM} {sz : Nat} {p0 : Nat} (hO : vOK N m0) (n_p0 : p0 < N) {z : vM} (h : f_X0_spendTime m0 p0 = some z) : Met l yX0_spendTime wsX0_spendTime ({ frames := 0, cells := 0, slots := 0, locals := 0 } : Room) (va_Pc [.ref (ad p0)] (qW D tc ad N m0 sz)) (va_Qv (fun (_ : Unit) => True) (fun _ t => vOK N z ∧ pB D (va_A (vW tc ad N m0) sz) (vW tc ad N z) (vT tc) t) (va_A (vW tc ad N m0) sz)) 0 0 (va_A (vW tc ad N m0) sz) := by
  refine Met.ofW (cc := cX0_spendTime) (maxL := 1) (ret := none) (by decide) rfl ?_
  intro p e s m args below meth c s₁ B hml hv
  obtain ⟨rfl, hsz, hP, hK, hD0, hZ⟩ := hv
  have hx := B.exec
  have hb := B.bytes
  have hr := B.returns
  have hts := atoms_spec (ws := wsX0_spendTime) B.pre
  have hown : s.vm.findClass RX0 = some m.cls := findClass_of_methodNamed B.named
  have hlocks := B.notSynchronized
  subst hsz
  have hD := hD0.self (sz := s.heap.size)
  generalize hAe : va_A (vW tc ad N m0) s.heap.size = A at hD ⊢
  have hA : ∀ q : Nat, s.heap.size ≤ q → A q := fun q h => by rw [← hAe]; exact Or.inr h
  have hS : va_S A s.heap s.heap [] := va_S.rf
  have hl := lv_entry ([.ref (ad p0)]) (n := 1) (Nat.le_of_ble_eq_true rfl)
  rw [lg_entry_eq]
  generalize (lg_sl ([.ref (ad p0)]) ++ List.replicate (1 - (lg_sl ([.ref (ad p0)])).length) Slot.unset).toArray = ls at hl ⊢
  have hl : lv_has ls 1 [(0, .ref (ad p0))] := hl
  unfold f_X0_spendTime at h
  refine lv_aload_n hx hb dX0_spendTime_0 rfl (lv_at hl 0 rfl) ?_
  obtain ⟨g1, h⟩ := vg_if h
  refine va_get (D := D) (ci := 0) (v := .int (mi m0 p0 3)) (C := RX0) (T := TX0) (N := 14) hx hb hts in_X0_spendTime_X0 hown hK hP p0 (vW_k0 n_p0 g1) rfl 3 (by decide) (hts (.fieldLink RX0 37 "VaultDoors$Door" "state" "I") (List.mem_of_getElem? (i := 1) rfl)) (fun _ h9 => h9) rfl dX0_spendTime_1 ?_
  refine lv_iconst (v := 2) hx hb dX0_spendTime_4 (by decide) ?_
  refine lv_icmp_eq (tgt := 16) hx hb dX0_spendTime_5 (by decide) (fun c2 => ?_) (fun c2 => ?_)
  · rw [if_pos c2] at h
    refine lv_aload_n hx hb dX0_spendTime_16 rfl (lv_at hl 0 rfl) ?_
    refine lv_dup hx hb dX0_spendTime_17 rfl ?_
    refine va_get (D := D) (ci := 0) (v := .int (mi m0 p0 4)) (C := RX0) (T := TX0) (N := 14) hx hb hts in_X0_spendTime_X0 hown hK hP p0 (vW_k0 n_p0 g1) rfl 4 (by decide) (hts (.fieldLink RX0 40 "VaultDoors$Door" "left" "I") (List.mem_of_getElem? (i := 2) rfl)) (fun _ h9 => h9) rfl dX0_spendTime_18 ?_
    refine lv_iconst (v := 1) hx hb dX0_spendTime_21 (by decide) ?_
    refine lv_isub hx hb dX0_spendTime_22 ?_
    refine va_put (D := D) (ci := 0) (v := .int ((mi m0 p0 4) - 1)) (ty := .int) (C := RX0) (T := TX0) (N := 14) hx hb hts in_X0_spendTime_X0 tyX0 tyX0_ok nmX0 hown hK hP hD hS p0 (vW_k0 n_p0 g1) rfl 4 (by decide) (hts (.fieldLink RX0 40 "VaultDoors$Door" "left" "I") (List.mem_of_getElem? (i := 2) rfl)) (fun _ h9 => h9) rfl (by decide +kernel) rfl rfl (Nat.le_of_ble_eq_true rfl) dX0_spendTime_23 (fun H locs hP hD hS => ?_)
    have hO3 := vOK.I (a := p0) (j := 4) (v := ((mi m0 p0 4) - 1)) hO
    rw [vW_p0_4 (m := m0) n_p0 g1] at hP hD
    have hP : va_P D vwCl (vW tc ad N ((mI m0 p0 4 ((mi m0 p0 4) - 1)))) H := hP
    have hD : va_D A (vW tc ad N ((mI m0 p0 4 ((mi m0 p0 4) - 1)))) := hD
    refine lv_aload_n hx hb dX0_spendTime_26 rfl (lv_at hl 0 rfl) ?_
    refine va_get (D := D) (ci := 0) (v := .int (mi ((mI m0 p0 4 ((mi m0 p0 4) - 1))) p0 4)) (C := RX0) (T := TX0) (N := 14) hx hb hts in_X0_spendTime_X0 hown hK hP p0 (vW_k0 n_p0 g1) rfl 4 (by decide) (hts (.fieldLink RX0 40 "VaultDoors$Door" "left" "I") (List.mem_of_getElem? (i := 2) rfl)) (fun _ h9 => h9) rfl dX0_spendTime_27 ?_
    refine lv_if_gt (tgt := 43) hx hb dX0_spendTime_30 (by decide) (fun c4 => ?_) (fun c4 => ?_)
    · rw [if_pos c4] at h
      have hz := Option.some.inj h
      exact W.vret hx hb hr (fun t ht hW => ⟨⟨(), rfl, trivial, by rw [← hz]; exact hO3, by rw [ht, ← hz]; exact hP, va_K.moved hW.alike hK, by rw [← hz]; exact hD⟩, hS.F ht⟩) hS.2.2 dX0_spendTime_43
    · rw [if_neg c4] at h
      refine lv_aload_n hx hb dX0_spendTime_33 rfl (lv_at hl 0 rfl) ?_
      refine lv_iconst (v := 0) hx hb dX0_spendTime_34 (by decide) ?_
      refine va_put (D := D) (ci := 0) (v := .int 0) (ty := .int) (C := RX0) (T := TX0) (N := 14) hx hb hts in_X0_spendTime_X0 tyX0 tyX0_ok nmX0 hown hK hP hD hS p0 (vW_k0 n_p0 g1) rfl 4 (by decide) (hts (.fieldLink RX0 40 "VaultDoors$Door" "left" "I") (List.mem_of_getElem? (i := 2) rfl)) (fun _ h9 => h9) rfl (by decide +kernel) rfl rfl (Nat.le_of_ble_eq_true rfl) dX0_spendTime_35 (fun H locs hP hD hS => ?_)
      have hO5 := vOK.I (a := p0) (j := 4) (v := 0) hO3
      rw [vW_p0_4 (m := ((mI m0 p0 4 ((mi m0 p0 4) - 1)))) n_p0 g1] at hP hD
      have hP : va_P D vwCl (vW tc ad N ((mI ((mI m0 p0 4 ((mi m0 p0 4) - 1))) p0 4 0))) H := hP
      have hD : va_D A (vW tc ad N ((mI ((mI m0 p0 4 ((mi m0 p0 4) - 1))) p0 4 0))) := hD
      refine lv_aload_n hx hb dX0_spendTime_38 rfl (lv_at hl 0 rfl) ?_
      refine lv_iconst (v := 0) hx hb dX0_spendTime_39 (by decide) ?_
      refine va_put (D := D) (ci := 0) (v := .int 0) (ty := .int) (C := RX0) (T := TX0) (N := 14) hx hb hts in_X0_spendTime_X0 tyX0 tyX0_ok nmX0 hown hK hP hD hS p0 (vW_k0 n_p0 g1) rfl 3 (by decide) (hts (.fieldLink RX0 37 "VaultDoors$Door" "state" "I") (List.mem_of_getElem? (i := 1) rfl)) (fun _ h9 => h9) rfl (by decide +kernel) rfl rfl (Nat.le_of_ble_eq_true rfl) dX0_spendTime_40 (fun H locs hP hD hS => ?_)
      have hO6 := vOK.I (a := p0) (j := 3) (v := 0) hO5
      rw [vW_p0_3 (m := ((mI ((mI m0 p0 4 ((mi m0 p0 4) - 1))) p0 4 0))) n_p0 g1] at hP hD
      have hP : va_P D vwCl (vW tc ad N ((mI ((mI ((mI m0 p0 4 ((mi m0 p0 4) - 1))) p0 4 0)) p0 3 0))) H := hP
      have hD : va_D A (vW tc ad N ((mI ((mI ((mI m0 p0 4 ((mi m0 p0 4) - 1))) p0 4 0)) p0 3 0))) := hD
      have hz := Option.some.inj h
      exact W.vret hx hb hr (fun t ht hW => ⟨⟨(), rfl, trivial, by rw [← hz]; exact hO6, by rw [ht, ← hz]; exact hP, va_K.moved hW.alike hK, by rw [← hz]; exact hD⟩, hS.F ht⟩) hS.2.2 dX0_spendTime_43
  · rw [if_neg c2] at h
    refine lv_aload_n hx hb dX0_spendTime_8 rfl (lv_at hl 0 rfl) ?_
    refine va_get (D := D) (ci := 0) (v := .int (mi m0 p0 3)) (C := RX0) (T := TX0) (N := 14) hx hb hts in_X0_spendTime_X0 hown hK hP p0 (vW_k0 n_p0 g1) rfl 3 (by decide) (hts (.fieldLink RX0 37 "VaultDoors$Door" "state" "I") (List.mem_of_getElem? (i := 1) rfl)) (fun _ h9 => h9) rfl dX0_spendTime_9 ?_
    refine lv_iconst (v := 3) hx hb dX0_spendTime_12 (by decide) ?_
    refine lv_icmp_ne (tgt := 43) hx hb dX0_spendTime_13 (by decide) (fun c7 => ?_) (fun c7 => ?_)
    · rw [if_neg c7] at h
      have hz := Option.some.inj h
      exact W.vret hx hb hr (fun t ht hW => ⟨⟨(), rfl, trivial, by rw [← hz]; exact hO, by rw [ht, ← hz]; exact hP, va_K.moved hW.alike hK, by rw [← hz]; exact hD⟩, hS.F ht⟩) hS.2.2 dX0_spendTime_43
    · rw [if_pos c7] at h
      refine lv_aload_n hx hb dX0_spendTime_16 rfl (lv_at hl 0 rfl) ?_
      refine lv_dup hx hb dX0_spendTime_17 rfl ?_
      refine va_get (D := D) (ci := 0) (v := .int (mi m0 p0 4)) (C := RX0) (T := TX0) (N := 14) hx hb hts in_X0_spendTime_X0 hown hK hP p0 (vW_k0 n_p0 g1) rfl 4 (by decide) (hts (.fieldLink RX0 40 "VaultDoors$Door" "left" "I") (List.mem_of_getElem? (i := 2) rfl)) (fun _ h9 => h9) rfl dX0_spendTime_18 ?_
      refine lv_iconst (v := 1) hx hb dX0_spendTime_21 (by decide) ?_
      refine lv_isub hx hb dX0_spendTime_22 ?_
      refine va_put (D := D) (ci := 0) (v := .int ((mi m0 p0 4) - 1)) (ty := .int) (C := RX0) (T := TX0) (N := 14) hx hb hts in_X0_spendTime_X0 tyX0 tyX0_ok nmX0 hown hK hP hD hS p0 (vW_k0 n_p0 g1) rfl 4 (by decide) (hts (.fieldLink RX0 40 "VaultDoors$Door" "left" "I") (List.mem_of_getElem? (i := 2) rfl)) (fun _ h9 => h9) rfl (by decide +kernel) rfl rfl (Nat.le_of_ble_eq_true rfl) dX0_spendTime_23 (fun H locs hP hD hS => ?_)
      have hO8 := vOK.I (a := p0) (j := 4) (v := ((mi m0 p0 4) - 1)) hO
      rw [vW_p0_4 (m := m0) n_p0 g1] at hP hD
      have hP : va_P D vwCl (vW tc ad N ((mI m0 p0 4 ((mi m0 p0 4) - 1)))) H := hP
      have hD : va_D A (vW tc ad N ((mI m0 p0 4 ((mi m0 p0 4) - 1)))) := hD
      refine lv_aload_n hx hb dX0_spendTime_26 rfl (lv_at hl 0 rfl) ?_
      refine va_get (D := D) (ci := 0) (v := .int (mi ((mI m0 p0 4 ((mi m0 p0 4) - 1))) p0 4)) (C := RX0) (T := TX0) (N := 14) hx hb hts in_X0_spendTime_X0 hown hK hP p0 (vW_k0 n_p0 g1) rfl 4 (by decide) (hts (.fieldLink RX0 40 "VaultDoors$Door" "left" "I") (List.mem_of_getElem? (i := 2) rfl)) (fun _ h9 => h9) rfl dX0_spendTime_27 ?_
      refine lv_if_gt (tgt := 43) hx hb dX0_spendTime_30 (by decide) (fun c9 => ?_) (fun c9 => ?_)
      · rw [if_pos c9] at h
        have hz := Option.some.inj h
        exact W.vret hx hb hr (fun t ht hW => ⟨⟨(), rfl, trivial, by rw [← hz]; exact hO8, by rw [ht, ← hz]; exact hP, va_K.moved hW.alike hK, by rw [← hz]; exact hD⟩, hS.F ht⟩) hS.2.2 dX0_spendTime_43
      · rw [if_neg c9] at h
        refine lv_aload_n hx hb dX0_spendTime_33 rfl (lv_at hl 0 rfl) ?_
        refine lv_iconst (v := 0) hx hb dX0_spendTime_34 (by decide) ?_
        refine va_put (D := D) (ci := 0) (v := .int 0) (ty := .int) (C := RX0) (T := TX0) (N := 14) hx hb hts in_X0_spendTime_X0 tyX0 tyX0_ok nmX0 hown hK hP hD hS p0 (vW_k0 n_p0 g1) rfl 4 (by decide) (hts (.fieldLink RX0 40 "VaultDoors$Door" "left" "I") (List.mem_of_getElem? (i := 2) rfl)) (fun _ h9 => h9) rfl (by decide +kernel) rfl rfl (Nat.le_of_ble_eq_true rfl) dX0_spendTime_35 (fun H locs hP hD hS => ?_)
        have hO10 := vOK.I (a := p0) (j := 4) (v := 0) hO8
        rw [vW_p0_4 (m := ((mI m0 p0 4 ((mi m0 p0 4) - 1)))) n_p0 g1] at hP hD
        have hP : va_P D vwCl (vW tc ad N ((mI ((mI m0 p0 4 ((mi m0 p0 4) - 1))) p0 4 0))) H := hP
        have hD : va_D A (vW tc ad N ((mI ((mI m0 p0 4 ((mi m0 p0 4) - 1))) p0 4 0))) := hD
        refine lv_aload_n hx hb dX0_spendTime_38 rfl (lv_at hl 0 rfl) ?_
        refine lv_iconst (v := 0) hx hb dX0_spendTime_39 (by decide) ?_
        refine va_put (D := D) (ci := 0) (v := .int 0) (ty := .int) (C := RX0) (T := TX0) (N := 14) hx hb hts in_X0_spendTime_X0 tyX0 tyX0_ok nmX0 hown hK hP hD hS p0 (vW_k0 n_p0 g1) rfl 3 (by decide) (hts (.fieldLink RX0 37 "VaultDoors$Door" "state" "I") (List.mem_of_getElem? (i := 1) rfl)) (fun _ h9 => h9) rfl (by decide +kernel) rfl rfl (Nat.le_of_ble_eq_true rfl) dX0_spendTime_40 (fun H locs hP hD hS => ?_)
        have hO11 := vOK.I (a := p0) (j := 3) (v := 0) hO10
        rw [vW_p0_3 (m := ((mI ((mI m0 p0 4 ((mi m0 p0 4) - 1))) p0 4 0))) n_p0 g1] at hP hD
        have hP : va_P D vwCl (vW tc ad N ((mI ((mI ((mI m0 p0 4 ((mi m0 p0 4) - 1))) p0 4 0)) p0 3 0))) H := hP
        have hD : va_D A (vW tc ad N ((mI ((mI ((mI m0 p0 4 ((mi m0 p0 4) - 1))) p0 4 0)) p0 3 0))) := hD
        have hz := Option.some.inj h
        exact W.vret hx hb hr (fun t ht hW => ⟨⟨(), rfl, trivial, by rw [← hz]; exact hO11, by rw [ht, ← hz]; exact hP, va_K.moved hW.alike hK, by rw [← hz]; exact hD⟩, hS.F ht⟩) hS.2.2 dX0_spendTime_43

noncomputable def f_X0_takeAnswer (m : vM) (p0 : Nat) (p1 : Int32) (p2 : Int32) : Option (vM) :=
  if mk m p0 = 0 then
  Option.bind (f_X0_placeOf m p0 p1) fun q2 =>
  if (mi m p0 3) = 1 then (
    if q2 < 0 then (
      some m
    ) else (
      Option.bind (mr m p0 10) fun y7 =>
      if mk m y7 = 6 then
      if vin q2 (ml m y7) then
      if (mi m y7 q2.toNatClampNeg) = (-1) then (
        Option.bind (mr m p0 10) fun y12 =>
        if mk m y12 = 6 then
        if vin q2 (ml m y12) then
        some ((mI m y12 q2.toNatClampNeg p2))
        else none
        else none
      ) else (
        some m
      )
      else none
      else none
    )
  ) else (
    some m
  )
  else none
theorem in_X0_takeAnswer_X0 : ∀ w ∈ wsX00, w ∈ wsX0_takeAnswer := by decide +kernel
set_option maxHeartbeats 1000000 in
set_option maxRecDepth 100000 in
theorem cm_X0_takeAnswer (l : Launch) (D : va_G) (tc : Nat → ClassId) (ad : Nat → Nat) {N : Nat} {m0 : vM} {sz : Nat} {p0 : Nat} {p1 : Int32} {p2 : Int32} (hO : vOK N m0) (n_p0 : p0 < N) {z : vM} (h : f_X0_takeAnswer m0 p0 p1 p2 = some z) : Met l yX0_takeAnswer wsX0_takeAnswer ({ frames := 1, cells := 0, slots := 0, locals := 22 } : Room) (va_Pc [.ref (ad p0), .int p1, .int p2] (qW D tc ad N m0 sz)) (va_Qv (fun (_ : Unit) => True) (fun _ t => vOK N z ∧ pB D (va_A (vW tc ad N m0) sz) (vW tc ad N z) (vT tc) t) (va_A (vW tc ad N m0) sz)) 0 0 (va_A (vW tc ad N m0) sz) := by
  refine Met.ofW (cc := cX0_takeAnswer) (maxL := 4) (ret := none) (by decide) rfl ?_
  intro p e s m args below meth c s₁ B hml hv
  obtain ⟨rfl, hsz, hP, hK, hD0, hZ⟩ := hv
  have hx := B.exec
  have hb := B.bytes
  have hr := B.returns
  have hts := atoms_spec (ws := wsX0_takeAnswer) B.pre
  have hown : s.vm.findClass RX0 = some m.cls := findClass_of_methodNamed B.named
  have hlocks := B.notSynchronized
  subst hsz
  have hD := hD0.self (sz := s.heap.size)
  generalize hAe : va_A (vW tc ad N m0) s.heap.size = A at hD ⊢
  have hA : ∀ q : Nat, s.heap.size ≤ q → A q := fun q h => by rw [← hAe]; exact Or.inr h
  have hS : va_S A s.heap s.heap [] := va_S.rf
  have hl := lv_entry ([.ref (ad p0), .int p1, .int p2]) (n := 4) (Nat.le_of_ble_eq_true rfl)
  rw [lg_entry_eq]
  generalize (lg_sl ([.ref (ad p0), .int p1, .int p2]) ++ List.replicate (4 - (lg_sl ([.ref (ad p0), .int p1, .int p2])).length) Slot.unset).toArray = ls at hl ⊢
  have hl : lv_has ls 4 [(0, .ref (ad p0)), (1, .int p1), (2, .int p2)] := hl
  unfold f_X0_takeAnswer at h
  refine lv_aload_n hx hb dX0_takeAnswer_0 rfl (lv_at hl 0 rfl) ?_
  refine lv_iload_n hx hb dX0_takeAnswer_1 rfl (lv_at hl 1 rfl) ?_
  obtain ⟨g1, h⟩ := vg_if h
  obtain ⟨q2, g3, h⟩ := vg_bind h
  refine va_calli (va_runV (As := [.int p1]) (rest := []) ⟨hx, hb, hml, hown, hts⟩ (cm_X0_placeOf (m0 := m0) l D tc ad hO n_p0 g3) (cwV 1 hts gX0_takeAnswer_X0_placeOf rfl rfl rfl (by decide +kernel) ⟨(Nat.le_of_ble_eq_true rfl), (Nat.le_of_ble_eq_true rfl)⟩) ⟨qR_blind, va_recv hK hP (ci := 0) (q0 := p0) rfl (vW_k0 n_p0 g1), qR_pre hP hK hZ⟩ rfl rfl hl.1 rfl (lv_room (Nat.le_of_ble_eq_true rfl)) dX0_takeAnswer_2 ⟨(Nat.le_of_ble_eq_true rfl), (Nat.le_of_ble_eq_true rfl)⟩) hS (fun q9 _ h9 => h9.elim) (fun q9 h9 => h9.elim) (fun w4 u t H1 locs ht hvm hw hB hz1 hk1 hS => ?_)
  have hP := hP.kept (fun k9 q9 hk9 => hk1 q9.1 (hP k9 q9 hk9).lt (fun h9 => h9))
  generalize H1 = H at hP hS ⊢
  clear hk1 hz1 ht hvm
  have hw : w4 = q2 := hw
  rw [hw]
  refine lv_istore_n (lv' := [(3, .int q2), (0, .ref (ad p0)), (1, .int p1), (2, .int p2)]) hx hb dX0_takeAnswer_5 rfl hl (by decide) rfl (fun ls hl => ?_)
  refine lv_aload_n hx hb dX0_takeAnswer_6 rfl (lv_at hl 1 rfl) ?_
  refine va_get (D := D) (ci := 0) (v := .int (mi m0 p0 3)) (C := RX0) (T := TX0) (N := 14) hx hb hts in_X0_takeAnswer_X0 hown hK hP p0 (vW_k0 n_p0 g1) rfl 3 (by decide) (hts (.fieldLink RX0 37 "VaultDoors$Door" "state" "I") (List.mem_of_getElem? (i := 1) rfl)) (fun _ h9 => h9) rfl dX0_takeAnswer_7 ?_
  refine lv_iconst (v := 1) hx hb dX0_takeAnswer_10 (by decide) ?_
  refine lv_icmp_ne (tgt := 35) hx hb dX0_takeAnswer_11 (by decide) (fun c5 => ?_) (fun c5 => ?_)
  · rw [if_neg c5] at h
    have hz := Option.some.inj h
    exact W.vret hx hb hr (fun t ht hW => ⟨⟨(), rfl, trivial, by rw [← hz]; exact hO, by rw [ht, ← hz]; exact hP, va_K.moved hW.alike hK, by rw [← hz]; exact hD⟩, hS.F ht⟩) hS.2.2 dX0_takeAnswer_35
  · rw [if_pos c5] at h
    refine lv_iload_n hx hb dX0_takeAnswer_14 rfl (lv_at hl 0 rfl) ?_
    refine lv_if_lt (tgt := 35) hx hb dX0_takeAnswer_15 (by decide) (fun c6 => ?_) (fun c6 => ?_)
    · rw [if_pos c6] at h
      have hz := Option.some.inj h
      exact W.vret hx hb hr (fun t ht hW => ⟨⟨(), rfl, trivial, by rw [← hz]; exact hO, by rw [ht, ← hz]; exact hP, va_K.moved hW.alike hK, by rw [← hz]; exact hD⟩, hS.F ht⟩) hS.2.2 dX0_takeAnswer_35
    · rw [if_neg c6] at h
      refine lv_aload_n hx hb dX0_takeAnswer_18 rfl (lv_at hl 1 rfl) ?_
      obtain ⟨y7, g8, h⟩ := vg_bind h
      have n_y7 := hO _ _ _ g8
      refine va_get (D := D) (ci := 0) (v := .ref (ad y7)) (C := RX0) (T := TX0) (N := 14) hx hb hts in_X0_takeAnswer_X0 hown hK hP p0 (vW_k0 n_p0 g1) rfl 10 (by decide) (hts (.fieldLink RX0 18 "VaultDoors$Door" "answer" "[I") (List.mem_of_getElem? (i := 2) rfl)) (fun _ h9 => h9) (by show some (va_rf (Option.map ad (mr m0 p0 10))) = _; rw [g8]; rfl) dX0_takeAnswer_19 ?_
      refine lv_iload_n hx hb dX0_takeAnswer_22 rfl (lv_at hl 0 rfl) ?_
      obtain ⟨g9, h⟩ := vg_if h
      obtain ⟨g10, h⟩ := vg_if h
      refine va_iald (D := D) hx hb hK hP y7 0 (vW_k6 n_y7 g9) rfl (i := q2) g10 dX0_takeAnswer_23 ?_
      refine lv_iconst (v := (-1)) hx hb dX0_takeAnswer_24 (by decide) ?_
      refine lv_icmp_ne (tgt := 35) hx hb dX0_takeAnswer_25 (by decide) (fun c11 => ?_) (fun c11 => ?_)
      · rw [if_neg c11] at h
        have hz := Option.some.inj h
        exact W.vret hx hb hr (fun t ht hW => ⟨⟨(), rfl, trivial, by rw [← hz]; exact hO, by rw [ht, ← hz]; exact hP, va_K.moved hW.alike hK, by rw [← hz]; exact hD⟩, hS.F ht⟩) hS.2.2 dX0_takeAnswer_35
      · rw [if_pos c11] at h
        refine lv_aload_n hx hb dX0_takeAnswer_28 rfl (lv_at hl 1 rfl) ?_
        obtain ⟨y12, g13, h⟩ := vg_bind h
        have n_y12 := hO _ _ _ g13
        refine va_get (D := D) (ci := 0) (v := .ref (ad y12)) (C := RX0) (T := TX0) (N := 14) hx hb hts in_X0_takeAnswer_X0 hown hK hP p0 (vW_k0 n_p0 g1) rfl 10 (by decide) (hts (.fieldLink RX0 18 "VaultDoors$Door" "answer" "[I") (List.mem_of_getElem? (i := 2) rfl)) (fun _ h9 => h9) (by show some (va_rf (Option.map ad (mr m0 p0 10))) = _; rw [g13]; rfl) dX0_takeAnswer_29 ?_
        refine lv_iload_n hx hb dX0_takeAnswer_32 rfl (lv_at hl 0 rfl) ?_
        refine lv_iload_n hx hb dX0_takeAnswer_33 rfl (lv_at hl 3 rfl) ?_
        obtain ⟨g14, h⟩ := vg_if h
        obtain ⟨g15, h⟩ := vg_if h
        refine va_iast (D := D) hx hb hK hP hD hS y12 0 (vW_k6 n_y12 g14) rfl (i := q2) (x := p2) g15 dX0_takeAnswer_34 (fun H locs hP hD hS => ?_)
        rw [vW_p6 (m := m0) n_y12 g14] at hP hD
        have hO16 := vOK.I (a := y12) (j := q2.toNatClampNeg) (v := p2) hO
        have hP : va_P D vwCl (vW tc ad N ((mI m0 y12 q2.toNatClampNeg p2))) H := hP
        have hD : va_D A (vW tc ad N ((mI m0 y12 q2.toNatClampNeg p2))) := hD
        have hz := Option.some.inj h
        exact W.vret hx hb hr (fun t ht hW => ⟨⟨(), rfl, trivial, by rw [← hz]; exact hO16, by rw [ht, ← hz]; exact hP, va_K.moved hW.alike hK, by rw [← hz]; exact hD⟩, hS.F ht⟩) hS.2.2 dX0_takeAnswer_35

noncomputable def f_X0_remember (m : vM) (p0 : Nat) (p1 : Int32) (p2 : Int32) : Option (vM) :=
  if mk m p0 = 0 then
  if 60 ≤ (mi m p0 11) then (
    some m
  ) else (
    Option.bind (mr m p0 12) fun y3 =>
    if mk m y3 = 6 then
    if vin (mi m p0 11) (ml m y3) then
    Option.bind (mr ((mI m y3 (mi m p0 11).toNatClampNeg p1)) p0 13) fun y8 =>
    if mk ((mI m y3 (mi m p0 11).toNatClampNeg p1)) y8 = 6 then
    if vin (mi ((mI m y3 (mi m p0 11).toNatClampNeg p1)) p0 11) (ml ((mI m y3 (mi m p0 11).toNatClampNeg p1)) y8) then
    some ((mI ((mI ((mI m y3 (mi m p0 11).toNatClampNeg p1)) y8 (mi ((mI m y3 (mi m p0 11).toNatClampNeg p1)) p0 11).toNatClampNeg p2)) p0 11 ((mi ((mI ((mI m y3 (mi m p0 11).toNatClampNeg p1)) y8 (mi ((mI m y3 (mi m p0 11).toNatClampNeg p1)) p0 11).toNatClampNeg p2)) p0 11) + 1)))
    else none
    else none
    else none
    else none
  )
  else none
theorem in_X0_remember_X0 : ∀ w ∈ wsX00, w ∈ wsX0_remember := by decide +kernel
set_option maxHeartbeats 1000000 in
set_option maxRecDepth 100000 in
theorem cm_X0_remember (l : Launch) (D : va_G) (tc : Nat → ClassId) (ad : Nat → Nat) {N : Nat} {m0 : vM} {sz : Nat} {p0 : Nat} {p1 : Int32} {p2 : Int32} (hO : vOK N m0) (n_p0 : p0 < N) {z : vM} (h : f_X0_remember m0 p0 p1 p2 = some z) : Met l yX0_remember wsX0_remember ({ frames := 0, cells := 0, slots := 0, locals := 0 } : Room) (va_Pc [.ref (ad p0), .int p1, .int p2] (qW D tc ad N m0 sz)) (va_Qv (fun (_ : Unit) => True) (fun _ t => vOK N z ∧ pB D (va_A (vW tc ad N m0) sz) (vW tc ad N z) (vT tc) t) (va_A (vW tc ad N m0) sz)) 0 0 (va_A (vW tc ad N m0) sz) := by
  refine Met.ofW (cc := cX0_remember) (maxL := 3) (ret := none) (by decide) rfl ?_
  intro p e s m args below meth c s₁ B hml hv
  obtain ⟨rfl, hsz, hP, hK, hD0, hZ⟩ := hv
  have hx := B.exec
  have hb := B.bytes
  have hr := B.returns
  have hts := atoms_spec (ws := wsX0_remember) B.pre
  have hown : s.vm.findClass RX0 = some m.cls := findClass_of_methodNamed B.named
  have hlocks := B.notSynchronized
  subst hsz
  have hD := hD0.self (sz := s.heap.size)
  generalize hAe : va_A (vW tc ad N m0) s.heap.size = A at hD ⊢
  have hA : ∀ q : Nat, s.heap.size ≤ q → A q := fun q h => by rw [← hAe]; exact Or.inr h
  have hS : va_S A s.heap s.heap [] := va_S.rf
  have hl := lv_entry ([.ref (ad p0), .int p1, .int p2]) (n := 3) (Nat.le_of_ble_eq_true rfl)
  rw [lg_entry_eq]
  generalize (lg_sl ([.ref (ad p0), .int p1, .int p2]) ++ List.replicate (3 - (lg_sl ([.ref (ad p0), .int p1, .int p2])).length) Slot.unset).toArray = ls at hl ⊢
  have hl : lv_has ls 3 [(0, .ref (ad p0)), (1, .int p1), (2, .int p2)] := hl
  unfold f_X0_remember at h
  refine lv_aload_n hx hb dX0_remember_0 rfl (lv_at hl 0 rfl) ?_
  obtain ⟨g1, h⟩ := vg_if h
  refine va_get (D := D) (ci := 0) (v := .int (mi m0 p0 11)) (C := RX0) (T := TX0) (N := 14) hx hb hts in_X0_remember_X0 hown hK hP p0 (vW_k0 n_p0 g1) rfl 11 (by decide) (hts (.fieldLink RX0 58 "VaultDoors$Door" "remembered" "I") (List.mem_of_getElem? (i := 1) rfl)) (fun _ h9 => h9) rfl dX0_remember_1 ?_
  refine lv_bipush (v := 60) hx hb dX0_remember_4 (by decide) ?_
  refine lv_icmp_ge (tgt := 39) hx hb dX0_remember_6 (by decide) (fun c2 => ?_) (fun c2 => ?_)
  · rw [if_pos c2] at h
    have hz := Option.some.inj h
    exact W.vret hx hb hr (fun t ht hW => ⟨⟨(), rfl, trivial, by rw [← hz]; exact hO, by rw [ht, ← hz]; exact hP, va_K.moved hW.alike hK, by rw [← hz]; exact hD⟩, hS.F ht⟩) hS.2.2 dX0_remember_39
  · rw [if_neg c2] at h
    refine lv_aload_n hx hb dX0_remember_9 rfl (lv_at hl 0 rfl) ?_
    obtain ⟨y3, g4, h⟩ := vg_bind h
    have n_y3 := hO _ _ _ g4
    refine va_get (D := D) (ci := 0) (v := .ref (ad y3)) (C := RX0) (T := TX0) (N := 14) hx hb hts in_X0_remember_X0 hown hK hP p0 (vW_k0 n_p0 g1) rfl 12 (by decide) (hts (.fieldLink RX0 21 "VaultDoors$Door" "asker" "[I") (List.mem_of_getElem? (i := 2) rfl)) (fun _ h9 => h9) (by show some (va_rf (Option.map ad (mr m0 p0 12))) = _; rw [g4]; rfl) dX0_remember_10 ?_
    refine lv_aload_n hx hb dX0_remember_13 rfl (lv_at hl 0 rfl) ?_
    refine va_get (D := D) (ci := 0) (v := .int (mi m0 p0 11)) (C := RX0) (T := TX0) (N := 14) hx hb hts in_X0_remember_X0 hown hK hP p0 (vW_k0 n_p0 g1) rfl 11 (by decide) (hts (.fieldLink RX0 58 "VaultDoors$Door" "remembered" "I") (List.mem_of_getElem? (i := 1) rfl)) (fun _ h9 => h9) rfl dX0_remember_14 ?_
    refine lv_iload_n hx hb dX0_remember_17 rfl (lv_at hl 1 rfl) ?_
    obtain ⟨g5, h⟩ := vg_if h
    obtain ⟨g6, h⟩ := vg_if h
    refine va_iast (D := D) hx hb hK hP hD hS y3 0 (vW_k6 n_y3 g5) rfl (i := mi m0 p0 11) (x := p1) g6 dX0_remember_18 (fun H locs hP hD hS => ?_)
    rw [vW_p6 (m := m0) n_y3 g5] at hP hD
    have hO7 := vOK.I (a := y3) (j := (mi m0 p0 11).toNatClampNeg) (v := p1) hO
    have hP : va_P D vwCl (vW tc ad N ((mI m0 y3 (mi m0 p0 11).toNatClampNeg p1))) H := hP
    have hD : va_D A (vW tc ad N ((mI m0 y3 (mi m0 p0 11).toNatClampNeg p1))) := hD
    refine lv_aload_n hx hb dX0_remember_19 rfl (lv_at hl 0 rfl) ?_
    obtain ⟨y8, g9, h⟩ := vg_bind h
    have n_y8 := hO7 _ _ _ g9
    refine va_get (D := D) (ci := 0) (v := .ref (ad y8)) (C := RX0) (T := TX0) (N := 14) hx hb hts in_X0_remember_X0 hown hK hP p0 (vW_k0 n_p0 g1) rfl 13 (by decide) (hts (.fieldLink RX0 24 "VaultDoors$Door" "askerDistance" "[I") (List.mem_of_getElem? (i := 3) rfl)) (fun _ h9 => h9) (by show some (va_rf (Option.map ad (mr ((mI m0 y3 (mi m0 p0 11).toNatClampNeg p1)) p0 13))) = _; rw [g9]; rfl) dX0_remember_20 ?_
    refine lv_aload_n hx hb dX0_remember_23 rfl (lv_at hl 0 rfl) ?_
    refine va_get (D := D) (ci := 0) (v := .int (mi ((mI m0 y3 (mi m0 p0 11).toNatClampNeg p1)) p0 11)) (C := RX0) (T := TX0) (N := 14) hx hb hts in_X0_remember_X0 hown hK hP p0 (vW_k0 n_p0 g1) rfl 11 (by decide) (hts (.fieldLink RX0 58 "VaultDoors$Door" "remembered" "I") (List.mem_of_getElem? (i := 1) rfl)) (fun _ h9 => h9) rfl dX0_remember_24 ?_
    refine lv_iload_n hx hb dX0_remember_27 rfl (lv_at hl 2 rfl) ?_
    obtain ⟨g10, h⟩ := vg_if h
    obtain ⟨g11, h⟩ := vg_if h
    refine va_iast (D := D) hx hb hK hP hD hS y8 0 (vW_k6 n_y8 g10) rfl (i := mi ((mI m0 y3 (mi m0 p0 11).toNatClampNeg p1)) p0 11) (x := p2) g11 dX0_remember_28 (fun H locs hP hD hS => ?_)
    rw [vW_p6 (m := ((mI m0 y3 (mi m0 p0 11).toNatClampNeg p1))) n_y8 g10] at hP hD
    have hO12 := vOK.I (a := y8) (j := (mi ((mI m0 y3 (mi m0 p0 11).toNatClampNeg p1)) p0 11).toNatClampNeg) (v := p2) hO7
    have hP : va_P D vwCl (vW tc ad N ((mI ((mI m0 y3 (mi m0 p0 11).toNatClampNeg p1)) y8 (mi ((mI m0 y3 (mi m0 p0 11).toNatClampNeg p1)) p0 11).toNatClampNeg p2))) H := hP
    have hD : va_D A (vW tc ad N ((mI ((mI m0 y3 (mi m0 p0 11).toNatClampNeg p1)) y8 (mi ((mI m0 y3 (mi m0 p0 11).toNatClampNeg p1)) p0 11).toNatClampNeg p2))) := hD
    refine lv_aload_n hx hb dX0_remember_29 rfl (lv_at hl 0 rfl) ?_
    refine lv_dup hx hb dX0_remember_30 rfl ?_
    refine va_get (D := D) (ci := 0) (v := .int (mi ((mI ((mI m0 y3 (mi m0 p0 11).toNatClampNeg p1)) y8 (mi ((mI m0 y3 (mi m0 p0 11).toNatClampNeg p1)) p0 11).toNatClampNeg p2)) p0 11)) (C := RX0) (T := TX0) (N := 14) hx hb hts in_X0_remember_X0 hown hK hP p0 (vW_k0 n_p0 g1) rfl 11 (by decide) (hts (.fieldLink RX0 58 "VaultDoors$Door" "remembered" "I") (List.mem_of_getElem? (i := 1) rfl)) (fun _ h9 => h9) rfl dX0_remember_31 ?_
    refine lv_iconst (v := 1) hx hb dX0_remember_34 (by decide) ?_
    refine lv_iadd hx hb dX0_remember_35 ?_
    refine va_put (D := D) (ci := 0) (v := .int ((mi ((mI ((mI m0 y3 (mi m0 p0 11).toNatClampNeg p1)) y8 (mi ((mI m0 y3 (mi m0 p0 11).toNatClampNeg p1)) p0 11).toNatClampNeg p2)) p0 11) + 1)) (ty := .int) (C := RX0) (T := TX0) (N := 14) hx hb hts in_X0_remember_X0 tyX0 tyX0_ok nmX0 hown hK hP hD hS p0 (vW_k0 n_p0 g1) rfl 11 (by decide) (hts (.fieldLink RX0 58 "VaultDoors$Door" "remembered" "I") (List.mem_of_getElem? (i := 1) rfl)) (fun _ h9 => h9) rfl (by decide +kernel) rfl rfl (Nat.le_of_ble_eq_true rfl) dX0_remember_36 (fun H locs hP hD hS => ?_)
    have hO13 := vOK.I (a := p0) (j := 11) (v := ((mi ((mI ((mI m0 y3 (mi m0 p0 11).toNatClampNeg p1)) y8 (mi ((mI m0 y3 (mi m0 p0 11).toNatClampNeg p1)) p0 11).toNatClampNeg p2)) p0 11) + 1)) hO12
    rw [vW_p0_11 (m := ((mI ((mI m0 y3 (mi m0 p0 11).toNatClampNeg p1)) y8 (mi ((mI m0 y3 (mi m0 p0 11).toNatClampNeg p1)) p0 11).toNatClampNeg p2))) n_p0 g1] at hP hD
    have hP : va_P D vwCl (vW tc ad N ((mI ((mI ((mI m0 y3 (mi m0 p0 11).toNatClampNeg p1)) y8 (mi ((mI m0 y3 (mi m0 p0 11).toNatClampNeg p1)) p0 11).toNatClampNeg p2)) p0 11 ((mi ((mI ((mI m0 y3 (mi m0 p0 11).toNatClampNeg p1)) y8 (mi ((mI m0 y3 (mi m0 p0 11).toNatClampNeg p1)) p0 11).toNatClampNeg p2)) p0 11) + 1)))) H := hP
    have hD : va_D A (vW tc ad N ((mI ((mI ((mI m0 y3 (mi m0 p0 11).toNatClampNeg p1)) y8 (mi ((mI m0 y3 (mi m0 p0 11).toNatClampNeg p1)) p0 11).toNatClampNeg p2)) p0 11 ((mi ((mI ((mI m0 y3 (mi m0 p0 11).toNatClampNeg p1)) y8 (mi ((mI m0 y3 (mi m0 p0 11).toNatClampNeg p1)) p0 11).toNatClampNeg p2)) p0 11) + 1)))) := hD
    have hz := Option.some.inj h
    exact W.vret hx hb hr (fun t ht hW => ⟨⟨(), rfl, trivial, by rw [← hz]; exact hO13, by rw [ht, ← hz]; exact hP, va_K.moved hW.alike hK, by rw [← hz]; exact hD⟩, hS.F ht⟩) hS.2.2 dX0_remember_39

noncomputable def fB_X0_forget_7 (rec : Nat → vM → Nat → Int32 → Option (vM)) (m : vM) (r0 : Nat) (i1 : Int32) : Option (vM) :=
  if mk m r0 = 0 then
  if (mi m r0 7) ≤ i1 then (
    some m
  ) else (
    Option.bind (mr m r0 10) fun y3 =>
    if mk m y3 = 6 then
    if vin i1 (ml m y3) then
    rec 7 ((mI m y3 i1.toNatClampNeg (-1))) r0 (i1 + 1)
    else none
    else none
  )
  else none
noncomputable def fL_X0_forget (n : Nat) : Nat → vM → Nat → Int32 → Option (vM) := Nat.rec (fun _ _ _ _ => none) (fun _ rec pc m r0 i1 => if pc = 7 then fB_X0_forget_7 rec m r0 i1 else none) n
noncomputable def f_X0_forget (m : vM) (p0 : Nat) : Option (vM) :=
  if mk m p0 = 0 then
  fL_X0_forget vF 7 ((mI m p0 11 0)) p0 (0 : Int32)
  else none
theorem in_X0_forget_X0 : ∀ w ∈ wsX00, w ∈ wsX0_forget := by decide +kernel
set_option maxHeartbeats 1000000 in
set_option maxRecDepth 100000 in
theorem cm_X0_forget (l : Launch) (D : va_G) (tc : Nat → ClassId) (ad : Nat → Nat) {N : Nat} {m0 : vM} {sz : Nat} {p0 : Nat} (hO : vOK N m0) (n_p0 : p0 < N) {z : vM} (h : f_X0_forget m0 p0 = some z) : Met l yX0_forget wsX0_forget ({ frames := 0, cells := 0, slots := 0, locals := 0 } : Room) (va_Pc [.ref (ad p0)] (qW D tc ad N m0 sz)) (va_Qv (fun (_ : Unit) => True) (fun _ t => vOK N z ∧ pB D (va_A (vW tc ad N m0) sz) (vW tc ad N z) (vT tc) t) (va_A (vW tc ad N m0) sz)) 0 0 (va_A (vW tc ad N m0) sz) := by
  refine Met.ofW (cc := cX0_forget) (maxL := 2) (ret := none) (by decide) rfl ?_
  intro p e s m args below meth c s₁ B hml hv
  obtain ⟨rfl, hsz, hP, hK, hD0, hZ⟩ := hv
  have hx := B.exec
  have hb := B.bytes
  have hr := B.returns
  have hts := atoms_spec (ws := wsX0_forget) B.pre
  have hown : s.vm.findClass RX0 = some m.cls := findClass_of_methodNamed B.named
  have hlocks := B.notSynchronized
  subst hsz
  have hD := hD0.self (sz := s.heap.size)
  generalize hAe : va_A (vW tc ad N m0) s.heap.size = A at hD ⊢
  have hA : ∀ q : Nat, s.heap.size ≤ q → A q := fun q h => by rw [← hAe]; exact Or.inr h
  have hS : va_S A s.heap s.heap [] := va_S.rf
  have hl := lv_entry ([.ref (ad p0)]) (n := 2) (Nat.le_of_ble_eq_true rfl)
  rw [lg_entry_eq]
  generalize (lg_sl ([.ref (ad p0)]) ++ List.replicate (2 - (lg_sl ([.ref (ad p0)])).length) Slot.unset).toArray = ls at hl ⊢
  have hl : lv_has ls 2 [(0, .ref (ad p0))] := hl
  have hL : ∀ n : Nat, (∀ (m1 : vM) (r0 : Nat) (i1 : Int32) (H : Heap) (locs : List Loc) (ls : Array Slot), vOK N m1 → r0 < N → fL_X0_forget n 7 m1 r0 i1 = some z → va_P D vwCl (vW tc ad N m1) H → va_D A (vW tc ad N m1) → va_S A s.heap H locs → lv_has ls 2 [(0, .ref (ad r0)), (1, .int i1)] → W p l e (headSpec wsX0_forget ({ frames := 0, cells := 0, slots := 0, locals := 0 } : Room)).room s m ([.ref (ad p0)] : List Value).toArray below meth c H locs 0 0 (MQ below (va_Qv (fun (_ : Unit) => True) (fun _ t => vOK N z ∧ pB D A (vW tc ad N z) (vT tc) t) A) ([.ref (ad p0)] : List Value).toArray s 0 0 A) (F0 m 7 ls [])) := by
    intro n
    induction n with
    | zero => exact (fun _ _ _ _ _ _ _ _ h9 _ _ _ _ => by have h9 : (none : Option (vM)) = some z := h9; cases h9)
    | succ n ih =>
      · intro m1 r0 i1 H locs ls hO n_r0 h hP hD hS hl
        have h : fB_X0_forget_7 (fL_X0_forget n) m1 r0 i1 = some z := h
        unfold fB_X0_forget_7 at h
        refine lv_iload_n hx hb dX0_forget_7 rfl (lv_at hl 1 rfl) ?_
        refine lv_aload_n hx hb dX0_forget_8 rfl (lv_at hl 0 rfl) ?_
        obtain ⟨g1, h⟩ := vg_if h
        refine va_get (D := D) (ci := 0) (v := .int (mi m1 r0 7)) (C := RX0) (T := TX0) (N := 14) hx hb hts in_X0_forget_X0 hown hK hP r0 (vW_k0 n_r0 g1) rfl 7 (by decide) (hts (.fieldLink RX0 49 "VaultDoors$Door" "asked" "I") (List.mem_of_getElem? (i := 2) rfl)) (fun _ h9 => h9) rfl dX0_forget_9 ?_
        refine lv_icmp_ge (tgt := 28) hx hb dX0_forget_12 (by decide) (fun c2 => ?_) (fun c2 => ?_)
        · rw [if_pos c2] at h
          have hz := Option.some.inj h
          exact W.vret hx hb hr (fun t ht hW => ⟨⟨(), rfl, trivial, by rw [← hz]; exact hO, by rw [ht, ← hz]; exact hP, va_K.moved hW.alike hK, by rw [← hz]; exact hD⟩, hS.F ht⟩) hS.2.2 dX0_forget_28
        · rw [if_neg c2] at h
          refine lv_aload_n hx hb dX0_forget_15 rfl (lv_at hl 0 rfl) ?_
          obtain ⟨y3, g4, h⟩ := vg_bind h
          have n_y3 := hO _ _ _ g4
          refine va_get (D := D) (ci := 0) (v := .ref (ad y3)) (C := RX0) (T := TX0) (N := 14) hx hb hts in_X0_forget_X0 hown hK hP r0 (vW_k0 n_r0 g1) rfl 10 (by decide) (hts (.fieldLink RX0 18 "VaultDoors$Door" "answer" "[I") (List.mem_of_getElem? (i := 3) rfl)) (fun _ h9 => h9) (by show some (va_rf (Option.map ad (mr m1 r0 10))) = _; rw [g4]; rfl) dX0_forget_16 ?_
          refine lv_iload_n hx hb dX0_forget_19 rfl (lv_at hl 1 rfl) ?_
          refine lv_iconst (v := (-1)) hx hb dX0_forget_20 (by decide) ?_
          obtain ⟨g5, h⟩ := vg_if h
          obtain ⟨g6, h⟩ := vg_if h
          refine va_iast (D := D) hx hb hK hP hD hS y3 0 (vW_k6 n_y3 g5) rfl (i := i1) (x := (-1)) g6 dX0_forget_21 (fun H locs hP hD hS => ?_)
          rw [vW_p6 (m := m1) n_y3 g5] at hP hD
          have hO7 := vOK.I (a := y3) (j := i1.toNatClampNeg) (v := (-1)) hO
          have hP : va_P D vwCl (vW tc ad N ((mI m1 y3 i1.toNatClampNeg (-1)))) H := hP
          have hD : va_D A (vW tc ad N ((mI m1 y3 i1.toNatClampNeg (-1)))) := hD
          refine lv_iinc (v := i1 + 1) (lv' := [(1, .int (i1 + 1)), (0, .ref (ad r0))]) hx hb dX0_forget_22 hl (k := 1) rfl rfl (by decide) rfl (fun ls hl => ?_)
          refine lv_goto (tgt := 7) hx hb dX0_forget_25 (by decide) ?_
          exact (ih) ((mI m1 y3 i1.toNatClampNeg (-1))) r0 (i1 + 1) _ _ _ hO7 n_r0 h hP hD hS (lv_sub hl (l' := [(0, .ref (ad r0)), (1, .int (i1 + 1))]) [1, 0] rfl)
  unfold f_X0_forget at h
  refine lv_aload_n hx hb dX0_forget_0 rfl (lv_at hl 0 rfl) ?_
  refine lv_iconst (v := 0) hx hb dX0_forget_1 (by decide) ?_
  obtain ⟨g8, h⟩ := vg_if h
  refine va_put (D := D) (ci := 0) (v := .int 0) (ty := .int) (C := RX0) (T := TX0) (N := 14) hx hb hts in_X0_forget_X0 tyX0 tyX0_ok nmX0 hown hK hP hD hS p0 (vW_k0 n_p0 g8) rfl 11 (by decide) (hts (.fieldLink RX0 58 "VaultDoors$Door" "remembered" "I") (List.mem_of_getElem? (i := 1) rfl)) (fun _ h9 => h9) rfl (by decide +kernel) rfl rfl (Nat.le_of_ble_eq_true rfl) dX0_forget_2 (fun H locs hP hD hS => ?_)
  have hO9 := vOK.I (a := p0) (j := 11) (v := 0) hO
  rw [vW_p0_11 (m := m0) n_p0 g8] at hP hD
  have hP : va_P D vwCl (vW tc ad N ((mI m0 p0 11 0))) H := hP
  have hD : va_D A (vW tc ad N ((mI m0 p0 11 0))) := hD
  refine lv_iconst (v := 0) hx hb dX0_forget_5 (by decide) ?_
  refine lv_istore_n (lv' := [(1, .int 0), (0, .ref (ad p0))]) hx hb dX0_forget_6 rfl hl (by decide) rfl (fun ls hl => ?_)
  exact ((hL vF)) ((mI m0 p0 11 0)) p0 (0 : Int32) _ _ _ hO9 n_p0 h hP hD hS (lv_sub hl (l' := [(0, .ref (ad p0)), (1, .int 0)]) [1, 0] rfl)

noncomputable def fB_X0_answersOf_4 (rec : Nat → vM → Nat → Int32 → Int32 → Int32 → Option (Int32)) (m : vM) (r0 : Nat) (i1 : Int32) (i2 : Int32) (i3 : Int32) : Option (Int32) :=
  if mk m r0 = 0 then
  if (mi m r0 7) ≤ i3 then (
    some i2
  ) else (
    Option.bind (mr m r0 10) fun y3 =>
    if mk m y3 = 6 then
    if vin i3 (ml m y3) then
    if (mi m y3 i3.toNatClampNeg) = i1 then (
      rec 4 m r0 i1 (i2 + 1) (i3 + 1)
    ) else (
      rec 4 m r0 i1 i2 (i3 + 1)
    )
    else none
    else none
  )
  else none
noncomputable def fL_X0_answersOf (n : Nat) : Nat → vM → Nat → Int32 → Int32 → Int32 → Option (Int32) := Nat.rec (fun _ _ _ _ _ _ => none) (fun _ rec pc m r0 i1 i2 i3 => if pc = 4 then fB_X0_answersOf_4 rec m r0 i1 i2 i3 else none) n
noncomputable def f_X0_answersOf (m : vM) (p0 : Nat) (p1 : Int32) : Option (Int32) :=
  fL_X0_answersOf vF 4 m p0 p1 (0 : Int32) (0 : Int32)
theorem in_X0_answersOf_X0 : ∀ w ∈ wsX00, w ∈ wsX0_answersOf := by decide +kernel
set_option maxHeartbeats 1000000 in
set_option maxRecDepth 100000 in
theorem cm_X0_answersOf (l : Launch) (D : va_G) (tc : Nat → ClassId) (ad : Nat → Nat) {N : Nat} {m0 : vM} {p0 : Nat} {p1 : Int32} (hO : vOK N m0) (n_p0 : p0 < N) {z : Int32} (h : f_X0_answersOf m0 p0 p1 = some z) : Met l yX0_answersOf wsX0_answersOf ({ frames := 0, cells := 0, slots := 0, locals := 0 } : Room) (va_Pc [.ref (ad p0), .int p1] (qR D tc ad N m0)) (va_Qi (fun (r9 : Int32) (_ : Unit) => r9 = z) (fun _ _ => True) (fun _ => False)) 0 0 (fun _ => False) := by
  refine Met.ofW (cc := cX0_answersOf) (maxL := 4) (ret := (some .int)) (by decide) rfl ?_
  intro p e s m args below meth c s₁ B hml hv
  obtain ⟨rfl, hP, hK, hZ⟩ := hv
  have hx := B.exec
  have hb := B.bytes
  have hr := B.returns
  have hts := atoms_spec (ws := wsX0_answersOf) B.pre
  have hown : s.vm.findClass RX0 = some m.cls := findClass_of_methodNamed B.named
  have hlocks := B.notSynchronized
  have hS : va_S (fun _ => False) s.heap s.heap [] := va_S.rf
  have hl := lv_entry ([.ref (ad p0), .int p1]) (n := 4) (Nat.le_of_ble_eq_true rfl)
  rw [lg_entry_eq]
  generalize (lg_sl ([.ref (ad p0), .int p1]) ++ List.replicate (4 - (lg_sl ([.ref (ad p0), .int p1])).length) Slot.unset).toArray = ls at hl ⊢
  have hl : lv_has ls 4 [(0, .ref (ad p0)), (1, .int p1)] := hl
  have hL : ∀ n : Nat, (∀ (m1 : vM) (r0 : Nat) (i1 : Int32) (i2 : Int32) (i3 : Int32) (H : Heap) (locs : List Loc) (ls : Array Slot), vOK N m1 → r0 < N → fL_X0_answersOf n 4 m1 r0 i1 i2 i3 = some z → va_P D vwCl (vW tc ad N m1) H → va_S (fun _ => False) s.heap H locs → lv_has ls 4 [(0, .ref (ad r0)), (1, .int i1), (2, .int i2), (3, .int i3)] → W p l e (headSpec wsX0_answersOf ({ frames := 0, cells := 0, slots := 0, locals := 0 } : Room)).room s m ([.ref (ad p0), .int p1] : List Value).toArray below meth c H locs 0 0 (MQ below (va_Qi (fun (r9 : Int32) (_ : Unit) => r9 = z) (fun _ _ => True) (fun _ => False)) ([.ref (ad p0), .int p1] : List Value).toArray s 0 0 (fun _ => False)) (F0 m 4 ls [])) := by
    intro n
    induction n with
    | zero => exact (fun _ _ _ _ _ _ _ _ _ _ h9 _ _ _ => by have h9 : (none : Option (Int32)) = some z := h9; cases h9)
    | succ n ih =>
      · intro m1 r0 i1 i2 i3 H locs ls hO n_r0 h hP hS hl
        have h : fB_X0_answersOf_4 (fL_X0_answersOf n) m1 r0 i1 i2 i3 = some z := h
        unfold fB_X0_answersOf_4 at h
        refine lv_iload_n hx hb dX0_answersOf_4 rfl (lv_at hl 3 rfl) ?_
        refine lv_aload_n hx hb dX0_answersOf_5 rfl (lv_at hl 0 rfl) ?_
        obtain ⟨g1, h⟩ := vg_if h
        refine va_get (D := D) (ci := 0) (v := .int (mi m1 r0 7)) (C := RX0) (T := TX0) (N := 14) hx hb hts in_X0_answersOf_X0 hown hK hP r0 (vW_k0 n_r0 g1) rfl 7 (by decide) (hts (.fieldLink RX0 49 "VaultDoors$Door" "asked" "I") (List.mem_of_getElem? (i := 1) rfl)) (fun _ h9 => h9) rfl dX0_answersOf_6 ?_
        refine lv_icmp_ge (tgt := 31) hx hb dX0_answersOf_9 (by decide) (fun c2 => ?_) (fun c2 => ?_)
        · rw [if_pos c2] at h
          refine lv_iload_n hx hb dX0_answersOf_31 rfl (lv_at hl 2 rfl) ?_
          have hz := Option.some.inj h
          exact W.iret (v := i2) hx hb hr (fun t ht hW => ⟨⟨_, (), rfl, hz, trivial⟩, hS.F ht⟩) hS.2.2 dX0_answersOf_32
        · rw [if_neg c2] at h
          refine lv_aload_n hx hb dX0_answersOf_12 rfl (lv_at hl 0 rfl) ?_
          obtain ⟨y3, g4, h⟩ := vg_bind h
          have n_y3 := hO _ _ _ g4
          refine va_get (D := D) (ci := 0) (v := .ref (ad y3)) (C := RX0) (T := TX0) (N := 14) hx hb hts in_X0_answersOf_X0 hown hK hP r0 (vW_k0 n_r0 g1) rfl 10 (by decide) (hts (.fieldLink RX0 18 "VaultDoors$Door" "answer" "[I") (List.mem_of_getElem? (i := 2) rfl)) (fun _ h9 => h9) (by show some (va_rf (Option.map ad (mr m1 r0 10))) = _; rw [g4]; rfl) dX0_answersOf_13 ?_
          refine lv_iload_n hx hb dX0_answersOf_16 rfl (lv_at hl 3 rfl) ?_
          obtain ⟨g5, h⟩ := vg_if h
          obtain ⟨g6, h⟩ := vg_if h
          refine va_iald (D := D) hx hb hK hP y3 0 (vW_k6 n_y3 g5) rfl (i := i3) g6 dX0_answersOf_17 ?_
          refine lv_iload_n hx hb dX0_answersOf_18 rfl (lv_at hl 1 rfl) ?_
          refine lv_icmp_ne (tgt := 25) hx hb dX0_answersOf_19 (by decide) (fun c7 => ?_) (fun c7 => ?_)
          · rw [if_neg c7] at h
            refine lv_iinc (v := i3 + 1) (lv' := [(3, .int (i3 + 1)), (0, .ref (ad r0)), (1, .int i1), (2, .int i2)]) hx hb dX0_answersOf_25 hl (k := 3) rfl rfl (by decide) rfl (fun ls hl => ?_)
            refine lv_goto (tgt := 4) hx hb dX0_answersOf_28 (by decide) ?_
            exact (ih) m1 r0 i1 i2 (i3 + 1) _ _ _ hO n_r0 h hP hS (lv_sub hl (l' := [(0, .ref (ad r0)), (1, .int i1), (2, .int i2), (3, .int (i3 + 1))]) [1, 2, 3, 0] rfl)
          · rw [if_pos c7] at h
            refine lv_iinc (v := i2 + 1) (lv' := [(2, .int (i2 + 1)), (0, .ref (ad r0)), (1, .int i1), (3, .int i3)]) hx hb dX0_answersOf_22 hl (k := 2) rfl rfl (by decide) rfl (fun ls hl => ?_)
            refine lv_iinc (v := i3 + 1) (lv' := [(3, .int (i3 + 1)), (2, .int (i2 + 1)), (0, .ref (ad r0)), (1, .int i1)]) hx hb dX0_answersOf_25 hl (k := 3) rfl rfl (by decide) rfl (fun ls hl => ?_)
            refine lv_goto (tgt := 4) hx hb dX0_answersOf_28 (by decide) ?_
            exact (ih) m1 r0 i1 (i2 + 1) (i3 + 1) _ _ _ hO n_r0 h hP hS (lv_sub hl (l' := [(0, .ref (ad r0)), (1, .int i1), (2, .int (i2 + 1)), (3, .int (i3 + 1))]) [2, 3, 1, 0] rfl)
  unfold f_X0_answersOf at h
  refine lv_iconst (v := 0) hx hb dX0_answersOf_0 (by decide) ?_
  refine lv_istore_n (lv' := [(2, .int 0), (0, .ref (ad p0)), (1, .int p1)]) hx hb dX0_answersOf_1 rfl hl (by decide) rfl (fun ls hl => ?_)
  refine lv_iconst (v := 0) hx hb dX0_answersOf_2 (by decide) ?_
  refine lv_istore_n (lv' := [(3, .int 0), (2, .int 0), (0, .ref (ad p0)), (1, .int p1)]) hx hb dX0_answersOf_3 rfl hl (by decide) rfl (fun ls hl => ?_)
  exact ((hL vF)) m0 p0 p1 (0 : Int32) (0 : Int32) _ _ _ hO n_p0 h hP hS (lv_sub hl (l' := [(0, .ref (ad p0)), (1, .int p1), (2, .int 0), (3, .int 0)]) [2, 3, 1, 0] rfl)

noncomputable def f_X0_isReadyToDecide (m : vM) (p0 : Nat) : Option (Int32) :=
  if mk m p0 = 0 then
  if (mi m p0 4) ≤ 0 then (
    some (1 : Int32)
  ) else (
    Option.bind (f_X0_answersOf m p0 ((0 : Int32))) fun q3 =>
    Option.bind (f_X0_answersOf m p0 ((1 : Int32))) fun q6 =>
    if (q3 + q6) = (mi m p0 7) then (
      some (1 : Int32)
    ) else (
      some (0 : Int32)
    )
  )
  else none
theorem in_X0_isReadyToDecide_X0 : ∀ w ∈ wsX00, w ∈ wsX0_isReadyToDecide := by decide +kernel
set_option maxHeartbeats 1000000 in
set_option maxRecDepth 100000 in
theorem cm_X0_isReadyToDecide (l : Launch) (D : va_G) (tc : Nat → ClassId) (ad : Nat → Nat) {N : Nat} {m0 : vM} {p0 : Nat} (hO : vOK N m0) (n_p0 : p0 < N) {z : Int32} (h : f_X0_isReadyToDecide m0 p0 = some z) : Met l yX0_isReadyToDecide wsX0_isReadyToDecide ({ frames := 1, cells := 0, slots := 0, locals := 23 } : Room) (va_Pc [.ref (ad p0)] (qR D tc ad N m0)) (va_Qi (fun (r9 : Int32) (_ : Unit) => r9 = z) (fun _ _ => True) (fun _ => False)) 0 0 (fun _ => False) := by
  refine Met.ofW (cc := cX0_isReadyToDecide) (maxL := 1) (ret := (some .boolean)) (by decide) rfl ?_
  intro p e s m args below meth c s₁ B hml hv
  obtain ⟨rfl, hP, hK, hZ⟩ := hv
  have hx := B.exec
  have hb := B.bytes
  have hr := B.returns
  have hts := atoms_spec (ws := wsX0_isReadyToDecide) B.pre
  have hown : s.vm.findClass RX0 = some m.cls := findClass_of_methodNamed B.named
  have hlocks := B.notSynchronized
  have hS : va_S (fun _ => False) s.heap s.heap [] := va_S.rf
  have hl := lv_entry ([.ref (ad p0)]) (n := 1) (Nat.le_of_ble_eq_true rfl)
  rw [lg_entry_eq]
  generalize (lg_sl ([.ref (ad p0)]) ++ List.replicate (1 - (lg_sl ([.ref (ad p0)])).length) Slot.unset).toArray = ls at hl ⊢
  have hl : lv_has ls 1 [(0, .ref (ad p0))] := hl
  unfold f_X0_isReadyToDecide at h
  refine lv_aload_n hx hb dX0_isReadyToDecide_0 rfl (lv_at hl 0 rfl) ?_
  obtain ⟨g1, h⟩ := vg_if h
  refine va_get (D := D) (ci := 0) (v := .int (mi m0 p0 4)) (C := RX0) (T := TX0) (N := 14) hx hb hts in_X0_isReadyToDecide_X0 hown hK hP p0 (vW_k0 n_p0 g1) rfl 4 (by decide) (hts (.fieldLink RX0 40 "VaultDoors$Door" "left" "I") (List.mem_of_getElem? (i := 1) rfl)) (fun _ h9 => h9) rfl dX0_isReadyToDecide_1 ?_
  refine lv_if_le (tgt := 25) hx hb dX0_isReadyToDecide_4 (by decide) (fun c2 => ?_) (fun c2 => ?_)
  · rw [if_pos c2] at h
    refine lv_iconst (v := 1) hx hb dX0_isReadyToDecide_25 (by decide) ?_
    refine lv_goto (tgt := 30) hx hb dX0_isReadyToDecide_26 (by decide) ?_
    have hz := Option.some.inj h
    exact W.zret (v := 1) (ty := .boolean) hx hb hr (by decide) (fun t ht hW => ⟨⟨_, (), rfl, hz, trivial⟩, hS.F ht⟩) hS.2.2 dX0_isReadyToDecide_30
  · rw [if_neg c2] at h
    refine lv_aload_n hx hb dX0_isReadyToDecide_7 rfl (lv_at hl 0 rfl) ?_
    refine lv_iconst (v := 0) hx hb dX0_isReadyToDecide_8 (by decide) ?_
    obtain ⟨q3, g4, h⟩ := vg_bind h
    refine va_calli (va_runV (As := [.int 0]) (rest := []) ⟨hx, hb, hml, hown, hts⟩ (cm_X0_answersOf (m0 := m0) l D tc ad hO n_p0 g4) (cwV 1 hts gX0_isReadyToDecide_X0_answersOf rfl rfl rfl (by decide +kernel) ⟨(Nat.le_of_ble_eq_true rfl), (Nat.le_of_ble_eq_true rfl)⟩) ⟨qR_blind, va_recv hK hP (ci := 0) (q0 := p0) rfl (vW_k0 n_p0 g1), qR_pre hP hK hZ⟩ rfl rfl hl.1 rfl (lv_room (Nat.le_of_ble_eq_true rfl)) dX0_isReadyToDecide_9 ⟨(Nat.le_of_ble_eq_true rfl), (Nat.le_of_ble_eq_true rfl)⟩) hS (fun q9 _ h9 => h9.elim) (fun q9 h9 => h9.elim) (fun w5 u t H1 locs ht hvm hw hB hz1 hk1 hS => ?_)
    have hP := hP.kept (fun k9 q9 hk9 => hk1 q9.1 (hP k9 q9 hk9).lt (fun h9 => h9))
    generalize H1 = H at hP hS ⊢
    clear hk1 hz1 ht hvm
    have hw : w5 = q3 := hw
    rw [hw]
    refine lv_aload_n hx hb dX0_isReadyToDecide_12 rfl (lv_at hl 0 rfl) ?_
    refine lv_iconst (v := 1) hx hb dX0_isReadyToDecide_13 (by decide) ?_
    obtain ⟨q6, g7, h⟩ := vg_bind h
    refine va_calli (va_runV (As := [.int 1]) (rest := [.int q3]) ⟨hx, hb, hml, hown, hts⟩ (cm_X0_answersOf (m0 := m0) l D tc ad hO n_p0 g7) (cwV 1 hts gX0_isReadyToDecide_X0_answersOf rfl rfl rfl (by decide +kernel) ⟨(Nat.le_of_ble_eq_true rfl), (Nat.le_of_ble_eq_true rfl)⟩) ⟨qR_blind, va_recv hK hP (ci := 0) (q0 := p0) rfl (vW_k0 n_p0 g1), qR_pre hP hK hZ⟩ rfl rfl hl.1 rfl (lv_room (Nat.le_of_ble_eq_true rfl)) dX0_isReadyToDecide_14 ⟨(Nat.le_of_ble_eq_true rfl), (Nat.le_of_ble_eq_true rfl)⟩) hS (fun q9 _ h9 => h9.elim) (fun q9 h9 => h9.elim) (fun w8 u t H1 locs ht hvm hw hB hz1 hk1 hS => ?_)
    have hP := hP.kept (fun k9 q9 hk9 => hk1 q9.1 (hP k9 q9 hk9).lt (fun h9 => h9))
    generalize H1 = H at hP hS ⊢
    clear hk1 hz1 ht hvm
    have hw : w8 = q6 := hw
    rw [hw]
    refine lv_iadd hx hb dX0_isReadyToDecide_17 ?_
    refine lv_aload_n hx hb dX0_isReadyToDecide_18 rfl (lv_at hl 0 rfl) ?_
    refine va_get (D := D) (ci := 0) (v := .int (mi m0 p0 7)) (C := RX0) (T := TX0) (N := 14) hx hb hts in_X0_isReadyToDecide_X0 hown hK hP p0 (vW_k0 n_p0 g1) rfl 7 (by decide) (hts (.fieldLink RX0 49 "VaultDoors$Door" "asked" "I") (List.mem_of_getElem? (i := 2) rfl)) (fun _ h9 => h9) rfl dX0_isReadyToDecide_19 ?_
    refine lv_icmp_ne (tgt := 29) hx hb dX0_isReadyToDecide_22 (by decide) (fun c9 => ?_) (fun c9 => ?_)
    · rw [if_neg c9] at h
      refine lv_iconst (v := 0) hx hb dX0_isReadyToDecide_29 (by decide) ?_
      have hz := Option.some.inj h
      exact W.zret (v := 0) (ty := .boolean) hx hb hr (by decide) (fun t ht hW => ⟨⟨_, (), rfl, hz, trivial⟩, hS.F ht⟩) hS.2.2 dX0_isReadyToDecide_30
    · rw [if_pos c9] at h
      refine lv_iconst (v := 1) hx hb dX0_isReadyToDecide_25 (by decide) ?_
      refine lv_goto (tgt := 30) hx hb dX0_isReadyToDecide_26 (by decide) ?_
      have hz := Option.some.inj h
      exact W.zret (v := 1) (ty := .boolean) hx hb hr (by decide) (fun t ht hW => ⟨⟨_, (), rfl, hz, trivial⟩, hS.F ht⟩) hS.2.2 dX0_isReadyToDecide_30

noncomputable def f_X0_isPersuaded (m : vM) (p0 : Nat) (p1 : Int32) : Option (Int32) :=
  if mk m p0 = 0 then
  if (mi m p0 2) = 0 then (
    if p1 = (mi m p0 7) then (
      some (1 : Int32)
    ) else (
      some (0 : Int32)
    )
  ) else (
    if (mi m p0 2) = 1 then (
      if p1 < 1 then (
        some (0 : Int32)
      ) else (
        some (1 : Int32)
      )
    ) else (
      if (mi m p0 2) = 2 then (
        if (2 * p1) ≤ (mi m p0 7) then (
          some (0 : Int32)
        ) else (
          some (1 : Int32)
        )
      ) else (
        if p1 = 0 then (
          some (1 : Int32)
        ) else (
          some (0 : Int32)
        )
      )
    )
  )
  else none
theorem in_X0_isPersuaded_X0 : ∀ w ∈ wsX00, w ∈ wsX0_isPersuaded := by decide +kernel
set_option maxHeartbeats 1000000 in
set_option maxRecDepth 100000 in
theorem cm_X0_isPersuaded (l : Launch) (D : va_G) (tc : Nat → ClassId) (ad : Nat → Nat) {N : Nat} {m0 : vM} {p0 : Nat} {p1 : Int32} (hO : vOK N m0) (n_p0 : p0 < N) {z : Int32} (h : f_X0_isPersuaded m0 p0 p1 = some z) : Met l yX0_isPersuaded wsX0_isPersuaded ({ frames := 0, cells := 0, slots := 0, locals := 0 } : Room) (va_Pc [.ref (ad p0), .int p1] (qR D tc ad N m0)) (va_Qi (fun (r9 : Int32) (_ : Unit) => r9 = z) (fun _ _ => True) (fun _ => False)) 0 0 (fun _ => False) := by
  refine Met.ofW (cc := cX0_isPersuaded) (maxL := 2) (ret := (some .boolean)) (by decide) rfl ?_
  intro p e s m args below meth c s₁ B hml hv
  obtain ⟨rfl, hP, hK, hZ⟩ := hv
  have hx := B.exec
  have hb := B.bytes
  have hr := B.returns
  have hts := atoms_spec (ws := wsX0_isPersuaded) B.pre
  have hown : s.vm.findClass RX0 = some m.cls := findClass_of_methodNamed B.named
  have hlocks := B.notSynchronized
  have hS : va_S (fun _ => False) s.heap s.heap [] := va_S.rf
  have hl := lv_entry ([.ref (ad p0), .int p1]) (n := 2) (Nat.le_of_ble_eq_true rfl)
  rw [lg_entry_eq]
  generalize (lg_sl ([.ref (ad p0), .int p1]) ++ List.replicate (2 - (lg_sl ([.ref (ad p0), .int p1])).length) Slot.unset).toArray = ls at hl ⊢
  have hl : lv_has ls 2 [(0, .ref (ad p0)), (1, .int p1)] := hl
  unfold f_X0_isPersuaded at h
  refine lv_aload_n hx hb dX0_isPersuaded_0 rfl (lv_at hl 0 rfl) ?_
  obtain ⟨g1, h⟩ := vg_if h
  refine va_get (D := D) (ci := 0) (v := .int (mi m0 p0 2)) (C := RX0) (T := TX0) (N := 14) hx hb hts in_X0_isPersuaded_X0 hown hK hP p0 (vW_k0 n_p0 g1) rfl 2 (by decide) (hts (.fieldLink RX0 34 "VaultDoors$Door" "rule" "I") (List.mem_of_getElem? (i := 1) rfl)) (fun _ h9 => h9) rfl dX0_isPersuaded_1 ?_
  by_cases c2 : (mi m0 p0 2) = 0
  · rw [if_pos c2] at h
    refine W.eq (g2 := F0 m 4 ls [.int 0]) (by rw [c2]) ?_
    refine lv_tableIn (off := 28) (tgt := 32) hx hb dX0_isPersuaded_4 (by decide) (by decide) (by decide) (by decide) ?_
    refine lv_iload_n hx hb dX0_isPersuaded_32 rfl (lv_at hl 1 rfl) ?_
    refine lv_aload_n hx hb dX0_isPersuaded_33 rfl (lv_at hl 0 rfl) ?_
    refine va_get (D := D) (ci := 0) (v := .int (mi m0 p0 7)) (C := RX0) (T := TX0) (N := 14) hx hb hts in_X0_isPersuaded_X0 hown hK hP p0 (vW_k0 n_p0 g1) rfl 7 (by decide) (hts (.fieldLink RX0 49 "VaultDoors$Door" "asked" "I") (List.mem_of_getElem? (i := 2) rfl)) (fun _ h9 => h9) rfl dX0_isPersuaded_34 ?_
    refine lv_icmp_ne (tgt := 44) hx hb dX0_isPersuaded_37 (by decide) (fun c3 => ?_) (fun c3 => ?_)
    · rw [if_neg c3] at h
      refine lv_iconst (v := 0) hx hb dX0_isPersuaded_44 (by decide) ?_
      have hz := Option.some.inj h
      exact W.zret (v := 0) (ty := .boolean) hx hb hr (by decide) (fun t ht hW => ⟨⟨_, (), rfl, hz, trivial⟩, hS.F ht⟩) hS.2.2 dX0_isPersuaded_45
    · rw [if_pos c3] at h
      refine lv_iconst (v := 1) hx hb dX0_isPersuaded_40 (by decide) ?_
      refine lv_goto (tgt := 45) hx hb dX0_isPersuaded_41 (by decide) ?_
      have hz := Option.some.inj h
      exact W.zret (v := 1) (ty := .boolean) hx hb hr (by decide) (fun t ht hW => ⟨⟨_, (), rfl, hz, trivial⟩, hS.F ht⟩) hS.2.2 dX0_isPersuaded_45
  rw [if_neg c2] at h
  by_cases c4 : (mi m0 p0 2) = 1
  · rw [if_pos c4] at h
    refine W.eq (g2 := F0 m 4 ls [.int 1]) (by rw [c4]) ?_
    refine lv_tableIn (off := 42) (tgt := 46) hx hb dX0_isPersuaded_4 (by decide) (by decide) (by decide) (by decide) ?_
    refine lv_iload_n hx hb dX0_isPersuaded_46 rfl (lv_at hl 1 rfl) ?_
    refine lv_iconst (v := 1) hx hb dX0_isPersuaded_47 (by decide) ?_
    refine lv_icmp_lt (tgt := 55) hx hb dX0_isPersuaded_48 (by decide) (fun c5 => ?_) (fun c5 => ?_)
    · rw [if_pos c5] at h
      refine lv_iconst (v := 0) hx hb dX0_isPersuaded_55 (by decide) ?_
      have hz := Option.some.inj h
      exact W.zret (v := 0) (ty := .boolean) hx hb hr (by decide) (fun t ht hW => ⟨⟨_, (), rfl, hz, trivial⟩, hS.F ht⟩) hS.2.2 dX0_isPersuaded_56
    · rw [if_neg c5] at h
      refine lv_iconst (v := 1) hx hb dX0_isPersuaded_51 (by decide) ?_
      refine lv_goto (tgt := 56) hx hb dX0_isPersuaded_52 (by decide) ?_
      have hz := Option.some.inj h
      exact W.zret (v := 1) (ty := .boolean) hx hb hr (by decide) (fun t ht hW => ⟨⟨_, (), rfl, hz, trivial⟩, hS.F ht⟩) hS.2.2 dX0_isPersuaded_56
  rw [if_neg c4] at h
  by_cases c6 : (mi m0 p0 2) = 2
  · rw [if_pos c6] at h
    refine W.eq (g2 := F0 m 4 ls [.int 2]) (by rw [c6]) ?_
    refine lv_tableIn (off := 53) (tgt := 57) hx hb dX0_isPersuaded_4 (by decide) (by decide) (by decide) (by decide) ?_
    refine lv_iconst (v := 2) hx hb dX0_isPersuaded_57 (by decide) ?_
    refine lv_iload_n hx hb dX0_isPersuaded_58 rfl (lv_at hl 1 rfl) ?_
    refine lv_imul hx hb dX0_isPersuaded_59 ?_
    refine lv_aload_n hx hb dX0_isPersuaded_60 rfl (lv_at hl 0 rfl) ?_
    refine va_get (D := D) (ci := 0) (v := .int (mi m0 p0 7)) (C := RX0) (T := TX0) (N := 14) hx hb hts in_X0_isPersuaded_X0 hown hK hP p0 (vW_k0 n_p0 g1) rfl 7 (by decide) (hts (.fieldLink RX0 49 "VaultDoors$Door" "asked" "I") (List.mem_of_getElem? (i := 2) rfl)) (fun _ h9 => h9) rfl dX0_isPersuaded_61 ?_
    refine lv_icmp_le (tgt := 71) hx hb dX0_isPersuaded_64 (by decide) (fun c7 => ?_) (fun c7 => ?_)
    · rw [if_pos c7] at h
      refine lv_iconst (v := 0) hx hb dX0_isPersuaded_71 (by decide) ?_
      have hz := Option.some.inj h
      exact W.zret (v := 0) (ty := .boolean) hx hb hr (by decide) (fun t ht hW => ⟨⟨_, (), rfl, hz, trivial⟩, hS.F ht⟩) hS.2.2 dX0_isPersuaded_72
    · rw [if_neg c7] at h
      refine lv_iconst (v := 1) hx hb dX0_isPersuaded_67 (by decide) ?_
      refine lv_goto (tgt := 72) hx hb dX0_isPersuaded_68 (by decide) ?_
      have hz := Option.some.inj h
      exact W.zret (v := 1) (ty := .boolean) hx hb hr (by decide) (fun t ht hW => ⟨⟨_, (), rfl, hz, trivial⟩, hS.F ht⟩) hS.2.2 dX0_isPersuaded_72
  rw [if_neg c6] at h
  refine lv_tableOut (tgt := 73) hx hb dX0_isPersuaded_4 ((vs_sw3 (mi m0 p0 2)).resolve_right (by simp [c2, c4, c6])) (by decide) ?_
  refine lv_iload_n hx hb dX0_isPersuaded_73 rfl (lv_at hl 1 rfl) ?_
  refine lv_if_ne (tgt := 81) hx hb dX0_isPersuaded_74 (by decide) (fun c8 => ?_) (fun c8 => ?_)
  · rw [if_neg c8] at h
    refine lv_iconst (v := 0) hx hb dX0_isPersuaded_81 (by decide) ?_
    have hz := Option.some.inj h
    exact W.zret (v := 0) (ty := .boolean) hx hb hr (by decide) (fun t ht hW => ⟨⟨_, (), rfl, hz, trivial⟩, hS.F ht⟩) hS.2.2 dX0_isPersuaded_82
  · rw [if_pos c8] at h
    refine lv_iconst (v := 1) hx hb dX0_isPersuaded_77 (by decide) ?_
    refine lv_goto (tgt := 82) hx hb dX0_isPersuaded_78 (by decide) ?_
    have hz := Option.some.inj h
    exact W.zret (v := 1) (ty := .boolean) hx hb hr (by decide) (fun t ht hW => ⟨⟨_, (), rfl, hz, trivial⟩, hS.F ht⟩) hS.2.2 dX0_isPersuaded_82

noncomputable def f_X0_decide (m : vM) (p0 : Nat) : Option (vM) :=
  if mk m p0 = 0 then
  Option.bind (f_X0_answersOf m p0 ((1 : Int32))) fun q2 =>
  Option.bind (f_X0_isPersuaded m p0 q2) fun q5 =>
  if q5 = 0 then (
    Option.bind (f_X0_bar m p0) fun q9 =>
    some q9
  ) else (
    Option.bind (f_X0_open m p0) fun q13 =>
    some q13
  )
  else none
set_option maxHeartbeats 1000000 in
set_option maxRecDepth 100000 in
theorem cm_X0_decide (l : Launch) (D : va_G) (tc : Nat → ClassId) (ad : Nat → Nat) {N : Nat} {m0 : vM} {sz : Nat} {p0 : Nat} (hO : vOK N m0) (n_p0 : p0 < N) {z : vM} (h : f_X0_decide m0 p0 = some z) : Met l yX0_decide wsX0_decide ({ frames := 1, cells := 0, slots := 0, locals := 23 } : Room) (va_Pc [.ref (ad p0)] (qW D tc ad N m0 sz)) (va_Qv (fun (_ : Unit) => True) (fun _ t => vOK N z ∧ pB D (va_A (vW tc ad N m0) sz) (vW tc ad N z) (vT tc) t) (va_A (vW tc ad N m0) sz)) 0 0 (va_A (vW tc ad N m0) sz) := by
  refine Met.ofW (cc := cX0_decide) (maxL := 1) (ret := none) (by decide) rfl ?_
  intro p e s m args below meth c s₁ B hml hv
  obtain ⟨rfl, hsz, hP, hK, hD0, hZ⟩ := hv
  have hx := B.exec
  have hb := B.bytes
  have hr := B.returns
  have hts := atoms_spec (ws := wsX0_decide) B.pre
  have hown : s.vm.findClass RX0 = some m.cls := findClass_of_methodNamed B.named
  have hlocks := B.notSynchronized
  subst hsz
  have hD := hD0.self (sz := s.heap.size)
  generalize hAe : va_A (vW tc ad N m0) s.heap.size = A at hD ⊢
  have hA : ∀ q : Nat, s.heap.size ≤ q → A q := fun q h => by rw [← hAe]; exact Or.inr h
  have hS : va_S A s.heap s.heap [] := va_S.rf
  have hl := lv_entry ([.ref (ad p0)]) (n := 1) (Nat.le_of_ble_eq_true rfl)
  rw [lg_entry_eq]
  generalize (lg_sl ([.ref (ad p0)]) ++ List.replicate (1 - (lg_sl ([.ref (ad p0)])).length) Slot.unset).toArray = ls at hl ⊢
  have hl : lv_has ls 1 [(0, .ref (ad p0))] := hl
  unfold f_X0_decide at h
  refine lv_aload_n hx hb dX0_decide_0 rfl (lv_at hl 0 rfl) ?_
  refine lv_aload_n hx hb dX0_decide_1 rfl (lv_at hl 0 rfl) ?_
  refine lv_iconst (v := 1) hx hb dX0_decide_2 (by decide) ?_
  obtain ⟨g1, h⟩ := vg_if h
  obtain ⟨q2, g3, h⟩ := vg_bind h
  refine va_calli (va_runV (As := [.int 1]) (rest := [.ref (ad p0)]) ⟨hx, hb, hml, hown, hts⟩ (cm_X0_answersOf (m0 := m0) l D tc ad hO n_p0 g3) (cwV 1 hts gX0_decide_X0_answersOf rfl rfl rfl (by decide +kernel) ⟨(Nat.le_of_ble_eq_true rfl), (Nat.le_of_ble_eq_true rfl)⟩) ⟨qR_blind, va_recv hK hP (ci := 0) (q0 := p0) rfl (vW_k0 n_p0 g1), qR_pre hP hK hZ⟩ rfl rfl hl.1 rfl (lv_room (Nat.le_of_ble_eq_true rfl)) dX0_decide_3 ⟨(Nat.le_of_ble_eq_true rfl), (Nat.le_of_ble_eq_true rfl)⟩) hS (fun q9 _ h9 => h9.elim) (fun q9 h9 => h9.elim) (fun w4 u t H1 locs ht hvm hw hB hz1 hk1 hS => ?_)
  have hP := hP.kept (fun k9 q9 hk9 => hk1 q9.1 (hP k9 q9 hk9).lt (fun h9 => h9))
  generalize H1 = H at hP hS ⊢
  clear hk1 hz1 ht hvm
  have hw : w4 = q2 := hw
  rw [hw]
  obtain ⟨q5, g6, h⟩ := vg_bind h
  refine va_calli (va_runV (As := [.int q2]) (rest := []) ⟨hx, hb, hml, hown, hts⟩ (cm_X0_isPersuaded (m0 := m0) l D tc ad hO n_p0 g6) (cwV 1 hts gX0_decide_X0_isPersuaded rfl rfl rfl (by decide +kernel) ⟨(Nat.le_of_ble_eq_true rfl), (Nat.le_of_ble_eq_true rfl)⟩) ⟨qR_blind, va_recv hK hP (ci := 0) (q0 := p0) rfl (vW_k0 n_p0 g1), qR_pre hP hK hZ⟩ rfl rfl hl.1 rfl (lv_room (Nat.le_of_ble_eq_true rfl)) dX0_decide_6 ⟨(Nat.le_of_ble_eq_true rfl), (Nat.le_of_ble_eq_true rfl)⟩) hS (fun q9 _ h9 => h9.elim) (fun q9 h9 => h9.elim) (fun w7 u t H1 locs ht hvm hw hB hz1 hk1 hS => ?_)
  have hP := hP.kept (fun k9 q9 hk9 => hk1 q9.1 (hP k9 q9 hk9).lt (fun h9 => h9))
  generalize H1 = H at hP hS ⊢
  clear hk1 hz1 ht hvm
  have hw : w7 = q5 := hw
  rw [hw]
  refine lv_if_eq (tgt := 19) hx hb dX0_decide_9 (by decide) (fun c8 => ?_) (fun c8 => ?_)
  · rw [if_pos c8] at h
    refine lv_aload_n hx hb dX0_decide_19 rfl (lv_at hl 0 rfl) ?_
    obtain ⟨q9, g10, h⟩ := vg_bind h
    have hFc := vm_free hD hS hA
    refine va_callv (va_runV (As := []) (rest := []) ⟨hx, hb, hml, hown, hts⟩ (cm_X0_bar (m0 := m0) l D tc ad hO n_p0 g10) (cwV 0 hts gX0_decide_X0_bar rfl rfl rfl (by decide +kernel) ⟨(Nat.le_of_ble_eq_true rfl), (Nat.le_of_ble_eq_true rfl)⟩) ⟨qW_blind, va_recv hK hP (ci := 0) (q0 := p0) rfl (vW_k0 n_p0 g1), qW_pre hP hD hK hZ⟩ rfl rfl hl.1 rfl (lv_room (Nat.le_of_ble_eq_true rfl)) dX0_decide_20 ⟨(Nat.le_of_ble_eq_true rfl), (Nat.le_of_ble_eq_true rfl)⟩) hS (fun q9 _ h9 => hFc q9 h9) hFc (fun u t H1 locs ht hvm hw hB hz1 hk1 hS => ?_)
    obtain ⟨hO12, hP1, hK1, hD1⟩ := hB
    rw [ht] at hP1
    have hP := hP1
    have hD := hD1.weaken (fun _ q9 _ h9 => hFc q9.1 h9)
    generalize H1 = H at hP hS ⊢
    have hP : va_P D vwCl (vW tc ad N q9) H := hP
    have hD : va_D A (vW tc ad N q9) := hD
    clear hk1 hz1 ht hvm
    have hz := Option.some.inj h
    exact W.vret hx hb hr (fun t ht hW => ⟨⟨(), rfl, trivial, by rw [← hz]; exact hO12, by rw [ht, ← hz]; exact hP, va_K.moved hW.alike hK, by rw [← hz]; exact hD⟩, hS.F ht⟩) hS.2.2 dX0_decide_23
  · rw [if_neg c8] at h
    refine lv_aload_n hx hb dX0_decide_12 rfl (lv_at hl 0 rfl) ?_
    obtain ⟨q13, g14, h⟩ := vg_bind h
    have hFc := vm_free hD hS hA
    refine va_callv (va_runV (As := []) (rest := []) ⟨hx, hb, hml, hown, hts⟩ (cm_X0_open (m0 := m0) l D tc ad hO n_p0 g14) (cwV 0 hts gX0_decide_X0_open rfl rfl rfl (by decide +kernel) ⟨(Nat.le_of_ble_eq_true rfl), (Nat.le_of_ble_eq_true rfl)⟩) ⟨qW_blind, va_recv hK hP (ci := 0) (q0 := p0) rfl (vW_k0 n_p0 g1), qW_pre hP hD hK hZ⟩ rfl rfl hl.1 rfl (lv_room (Nat.le_of_ble_eq_true rfl)) dX0_decide_13 ⟨(Nat.le_of_ble_eq_true rfl), (Nat.le_of_ble_eq_true rfl)⟩) hS (fun q9 _ h9 => hFc q9 h9) hFc (fun u t H1 locs ht hvm hw hB hz1 hk1 hS => ?_)
    obtain ⟨hO16, hP1, hK1, hD1⟩ := hB
    rw [ht] at hP1
    have hP := hP1
    have hD := hD1.weaken (fun _ q9 _ h9 => hFc q9.1 h9)
    generalize H1 = H at hP hS ⊢
    have hP : va_P D vwCl (vW tc ad N q13) H := hP
    have hD : va_D A (vW tc ad N q13) := hD
    clear hk1 hz1 ht hvm
    refine lv_goto (tgt := 23) hx hb dX0_decide_16 (by decide) ?_
    have hz := Option.some.inj h
    exact W.vret hx hb hr (fun t ht hW => ⟨⟨(), rfl, trivial, by rw [← hz]; exact hO16, by rw [ht, ← hz]; exact hP, va_K.moved hW.alike hK, by rw [← hz]; exact hD⟩, hS.F ht⟩) hS.2.2 dX0_decide_23

noncomputable def f_X0_fact (m : vM) (p0 : Nat) (p1 : Int32) : Option (Int32) :=
  if p1 = 0 then (
    if mk m p0 = 0 then
    some (mi m p0 3)
    else none
  ) else (
    if p1 = 1 then (
      if mk m p0 = 0 then
      some (mi m p0 4)
      else none
    ) else (
      if p1 = 2 then (
        if mk m p0 = 0 then
        some (mi m p0 2)
        else none
      ) else (
        if p1 = 3 then (
          if mk m p0 = 0 then
          some (mi m p0 7)
          else none
        ) else (
          if p1 = 4 then (
            if mk m p0 = 0 then
            Option.bind (f_X0_answersOf m p0 ((0 : Int32))) fun q6 =>
            Option.bind (f_X0_answersOf m p0 ((1 : Int32))) fun q9 =>
            some (q6 + q9)
            else none
          ) else (
            if p1 = 5 then (
              if mk m p0 = 0 then
              Option.bind (f_X0_answersOf m p0 ((1 : Int32))) fun q13 =>
              some q13
              else none
            ) else (
              if p1 = 6 then (
                if mk m p0 = 0 then
                some (mi m p0 11)
                else none
              ) else (
                if p1 = 7 then (
                  if mk m p0 = 0 then
                  some (mi m p0 5)
                  else none
                ) else (
                  if mk m p0 = 0 then
                  some (mi m p0 6)
                  else none
                )
              )
            )
          )
        )
      )
    )
  )
theorem in_X0_fact_X0 : ∀ w ∈ wsX00, w ∈ wsX0_fact := by decide +kernel
set_option maxHeartbeats 1000000 in
set_option maxRecDepth 100000 in
theorem cm_X0_fact (l : Launch) (D : va_G) (tc : Nat → ClassId) (ad : Nat → Nat) {N : Nat} {m0 : vM} {p0 : Nat} {p1 : Int32} (hO : vOK N m0) (n_p0 : p0 < N) {z : Int32} (h : f_X0_fact m0 p0 p1 = some z) : Met l yX0_fact wsX0_fact ({ frames := 1, cells := 0, slots := 0, locals := 23 } : Room) (va_Pc [.ref (ad p0), .int p1] (qR D tc ad N m0)) (va_Qi (fun (r9 : Int32) (_ : Unit) => r9 = z) (fun _ _ => True) (fun _ => False)) 0 0 (fun _ => False) := by
  refine Met.ofW (cc := cX0_fact) (maxL := 2) (ret := (some .int)) (by decide) rfl ?_
  intro p e s m args below meth c s₁ B hml hv
  obtain ⟨rfl, hP, hK, hZ⟩ := hv
  have hx := B.exec
  have hb := B.bytes
  have hr := B.returns
  have hts := atoms_spec (ws := wsX0_fact) B.pre
  have hown : s.vm.findClass RX0 = some m.cls := findClass_of_methodNamed B.named
  have hlocks := B.notSynchronized
  have hS : va_S (fun _ => False) s.heap s.heap [] := va_S.rf
  have hl := lv_entry ([.ref (ad p0), .int p1]) (n := 2) (Nat.le_of_ble_eq_true rfl)
  rw [lg_entry_eq]
  generalize (lg_sl ([.ref (ad p0), .int p1]) ++ List.replicate (2 - (lg_sl ([.ref (ad p0), .int p1])).length) Slot.unset).toArray = ls at hl ⊢
  have hl : lv_has ls 2 [(0, .ref (ad p0)), (1, .int p1)] := hl
  unfold f_X0_fact at h
  refine lv_iload_n hx hb dX0_fact_0 rfl (lv_at hl 1 rfl) ?_
  by_cases c1 : p1 = 0
  · rw [if_pos c1] at h
    refine W.eq (g2 := F0 m 1 ls [.int 0]) (by rw [c1]) ?_
    refine lv_tableIn (off := 47) (tgt := 48) hx hb dX0_fact_1 (by decide) (by decide) (by decide) (by decide) ?_
    refine lv_aload_n hx hb dX0_fact_48 rfl (lv_at hl 0 rfl) ?_
    obtain ⟨g2, h⟩ := vg_if h
    refine va_get (D := D) (ci := 0) (v := .int (mi m0 p0 3)) (C := RX0) (T := TX0) (N := 14) hx hb hts in_X0_fact_X0 hown hK hP p0 (vW_k0 n_p0 g2) rfl 3 (by decide) (hts (.fieldLink RX0 37 "VaultDoors$Door" "state" "I") (List.mem_of_getElem? (i := 1) rfl)) (fun _ h9 => h9) rfl dX0_fact_49 ?_
    have hz := Option.some.inj h
    exact W.iret (v := mi m0 p0 3) hx hb hr (fun t ht hW => ⟨⟨_, (), rfl, hz, trivial⟩, hS.F ht⟩) hS.2.2 dX0_fact_52
  rw [if_neg c1] at h
  by_cases c3 : p1 = 1
  · rw [if_pos c3] at h
    refine W.eq (g2 := F0 m 1 ls [.int 1]) (by rw [c3]) ?_
    refine lv_tableIn (off := 52) (tgt := 53) hx hb dX0_fact_1 (by decide) (by decide) (by decide) (by decide) ?_
    refine lv_aload_n hx hb dX0_fact_53 rfl (lv_at hl 0 rfl) ?_
    obtain ⟨g4, h⟩ := vg_if h
    refine va_get (D := D) (ci := 0) (v := .int (mi m0 p0 4)) (C := RX0) (T := TX0) (N := 14) hx hb hts in_X0_fact_X0 hown hK hP p0 (vW_k0 n_p0 g4) rfl 4 (by decide) (hts (.fieldLink RX0 40 "VaultDoors$Door" "left" "I") (List.mem_of_getElem? (i := 2) rfl)) (fun _ h9 => h9) rfl dX0_fact_54 ?_
    have hz := Option.some.inj h
    exact W.iret (v := mi m0 p0 4) hx hb hr (fun t ht hW => ⟨⟨_, (), rfl, hz, trivial⟩, hS.F ht⟩) hS.2.2 dX0_fact_57
  rw [if_neg c3] at h
  by_cases c5 : p1 = 2
  · rw [if_pos c5] at h
    refine W.eq (g2 := F0 m 1 ls [.int 2]) (by rw [c5]) ?_
    refine lv_tableIn (off := 57) (tgt := 58) hx hb dX0_fact_1 (by decide) (by decide) (by decide) (by decide) ?_
    refine lv_aload_n hx hb dX0_fact_58 rfl (lv_at hl 0 rfl) ?_
    obtain ⟨g6, h⟩ := vg_if h
    refine va_get (D := D) (ci := 0) (v := .int (mi m0 p0 2)) (C := RX0) (T := TX0) (N := 14) hx hb hts in_X0_fact_X0 hown hK hP p0 (vW_k0 n_p0 g6) rfl 2 (by decide) (hts (.fieldLink RX0 34 "VaultDoors$Door" "rule" "I") (List.mem_of_getElem? (i := 3) rfl)) (fun _ h9 => h9) rfl dX0_fact_59 ?_
    have hz := Option.some.inj h
    exact W.iret (v := mi m0 p0 2) hx hb hr (fun t ht hW => ⟨⟨_, (), rfl, hz, trivial⟩, hS.F ht⟩) hS.2.2 dX0_fact_62
  rw [if_neg c5] at h
  by_cases c7 : p1 = 3
  · rw [if_pos c7] at h
    refine W.eq (g2 := F0 m 1 ls [.int 3]) (by rw [c7]) ?_
    refine lv_tableIn (off := 62) (tgt := 63) hx hb dX0_fact_1 (by decide) (by decide) (by decide) (by decide) ?_
    refine lv_aload_n hx hb dX0_fact_63 rfl (lv_at hl 0 rfl) ?_
    obtain ⟨g8, h⟩ := vg_if h
    refine va_get (D := D) (ci := 0) (v := .int (mi m0 p0 7)) (C := RX0) (T := TX0) (N := 14) hx hb hts in_X0_fact_X0 hown hK hP p0 (vW_k0 n_p0 g8) rfl 7 (by decide) (hts (.fieldLink RX0 49 "VaultDoors$Door" "asked" "I") (List.mem_of_getElem? (i := 4) rfl)) (fun _ h9 => h9) rfl dX0_fact_64 ?_
    have hz := Option.some.inj h
    exact W.iret (v := mi m0 p0 7) hx hb hr (fun t ht hW => ⟨⟨_, (), rfl, hz, trivial⟩, hS.F ht⟩) hS.2.2 dX0_fact_67
  rw [if_neg c7] at h
  by_cases c9 : p1 = 4
  · rw [if_pos c9] at h
    refine W.eq (g2 := F0 m 1 ls [.int 4]) (by rw [c9]) ?_
    refine lv_tableIn (off := 67) (tgt := 68) hx hb dX0_fact_1 (by decide) (by decide) (by decide) (by decide) ?_
    refine lv_aload_n hx hb dX0_fact_68 rfl (lv_at hl 0 rfl) ?_
    refine lv_iconst (v := 0) hx hb dX0_fact_69 (by decide) ?_
    obtain ⟨g10, h⟩ := vg_if h
    obtain ⟨q11, g12, h⟩ := vg_bind h
    refine va_calli (va_runV (As := [.int 0]) (rest := []) ⟨hx, hb, hml, hown, hts⟩ (cm_X0_answersOf (m0 := m0) l D tc ad hO n_p0 g12) (cwV 1 hts gX0_fact_X0_answersOf rfl rfl rfl (by decide +kernel) ⟨(Nat.le_of_ble_eq_true rfl), (Nat.le_of_ble_eq_true rfl)⟩) ⟨qR_blind, va_recv hK hP (ci := 0) (q0 := p0) rfl (vW_k0 n_p0 g10), qR_pre hP hK hZ⟩ rfl rfl hl.1 rfl (lv_room (Nat.le_of_ble_eq_true rfl)) dX0_fact_70 ⟨(Nat.le_of_ble_eq_true rfl), (Nat.le_of_ble_eq_true rfl)⟩) hS (fun q9 _ h9 => h9.elim) (fun q9 h9 => h9.elim) (fun w13 u t H1 locs ht hvm hw hB hz1 hk1 hS => ?_)
    have hP := hP.kept (fun k9 q9 hk9 => hk1 q9.1 (hP k9 q9 hk9).lt (fun h9 => h9))
    generalize H1 = H at hP hS ⊢
    clear hk1 hz1 ht hvm
    have hw : w13 = q11 := hw
    rw [hw]
    refine lv_aload_n hx hb dX0_fact_73 rfl (lv_at hl 0 rfl) ?_
    refine lv_iconst (v := 1) hx hb dX0_fact_74 (by decide) ?_
    obtain ⟨q14, g15, h⟩ := vg_bind h
    refine va_calli (va_runV (As := [.int 1]) (rest := [.int q11]) ⟨hx, hb, hml, hown, hts⟩ (cm_X0_answersOf (m0 := m0) l D tc ad hO n_p0 g15) (cwV 1 hts gX0_fact_X0_answersOf rfl rfl rfl (by decide +kernel) ⟨(Nat.le_of_ble_eq_true rfl), (Nat.le_of_ble_eq_true rfl)⟩) ⟨qR_blind, va_recv hK hP (ci := 0) (q0 := p0) rfl (vW_k0 n_p0 g10), qR_pre hP hK hZ⟩ rfl rfl hl.1 rfl (lv_room (Nat.le_of_ble_eq_true rfl)) dX0_fact_75 ⟨(Nat.le_of_ble_eq_true rfl), (Nat.le_of_ble_eq_true rfl)⟩) hS (fun q9 _ h9 => h9.elim) (fun q9 h9 => h9.elim) (fun w16 u t H1 locs ht hvm hw hB hz1 hk1 hS => ?_)
    have hP := hP.kept (fun k9 q9 hk9 => hk1 q9.1 (hP k9 q9 hk9).lt (fun h9 => h9))
    generalize H1 = H at hP hS ⊢
    clear hk1 hz1 ht hvm
    have hw : w16 = q14 := hw
    rw [hw]
    refine lv_iadd hx hb dX0_fact_78 ?_
    have hz := Option.some.inj h
    exact W.iret (v := q11 + q14) hx hb hr (fun t ht hW => ⟨⟨_, (), rfl, hz, trivial⟩, hS.F ht⟩) hS.2.2 dX0_fact_79
  rw [if_neg c9] at h
  by_cases c17 : p1 = 5
  · rw [if_pos c17] at h
    refine W.eq (g2 := F0 m 1 ls [.int 5]) (by rw [c17]) ?_
    refine lv_tableIn (off := 79) (tgt := 80) hx hb dX0_fact_1 (by decide) (by decide) (by decide) (by decide) ?_
    refine lv_aload_n hx hb dX0_fact_80 rfl (lv_at hl 0 rfl) ?_
    refine lv_iconst (v := 1) hx hb dX0_fact_81 (by decide) ?_
    obtain ⟨g18, h⟩ := vg_if h
    obtain ⟨q19, g20, h⟩ := vg_bind h
    refine va_calli (va_runV (As := [.int 1]) (rest := []) ⟨hx, hb, hml, hown, hts⟩ (cm_X0_answersOf (m0 := m0) l D tc ad hO n_p0 g20) (cwV 1 hts gX0_fact_X0_answersOf rfl rfl rfl (by decide +kernel) ⟨(Nat.le_of_ble_eq_true rfl), (Nat.le_of_ble_eq_true rfl)⟩) ⟨qR_blind, va_recv hK hP (ci := 0) (q0 := p0) rfl (vW_k0 n_p0 g18), qR_pre hP hK hZ⟩ rfl rfl hl.1 rfl (lv_room (Nat.le_of_ble_eq_true rfl)) dX0_fact_82 ⟨(Nat.le_of_ble_eq_true rfl), (Nat.le_of_ble_eq_true rfl)⟩) hS (fun q9 _ h9 => h9.elim) (fun q9 h9 => h9.elim) (fun w21 u t H1 locs ht hvm hw hB hz1 hk1 hS => ?_)
    have hP := hP.kept (fun k9 q9 hk9 => hk1 q9.1 (hP k9 q9 hk9).lt (fun h9 => h9))
    generalize H1 = H at hP hS ⊢
    clear hk1 hz1 ht hvm
    have hw : w21 = q19 := hw
    rw [hw]
    have hz := Option.some.inj h
    exact W.iret (v := q19) hx hb hr (fun t ht hW => ⟨⟨_, (), rfl, hz, trivial⟩, hS.F ht⟩) hS.2.2 dX0_fact_85
  rw [if_neg c17] at h
  by_cases c22 : p1 = 6
  · rw [if_pos c22] at h
    refine W.eq (g2 := F0 m 1 ls [.int 6]) (by rw [c22]) ?_
    refine lv_tableIn (off := 85) (tgt := 86) hx hb dX0_fact_1 (by decide) (by decide) (by decide) (by decide) ?_
    refine lv_aload_n hx hb dX0_fact_86 rfl (lv_at hl 0 rfl) ?_
    obtain ⟨g23, h⟩ := vg_if h
    refine va_get (D := D) (ci := 0) (v := .int (mi m0 p0 11)) (C := RX0) (T := TX0) (N := 14) hx hb hts in_X0_fact_X0 hown hK hP p0 (vW_k0 n_p0 g23) rfl 11 (by decide) (hts (.fieldLink RX0 58 "VaultDoors$Door" "remembered" "I") (List.mem_of_getElem? (i := 5) rfl)) (fun _ h9 => h9) rfl dX0_fact_87 ?_
    have hz := Option.some.inj h
    exact W.iret (v := mi m0 p0 11) hx hb hr (fun t ht hW => ⟨⟨_, (), rfl, hz, trivial⟩, hS.F ht⟩) hS.2.2 dX0_fact_90
  rw [if_neg c22] at h
  by_cases c24 : p1 = 7
  · rw [if_pos c24] at h
    refine W.eq (g2 := F0 m 1 ls [.int 7]) (by rw [c24]) ?_
    refine lv_tableIn (off := 90) (tgt := 91) hx hb dX0_fact_1 (by decide) (by decide) (by decide) (by decide) ?_
    refine lv_aload_n hx hb dX0_fact_91 rfl (lv_at hl 0 rfl) ?_
    obtain ⟨g25, h⟩ := vg_if h
    refine va_get (D := D) (ci := 0) (v := .int (mi m0 p0 5)) (C := RX0) (T := TX0) (N := 14) hx hb hts in_X0_fact_X0 hown hK hP p0 (vW_k0 n_p0 g25) rfl 5 (by decide) (hts (.fieldLink RX0 43 "VaultDoors$Door" "opened" "I") (List.mem_of_getElem? (i := 6) rfl)) (fun _ h9 => h9) rfl dX0_fact_92 ?_
    have hz := Option.some.inj h
    exact W.iret (v := mi m0 p0 5) hx hb hr (fun t ht hW => ⟨⟨_, (), rfl, hz, trivial⟩, hS.F ht⟩) hS.2.2 dX0_fact_95
  rw [if_neg c24] at h
  refine lv_tableOut (tgt := 96) hx hb dX0_fact_1 ((vs_sw8 p1).resolve_right (by simp [c1, c3, c5, c7, c9, c17, c22, c24])) (by decide) ?_
  refine lv_aload_n hx hb dX0_fact_96 rfl (lv_at hl 0 rfl) ?_
  obtain ⟨g26, h⟩ := vg_if h
  refine va_get (D := D) (ci := 0) (v := .int (mi m0 p0 6)) (C := RX0) (T := TX0) (N := 14) hx hb hts in_X0_fact_X0 hown hK hP p0 (vW_k0 n_p0 g26) rfl 6 (by decide) (hts (.fieldLink RX0 46 "VaultDoors$Door" "barred" "I") (List.mem_of_getElem? (i := 7) rfl)) (fun _ h9 => h9) rfl dX0_fact_97 ?_
  have hz := Option.some.inj h
  exact W.iret (v := mi m0 p0 6) hx hb hr (fun t ht hW => ⟨⟨_, (), rfl, hz, trivial⟩, hS.F ht⟩) hS.2.2 dX0_fact_100

noncomputable def f_X0_askedFact (m : vM) (p0 : Nat) (p1 : Int32) (p2 : Int32) : Option (Int32) :=
  if mk m p0 = 0 then
  Option.bind (f_X3_isIn m p1 ((0 : Int32)) (((mi m p0 7) - 1))) fun q2 =>
  if q2 = 0 then (
    some (0 : Int32)
  ) else (
    if p2 = 0 then (
      Option.bind (mr m p0 8) fun y6 =>
      if mk m y6 = 6 then
      if vin p1 (ml m y6) then
      some (mi m y6 p1.toNatClampNeg)
      else none
      else none
    ) else (
      if p2 = 1 then (
        Option.bind (mr m p0 9) fun y10 =>
        if mk m y10 = 6 then
        if vin p1 (ml m y10) then
        some (mi m y10 p1.toNatClampNeg)
        else none
        else none
      ) else (
        Option.bind (mr m p0 10) fun y14 =>
        if mk m y14 = 6 then
        if vin p1 (ml m y14) then
        some (mi m y14 p1.toNatClampNeg)
        else none
        else none
      )
    )
  )
  else none
theorem in_X0_askedFact_X0 : ∀ w ∈ wsX00, w ∈ wsX0_askedFact := by decide +kernel
set_option maxHeartbeats 1000000 in
set_option maxRecDepth 100000 in
theorem cm_X0_askedFact (l : Launch) (D : va_G) (tc : Nat → ClassId) (ad : Nat → Nat) {N : Nat} {m0 : vM} {p0 : Nat} {p1 : Int32} {p2 : Int32} (hO : vOK N m0) (n_p0 : p0 < N) {z : Int32} (h : f_X0_askedFact m0 p0 p1 p2 = some z) : Met l yX0_askedFact wsX0_askedFact ({ frames := 1, cells := 0, slots := 0, locals := 22 } : Room) (va_Pc [.ref (ad p0), .int p1, .int p2] (qR D tc ad N m0)) (va_Qi (fun (r9 : Int32) (_ : Unit) => r9 = z) (fun _ _ => True) (fun _ => False)) 0 0 (fun _ => False) := by
  refine Met.ofW (cc := cX0_askedFact) (maxL := 3) (ret := (some .int)) (by decide) rfl ?_
  intro p e s m args below meth c s₁ B hml hv
  obtain ⟨rfl, hP, hK, hZ⟩ := hv
  have hx := B.exec
  have hb := B.bytes
  have hr := B.returns
  have hts := atoms_spec (ws := wsX0_askedFact) B.pre
  have hown : s.vm.findClass RX0 = some m.cls := findClass_of_methodNamed B.named
  have hlocks := B.notSynchronized
  have hS : va_S (fun _ => False) s.heap s.heap [] := va_S.rf
  have hl := lv_entry ([.ref (ad p0), .int p1, .int p2]) (n := 3) (Nat.le_of_ble_eq_true rfl)
  rw [lg_entry_eq]
  generalize (lg_sl ([.ref (ad p0), .int p1, .int p2]) ++ List.replicate (3 - (lg_sl ([.ref (ad p0), .int p1, .int p2])).length) Slot.unset).toArray = ls at hl ⊢
  have hl : lv_has ls 3 [(0, .ref (ad p0)), (1, .int p1), (2, .int p2)] := hl
  unfold f_X0_askedFact at h
  refine lv_iload_n hx hb dX0_askedFact_0 rfl (lv_at hl 1 rfl) ?_
  refine lv_iconst (v := 0) hx hb dX0_askedFact_1 (by decide) ?_
  refine lv_aload_n hx hb dX0_askedFact_2 rfl (lv_at hl 0 rfl) ?_
  obtain ⟨g1, h⟩ := vg_if h
  refine va_get (D := D) (ci := 0) (v := .int (mi m0 p0 7)) (C := RX0) (T := TX0) (N := 14) hx hb hts in_X0_askedFact_X0 hown hK hP p0 (vW_k0 n_p0 g1) rfl 7 (by decide) (hts (.fieldLink RX0 49 "VaultDoors$Door" "asked" "I") (List.mem_of_getElem? (i := 1) rfl)) (fun _ h9 => h9) rfl dX0_askedFact_3 ?_
  refine lv_iconst (v := 1) hx hb dX0_askedFact_6 (by decide) ?_
  refine lv_isub hx hb dX0_askedFact_7 ?_
  obtain ⟨q2, g3, h⟩ := vg_bind h
  refine va_calli (va_runSN (As := [.int p1, .int 0, .int ((mi m0 p0 7) - 1)]) (rest := []) ⟨hx, hb, hml, hown, hts⟩ (cm_X3_isIn (m0 := m0) l D tc ad hO g3) (⟨va_cnB 3 hts gX0_askedFact_X3_isIn_n78 rfl rfl rfl hZ.2.2.1 (hts (.initialized RX3) (List.mem_of_getElem? (i := 6) rfl)) (by decide +kernel) ⟨(Nat.le_of_ble_eq_true rfl), (Nat.le_of_ble_eq_true rfl)⟩, (hts (.static yX3_isIn) (List.mem_of_getElem? (i := 5) rfl)), trivial⟩) ⟨qR_blind, qR_pre hP hK hZ⟩ rfl rfl hl.1 rfl (lv_room (Nat.le_of_ble_eq_true rfl)) dX0_askedFact_8 ⟨(Nat.le_of_ble_eq_true rfl), (Nat.le_of_ble_eq_true rfl)⟩) hS (fun q9 _ h9 => h9.elim) (fun q9 h9 => h9.elim) (fun w4 u t H1 locs ht hvm hw hB hz1 hk1 hS => ?_)
  have hP := hP.kept (fun k9 q9 hk9 => hk1 q9.1 (hP k9 q9 hk9).lt (fun h9 => h9))
  generalize H1 = H at hP hS ⊢
  clear hk1 hz1 ht hvm
  have hw : w4 = q2 := hw
  rw [hw]
  refine lv_if_ne (tgt := 16) hx hb dX0_askedFact_11 (by decide) (fun c5 => ?_) (fun c5 => ?_)
  · rw [if_neg c5] at h
    refine lv_iload_n hx hb dX0_askedFact_16 rfl (lv_at hl 2 rfl) ?_
    by_cases c6 : p2 = 0
    · rw [if_pos c6] at h
      refine W.eq (g2 := F0 m 17 ls [.int 0]) (by rw [c6]) ?_
      refine lv_lookup (off := 27) (tgt := 44) hx hb dX0_askedFact_17 (by decide) (by decide) (by decide) ?_
      refine lv_aload_n hx hb dX0_askedFact_44 rfl (lv_at hl 0 rfl) ?_
      obtain ⟨y7, g8, h⟩ := vg_bind h
      have n_y7 := hO _ _ _ g8
      refine va_get (D := D) (ci := 0) (v := .ref (ad y7)) (C := RX0) (T := TX0) (N := 14) hx hb hts in_X0_askedFact_X0 hown hK hP p0 (vW_k0 n_p0 g1) rfl 8 (by decide) (hts (.fieldLink RX0 9 "VaultDoors$Door" "other" "[I") (List.mem_of_getElem? (i := 2) rfl)) (fun _ h9 => h9) (by show some (va_rf (Option.map ad (mr m0 p0 8))) = _; rw [g8]; rfl) dX0_askedFact_45 ?_
      refine lv_iload_n hx hb dX0_askedFact_48 rfl (lv_at hl 1 rfl) ?_
      obtain ⟨g9, h⟩ := vg_if h
      obtain ⟨g10, h⟩ := vg_if h
      refine va_iald (D := D) hx hb hK hP y7 0 (vW_k6 n_y7 g9) rfl (i := p1) g10 dX0_askedFact_49 ?_
      have hz := Option.some.inj h
      exact W.iret (v := mi m0 y7 p1.toNatClampNeg) hx hb hr (fun t ht hW => ⟨⟨_, (), rfl, hz, trivial⟩, hS.F ht⟩) hS.2.2 dX0_askedFact_50
    rw [if_neg c6] at h
    by_cases c11 : p2 = 1
    · rw [if_pos c11] at h
      refine W.eq (g2 := F0 m 17 ls [.int 1]) (by rw [c11]) ?_
      refine lv_lookup (off := 34) (tgt := 51) hx hb dX0_askedFact_17 (by decide) (by decide) (by decide) ?_
      refine lv_aload_n hx hb dX0_askedFact_51 rfl (lv_at hl 0 rfl) ?_
      obtain ⟨y12, g13, h⟩ := vg_bind h
      have n_y12 := hO _ _ _ g13
      refine va_get (D := D) (ci := 0) (v := .ref (ad y12)) (C := RX0) (T := TX0) (N := 14) hx hb hts in_X0_askedFact_X0 hown hK hP p0 (vW_k0 n_p0 g1) rfl 9 (by decide) (hts (.fieldLink RX0 15 "VaultDoors$Door" "distance" "[I") (List.mem_of_getElem? (i := 3) rfl)) (fun _ h9 => h9) (by show some (va_rf (Option.map ad (mr m0 p0 9))) = _; rw [g13]; rfl) dX0_askedFact_52 ?_
      refine lv_iload_n hx hb dX0_askedFact_55 rfl (lv_at hl 1 rfl) ?_
      obtain ⟨g14, h⟩ := vg_if h
      obtain ⟨g15, h⟩ := vg_if h
      refine va_iald (D := D) hx hb hK hP y12 0 (vW_k6 n_y12 g14) rfl (i := p1) g15 dX0_askedFact_56 ?_
      have hz := Option.some.inj h
      exact W.iret (v := mi m0 y12 p1.toNatClampNeg) hx hb hr (fun t ht hW => ⟨⟨_, (), rfl, hz, trivial⟩, hS.F ht⟩) hS.2.2 dX0_askedFact_57
    rw [if_neg c11] at h
    refine lv_lookup (off := 41) (tgt := 58) hx hb dX0_askedFact_17 (by decide) (vm_lk2 c6 c11) (by decide) ?_
    refine lv_aload_n hx hb dX0_askedFact_58 rfl (lv_at hl 0 rfl) ?_
    obtain ⟨y16, g17, h⟩ := vg_bind h
    have n_y16 := hO _ _ _ g17
    refine va_get (D := D) (ci := 0) (v := .ref (ad y16)) (C := RX0) (T := TX0) (N := 14) hx hb hts in_X0_askedFact_X0 hown hK hP p0 (vW_k0 n_p0 g1) rfl 10 (by decide) (hts (.fieldLink RX0 18 "VaultDoors$Door" "answer" "[I") (List.mem_of_getElem? (i := 4) rfl)) (fun _ h9 => h9) (by show some (va_rf (Option.map ad (mr m0 p0 10))) = _; rw [g17]; rfl) dX0_askedFact_59 ?_
    refine lv_iload_n hx hb dX0_askedFact_62 rfl (lv_at hl 1 rfl) ?_
    obtain ⟨g18, h⟩ := vg_if h
    obtain ⟨g19, h⟩ := vg_if h
    refine va_iald (D := D) hx hb hK hP y16 0 (vW_k6 n_y16 g18) rfl (i := p1) g19 dX0_askedFact_63 ?_
    have hz := Option.some.inj h
    exact W.iret (v := mi m0 y16 p1.toNatClampNeg) hx hb hr (fun t ht hW => ⟨⟨_, (), rfl, hz, trivial⟩, hS.F ht⟩) hS.2.2 dX0_askedFact_64
  · rw [if_pos c5] at h
    refine lv_iconst (v := 0) hx hb dX0_askedFact_14 (by decide) ?_
    have hz := Option.some.inj h
    exact W.iret (v := 0) hx hb hr (fun t ht hW => ⟨⟨_, (), rfl, hz, trivial⟩, hS.F ht⟩) hS.2.2 dX0_askedFact_15
