noncomputable def f_X1_isDoor (m : vM) (p0 : Nat) (p1 : Int32) : Option (Int32) :=
  if p1 < 0 then (
    some (0 : Int32)
  ) else (
    if mk m p0 = 1 then
    if (mi m p0 1) ≤ p1 then (
      some (0 : Int32)
    ) else (
      some (1 : Int32)
    )
    else none
  )
theorem in_X1_isDoor_X1 : ∀ w ∈ wsX10, w ∈ wsX1_isDoor := by decide +kernel
set_option maxHeartbeats 1000000 in
set_option maxRecDepth 100000 in
theorem cm_X1_isDoor (l : Launch) (D : va_G) (tc : Nat → ClassId) (ad : Nat → Nat) {N : Nat} {m0 : vM} {p0 : Nat} {p1 : Int32} (hO : vOK N m0) (n_p0 : p0 < N) {z : Int32} (h : f_X1_isDoor m0 p0 p1 = some z) : Met l yX1_isDoor wsX1_isDoor ({ frames := 0, cells := 0, slots := 0, locals := 0 } : Room) (va_Pc [.ref (ad p0), .int p1] (qR D tc ad N m0)) (va_Qi (fun (r9 : Int32) (_ : Unit) => r9 = z) (fun _ _ => True) (fun _ => False)) 0 0 (fun _ => False) := by
  refine Met.ofW (cc := cX1_isDoor) (maxL := 2) (ret := (some .boolean)) (by decide) rfl ?_
  intro p e s m args below meth c s₁ B hml hv
  obtain ⟨rfl, hP, hK, hZ⟩ := hv
  have hx := B.exec
  have hb := B.bytes
  have hr := B.returns
  have hts := atoms_spec (ws := wsX1_isDoor) B.pre
  have hown : s.vm.findClass RX1 = some m.cls := findClass_of_methodNamed B.named
  have hlocks := B.notSynchronized
  have hS : va_S (fun _ => False) s.heap s.heap [] := va_S.rf
  have hl := lv_entry ([.ref (ad p0), .int p1]) (n := 2) (Nat.le_of_ble_eq_true rfl)
  rw [lg_entry_eq]
  generalize (lg_sl ([.ref (ad p0), .int p1]) ++ List.replicate (2 - (lg_sl ([.ref (ad p0), .int p1])).length) Slot.unset).toArray = ls at hl ⊢
  have hl : lv_has ls 2 [(0, .ref (ad p0)), (1, .int p1)] := hl
  unfold f_X1_isDoor at h
  refine lv_iload_n hx hb dX1_isDoor_0 rfl (lv_at hl 1 rfl) ?_
  refine lv_if_lt (tgt := 16) hx hb dX1_isDoor_1 (by decide) (fun c1 => ?_) (fun c1 => ?_)
  · rw [if_pos c1] at h
    refine lv_iconst (v := 0) hx hb dX1_isDoor_16 (by decide) ?_
    have hz := Option.some.inj h
    exact W.zret (v := 0) (ty := .boolean) hx hb hr (by decide) (fun t ht hW => ⟨⟨_, (), rfl, hz, trivial⟩, hS.F ht⟩) hS.2.2 dX1_isDoor_17
  · rw [if_neg c1] at h
    refine lv_iload_n hx hb dX1_isDoor_4 rfl (lv_at hl 1 rfl) ?_
    refine lv_aload_n hx hb dX1_isDoor_5 rfl (lv_at hl 0 rfl) ?_
    obtain ⟨g2, h⟩ := vg_if h
    refine va_get (D := D) (ci := 1) (v := .int (mi m0 p0 1)) (C := RX1) (T := TX1) (N := 5) hx hb hts in_X1_isDoor_X1 hown hK hP p0 (vW_k1 n_p0 g2) rfl 1 (by decide) (hts (.fieldLink RX1 32 "VaultDoors$Vault" "doorCount" "I") (List.mem_of_getElem? (i := 1) rfl)) (fun _ h9 => h9) rfl dX1_isDoor_6 ?_
    refine lv_icmp_ge (tgt := 16) hx hb dX1_isDoor_9 (by decide) (fun c3 => ?_) (fun c3 => ?_)
    · rw [if_pos c3] at h
      refine lv_iconst (v := 0) hx hb dX1_isDoor_16 (by decide) ?_
      have hz := Option.some.inj h
      exact W.zret (v := 0) (ty := .boolean) hx hb hr (by decide) (fun t ht hW => ⟨⟨_, (), rfl, hz, trivial⟩, hS.F ht⟩) hS.2.2 dX1_isDoor_17
    · rw [if_neg c3] at h
      refine lv_iconst (v := 1) hx hb dX1_isDoor_12 (by decide) ?_
      refine lv_goto (tgt := 17) hx hb dX1_isDoor_13 (by decide) ?_
      have hz := Option.some.inj h
      exact W.zret (v := 1) (ty := .boolean) hx hb hr (by decide) (fun t ht hW => ⟨⟨_, (), rfl, hz, trivial⟩, hS.F ht⟩) hS.2.2 dX1_isDoor_17

noncomputable def f_X1_addDoor (m : vM) (p0 : Nat) (p1 : Int32) (p2 : Int32) (p3 : Int32) : Option (Int32 × vM) :=
  if mk m p0 = 1 then
  if 10 ≤ (mi m p0 1) then (
    some ((mi m p0 1), m)
  ) else (
    Option.bind (mr m p0 2) fun y3 =>
    if mk m y3 = 7 then
    if vin (mi m p0 1) (ml m y3) then
    Option.bind (mr m y3 (mi m p0 1).toNatClampNeg) fun y7 =>
    if mk m y7 = 0 then
    Option.bind (mr ((mI m y7 0 p1)) p0 2) fun y11 =>
    if mk ((mI m y7 0 p1)) y11 = 7 then
    if vin (mi m p0 1) (ml ((mI m y7 0 p1)) y11) then
    Option.bind (mr ((mI m y7 0 p1)) y11 (mi m p0 1).toNatClampNeg) fun y15 =>
    if mk ((mI m y7 0 p1)) y15 = 0 then
    Option.bind (mr ((mI ((mI m y7 0 p1)) y15 1 p2)) p0 2) fun y19 =>
    if mk ((mI ((mI m y7 0 p1)) y15 1 p2)) y19 = 7 then
    if vin (mi m p0 1) (ml ((mI ((mI m y7 0 p1)) y15 1 p2)) y19) then
    Option.bind (mr ((mI ((mI m y7 0 p1)) y15 1 p2)) y19 (mi m p0 1).toNatClampNeg) fun y23 =>
    if mk ((mI ((mI m y7 0 p1)) y15 1 p2)) y23 = 0 then
    some ((mi m p0 1), (mI ((mI ((mI ((mI m y7 0 p1)) y15 1 p2)) y23 2 p3)) p0 1 ((mi ((mI ((mI ((mI m y7 0 p1)) y15 1 p2)) y23 2 p3)) p0 1) + 1)))
    else none
    else none
    else none
    else none
    else none
    else none
    else none
    else none
    else none
  )
  else none
theorem in_X1_addDoor_X0 : ∀ w ∈ wsX00, w ∈ wsX1_addDoor := by decide +kernel
theorem in_X1_addDoor_X1 : ∀ w ∈ wsX10, w ∈ wsX1_addDoor := by decide +kernel
set_option maxHeartbeats 1000000 in
set_option maxRecDepth 100000 in
theorem cm_X1_addDoor (l : Launch) (D : va_G) (tc : Nat → ClassId) (ad : Nat → Nat) {N : Nat} {m0 : vM} {sz : Nat} {p0 : Nat} {p1 : Int32} {p2 : Int32} {p3 : Int32} (hO : vOK N m0) (n_p0 : p0 < N) {z : Int32 × vM} (h : f_X1_addDoor m0 p0 p1 p2 p3 = some z) : Met l yX1_addDoor wsX1_addDoor ({ frames := 0, cells := 0, slots := 0, locals := 0 } : Room) (va_Pc [.ref (ad p0), .int p1, .int p2, .int p3] (qW D tc ad N m0 sz)) (va_Qi (fun (r9 : Int32) (_ : Unit) => r9 = z.1) (fun _ t => vOK N z.2 ∧ pB D (va_A (vW tc ad N m0) sz) (vW tc ad N z.2) (vT tc) t) (va_A (vW tc ad N m0) sz)) 0 0 (va_A (vW tc ad N m0) sz) := by
  refine Met.ofW (cc := cX1_addDoor) (maxL := 5) (ret := (some .int)) (by decide) rfl ?_
  intro p e s m args below meth c s₁ B hml hv
  obtain ⟨rfl, hsz, hP, hK, hD0, hZ⟩ := hv
  have hx := B.exec
  have hb := B.bytes
  have hr := B.returns
  have hts := atoms_spec (ws := wsX1_addDoor) B.pre
  have hown : s.vm.findClass RX1 = some m.cls := findClass_of_methodNamed B.named
  have hlocks := B.notSynchronized
  subst hsz
  have hD := hD0.self (sz := s.heap.size)
  generalize hAe : va_A (vW tc ad N m0) s.heap.size = A at hD ⊢
  have hA : ∀ q : Nat, s.heap.size ≤ q → A q := fun q h => by rw [← hAe]; exact Or.inr h
  have hS : va_S A s.heap s.heap [] := va_S.rf
  have hl := lv_entry ([.ref (ad p0), .int p1, .int p2, .int p3]) (n := 5) (Nat.le_of_ble_eq_true rfl)
  rw [lg_entry_eq]
  generalize (lg_sl ([.ref (ad p0), .int p1, .int p2, .int p3]) ++ List.replicate (5 - (lg_sl ([.ref (ad p0), .int p1, .int p2, .int p3])).length) Slot.unset).toArray = ls at hl ⊢
  have hl : lv_has ls 5 [(0, .ref (ad p0)), (1, .int p1), (2, .int p2), (3, .int p3)] := hl
  unfold f_X1_addDoor at h
  refine lv_aload_n hx hb dX1_addDoor_0 rfl (lv_at hl 0 rfl) ?_
  obtain ⟨g1, h⟩ := vg_if h
  refine va_get (D := D) (ci := 1) (v := .int (mi m0 p0 1)) (C := RX1) (T := TX1) (N := 5) hx hb hts in_X1_addDoor_X1 hown hK hP p0 (vW_k1 n_p0 g1) rfl 1 (by decide) (hts (.fieldLink RX1 32 "VaultDoors$Vault" "doorCount" "I") (List.mem_of_getElem? (i := 1) rfl)) (fun _ h9 => h9) rfl dX1_addDoor_1 ?_
  refine lv_istore (lv' := [(4, .int (mi m0 p0 1)), (0, .ref (ad p0)), (1, .int p1), (2, .int p2), (3, .int p3)]) hx hb dX1_addDoor_4 hl (by decide) rfl (fun ls hl => ?_)
  refine lv_iload hx hb dX1_addDoor_6 (lv_at hl 0 rfl) ?_
  refine lv_bipush (v := 10) hx hb dX1_addDoor_8 (by decide) ?_
  refine lv_icmp_ge (tgt := 56) hx hb dX1_addDoor_10 (by decide) (fun c2 => ?_) (fun c2 => ?_)
  · rw [if_pos c2] at h
    refine lv_iload hx hb dX1_addDoor_56 (lv_at hl 0 rfl) ?_
    have hz := Option.some.inj h
    exact W.iret (v := mi m0 p0 1) hx hb hr (fun t ht hW => ⟨⟨_, (), rfl, by rw [← hz], by rw [← hz]; exact hO, by rw [ht, ← hz]; exact hP, va_K.moved hW.alike hK, by rw [← hz]; exact hD⟩, hS.F ht⟩) hS.2.2 dX1_addDoor_58
  · rw [if_neg c2] at h
    refine lv_aload_n hx hb dX1_addDoor_13 rfl (lv_at hl 1 rfl) ?_
    obtain ⟨y3, g4, h⟩ := vg_bind h
    have n_y3 := hO _ _ _ g4
    refine va_get (D := D) (ci := 1) (v := .ref (ad y3)) (C := RX1) (T := TX1) (N := 5) hx hb hts in_X1_addDoor_X1 hown hK hP p0 (vW_k1 n_p0 g1) rfl 2 (by decide) (hts (.fieldLink RX1 11 "VaultDoors$Vault" "doors" "[LVaultDoors$Door;") (List.mem_of_getElem? (i := 2) rfl)) (fun _ h9 => h9) (by show some (va_rf (Option.map ad (mr m0 p0 2))) = _; rw [g4]; rfl) dX1_addDoor_14 ?_
    refine lv_iload hx hb dX1_addDoor_17 (lv_at hl 0 rfl) ?_
    obtain ⟨g5, h⟩ := vg_if h
    obtain ⟨g6, h⟩ := vg_if h
    obtain ⟨y7, g8, h⟩ := vg_bind h
    have n_y7 := hO _ _ _ g8
    refine va_aldq (D := D) hx hb hK hP y3 1 (vW_k7 n_y3 g5) rfl (i := mi m0 p0 1) g6 dX1_addDoor_19 ?_
    refine W.eq (g2 := F0 m 20 ls [.ref (ad y7)]) (by show F0 m 20 ls (va_rf (Option.map ad (mr m0 y3 (mi m0 p0 1).toNatClampNeg)) :: _) = _; rw [g8]; rfl) ?_
    refine lv_iload_n hx hb dX1_addDoor_20 rfl (lv_at hl 2 rfl) ?_
    obtain ⟨g9, h⟩ := vg_if h
    refine va_put (D := D) (ci := 0) (v := .int p1) (ty := .int) (C := RX0) (T := TX0) (N := 14) hx hb hts in_X1_addDoor_X0 tyX0 tyX0_ok nmX0 hown hK hP hD hS y7 (vW_k0 n_y7 g9) rfl 0 (by decide) (hts (.fieldLink RX1 42 "VaultDoors$Door" "secret" "I") (List.mem_of_getElem? (i := 3) rfl)) (fun _ h9 => h9) rfl (by decide +kernel) rfl rfl (Nat.le_of_ble_eq_true rfl) dX1_addDoor_21 (fun H locs hP hD hS => ?_)
    have hO10 := vOK.I (a := y7) (j := 0) (v := p1) hO
    rw [vW_p0_0 (m := m0) n_y7 g9] at hP hD
    have hP : va_P D vwCl (vW tc ad N ((mI m0 y7 0 p1))) H := hP
    have hD : va_D A (vW tc ad N ((mI m0 y7 0 p1))) := hD
    refine lv_aload_n hx hb dX1_addDoor_24 rfl (lv_at hl 1 rfl) ?_
    obtain ⟨y11, g12, h⟩ := vg_bind h
    have n_y11 := hO10 _ _ _ g12
    refine va_get (D := D) (ci := 1) (v := .ref (ad y11)) (C := RX1) (T := TX1) (N := 5) hx hb hts in_X1_addDoor_X1 hown hK hP p0 (vW_k1 n_p0 g1) rfl 2 (by decide) (hts (.fieldLink RX1 11 "VaultDoors$Vault" "doors" "[LVaultDoors$Door;") (List.mem_of_getElem? (i := 2) rfl)) (fun _ h9 => h9) (by show some (va_rf (Option.map ad (mr ((mI m0 y7 0 p1)) p0 2))) = _; rw [g12]; rfl) dX1_addDoor_25 ?_
    refine lv_iload hx hb dX1_addDoor_28 (lv_at hl 0 rfl) ?_
    obtain ⟨g13, h⟩ := vg_if h
    obtain ⟨g14, h⟩ := vg_if h
    obtain ⟨y15, g16, h⟩ := vg_bind h
    have n_y15 := hO10 _ _ _ g16
    refine va_aldq (D := D) hx hb hK hP y11 1 (vW_k7 n_y11 g13) rfl (i := mi m0 p0 1) g14 dX1_addDoor_30 ?_
    refine W.eq (g2 := F0 m 31 ls [.ref (ad y15)]) (by show F0 m 31 ls (va_rf (Option.map ad (mr ((mI m0 y7 0 p1)) y11 (mi m0 p0 1).toNatClampNeg)) :: _) = _; rw [g16]; rfl) ?_
    refine lv_iload_n hx hb dX1_addDoor_31 rfl (lv_at hl 3 rfl) ?_
    obtain ⟨g17, h⟩ := vg_if h
    refine va_put (D := D) (ci := 0) (v := .int p2) (ty := .int) (C := RX0) (T := TX0) (N := 14) hx hb hts in_X1_addDoor_X0 tyX0 tyX0_ok nmX0 hown hK hP hD hS y15 (vW_k0 n_y15 g17) rfl 1 (by decide) (hts (.fieldLink RX1 45 "VaultDoors$Door" "patience" "I") (List.mem_of_getElem? (i := 4) rfl)) (fun _ h9 => h9) rfl (by decide +kernel) rfl rfl (Nat.le_of_ble_eq_true rfl) dX1_addDoor_32 (fun H locs hP hD hS => ?_)
    have hO18 := vOK.I (a := y15) (j := 1) (v := p2) hO10
    rw [vW_p0_1 (m := ((mI m0 y7 0 p1))) n_y15 g17] at hP hD
    have hP : va_P D vwCl (vW tc ad N ((mI ((mI m0 y7 0 p1)) y15 1 p2))) H := hP
    have hD : va_D A (vW tc ad N ((mI ((mI m0 y7 0 p1)) y15 1 p2))) := hD
    refine lv_aload_n hx hb dX1_addDoor_35 rfl (lv_at hl 1 rfl) ?_
    obtain ⟨y19, g20, h⟩ := vg_bind h
    have n_y19 := hO18 _ _ _ g20
    refine va_get (D := D) (ci := 1) (v := .ref (ad y19)) (C := RX1) (T := TX1) (N := 5) hx hb hts in_X1_addDoor_X1 hown hK hP p0 (vW_k1 n_p0 g1) rfl 2 (by decide) (hts (.fieldLink RX1 11 "VaultDoors$Vault" "doors" "[LVaultDoors$Door;") (List.mem_of_getElem? (i := 2) rfl)) (fun _ h9 => h9) (by show some (va_rf (Option.map ad (mr ((mI ((mI m0 y7 0 p1)) y15 1 p2)) p0 2))) = _; rw [g20]; rfl) dX1_addDoor_36 ?_
    refine lv_iload hx hb dX1_addDoor_39 (lv_at hl 0 rfl) ?_
    obtain ⟨g21, h⟩ := vg_if h
    obtain ⟨g22, h⟩ := vg_if h
    obtain ⟨y23, g24, h⟩ := vg_bind h
    have n_y23 := hO18 _ _ _ g24
    refine va_aldq (D := D) hx hb hK hP y19 1 (vW_k7 n_y19 g21) rfl (i := mi m0 p0 1) g22 dX1_addDoor_41 ?_
    refine W.eq (g2 := F0 m 42 ls [.ref (ad y23)]) (by show F0 m 42 ls (va_rf (Option.map ad (mr ((mI ((mI m0 y7 0 p1)) y15 1 p2)) y19 (mi m0 p0 1).toNatClampNeg)) :: _) = _; rw [g24]; rfl) ?_
    refine lv_iload_n hx hb dX1_addDoor_42 rfl (lv_at hl 4 rfl) ?_
    obtain ⟨g25, h⟩ := vg_if h
    refine va_put (D := D) (ci := 0) (v := .int p3) (ty := .int) (C := RX0) (T := TX0) (N := 14) hx hb hts in_X1_addDoor_X0 tyX0 tyX0_ok nmX0 hown hK hP hD hS y23 (vW_k0 n_y23 g25) rfl 2 (by decide) (hts (.fieldLink RX1 48 "VaultDoors$Door" "rule" "I") (List.mem_of_getElem? (i := 5) rfl)) (fun _ h9 => h9) rfl (by decide +kernel) rfl rfl (Nat.le_of_ble_eq_true rfl) dX1_addDoor_43 (fun H locs hP hD hS => ?_)
    have hO26 := vOK.I (a := y23) (j := 2) (v := p3) hO18
    rw [vW_p0_2 (m := ((mI ((mI m0 y7 0 p1)) y15 1 p2))) n_y23 g25] at hP hD
    have hP : va_P D vwCl (vW tc ad N ((mI ((mI ((mI m0 y7 0 p1)) y15 1 p2)) y23 2 p3))) H := hP
    have hD : va_D A (vW tc ad N ((mI ((mI ((mI m0 y7 0 p1)) y15 1 p2)) y23 2 p3))) := hD
    refine lv_aload_n hx hb dX1_addDoor_46 rfl (lv_at hl 1 rfl) ?_
    refine lv_dup hx hb dX1_addDoor_47 rfl ?_
    refine va_get (D := D) (ci := 1) (v := .int (mi ((mI ((mI ((mI m0 y7 0 p1)) y15 1 p2)) y23 2 p3)) p0 1)) (C := RX1) (T := TX1) (N := 5) hx hb hts in_X1_addDoor_X1 hown hK hP p0 (vW_k1 n_p0 g1) rfl 1 (by decide) (hts (.fieldLink RX1 32 "VaultDoors$Vault" "doorCount" "I") (List.mem_of_getElem? (i := 1) rfl)) (fun _ h9 => h9) rfl dX1_addDoor_48 ?_
    refine lv_iconst (v := 1) hx hb dX1_addDoor_51 (by decide) ?_
    refine lv_iadd hx hb dX1_addDoor_52 ?_
    refine va_put (D := D) (ci := 1) (v := .int ((mi ((mI ((mI ((mI m0 y7 0 p1)) y15 1 p2)) y23 2 p3)) p0 1) + 1)) (ty := .int) (C := RX1) (T := TX1) (N := 5) hx hb hts in_X1_addDoor_X1 tyX1 tyX1_ok nmX1 hown hK hP hD hS p0 (vW_k1 n_p0 g1) rfl 1 (by decide) (hts (.fieldLink RX1 32 "VaultDoors$Vault" "doorCount" "I") (List.mem_of_getElem? (i := 1) rfl)) (fun _ h9 => h9) rfl (by decide +kernel) rfl rfl (Nat.le_of_ble_eq_true rfl) dX1_addDoor_53 (fun H locs hP hD hS => ?_)
    have hO27 := vOK.I (a := p0) (j := 1) (v := ((mi ((mI ((mI ((mI m0 y7 0 p1)) y15 1 p2)) y23 2 p3)) p0 1) + 1)) hO26
    rw [vW_p1_1 (m := ((mI ((mI ((mI m0 y7 0 p1)) y15 1 p2)) y23 2 p3))) n_p0 g1] at hP hD
    have hP : va_P D vwCl (vW tc ad N ((mI ((mI ((mI ((mI m0 y7 0 p1)) y15 1 p2)) y23 2 p3)) p0 1 ((mi ((mI ((mI ((mI m0 y7 0 p1)) y15 1 p2)) y23 2 p3)) p0 1) + 1)))) H := hP
    have hD : va_D A (vW tc ad N ((mI ((mI ((mI ((mI m0 y7 0 p1)) y15 1 p2)) y23 2 p3)) p0 1 ((mi ((mI ((mI ((mI m0 y7 0 p1)) y15 1 p2)) y23 2 p3)) p0 1) + 1)))) := hD
    refine lv_iload hx hb dX1_addDoor_56 (lv_at hl 0 rfl) ?_
    have hz := Option.some.inj h
    exact W.iret (v := mi m0 p0 1) hx hb hr (fun t ht hW => ⟨⟨_, (), rfl, by rw [← hz], by rw [← hz]; exact hO27, by rw [ht, ← hz]; exact hP, va_K.moved hW.alike hK, by rw [← hz]; exact hD⟩, hS.F ht⟩) hS.2.2 dX1_addDoor_58

noncomputable def fB_X1_wake_13 (rec : Nat → vM → Nat → Int32 → Nat → Int32 → Option (vM)) (m : vM) (r0 : Nat) (i1 : Int32) (r2 : Nat) (i3 : Int32) : Option (vM) :=
  if mk m r2 = 0 then
  if (mi m r2 7) ≤ i3 then (
    some m
  ) else (
    if mk m r0 = 1 then
    Option.bind (mr m r0 3) fun y4 =>
    Option.bind (mr m r2 8) fun y6 =>
    if mk m y6 = 6 then
    if vin i3 (ml m y6) then
    Option.bind (mr m r2 9) fun y10 =>
    if mk m y10 = 6 then
    if vin i3 (ml m y10) then
    if mk m y4 = 2 then
    Option.bind (f_X2_add m y4 i1 ((mi m y6 i3.toNatClampNeg)) ((0 : Int32)) ((mi m y10 i3.toNatClampNeg))) fun q15 =>
    rec 13 q15 r0 i1 r2 (i3 + 1)
    else none
    else none
    else none
    else none
    else none
    else none
  )
  else none
noncomputable def fL_X1_wake (n : Nat) : Nat → vM → Nat → Int32 → Nat → Int32 → Option (vM) := Nat.rec (fun _ _ _ _ _ _ => none) (fun _ rec pc m r0 i1 r2 i3 => if pc = 13 then fB_X1_wake_13 rec m r0 i1 r2 i3 else none) n
noncomputable def f_X1_wake (m : vM) (p0 : Nat) (p1 : Int32) : Option (vM) :=
  if mk m p0 = 1 then
  Option.bind (mr m p0 2) fun y2 =>
  if mk m y2 = 7 then
  if vin p1 (ml m y2) then
  Option.bind (mr m y2 p1.toNatClampNeg) fun y6 =>
  if mk m y6 = 0 then
  Option.bind (f_X0_startWaiting m y6) fun q9 =>
  fL_X1_wake vF 13 q9 p0 p1 y6 (0 : Int32)
  else none
  else none
  else none
  else none
theorem in_X1_wake_X0 : ∀ w ∈ wsX00, w ∈ wsX1_wake := by decide +kernel
theorem in_X1_wake_X1 : ∀ w ∈ wsX10, w ∈ wsX1_wake := by decide +kernel
set_option maxHeartbeats 1000000 in
set_option maxRecDepth 100000 in
theorem cm_X1_wake (l : Launch) (D : va_G) (tc : Nat → ClassId) (ad : Nat → Nat) {N : Nat} {m0 : vM} {sz : Nat} {p0 : Nat} {p1 : Int32} (hO : vOK N m0) (n_p0 : p0 < N) {z : vM} (h : f_X1_wake m0 p0 p1 = some z) : Met l yX1_wake wsX1_wake ({ frames := 1, cells := 0, slots := 0, locals := 24 } : Room) (va_Pc [.ref (ad p0), .int p1] (qW D tc ad N m0 sz)) (va_Qv (fun (_ : Unit) => True) (fun _ t => vOK N z ∧ pB D (va_A (vW tc ad N m0) sz) (vW tc ad N z) (vT tc) t) (va_A (vW tc ad N m0) sz)) 0 0 (va_A (vW tc ad N m0) sz) := by
  refine Met.ofW (cc := cX1_wake) (maxL := 4) (ret := none) (by decide) rfl ?_
  intro p e s m args below meth c s₁ B hml hv
  obtain ⟨rfl, hsz, hP, hK, hD0, hZ⟩ := hv
  have hx := B.exec
  have hb := B.bytes
  have hr := B.returns
  have hts := atoms_spec (ws := wsX1_wake) B.pre
  have hown : s.vm.findClass RX1 = some m.cls := findClass_of_methodNamed B.named
  have hlocks := B.notSynchronized
  subst hsz
  have hD := hD0.self (sz := s.heap.size)
  generalize hAe : va_A (vW tc ad N m0) s.heap.size = A at hD ⊢
  have hA : ∀ q : Nat, s.heap.size ≤ q → A q := fun q h => by rw [← hAe]; exact Or.inr h
  have hS : va_S A s.heap s.heap [] := va_S.rf
  have hl := lv_entry ([.ref (ad p0), .int p1]) (n := 4) (Nat.le_of_ble_eq_true rfl)
  rw [lg_entry_eq]
  generalize (lg_sl ([.ref (ad p0), .int p1]) ++ List.replicate (4 - (lg_sl ([.ref (ad p0), .int p1])).length) Slot.unset).toArray = ls at hl ⊢
  have hl : lv_has ls 4 [(0, .ref (ad p0)), (1, .int p1)] := hl
  have hL : ∀ n : Nat, (∀ (m1 : vM) (r0 : Nat) (i1 : Int32) (r2 : Nat) (i3 : Int32) (H : Heap) (locs : List Loc) (ls : Array Slot), vOK N m1 → r0 < N → r2 < N → fL_X1_wake n 13 m1 r0 i1 r2 i3 = some z → va_P D vwCl (vW tc ad N m1) H → va_D A (vW tc ad N m1) → va_S A s.heap H locs → lv_has ls 4 [(0, .ref (ad r0)), (1, .int i1), (2, .ref (ad r2)), (3, .int i3)] → W p l e (headSpec wsX1_wake ({ frames := 1, cells := 0, slots := 0, locals := 24 } : Room)).room s m ([.ref (ad p0), .int p1] : List Value).toArray below meth c H locs 0 0 (MQ below (va_Qv (fun (_ : Unit) => True) (fun _ t => vOK N z ∧ pB D A (vW tc ad N z) (vT tc) t) A) ([.ref (ad p0), .int p1] : List Value).toArray s 0 0 A) (F0 m 13 ls [])) := by
    intro n
    induction n with
    | zero => exact (fun _ _ _ _ _ _ _ _ _ _ _ h9 _ _ _ _ => by have h9 : (none : Option (vM)) = some z := h9; cases h9)
    | succ n ih =>
      · intro m1 r0 i1 r2 i3 H locs ls hO n_r0 n_r2 h hP hD hS hl
        have h : fB_X1_wake_13 (fL_X1_wake n) m1 r0 i1 r2 i3 = some z := h
        unfold fB_X1_wake_13 at h
        refine lv_iload_n hx hb dX1_wake_13 rfl (lv_at hl 3 rfl) ?_
        refine lv_aload_n hx hb dX1_wake_14 rfl (lv_at hl 2 rfl) ?_
        obtain ⟨g1, h⟩ := vg_if h
        refine va_get (D := D) (ci := 0) (v := .int (mi m1 r2 7)) (C := RX0) (T := TX0) (N := 14) hx hb hts in_X1_wake_X0 hown hK hP r2 (vW_k0 n_r2 g1) rfl 7 (by decide) (hts (.fieldLink RX1 107 "VaultDoors$Door" "asked" "I") (List.mem_of_getElem? (i := 2) rfl)) (fun _ h9 => h9) rfl dX1_wake_15 ?_
        refine lv_icmp_ge (tgt := 48) hx hb dX1_wake_18 (by decide) (fun c2 => ?_) (fun c2 => ?_)
        · rw [if_pos c2] at h
          have hz := Option.some.inj h
          exact W.vret hx hb hr (fun t ht hW => ⟨⟨(), rfl, trivial, by rw [← hz]; exact hO, by rw [ht, ← hz]; exact hP, va_K.moved hW.alike hK, by rw [← hz]; exact hD⟩, hS.F ht⟩) hS.2.2 dX1_wake_48
        · rw [if_neg c2] at h
          refine lv_aload_n hx hb dX1_wake_21 rfl (lv_at hl 0 rfl) ?_
          obtain ⟨g3, h⟩ := vg_if h
          obtain ⟨y4, g5, h⟩ := vg_bind h
          have n_y4 := hO _ _ _ g5
          refine va_get (D := D) (ci := 1) (v := .ref (ad y4)) (C := RX1) (T := TX1) (N := 5) hx hb hts in_X1_wake_X1 hown hK hP r0 (vW_k1 n_r0 g3) rfl 3 (by decide) (hts (.fieldLink RX1 20 "VaultDoors$Vault" "voices" "LVaultDoors$Voices;") (List.mem_of_getElem? (i := 3) rfl)) (fun _ h9 => h9) (by show some (va_rf (Option.map ad (mr m1 r0 3))) = _; rw [g5]; rfl) dX1_wake_22 ?_
          refine lv_iload_n hx hb dX1_wake_25 rfl (lv_at hl 1 rfl) ?_
          refine lv_aload_n hx hb dX1_wake_26 rfl (lv_at hl 2 rfl) ?_
          obtain ⟨y6, g7, h⟩ := vg_bind h
          have n_y6 := hO _ _ _ g7
          refine va_get (D := D) (ci := 0) (v := .ref (ad y6)) (C := RX0) (T := TX0) (N := 14) hx hb hts in_X1_wake_X0 hown hK hP r2 (vW_k0 n_r2 g1) rfl 8 (by decide) (hts (.fieldLink RX1 110 "VaultDoors$Door" "other" "[I") (List.mem_of_getElem? (i := 4) rfl)) (fun _ h9 => h9) (by show some (va_rf (Option.map ad (mr m1 r2 8))) = _; rw [g7]; rfl) dX1_wake_27 ?_
          refine lv_iload_n hx hb dX1_wake_30 rfl (lv_at hl 3 rfl) ?_
          obtain ⟨g8, h⟩ := vg_if h
          obtain ⟨g9, h⟩ := vg_if h
          refine va_iald (D := D) hx hb hK hP y6 0 (vW_k6 n_y6 g8) rfl (i := i3) g9 dX1_wake_31 ?_
          refine lv_iconst (v := 0) hx hb dX1_wake_32 (by decide) ?_
          refine lv_aload_n hx hb dX1_wake_33 rfl (lv_at hl 2 rfl) ?_
          obtain ⟨y10, g11, h⟩ := vg_bind h
          have n_y10 := hO _ _ _ g11
          refine va_get (D := D) (ci := 0) (v := .ref (ad y10)) (C := RX0) (T := TX0) (N := 14) hx hb hts in_X1_wake_X0 hown hK hP r2 (vW_k0 n_r2 g1) rfl 9 (by decide) (hts (.fieldLink RX1 113 "VaultDoors$Door" "distance" "[I") (List.mem_of_getElem? (i := 5) rfl)) (fun _ h9 => h9) (by show some (va_rf (Option.map ad (mr m1 r2 9))) = _; rw [g11]; rfl) dX1_wake_34 ?_
          refine lv_iload_n hx hb dX1_wake_37 rfl (lv_at hl 3 rfl) ?_
          obtain ⟨g12, h⟩ := vg_if h
          obtain ⟨g13, h⟩ := vg_if h
          refine va_iald (D := D) hx hb hK hP y10 0 (vW_k6 n_y10 g12) rfl (i := i3) g13 dX1_wake_38 ?_
          obtain ⟨g14, h⟩ := vg_if h
          obtain ⟨q15, g16, h⟩ := vg_bind h
          have hFc := vm_free hD hS hA
          refine va_callv (va_runV (As := [.int i1, .int (mi m1 y6 i3.toNatClampNeg), .int 0, .int (mi m1 y10 i3.toNatClampNeg)]) (rest := []) ⟨hx, hb, hml, hown, hts⟩ (cm_X2_add (m0 := m1) l D tc ad hO n_y4 g16) (cwV 4 hts gX1_wake_X2_add rfl rfl rfl (by decide +kernel) ⟨(Nat.le_of_ble_eq_true rfl), (Nat.le_of_ble_eq_true rfl)⟩) ⟨qW_blind, va_recv hK hP (ci := 2) (q0 := y4) rfl (vW_k2 n_y4 g14), qW_pre hP hD hK hZ⟩ rfl rfl hl.1 rfl (lv_room (Nat.le_of_ble_eq_true rfl)) dX1_wake_39 ⟨(Nat.le_of_ble_eq_true rfl), (Nat.le_of_ble_eq_true rfl)⟩) hS (fun q9 _ h9 => hFc q9 h9) hFc (fun u t H1 locs ht hvm hw hB hz1 hk1 hS => ?_)
          obtain ⟨hO18, hP1, hK1, hD1⟩ := hB
          rw [ht] at hP1
          have hP := hP1
          have hD := hD1.weaken (fun _ q9 _ h9 => hFc q9.1 h9)
          generalize H1 = H at hP hS ⊢
          have hP : va_P D vwCl (vW tc ad N q15) H := hP
          have hD : va_D A (vW tc ad N q15) := hD
          clear hk1 hz1 ht hvm
          refine lv_iinc (v := i3 + 1) (lv' := [(3, .int (i3 + 1)), (0, .ref (ad r0)), (1, .int i1), (2, .ref (ad r2))]) hx hb dX1_wake_42 hl (k := 3) rfl rfl (by decide) rfl (fun ls hl => ?_)
          refine lv_goto (tgt := 13) hx hb dX1_wake_45 (by decide) ?_
          exact (ih) q15 r0 i1 r2 (i3 + 1) _ _ _ hO18 n_r0 n_r2 h hP hD hS (lv_sub hl (l' := [(0, .ref (ad r0)), (1, .int i1), (2, .ref (ad r2)), (3, .int (i3 + 1))]) [1, 2, 3, 0] rfl)
  unfold f_X1_wake at h
  refine lv_aload_n hx hb dX1_wake_0 rfl (lv_at hl 0 rfl) ?_
  obtain ⟨g19, h⟩ := vg_if h
  obtain ⟨y20, g21, h⟩ := vg_bind h
  have n_y20 := hO _ _ _ g21
  refine va_get (D := D) (ci := 1) (v := .ref (ad y20)) (C := RX1) (T := TX1) (N := 5) hx hb hts in_X1_wake_X1 hown hK hP p0 (vW_k1 n_p0 g19) rfl 2 (by decide) (hts (.fieldLink RX1 11 "VaultDoors$Vault" "doors" "[LVaultDoors$Door;") (List.mem_of_getElem? (i := 1) rfl)) (fun _ h9 => h9) (by show some (va_rf (Option.map ad (mr m0 p0 2))) = _; rw [g21]; rfl) dX1_wake_1 ?_
  refine lv_iload_n hx hb dX1_wake_4 rfl (lv_at hl 1 rfl) ?_
  obtain ⟨g22, h⟩ := vg_if h
  obtain ⟨g23, h⟩ := vg_if h
  obtain ⟨y24, g25, h⟩ := vg_bind h
  have n_y24 := hO _ _ _ g25
  refine va_aldq (D := D) hx hb hK hP y20 1 (vW_k7 n_y20 g22) rfl (i := p1) g23 dX1_wake_5 ?_
  refine W.eq (g2 := F0 m 6 ls [.ref (ad y24)]) (by show F0 m 6 ls (va_rf (Option.map ad (mr m0 y20 p1.toNatClampNeg)) :: _) = _; rw [g25]; rfl) ?_
  refine lv_astore_n (lv' := [(2, .ref (ad y24)), (0, .ref (ad p0)), (1, .int p1)]) hx hb dX1_wake_6 rfl hl (by decide) rfl (fun ls hl => ?_)
  refine lv_aload_n hx hb dX1_wake_7 rfl (lv_at hl 0 rfl) ?_
  obtain ⟨g26, h⟩ := vg_if h
  obtain ⟨q27, g28, h⟩ := vg_bind h
  have hFc := vm_free hD hS hA
  refine va_callv (va_runV (As := []) (rest := []) ⟨hx, hb, hml, hown, hts⟩ (cm_X0_startWaiting (m0 := m0) l D tc ad hO n_y24 g28) (cwV 0 hts gX1_wake_X0_startWaiting rfl rfl rfl (by decide +kernel) ⟨(Nat.le_of_ble_eq_true rfl), (Nat.le_of_ble_eq_true rfl)⟩) ⟨qW_blind, va_recv hK hP (ci := 0) (q0 := y24) rfl (vW_k0 n_y24 g26), qW_pre hP hD hK hZ⟩ rfl rfl hl.1 rfl (lv_room (Nat.le_of_ble_eq_true rfl)) dX1_wake_8 ⟨(Nat.le_of_ble_eq_true rfl), (Nat.le_of_ble_eq_true rfl)⟩) hS (fun q9 _ h9 => hFc q9 h9) hFc (fun u t H1 locs ht hvm hw hB hz1 hk1 hS => ?_)
  obtain ⟨hO30, hP1, hK1, hD1⟩ := hB
  rw [ht] at hP1
  have hP := hP1
  have hD := hD1.weaken (fun _ q9 _ h9 => hFc q9.1 h9)
  generalize H1 = H at hP hS ⊢
  have hP : va_P D vwCl (vW tc ad N q27) H := hP
  have hD : va_D A (vW tc ad N q27) := hD
  clear hk1 hz1 ht hvm
  refine lv_iconst (v := 0) hx hb dX1_wake_11 (by decide) ?_
  refine lv_istore_n (lv' := [(3, .int 0), (2, .ref (ad y24)), (0, .ref (ad p0)), (1, .int p1)]) hx hb dX1_wake_12 rfl hl (by decide) rfl (fun ls hl => ?_)
  exact ((hL vF)) q27 p0 p1 y24 (0 : Int32) _ _ _ hO30 n_p0 n_y24 h hP hD hS (lv_sub hl (l' := [(0, .ref (ad p0)), (1, .int p1), (2, .ref (ad y24)), (3, .int 0)]) [2, 3, 1, 0] rfl)

noncomputable def f_X1_hearToken (m : vM) (p0 : Nat) (p1 : Int32) (p2 : Int32) : Option (Int32 × vM) :=
  if mk m p0 = 1 then
  Option.bind (f_X1_isDoor m p0 p1) fun q2 =>
  if q2 = 0 then (
    some ((0 : Int32), m)
  ) else (
    Option.bind (mr m p0 2) fun y6 =>
    if mk m y6 = 7 then
    if vin p1 (ml m y6) then
    Option.bind (mr m y6 p1.toNatClampNeg) fun y10 =>
    if mk m y10 = 0 then
    if (mi m y10 3) = 0 then (
      Option.bind (mr m p0 2) fun y14 =>
      if mk m y14 = 7 then
      if vin p1 (ml m y14) then
      Option.bind (mr m y14 p1.toNatClampNeg) fun y18 =>
      if mk m y18 = 0 then
      if p2 = (mi m y18 0) then (
        Option.bind (f_X1_wake m p0 p1) fun q22 =>
        some ((1 : Int32), q22)
      ) else (
        Option.bind (mr m p0 2) fun y26 =>
        if mk m y26 = 7 then
        if vin p1 (ml m y26) then
        Option.bind (mr m y26 p1.toNatClampNeg) fun y30 =>
        if mk m y30 = 0 then
        Option.bind (f_X0_bar m y30) fun q33 =>
        some ((0 : Int32), q33)
        else none
        else none
        else none
      )
      else none
      else none
      else none
    ) else (
      some ((0 : Int32), m)
    )
    else none
    else none
    else none
  )
  else none
theorem in_X1_hearToken_X0 : ∀ w ∈ wsX00, w ∈ wsX1_hearToken := by decide +kernel
theorem in_X1_hearToken_X1 : ∀ w ∈ wsX10, w ∈ wsX1_hearToken := by decide +kernel
set_option maxHeartbeats 1000000 in
set_option maxRecDepth 100000 in
theorem cm_X1_hearToken (l : Launch) (D : va_G) (tc : Nat → ClassId) (ad : Nat → Nat) {N : Nat} {m0 : vM} {sz : Nat} {p0 : Nat} {p1 : Int32} {p2 : Int32} (hO : vOK N m0) (n_p0 : p0 < N) {z : Int32 × vM} (h : f_X1_hearToken m0 p0 p1 p2 = some z) : Met l yX1_hearToken wsX1_hearToken ({ frames := 2, cells := 0, slots := 0, locals := 47 } : Room) (va_Pc [.ref (ad p0), .int p1, .int p2] (qW D tc ad N m0 sz)) (va_Qi (fun (r9 : Int32) (_ : Unit) => r9 = z.1) (fun _ t => vOK N z.2 ∧ pB D (va_A (vW tc ad N m0) sz) (vW tc ad N z.2) (vT tc) t) (va_A (vW tc ad N m0) sz)) 0 0 (va_A (vW tc ad N m0) sz) := by
  refine Met.ofW (cc := cX1_hearToken) (maxL := 3) (ret := (some .boolean)) (by decide) rfl ?_
  intro p e s m args below meth c s₁ B hml hv
  obtain ⟨rfl, hsz, hP, hK, hD0, hZ⟩ := hv
  have hx := B.exec
  have hb := B.bytes
  have hr := B.returns
  have hts := atoms_spec (ws := wsX1_hearToken) B.pre
  have hown : s.vm.findClass RX1 = some m.cls := findClass_of_methodNamed B.named
  have hlocks := B.notSynchronized
  subst hsz
  have hD := hD0.self (sz := s.heap.size)
  generalize hAe : va_A (vW tc ad N m0) s.heap.size = A at hD ⊢
  have hA : ∀ q : Nat, s.heap.size ≤ q → A q := fun q h => by rw [← hAe]; exact Or.inr h
  have hS : va_S A s.heap s.heap [] := va_S.rf
  have hl := lv_entry ([.ref (ad p0), .int p1, .int p2]) (n := 3) (Nat.le_of_ble_eq_true rfl)
  rw [lg_entry_eq]
  generalize (lg_sl ([.ref (ad p0), .int p1, .int p2]) ++ List.replicate (3 - (lg_sl ([.ref (ad p0), .int p1, .int p2])).length) Slot.unset).toArray = ls at hl ⊢
  have hl : lv_has ls 3 [(0, .ref (ad p0)), (1, .int p1), (2, .int p2)] := hl
  unfold f_X1_hearToken at h
  refine lv_aload_n hx hb dX1_hearToken_0 rfl (lv_at hl 0 rfl) ?_
  refine lv_iload_n hx hb dX1_hearToken_1 rfl (lv_at hl 1 rfl) ?_
  obtain ⟨g1, h⟩ := vg_if h
  obtain ⟨q2, g3, h⟩ := vg_bind h
  refine va_calli (va_runV (As := [.int p1]) (rest := []) ⟨hx, hb, hml, hown, hts⟩ (cm_X1_isDoor (m0 := m0) l D tc ad hO n_p0 g3) (cwV 1 hts gX1_hearToken_X1_isDoor rfl rfl rfl (by decide +kernel) ⟨(Nat.le_of_ble_eq_true rfl), (Nat.le_of_ble_eq_true rfl)⟩) ⟨qR_blind, va_recv hK hP (ci := 1) (q0 := p0) rfl (vW_k1 n_p0 g1), qR_pre hP hK hZ⟩ rfl rfl hl.1 rfl (lv_room (Nat.le_of_ble_eq_true rfl)) dX1_hearToken_2 ⟨(Nat.le_of_ble_eq_true rfl), (Nat.le_of_ble_eq_true rfl)⟩) hS (fun q9 _ h9 => h9.elim) (fun q9 h9 => h9.elim) (fun w4 u t H1 locs ht hvm hw hB hz1 hk1 hS => ?_)
  have hP := hP.kept (fun k9 q9 hk9 => hk1 q9.1 (hP k9 q9 hk9).lt (fun h9 => h9))
  generalize H1 = H at hP hS ⊢
  clear hk1 hz1 ht hvm
  have hw : w4 = q2 := hw
  rw [hw]
  refine lv_if_eq (tgt := 20) hx hb dX1_hearToken_5 (by decide) (fun c5 => ?_) (fun c5 => ?_)
  · rw [if_pos c5] at h
    refine lv_iconst (v := 0) hx hb dX1_hearToken_20 (by decide) ?_
    have hz := Option.some.inj h
    exact W.zret (v := 0) (ty := .boolean) hx hb hr (by decide) (fun t ht hW => ⟨⟨_, (), rfl, by rw [← hz], by rw [← hz]; exact hO, by rw [ht, ← hz]; exact hP, va_K.moved hW.alike hK, by rw [← hz]; exact hD⟩, hS.F ht⟩) hS.2.2 dX1_hearToken_21
  · rw [if_neg c5] at h
    refine lv_aload_n hx hb dX1_hearToken_8 rfl (lv_at hl 0 rfl) ?_
    obtain ⟨y6, g7, h⟩ := vg_bind h
    have n_y6 := hO _ _ _ g7
    refine va_get (D := D) (ci := 1) (v := .ref (ad y6)) (C := RX1) (T := TX1) (N := 5) hx hb hts in_X1_hearToken_X1 hown hK hP p0 (vW_k1 n_p0 g1) rfl 2 (by decide) (hts (.fieldLink RX1 11 "VaultDoors$Vault" "doors" "[LVaultDoors$Door;") (List.mem_of_getElem? (i := 1) rfl)) (fun _ h9 => h9) (by show some (va_rf (Option.map ad (mr m0 p0 2))) = _; rw [g7]; rfl) dX1_hearToken_9 ?_
    refine lv_iload_n hx hb dX1_hearToken_12 rfl (lv_at hl 1 rfl) ?_
    obtain ⟨g8, h⟩ := vg_if h
    obtain ⟨g9, h⟩ := vg_if h
    obtain ⟨y10, g11, h⟩ := vg_bind h
    have n_y10 := hO _ _ _ g11
    refine va_aldq (D := D) hx hb hK hP y6 1 (vW_k7 n_y6 g8) rfl (i := p1) g9 dX1_hearToken_13 ?_
    refine W.eq (g2 := F0 m 14 ls [.ref (ad y10)]) (by show F0 m 14 ls (va_rf (Option.map ad (mr m0 y6 p1.toNatClampNeg)) :: _) = _; rw [g11]; rfl) ?_
    obtain ⟨g12, h⟩ := vg_if h
    refine va_get (D := D) (ci := 0) (v := .int (mi m0 y10 3)) (C := RX0) (T := TX0) (N := 14) hx hb hts in_X1_hearToken_X0 hown hK hP y10 (vW_k0 n_y10 g12) rfl 3 (by decide) (hts (.fieldLink RX1 55 "VaultDoors$Door" "state" "I") (List.mem_of_getElem? (i := 2) rfl)) (fun _ h9 => h9) rfl dX1_hearToken_14 ?_
    refine lv_if_eq (tgt := 22) hx hb dX1_hearToken_17 (by decide) (fun c13 => ?_) (fun c13 => ?_)
    · rw [if_pos c13] at h
      refine lv_iload_n hx hb dX1_hearToken_22 rfl (lv_at hl 2 rfl) ?_
      refine lv_aload_n hx hb dX1_hearToken_23 rfl (lv_at hl 0 rfl) ?_
      obtain ⟨y14, g15, h⟩ := vg_bind h
      have n_y14 := hO _ _ _ g15
      refine va_get (D := D) (ci := 1) (v := .ref (ad y14)) (C := RX1) (T := TX1) (N := 5) hx hb hts in_X1_hearToken_X1 hown hK hP p0 (vW_k1 n_p0 g1) rfl 2 (by decide) (hts (.fieldLink RX1 11 "VaultDoors$Vault" "doors" "[LVaultDoors$Door;") (List.mem_of_getElem? (i := 1) rfl)) (fun _ h9 => h9) (by show some (va_rf (Option.map ad (mr m0 p0 2))) = _; rw [g15]; rfl) dX1_hearToken_24 ?_
      refine lv_iload_n hx hb dX1_hearToken_27 rfl (lv_at hl 1 rfl) ?_
      obtain ⟨g16, h⟩ := vg_if h
      obtain ⟨g17, h⟩ := vg_if h
      obtain ⟨y18, g19, h⟩ := vg_bind h
      have n_y18 := hO _ _ _ g19
      refine va_aldq (D := D) hx hb hK hP y14 1 (vW_k7 n_y14 g16) rfl (i := p1) g17 dX1_hearToken_28 ?_
      refine W.eq (g2 := F0 m 29 ls [.ref (ad y18), .int p2]) (by show F0 m 29 ls (va_rf (Option.map ad (mr m0 y14 p1.toNatClampNeg)) :: _) = _; rw [g19]; rfl) ?_
      obtain ⟨g20, h⟩ := vg_if h
      refine va_get (D := D) (ci := 0) (v := .int (mi m0 y18 0)) (C := RX0) (T := TX0) (N := 14) hx hb hts in_X1_hearToken_X0 hown hK hP y18 (vW_k0 n_y18 g20) rfl 0 (by decide) (hts (.fieldLink RX1 42 "VaultDoors$Door" "secret" "I") (List.mem_of_getElem? (i := 3) rfl)) (fun _ h9 => h9) rfl dX1_hearToken_29 ?_
      refine lv_icmp_eq (tgt := 46) hx hb dX1_hearToken_32 (by decide) (fun c21 => ?_) (fun c21 => ?_)
      · rw [if_pos c21] at h
        refine lv_aload_n hx hb dX1_hearToken_46 rfl (lv_at hl 0 rfl) ?_
        refine lv_iload_n hx hb dX1_hearToken_47 rfl (lv_at hl 1 rfl) ?_
        obtain ⟨q22, g23, h⟩ := vg_bind h
        have hFc := vm_free hD hS hA
        refine va_callv (va_runV (As := [.int p1]) (rest := []) ⟨hx, hb, hml, hown, hts⟩ (cm_X1_wake (m0 := m0) l D tc ad hO n_p0 g23) (cwV 1 hts gX1_hearToken_X1_wake rfl rfl rfl (by decide +kernel) ⟨(Nat.le_of_ble_eq_true rfl), (Nat.le_of_ble_eq_true rfl)⟩) ⟨qW_blind, va_recv hK hP (ci := 1) (q0 := p0) rfl (vW_k1 n_p0 g1), qW_pre hP hD hK hZ⟩ rfl rfl hl.1 rfl (lv_room (Nat.le_of_ble_eq_true rfl)) dX1_hearToken_48 ⟨(Nat.le_of_ble_eq_true rfl), (Nat.le_of_ble_eq_true rfl)⟩) hS (fun q9 _ h9 => hFc q9 h9) hFc (fun u t H1 locs ht hvm hw hB hz1 hk1 hS => ?_)
        obtain ⟨hO25, hP1, hK1, hD1⟩ := hB
        rw [ht] at hP1
        have hP := hP1
        have hD := hD1.weaken (fun _ q9 _ h9 => hFc q9.1 h9)
        generalize H1 = H at hP hS ⊢
        have hP : va_P D vwCl (vW tc ad N q22) H := hP
        have hD : va_D A (vW tc ad N q22) := hD
        clear hk1 hz1 ht hvm
        refine lv_iconst (v := 1) hx hb dX1_hearToken_51 (by decide) ?_
        have hz := Option.some.inj h
        exact W.zret (v := 1) (ty := .boolean) hx hb hr (by decide) (fun t ht hW => ⟨⟨_, (), rfl, by rw [← hz], by rw [← hz]; exact hO25, by rw [ht, ← hz]; exact hP, va_K.moved hW.alike hK, by rw [← hz]; exact hD⟩, hS.F ht⟩) hS.2.2 dX1_hearToken_52
      · rw [if_neg c21] at h
        refine lv_aload_n hx hb dX1_hearToken_35 rfl (lv_at hl 0 rfl) ?_
        obtain ⟨y26, g27, h⟩ := vg_bind h
        have n_y26 := hO _ _ _ g27
        refine va_get (D := D) (ci := 1) (v := .ref (ad y26)) (C := RX1) (T := TX1) (N := 5) hx hb hts in_X1_hearToken_X1 hown hK hP p0 (vW_k1 n_p0 g1) rfl 2 (by decide) (hts (.fieldLink RX1 11 "VaultDoors$Vault" "doors" "[LVaultDoors$Door;") (List.mem_of_getElem? (i := 1) rfl)) (fun _ h9 => h9) (by show some (va_rf (Option.map ad (mr m0 p0 2))) = _; rw [g27]; rfl) dX1_hearToken_36 ?_
        refine lv_iload_n hx hb dX1_hearToken_39 rfl (lv_at hl 1 rfl) ?_
        obtain ⟨g28, h⟩ := vg_if h
        obtain ⟨g29, h⟩ := vg_if h
        obtain ⟨y30, g31, h⟩ := vg_bind h
        have n_y30 := hO _ _ _ g31
        refine va_aldq (D := D) hx hb hK hP y26 1 (vW_k7 n_y26 g28) rfl (i := p1) g29 dX1_hearToken_40 ?_
        refine W.eq (g2 := F0 m 41 ls [.ref (ad y30)]) (by show F0 m 41 ls (va_rf (Option.map ad (mr m0 y26 p1.toNatClampNeg)) :: _) = _; rw [g31]; rfl) ?_
        obtain ⟨g32, h⟩ := vg_if h
        obtain ⟨q33, g34, h⟩ := vg_bind h
        have hFc := vm_free hD hS hA
        refine va_callv (va_runV (As := []) (rest := []) ⟨hx, hb, hml, hown, hts⟩ (cm_X0_bar (m0 := m0) l D tc ad hO n_y30 g34) (cwV 0 hts gX1_hearToken_X0_bar rfl rfl rfl (by decide +kernel) ⟨(Nat.le_of_ble_eq_true rfl), (Nat.le_of_ble_eq_true rfl)⟩) ⟨qW_blind, va_recv hK hP (ci := 0) (q0 := y30) rfl (vW_k0 n_y30 g32), qW_pre hP hD hK hZ⟩ rfl rfl hl.1 rfl (lv_room (Nat.le_of_ble_eq_true rfl)) dX1_hearToken_41 ⟨(Nat.le_of_ble_eq_true rfl), (Nat.le_of_ble_eq_true rfl)⟩) hS (fun q9 _ h9 => hFc q9 h9) hFc (fun u t H1 locs ht hvm hw hB hz1 hk1 hS => ?_)
        obtain ⟨hO36, hP1, hK1, hD1⟩ := hB
        rw [ht] at hP1
        have hP := hP1
        have hD := hD1.weaken (fun _ q9 _ h9 => hFc q9.1 h9)
        generalize H1 = H at hP hS ⊢
        have hP : va_P D vwCl (vW tc ad N q33) H := hP
        have hD : va_D A (vW tc ad N q33) := hD
        clear hk1 hz1 ht hvm
        refine lv_iconst (v := 0) hx hb dX1_hearToken_44 (by decide) ?_
        have hz := Option.some.inj h
        exact W.zret (v := 0) (ty := .boolean) hx hb hr (by decide) (fun t ht hW => ⟨⟨_, (), rfl, by rw [← hz], by rw [← hz]; exact hO36, by rw [ht, ← hz]; exact hP, va_K.moved hW.alike hK, by rw [← hz]; exact hD⟩, hS.F ht⟩) hS.2.2 dX1_hearToken_45
    · rw [if_neg c13] at h
      refine lv_iconst (v := 0) hx hb dX1_hearToken_20 (by decide) ?_
      have hz := Option.some.inj h
      exact W.zret (v := 0) (ty := .boolean) hx hb hr (by decide) (fun t ht hW => ⟨⟨_, (), rfl, by rw [← hz], by rw [← hz]; exact hO, by rw [ht, ← hz]; exact hP, va_K.moved hW.alike hK, by rw [← hz]; exact hD⟩, hS.F ht⟩) hS.2.2 dX1_hearToken_21

noncomputable def f_X1_hear (m : vM) (p0 : Nat) (p1 : Int32) (p2 : Int32) (p3 : Int32) (p4 : Int32) : Option (vM) :=
  if mk m p0 = 1 then
  Option.bind (f_X1_isDoor m p0 p2) fun q2 =>
  if q2 = 0 then (
    some m
  ) else (
    Option.bind (mr m p0 2) fun y6 =>
    if mk m y6 = 7 then
    if vin p2 (ml m y6) then
    Option.bind (mr m y6 p2.toNatClampNeg) fun y10 =>
    if p3 = 0 then (
      if mk m y10 = 0 then
      if (mi m y10 3) = 2 then (
        Option.bind (mr m p0 3) fun y15 =>
        if mk m y15 = 2 then
        Option.bind (f_X2_add m y15 p2 p1 ((2 : Int32)) p4) fun q18 =>
        some q18
        else none
      ) else (
        if (mi m y10 3) = 3 then (
          Option.bind (mr m p0 3) fun y23 =>
          if mk m y23 = 2 then
          Option.bind (f_X2_add m y23 p2 p1 ((1 : Int32)) p4) fun q26 =>
          some q26
          else none
        ) else (
          if (mi m y10 3) = 0 then (
            Option.bind (f_X1_wake m p0 p2) fun q31 =>
            if mk q31 y10 = 0 then
            Option.bind (f_X0_remember q31 y10 p1 p4) fun q36 =>
            some q36
            else none
          ) else (
            Option.bind (f_X0_remember m y10 p1 p4) fun q40 =>
            some q40
          )
        )
      )
      else none
    ) else (
      if p3 = 2 then (
        if mk m y10 = 0 then
        Option.bind (f_X0_takeAnswer m y10 p1 ((1 : Int32))) fun q46 =>
        some q46
        else none
      ) else (
        if mk m y10 = 0 then
        Option.bind (f_X0_takeAnswer m y10 p1 ((0 : Int32))) fun q51 =>
        some q51
        else none
      )
    )
    else none
    else none
  )
  else none
theorem in_X1_hear_X0 : ∀ w ∈ wsX00, w ∈ wsX1_hear := by decide +kernel
theorem in_X1_hear_X1 : ∀ w ∈ wsX10, w ∈ wsX1_hear := by decide +kernel
set_option maxHeartbeats 1000000 in
set_option maxRecDepth 100000 in
theorem cm_X1_hear (l : Launch) (D : va_G) (tc : Nat → ClassId) (ad : Nat → Nat) {N : Nat} {m0 : vM} {sz : Nat} {p0 : Nat} {p1 : Int32} {p2 : Int32} {p3 : Int32} {p4 : Int32} (hO : vOK N m0) (n_p0 : p0 < N) {z : vM} (h : f_X1_hear m0 p0 p1 p2 p3 p4 = some z) : Met l yX1_hear wsX1_hear ({ frames := 2, cells := 0, slots := 0, locals := 47 } : Room) (va_Pc [.ref (ad p0), .int p1, .int p2, .int p3, .int p4] (qW D tc ad N m0 sz)) (va_Qv (fun (_ : Unit) => True) (fun _ t => vOK N z ∧ pB D (va_A (vW tc ad N m0) sz) (vW tc ad N z) (vT tc) t) (va_A (vW tc ad N m0) sz)) 0 0 (va_A (vW tc ad N m0) sz) := by
  refine Met.ofW (cc := cX1_hear) (maxL := 6) (ret := none) (by decide) rfl ?_
  intro p e s m args below meth c s₁ B hml hv
  obtain ⟨rfl, hsz, hP, hK, hD0, hZ⟩ := hv
  have hx := B.exec
  have hb := B.bytes
  have hr := B.returns
  have hts := atoms_spec (ws := wsX1_hear) B.pre
  have hown : s.vm.findClass RX1 = some m.cls := findClass_of_methodNamed B.named
  have hlocks := B.notSynchronized
  subst hsz
  have hD := hD0.self (sz := s.heap.size)
  generalize hAe : va_A (vW tc ad N m0) s.heap.size = A at hD ⊢
  have hA : ∀ q : Nat, s.heap.size ≤ q → A q := fun q h => by rw [← hAe]; exact Or.inr h
  have hS : va_S A s.heap s.heap [] := va_S.rf
  have hl := lv_entry ([.ref (ad p0), .int p1, .int p2, .int p3, .int p4]) (n := 6) (Nat.le_of_ble_eq_true rfl)
  rw [lg_entry_eq]
  generalize (lg_sl ([.ref (ad p0), .int p1, .int p2, .int p3, .int p4]) ++ List.replicate (6 - (lg_sl ([.ref (ad p0), .int p1, .int p2, .int p3, .int p4])).length) Slot.unset).toArray = ls at hl ⊢
  have hl : lv_has ls 6 [(0, .ref (ad p0)), (1, .int p1), (2, .int p2), (3, .int p3), (4, .int p4)] := hl
  unfold f_X1_hear at h
  refine lv_aload_n hx hb dX1_hear_0 rfl (lv_at hl 0 rfl) ?_
  refine lv_iload_n hx hb dX1_hear_1 rfl (lv_at hl 2 rfl) ?_
  obtain ⟨g1, h⟩ := vg_if h
  obtain ⟨q2, g3, h⟩ := vg_bind h
  refine va_calli (va_runV (As := [.int p2]) (rest := []) ⟨hx, hb, hml, hown, hts⟩ (cm_X1_isDoor (m0 := m0) l D tc ad hO n_p0 g3) (cwV 1 hts gX1_hear_X1_isDoor rfl rfl rfl (by decide +kernel) ⟨(Nat.le_of_ble_eq_true rfl), (Nat.le_of_ble_eq_true rfl)⟩) ⟨qR_blind, va_recv hK hP (ci := 1) (q0 := p0) rfl (vW_k1 n_p0 g1), qR_pre hP hK hZ⟩ rfl rfl hl.1 rfl (lv_room (Nat.le_of_ble_eq_true rfl)) dX1_hear_2 ⟨(Nat.le_of_ble_eq_true rfl), (Nat.le_of_ble_eq_true rfl)⟩) hS (fun q9 _ h9 => h9.elim) (fun q9 h9 => h9.elim) (fun w4 u t H1 locs ht hvm hw hB hz1 hk1 hS => ?_)
  have hP := hP.kept (fun k9 q9 hk9 => hk1 q9.1 (hP k9 q9 hk9).lt (fun h9 => h9))
  generalize H1 = H at hP hS ⊢
  clear hk1 hz1 ht hvm
  have hw : w4 = q2 := hw
  rw [hw]
  refine lv_if_ne (tgt := 9) hx hb dX1_hear_5 (by decide) (fun c5 => ?_) (fun c5 => ?_)
  · rw [if_neg c5] at h
    refine lv_aload_n hx hb dX1_hear_9 rfl (lv_at hl 0 rfl) ?_
    obtain ⟨y6, g7, h⟩ := vg_bind h
    have n_y6 := hO _ _ _ g7
    refine va_get (D := D) (ci := 1) (v := .ref (ad y6)) (C := RX1) (T := TX1) (N := 5) hx hb hts in_X1_hear_X1 hown hK hP p0 (vW_k1 n_p0 g1) rfl 2 (by decide) (hts (.fieldLink RX1 11 "VaultDoors$Vault" "doors" "[LVaultDoors$Door;") (List.mem_of_getElem? (i := 1) rfl)) (fun _ h9 => h9) (by show some (va_rf (Option.map ad (mr m0 p0 2))) = _; rw [g7]; rfl) dX1_hear_10 ?_
    refine lv_iload_n hx hb dX1_hear_13 rfl (lv_at hl 2 rfl) ?_
    obtain ⟨g8, h⟩ := vg_if h
    obtain ⟨g9, h⟩ := vg_if h
    obtain ⟨y10, g11, h⟩ := vg_bind h
    have n_y10 := hO _ _ _ g11
    refine va_aldq (D := D) hx hb hK hP y6 1 (vW_k7 n_y6 g8) rfl (i := p2) g9 dX1_hear_14 ?_
    refine W.eq (g2 := F0 m 15 ls [.ref (ad y10)]) (by show F0 m 15 ls (va_rf (Option.map ad (mr m0 y6 p2.toNatClampNeg)) :: _) = _; rw [g11]; rfl) ?_
    refine lv_astore (lv' := [(5, .ref (ad y10)), (0, .ref (ad p0)), (1, .int p1), (2, .int p2), (3, .int p3), (4, .int p4)]) hx hb dX1_hear_15 hl (by decide) rfl (fun ls hl => ?_)
    refine lv_iload_n hx hb dX1_hear_17 rfl (lv_at hl 4 rfl) ?_
    refine lv_if_eq (tgt := 40) hx hb dX1_hear_18 (by decide) (fun c12 => ?_) (fun c12 => ?_)
    · rw [if_pos c12] at h
      refine lv_aload hx hb dX1_hear_40 (lv_at hl 0 rfl) ?_
      obtain ⟨g13, h⟩ := vg_if h
      refine va_get (D := D) (ci := 0) (v := .int (mi m0 y10 3)) (C := RX0) (T := TX0) (N := 14) hx hb hts in_X1_hear_X0 hown hK hP y10 (vW_k0 n_y10 g13) rfl 3 (by decide) (hts (.fieldLink RX1 55 "VaultDoors$Door" "state" "I") (List.mem_of_getElem? (i := 2) rfl)) (fun _ h9 => h9) rfl dX1_hear_42 ?_
      refine lv_iconst (v := 2) hx hb dX1_hear_45 (by decide) ?_
      refine lv_icmp_ne (tgt := 64) hx hb dX1_hear_46 (by decide) (fun c14 => ?_) (fun c14 => ?_)
      · rw [if_neg c14] at h
        refine lv_aload hx hb dX1_hear_64 (lv_at hl 0 rfl) ?_
        refine va_get (D := D) (ci := 0) (v := .int (mi m0 y10 3)) (C := RX0) (T := TX0) (N := 14) hx hb hts in_X1_hear_X0 hown hK hP y10 (vW_k0 n_y10 g13) rfl 3 (by decide) (hts (.fieldLink RX1 55 "VaultDoors$Door" "state" "I") (List.mem_of_getElem? (i := 2) rfl)) (fun _ h9 => h9) rfl dX1_hear_66 ?_
        refine lv_iconst (v := 3) hx hb dX1_hear_69 (by decide) ?_
        refine lv_icmp_ne (tgt := 88) hx hb dX1_hear_70 (by decide) (fun c15 => ?_) (fun c15 => ?_)
        · rw [if_neg c15] at h
          refine lv_aload hx hb dX1_hear_88 (lv_at hl 0 rfl) ?_
          refine va_get (D := D) (ci := 0) (v := .int (mi m0 y10 3)) (C := RX0) (T := TX0) (N := 14) hx hb hts in_X1_hear_X0 hown hK hP y10 (vW_k0 n_y10 g13) rfl 3 (by decide) (hts (.fieldLink RX1 55 "VaultDoors$Door" "state" "I") (List.mem_of_getElem? (i := 2) rfl)) (fun _ h9 => h9) rfl dX1_hear_90 ?_
          refine lv_if_ne (tgt := 101) hx hb dX1_hear_93 (by decide) (fun c16 => ?_) (fun c16 => ?_)
          · rw [if_neg c16] at h
            refine lv_aload hx hb dX1_hear_101 (lv_at hl 0 rfl) ?_
            refine lv_iload_n hx hb dX1_hear_103 rfl (lv_at hl 2 rfl) ?_
            refine lv_iload hx hb dX1_hear_104 (lv_at hl 5 rfl) ?_
            obtain ⟨q17, g18, h⟩ := vg_bind h
            have hFc := vm_free hD hS hA
            refine va_callv (va_runV (As := [.int p1, .int p4]) (rest := []) ⟨hx, hb, hml, hown, hts⟩ (cm_X0_remember (m0 := m0) l D tc ad hO n_y10 g18) (cwV 2 hts gX1_hear_X0_remember rfl rfl rfl (by decide +kernel) ⟨(Nat.le_of_ble_eq_true rfl), (Nat.le_of_ble_eq_true rfl)⟩) ⟨qW_blind, va_recv hK hP (ci := 0) (q0 := y10) rfl (vW_k0 n_y10 g13), qW_pre hP hD hK hZ⟩ rfl rfl hl.1 rfl (lv_room (Nat.le_of_ble_eq_true rfl)) dX1_hear_106 ⟨(Nat.le_of_ble_eq_true rfl), (Nat.le_of_ble_eq_true rfl)⟩) hS (fun q9 _ h9 => hFc q9 h9) hFc (fun u t H1 locs ht hvm hw hB hz1 hk1 hS => ?_)
            obtain ⟨hO20, hP1, hK1, hD1⟩ := hB
            rw [ht] at hP1
            have hP := hP1
            have hD := hD1.weaken (fun _ q9 _ h9 => hFc q9.1 h9)
            generalize H1 = H at hP hS ⊢
            have hP : va_P D vwCl (vW tc ad N q17) H := hP
            have hD : va_D A (vW tc ad N q17) := hD
            clear hk1 hz1 ht hvm
            have hz := Option.some.inj h
            exact W.vret hx hb hr (fun t ht hW => ⟨⟨(), rfl, trivial, by rw [← hz]; exact hO20, by rw [ht, ← hz]; exact hP, va_K.moved hW.alike hK, by rw [← hz]; exact hD⟩, hS.F ht⟩) hS.2.2 dX1_hear_109
          · rw [if_pos c16] at h
            refine lv_aload_n hx hb dX1_hear_96 rfl (lv_at hl 1 rfl) ?_
            refine lv_iload_n hx hb dX1_hear_97 rfl (lv_at hl 3 rfl) ?_
            obtain ⟨q21, g22, h⟩ := vg_bind h
            have hFc := vm_free hD hS hA
            refine va_callv (va_runV (As := [.int p2]) (rest := []) ⟨hx, hb, hml, hown, hts⟩ (cm_X1_wake (m0 := m0) l D tc ad hO n_p0 g22) (cwV 1 hts gX1_hear_X1_wake rfl rfl rfl (by decide +kernel) ⟨(Nat.le_of_ble_eq_true rfl), (Nat.le_of_ble_eq_true rfl)⟩) ⟨qW_blind, va_recv hK hP (ci := 1) (q0 := p0) rfl (vW_k1 n_p0 g1), qW_pre hP hD hK hZ⟩ rfl rfl hl.1 rfl (lv_room (Nat.le_of_ble_eq_true rfl)) dX1_hear_98 ⟨(Nat.le_of_ble_eq_true rfl), (Nat.le_of_ble_eq_true rfl)⟩) hS (fun q9 _ h9 => hFc q9 h9) hFc (fun u t H1 locs ht hvm hw hB hz1 hk1 hS => ?_)
            obtain ⟨hO24, hP1, hK1, hD1⟩ := hB
            rw [ht] at hP1
            have hP := hP1
            have hD := hD1.weaken (fun _ q9 _ h9 => hFc q9.1 h9)
            generalize H1 = H at hP hS ⊢
            have hP : va_P D vwCl (vW tc ad N q21) H := hP
            have hD : va_D A (vW tc ad N q21) := hD
            clear hk1 hz1 ht hvm
            refine lv_aload hx hb dX1_hear_101 (lv_at hl 0 rfl) ?_
            refine lv_iload_n hx hb dX1_hear_103 rfl (lv_at hl 2 rfl) ?_
            refine lv_iload hx hb dX1_hear_104 (lv_at hl 5 rfl) ?_
            obtain ⟨g25, h⟩ := vg_if h
            obtain ⟨q26, g27, h⟩ := vg_bind h
            have hFc := vm_free hD hS hA
            refine va_callv (va_runV (As := [.int p1, .int p4]) (rest := []) ⟨hx, hb, hml, hown, hts⟩ (cm_X0_remember (m0 := q21) l D tc ad hO24 n_y10 g27) (cwV 2 hts gX1_hear_X0_remember rfl rfl rfl (by decide +kernel) ⟨(Nat.le_of_ble_eq_true rfl), (Nat.le_of_ble_eq_true rfl)⟩) ⟨qW_blind, va_recv hK hP (ci := 0) (q0 := y10) rfl (vW_k0 n_y10 g25), qW_pre hP hD hK hZ⟩ rfl rfl hl.1 rfl (lv_room (Nat.le_of_ble_eq_true rfl)) dX1_hear_106 ⟨(Nat.le_of_ble_eq_true rfl), (Nat.le_of_ble_eq_true rfl)⟩) hS (fun q9 _ h9 => hFc q9 h9) hFc (fun u t H1 locs ht hvm hw hB hz1 hk1 hS => ?_)
            obtain ⟨hO29, hP1, hK1, hD1⟩ := hB
            rw [ht] at hP1
            have hP := hP1
            have hD := hD1.weaken (fun _ q9 _ h9 => hFc q9.1 h9)
            generalize H1 = H at hP hS ⊢
            have hP : va_P D vwCl (vW tc ad N q26) H := hP
            have hD : va_D A (vW tc ad N q26) := hD
            clear hk1 hz1 ht hvm
            have hz := Option.some.inj h
            exact W.vret hx hb hr (fun t ht hW => ⟨⟨(), rfl, trivial, by rw [← hz]; exact hO29, by rw [ht, ← hz]; exact hP, va_K.moved hW.alike hK, by rw [← hz]; exact hD⟩, hS.F ht⟩) hS.2.2 dX1_hear_109
        · rw [if_pos c15] at h
          refine lv_aload_n hx hb dX1_hear_73 rfl (lv_at hl 1 rfl) ?_
          obtain ⟨y30, g31, h⟩ := vg_bind h
          have n_y30 := hO _ _ _ g31
          refine va_get (D := D) (ci := 1) (v := .ref (ad y30)) (C := RX1) (T := TX1) (N := 5) hx hb hts in_X1_hear_X1 hown hK hP p0 (vW_k1 n_p0 g1) rfl 3 (by decide) (hts (.fieldLink RX1 20 "VaultDoors$Vault" "voices" "LVaultDoors$Voices;") (List.mem_of_getElem? (i := 3) rfl)) (fun _ h9 => h9) (by show some (va_rf (Option.map ad (mr m0 p0 3))) = _; rw [g31]; rfl) dX1_hear_74 ?_
          refine lv_iload_n hx hb dX1_hear_77 rfl (lv_at hl 3 rfl) ?_
          refine lv_iload_n hx hb dX1_hear_78 rfl (lv_at hl 2 rfl) ?_
          refine lv_iconst (v := 1) hx hb dX1_hear_79 (by decide) ?_
          refine lv_iload hx hb dX1_hear_80 (lv_at hl 5 rfl) ?_
          obtain ⟨g32, h⟩ := vg_if h
          obtain ⟨q33, g34, h⟩ := vg_bind h
          have hFc := vm_free hD hS hA
          refine va_callv (va_runV (As := [.int p2, .int p1, .int 1, .int p4]) (rest := []) ⟨hx, hb, hml, hown, hts⟩ (cm_X2_add (m0 := m0) l D tc ad hO n_y30 g34) (cwV 4 hts gX1_hear_X2_add rfl rfl rfl (by decide +kernel) ⟨(Nat.le_of_ble_eq_true rfl), (Nat.le_of_ble_eq_true rfl)⟩) ⟨qW_blind, va_recv hK hP (ci := 2) (q0 := y30) rfl (vW_k2 n_y30 g32), qW_pre hP hD hK hZ⟩ rfl rfl hl.1 rfl (lv_room (Nat.le_of_ble_eq_true rfl)) dX1_hear_82 ⟨(Nat.le_of_ble_eq_true rfl), (Nat.le_of_ble_eq_true rfl)⟩) hS (fun q9 _ h9 => hFc q9 h9) hFc (fun u t H1 locs ht hvm hw hB hz1 hk1 hS => ?_)
          obtain ⟨hO36, hP1, hK1, hD1⟩ := hB
          rw [ht] at hP1
          have hP := hP1
          have hD := hD1.weaken (fun _ q9 _ h9 => hFc q9.1 h9)
          generalize H1 = H at hP hS ⊢
          have hP : va_P D vwCl (vW tc ad N q33) H := hP
          have hD : va_D A (vW tc ad N q33) := hD
          clear hk1 hz1 ht hvm
          refine lv_goto (tgt := 109) hx hb dX1_hear_85 (by decide) ?_
          have hz := Option.some.inj h
          exact W.vret hx hb hr (fun t ht hW => ⟨⟨(), rfl, trivial, by rw [← hz]; exact hO36, by rw [ht, ← hz]; exact hP, va_K.moved hW.alike hK, by rw [← hz]; exact hD⟩, hS.F ht⟩) hS.2.2 dX1_hear_109
      · rw [if_pos c14] at h
        refine lv_aload_n hx hb dX1_hear_49 rfl (lv_at hl 1 rfl) ?_
        obtain ⟨y37, g38, h⟩ := vg_bind h
        have n_y37 := hO _ _ _ g38
        refine va_get (D := D) (ci := 1) (v := .ref (ad y37)) (C := RX1) (T := TX1) (N := 5) hx hb hts in_X1_hear_X1 hown hK hP p0 (vW_k1 n_p0 g1) rfl 3 (by decide) (hts (.fieldLink RX1 20 "VaultDoors$Vault" "voices" "LVaultDoors$Voices;") (List.mem_of_getElem? (i := 3) rfl)) (fun _ h9 => h9) (by show some (va_rf (Option.map ad (mr m0 p0 3))) = _; rw [g38]; rfl) dX1_hear_50 ?_
        refine lv_iload_n hx hb dX1_hear_53 rfl (lv_at hl 3 rfl) ?_
        refine lv_iload_n hx hb dX1_hear_54 rfl (lv_at hl 2 rfl) ?_
        refine lv_iconst (v := 2) hx hb dX1_hear_55 (by decide) ?_
        refine lv_iload hx hb dX1_hear_56 (lv_at hl 5 rfl) ?_
        obtain ⟨g39, h⟩ := vg_if h
        obtain ⟨q40, g41, h⟩ := vg_bind h
        have hFc := vm_free hD hS hA
        refine va_callv (va_runV (As := [.int p2, .int p1, .int 2, .int p4]) (rest := []) ⟨hx, hb, hml, hown, hts⟩ (cm_X2_add (m0 := m0) l D tc ad hO n_y37 g41) (cwV 4 hts gX1_hear_X2_add rfl rfl rfl (by decide +kernel) ⟨(Nat.le_of_ble_eq_true rfl), (Nat.le_of_ble_eq_true rfl)⟩) ⟨qW_blind, va_recv hK hP (ci := 2) (q0 := y37) rfl (vW_k2 n_y37 g39), qW_pre hP hD hK hZ⟩ rfl rfl hl.1 rfl (lv_room (Nat.le_of_ble_eq_true rfl)) dX1_hear_58 ⟨(Nat.le_of_ble_eq_true rfl), (Nat.le_of_ble_eq_true rfl)⟩) hS (fun q9 _ h9 => hFc q9 h9) hFc (fun u t H1 locs ht hvm hw hB hz1 hk1 hS => ?_)
        obtain ⟨hO43, hP1, hK1, hD1⟩ := hB
        rw [ht] at hP1
        have hP := hP1
        have hD := hD1.weaken (fun _ q9 _ h9 => hFc q9.1 h9)
        generalize H1 = H at hP hS ⊢
        have hP : va_P D vwCl (vW tc ad N q40) H := hP
        have hD : va_D A (vW tc ad N q40) := hD
        clear hk1 hz1 ht hvm
        refine lv_goto (tgt := 109) hx hb dX1_hear_61 (by decide) ?_
        have hz := Option.some.inj h
        exact W.vret hx hb hr (fun t ht hW => ⟨⟨(), rfl, trivial, by rw [← hz]; exact hO43, by rw [ht, ← hz]; exact hP, va_K.moved hW.alike hK, by rw [← hz]; exact hD⟩, hS.F ht⟩) hS.2.2 dX1_hear_109
    · rw [if_neg c12] at h
      refine lv_aload hx hb dX1_hear_21 (lv_at hl 0 rfl) ?_
      refine lv_iload_n hx hb dX1_hear_23 rfl (lv_at hl 2 rfl) ?_
      refine lv_iload_n hx hb dX1_hear_24 rfl (lv_at hl 4 rfl) ?_
      refine lv_iconst (v := 2) hx hb dX1_hear_25 (by decide) ?_
      refine lv_icmp_ne (tgt := 33) hx hb dX1_hear_26 (by decide) (fun c44 => ?_) (fun c44 => ?_)
      · rw [if_neg c44] at h
        refine lv_iconst (v := 0) hx hb dX1_hear_33 (by decide) ?_
        obtain ⟨g45, h⟩ := vg_if h
        obtain ⟨q46, g47, h⟩ := vg_bind h
        have hFc := vm_free hD hS hA
        refine va_callv (va_runV (As := [.int p1, .int 0]) (rest := []) ⟨hx, hb, hml, hown, hts⟩ (cm_X0_takeAnswer (m0 := m0) l D tc ad hO n_y10 g47) (cwV 2 hts gX1_hear_X0_takeAnswer rfl rfl rfl (by decide +kernel) ⟨(Nat.le_of_ble_eq_true rfl), (Nat.le_of_ble_eq_true rfl)⟩) ⟨qW_blind, va_recv hK hP (ci := 0) (q0 := y10) rfl (vW_k0 n_y10 g45), qW_pre hP hD hK hZ⟩ rfl rfl hl.1 rfl (lv_room (Nat.le_of_ble_eq_true rfl)) dX1_hear_34 ⟨(Nat.le_of_ble_eq_true rfl), (Nat.le_of_ble_eq_true rfl)⟩) hS (fun q9 _ h9 => hFc q9 h9) hFc (fun u t H1 locs ht hvm hw hB hz1 hk1 hS => ?_)
        obtain ⟨hO49, hP1, hK1, hD1⟩ := hB
        rw [ht] at hP1
        have hP := hP1
        have hD := hD1.weaken (fun _ q9 _ h9 => hFc q9.1 h9)
        generalize H1 = H at hP hS ⊢
        have hP : va_P D vwCl (vW tc ad N q46) H := hP
        have hD : va_D A (vW tc ad N q46) := hD
        clear hk1 hz1 ht hvm
        refine lv_goto (tgt := 109) hx hb dX1_hear_37 (by decide) ?_
        have hz := Option.some.inj h
        exact W.vret hx hb hr (fun t ht hW => ⟨⟨(), rfl, trivial, by rw [← hz]; exact hO49, by rw [ht, ← hz]; exact hP, va_K.moved hW.alike hK, by rw [← hz]; exact hD⟩, hS.F ht⟩) hS.2.2 dX1_hear_109
      · rw [if_pos c44] at h
        refine lv_iconst (v := 1) hx hb dX1_hear_29 (by decide) ?_
        refine lv_goto (tgt := 34) hx hb dX1_hear_30 (by decide) ?_
        obtain ⟨g50, h⟩ := vg_if h
        obtain ⟨q51, g52, h⟩ := vg_bind h
        have hFc := vm_free hD hS hA
        refine va_callv (va_runV (As := [.int p1, .int 1]) (rest := []) ⟨hx, hb, hml, hown, hts⟩ (cm_X0_takeAnswer (m0 := m0) l D tc ad hO n_y10 g52) (cwV 2 hts gX1_hear_X0_takeAnswer rfl rfl rfl (by decide +kernel) ⟨(Nat.le_of_ble_eq_true rfl), (Nat.le_of_ble_eq_true rfl)⟩) ⟨qW_blind, va_recv hK hP (ci := 0) (q0 := y10) rfl (vW_k0 n_y10 g50), qW_pre hP hD hK hZ⟩ rfl rfl hl.1 rfl (lv_room (Nat.le_of_ble_eq_true rfl)) dX1_hear_34 ⟨(Nat.le_of_ble_eq_true rfl), (Nat.le_of_ble_eq_true rfl)⟩) hS (fun q9 _ h9 => hFc q9 h9) hFc (fun u t H1 locs ht hvm hw hB hz1 hk1 hS => ?_)
        obtain ⟨hO54, hP1, hK1, hD1⟩ := hB
        rw [ht] at hP1
        have hP := hP1
        have hD := hD1.weaken (fun _ q9 _ h9 => hFc q9.1 h9)
        generalize H1 = H at hP hS ⊢
        have hP : va_P D vwCl (vW tc ad N q51) H := hP
        have hD : va_D A (vW tc ad N q51) := hD
        clear hk1 hz1 ht hvm
        refine lv_goto (tgt := 109) hx hb dX1_hear_37 (by decide) ?_
        have hz := Option.some.inj h
        exact W.vret hx hb hr (fun t ht hW => ⟨⟨(), rfl, trivial, by rw [← hz]; exact hO54, by rw [ht, ← hz]; exact hP, va_K.moved hW.alike hK, by rw [← hz]; exact hD⟩, hS.F ht⟩) hS.2.2 dX1_hear_109
  · rw [if_pos c5] at h
    have hz := Option.some.inj h
    exact W.vret hx hb hr (fun t ht hW => ⟨⟨(), rfl, trivial, by rw [← hz]; exact hO, by rw [ht, ← hz]; exact hP, va_K.moved hW.alike hK, by rw [← hz]; exact hD⟩, hS.F ht⟩) hS.2.2 dX1_hear_8

noncomputable def fB_X1_waitOn_47 (rec : Nat → vM → Nat → Int32 → Nat → Int32 → Int32 → Option (Int32 × vM)) (m : vM) (r0 : Nat) (i1 : Int32) (r2 : Nat) (i3 : Int32) (i4 : Int32) : Option (Int32 × vM) :=
  if mk m r2 = 0 then
  if (mi m r2 11) ≤ i4 then (
    Option.bind (f_X0_forget m r2) fun q3 =>
    if i3 = 0 ∨ i3 = 1 then
    some (i3, q3)
    else none
  ) else (
    if mk m r0 = 1 then
    Option.bind (mr m r0 3) fun y9 =>
    Option.bind (mr m r2 12) fun y11 =>
    if mk m y11 = 6 then
    if vin i4 (ml m y11) then
    if i3 = 0 then (
      Option.bind (mr m r2 13) fun y16 =>
      if mk m y16 = 6 then
      if vin i4 (ml m y16) then
      if mk m y9 = 2 then
      Option.bind (f_X2_add m y9 i1 ((mi m y11 i4.toNatClampNeg)) ((1 : Int32)) ((mi m y16 i4.toNatClampNeg))) fun q21 =>
      rec 47 q21 r0 i1 r2 i3 (i4 + 1)
      else none
      else none
      else none
    ) else (
      Option.bind (mr m r2 13) fun y25 =>
      if mk m y25 = 6 then
      if vin i4 (ml m y25) then
      if mk m y9 = 2 then
      Option.bind (f_X2_add m y9 i1 ((mi m y11 i4.toNatClampNeg)) ((2 : Int32)) ((mi m y25 i4.toNatClampNeg))) fun q30 =>
      rec 47 q30 r0 i1 r2 i3 (i4 + 1)
      else none
      else none
      else none
    )
    else none
    else none
    else none
  )
  else none
noncomputable def fL_X1_waitOn (n : Nat) : Nat → vM → Nat → Int32 → Nat → Int32 → Int32 → Option (Int32 × vM) := Nat.rec (fun _ _ _ _ _ _ _ => none) (fun _ rec pc m r0 i1 r2 i3 i4 => if pc = 47 then fB_X1_waitOn_47 rec m r0 i1 r2 i3 i4 else none) n
noncomputable def f_X1_waitOn (m : vM) (p0 : Nat) (p1 : Int32) : Option (Int32 × vM) :=
  if mk m p0 = 1 then
  Option.bind (mr m p0 2) fun y2 =>
  if mk m y2 = 7 then
  if vin p1 (ml m y2) then
  Option.bind (mr m y2 p1.toNatClampNeg) fun y6 =>
  if mk m y6 = 0 then
  Option.bind (f_X0_isReadyToDecide ((mI m y6 4 ((mi m y6 4) - 1))) y6) fun q10 =>
  if q10 = 0 then (
    some ((0 : Int32), (mI m y6 4 ((mi m y6 4) - 1)))
  ) else (
    Option.bind (f_X0_decide ((mI m y6 4 ((mi m y6 4) - 1))) y6) fun q14 =>
    if mk q14 y6 = 0 then
    if (mi q14 y6 3) = 2 then (
      fL_X1_waitOn vF 47 q14 p0 p1 y6 (1 : Int32) (0 : Int32)
    ) else (
      fL_X1_waitOn vF 47 q14 p0 p1 y6 (0 : Int32) (0 : Int32)
    )
    else none
  )
  else none
  else none
  else none
  else none
theorem in_X1_waitOn_X0 : ∀ w ∈ wsX00, w ∈ wsX1_waitOn := by decide +kernel
theorem in_X1_waitOn_X1 : ∀ w ∈ wsX10, w ∈ wsX1_waitOn := by decide +kernel
set_option maxHeartbeats 1000000 in
set_option maxRecDepth 100000 in
theorem cm_X1_waitOn (l : Launch) (D : va_G) (tc : Nat → ClassId) (ad : Nat → Nat) {N : Nat} {m0 : vM} {sz : Nat} {p0 : Nat} {p1 : Int32} (hO : vOK N m0) (n_p0 : p0 < N) {z : Int32 × vM} (h : f_X1_waitOn m0 p0 p1 = some z) : Met l yX1_waitOn wsX1_waitOn ({ frames := 2, cells := 0, slots := 0, locals := 43 } : Room) (va_Pc [.ref (ad p0), .int p1] (qW D tc ad N m0 sz)) (va_Qi (fun (r9 : Int32) (_ : Unit) => r9 = z.1) (fun _ t => vOK N z.2 ∧ pB D (va_A (vW tc ad N m0) sz) (vW tc ad N z.2) (vT tc) t) (va_A (vW tc ad N m0) sz)) 0 0 (va_A (vW tc ad N m0) sz) := by
  refine Met.ofW (cc := cX1_waitOn) (maxL := 5) (ret := (some .boolean)) (by decide) rfl ?_
  intro p e s m args below meth c s₁ B hml hv
  obtain ⟨rfl, hsz, hP, hK, hD0, hZ⟩ := hv
  have hx := B.exec
  have hb := B.bytes
  have hr := B.returns
  have hts := atoms_spec (ws := wsX1_waitOn) B.pre
  have hown : s.vm.findClass RX1 = some m.cls := findClass_of_methodNamed B.named
  have hlocks := B.notSynchronized
  subst hsz
  have hD := hD0.self (sz := s.heap.size)
  generalize hAe : va_A (vW tc ad N m0) s.heap.size = A at hD ⊢
  have hA : ∀ q : Nat, s.heap.size ≤ q → A q := fun q h => by rw [← hAe]; exact Or.inr h
  have hS : va_S A s.heap s.heap [] := va_S.rf
  have hl := lv_entry ([.ref (ad p0), .int p1]) (n := 5) (Nat.le_of_ble_eq_true rfl)
  rw [lg_entry_eq]
  generalize (lg_sl ([.ref (ad p0), .int p1]) ++ List.replicate (5 - (lg_sl ([.ref (ad p0), .int p1])).length) Slot.unset).toArray = ls at hl ⊢
  have hl : lv_has ls 5 [(0, .ref (ad p0)), (1, .int p1)] := hl
  have hL : ∀ n : Nat, (∀ (m1 : vM) (r0 : Nat) (i1 : Int32) (r2 : Nat) (i3 : Int32) (i4 : Int32) (H : Heap) (locs : List Loc) (ls : Array Slot), vOK N m1 → r0 < N → r2 < N → fL_X1_waitOn n 47 m1 r0 i1 r2 i3 i4 = some z → va_P D vwCl (vW tc ad N m1) H → va_D A (vW tc ad N m1) → va_S A s.heap H locs → lv_has ls 5 [(0, .ref (ad r0)), (1, .int i1), (2, .ref (ad r2)), (3, .int i3), (4, .int i4)] → W p l e (headSpec wsX1_waitOn ({ frames := 2, cells := 0, slots := 0, locals := 43 } : Room)).room s m ([.ref (ad p0), .int p1] : List Value).toArray below meth c H locs 0 0 (MQ below (va_Qi (fun (r9 : Int32) (_ : Unit) => r9 = z.1) (fun _ t => vOK N z.2 ∧ pB D A (vW tc ad N z.2) (vT tc) t) A) ([.ref (ad p0), .int p1] : List Value).toArray s 0 0 A) (F0 m 47 ls [])) := by
    intro n
    induction n with
    | zero => exact (fun _ _ _ _ _ _ _ _ _ _ _ _ h9 _ _ _ _ => by have h9 : (none : Option (Int32 × vM)) = some z := h9; cases h9)
    | succ n ih =>
      · intro m1 r0 i1 r2 i3 i4 H locs ls hO n_r0 n_r2 h hP hD hS hl
        have h : fB_X1_waitOn_47 (fL_X1_waitOn n) m1 r0 i1 r2 i3 i4 = some z := h
        unfold fB_X1_waitOn_47 at h
        refine lv_iload hx hb dX1_waitOn_47 (lv_at hl 4 rfl) ?_
        refine lv_aload_n hx hb dX1_waitOn_49 rfl (lv_at hl 2 rfl) ?_
        obtain ⟨g1, h⟩ := vg_if h
        refine va_get (D := D) (ci := 0) (v := .int (mi m1 r2 11)) (C := RX0) (T := TX0) (N := 14) hx hb hts in_X1_waitOn_X0 hown hK hP r2 (vW_k0 n_r2 g1) rfl 11 (by decide) (hts (.fieldLink RX1 124 "VaultDoors$Door" "remembered" "I") (List.mem_of_getElem? (i := 4) rfl)) (fun _ h9 => h9) rfl dX1_waitOn_50 ?_
        refine lv_icmp_ge (tgt := 93) hx hb dX1_waitOn_53 (by decide) (fun c2 => ?_) (fun c2 => ?_)
        · rw [if_pos c2] at h
          refine lv_aload_n hx hb dX1_waitOn_93 rfl (lv_at hl 2 rfl) ?_
          obtain ⟨q3, g4, h⟩ := vg_bind h
          have hFc := vm_free hD hS hA
          refine va_callv (va_runV (As := []) (rest := []) ⟨hx, hb, hml, hown, hts⟩ (cm_X0_forget (m0 := m1) l D tc ad hO n_r2 g4) (cwV 0 hts gX1_waitOn_X0_forget rfl rfl rfl (by decide +kernel) ⟨(Nat.le_of_ble_eq_true rfl), (Nat.le_of_ble_eq_true rfl)⟩) ⟨qW_blind, va_recv hK hP (ci := 0) (q0 := r2) rfl (vW_k0 n_r2 g1), qW_pre hP hD hK hZ⟩ rfl rfl hl.1 rfl (lv_room (Nat.le_of_ble_eq_true rfl)) dX1_waitOn_94 ⟨(Nat.le_of_ble_eq_true rfl), (Nat.le_of_ble_eq_true rfl)⟩) hS (fun q9 _ h9 => hFc q9 h9) hFc (fun u t H1 locs ht hvm hw hB hz1 hk1 hS => ?_)
          obtain ⟨hO6, hP1, hK1, hD1⟩ := hB
          rw [ht] at hP1
          have hP := hP1
          have hD := hD1.weaken (fun _ q9 _ h9 => hFc q9.1 h9)
          generalize H1 = H at hP hS ⊢
          have hP : va_P D vwCl (vW tc ad N q3) H := hP
          have hD : va_D A (vW tc ad N q3) := hD
          clear hk1 hz1 ht hvm
          refine lv_iload_n hx hb dX1_waitOn_97 rfl (lv_at hl 3 rfl) ?_
          obtain ⟨g7, h⟩ := vg_if h
          have hz := Option.some.inj h
          exact W.zret (v := i3) (ty := .boolean) hx hb hr (vm_z g7) (fun t ht hW => ⟨⟨_, (), rfl, by rw [← hz], by rw [← hz]; exact hO6, by rw [ht, ← hz]; exact hP, va_K.moved hW.alike hK, by rw [← hz]; exact hD⟩, hS.F ht⟩) hS.2.2 dX1_waitOn_98
        · rw [if_neg c2] at h
          refine lv_aload_n hx hb dX1_waitOn_56 rfl (lv_at hl 0 rfl) ?_
          obtain ⟨g8, h⟩ := vg_if h
          obtain ⟨y9, g10, h⟩ := vg_bind h
          have n_y9 := hO _ _ _ g10
          refine va_get (D := D) (ci := 1) (v := .ref (ad y9)) (C := RX1) (T := TX1) (N := 5) hx hb hts in_X1_waitOn_X1 hown hK hP r0 (vW_k1 n_r0 g8) rfl 3 (by decide) (hts (.fieldLink RX1 20 "VaultDoors$Vault" "voices" "LVaultDoors$Voices;") (List.mem_of_getElem? (i := 5) rfl)) (fun _ h9 => h9) (by show some (va_rf (Option.map ad (mr m1 r0 3))) = _; rw [g10]; rfl) dX1_waitOn_57 ?_
          refine lv_iload_n hx hb dX1_waitOn_60 rfl (lv_at hl 1 rfl) ?_
          refine lv_aload_n hx hb dX1_waitOn_61 rfl (lv_at hl 2 rfl) ?_
          obtain ⟨y11, g12, h⟩ := vg_bind h
          have n_y11 := hO _ _ _ g12
          refine va_get (D := D) (ci := 0) (v := .ref (ad y11)) (C := RX0) (T := TX0) (N := 14) hx hb hts in_X1_waitOn_X0 hown hK hP r2 (vW_k0 n_r2 g1) rfl 12 (by decide) (hts (.fieldLink RX1 127 "VaultDoors$Door" "asker" "[I") (List.mem_of_getElem? (i := 6) rfl)) (fun _ h9 => h9) (by show some (va_rf (Option.map ad (mr m1 r2 12))) = _; rw [g12]; rfl) dX1_waitOn_62 ?_
          refine lv_iload hx hb dX1_waitOn_65 (lv_at hl 4 rfl) ?_
          obtain ⟨g13, h⟩ := vg_if h
          obtain ⟨g14, h⟩ := vg_if h
          refine va_iald (D := D) hx hb hK hP y11 0 (vW_k6 n_y11 g13) rfl (i := i4) g14 dX1_waitOn_67 ?_
          refine lv_iload_n hx hb dX1_waitOn_68 rfl (lv_at hl 3 rfl) ?_
          refine lv_if_eq (tgt := 76) hx hb dX1_waitOn_69 (by decide) (fun c15 => ?_) (fun c15 => ?_)
          · rw [if_pos c15] at h
            refine lv_iconst (v := 1) hx hb dX1_waitOn_76 (by decide) ?_
            refine lv_aload_n hx hb dX1_waitOn_77 rfl (lv_at hl 2 rfl) ?_
            obtain ⟨y16, g17, h⟩ := vg_bind h
            have n_y16 := hO _ _ _ g17
            refine va_get (D := D) (ci := 0) (v := .ref (ad y16)) (C := RX0) (T := TX0) (N := 14) hx hb hts in_X1_waitOn_X0 hown hK hP r2 (vW_k0 n_r2 g1) rfl 13 (by decide) (hts (.fieldLink RX1 130 "VaultDoors$Door" "askerDistance" "[I") (List.mem_of_getElem? (i := 7) rfl)) (fun _ h9 => h9) (by show some (va_rf (Option.map ad (mr m1 r2 13))) = _; rw [g17]; rfl) dX1_waitOn_78 ?_
            refine lv_iload hx hb dX1_waitOn_81 (lv_at hl 4 rfl) ?_
            obtain ⟨g18, h⟩ := vg_if h
            obtain ⟨g19, h⟩ := vg_if h
            refine va_iald (D := D) hx hb hK hP y16 0 (vW_k6 n_y16 g18) rfl (i := i4) g19 dX1_waitOn_83 ?_
            obtain ⟨g20, h⟩ := vg_if h
            obtain ⟨q21, g22, h⟩ := vg_bind h
            have hFc := vm_free hD hS hA
            refine va_callv (va_runV (As := [.int i1, .int (mi m1 y11 i4.toNatClampNeg), .int 1, .int (mi m1 y16 i4.toNatClampNeg)]) (rest := []) ⟨hx, hb, hml, hown, hts⟩ (cm_X2_add (m0 := m1) l D tc ad hO n_y9 g22) (cwV 4 hts gX1_waitOn_X2_add rfl rfl rfl (by decide +kernel) ⟨(Nat.le_of_ble_eq_true rfl), (Nat.le_of_ble_eq_true rfl)⟩) ⟨qW_blind, va_recv hK hP (ci := 2) (q0 := y9) rfl (vW_k2 n_y9 g20), qW_pre hP hD hK hZ⟩ rfl rfl hl.1 rfl (lv_room (Nat.le_of_ble_eq_true rfl)) dX1_waitOn_84 ⟨(Nat.le_of_ble_eq_true rfl), (Nat.le_of_ble_eq_true rfl)⟩) hS (fun q9 _ h9 => hFc q9 h9) hFc (fun u t H1 locs ht hvm hw hB hz1 hk1 hS => ?_)
            obtain ⟨hO24, hP1, hK1, hD1⟩ := hB
            rw [ht] at hP1
            have hP := hP1
            have hD := hD1.weaken (fun _ q9 _ h9 => hFc q9.1 h9)
            generalize H1 = H at hP hS ⊢
            have hP : va_P D vwCl (vW tc ad N q21) H := hP
            have hD : va_D A (vW tc ad N q21) := hD
            clear hk1 hz1 ht hvm
            refine lv_iinc (v := i4 + 1) (lv' := [(4, .int (i4 + 1)), (0, .ref (ad r0)), (1, .int i1), (2, .ref (ad r2)), (3, .int i3)]) hx hb dX1_waitOn_87 hl (k := 4) rfl rfl (by decide) rfl (fun ls hl => ?_)
            refine lv_goto (tgt := 47) hx hb dX1_waitOn_90 (by decide) ?_
            exact (ih) q21 r0 i1 r2 i3 (i4 + 1) _ _ _ hO24 n_r0 n_r2 h hP hD hS (lv_sub hl (l' := [(0, .ref (ad r0)), (1, .int i1), (2, .ref (ad r2)), (3, .int i3), (4, .int (i4 + 1))]) [1, 2, 3, 4, 0] rfl)
          · rw [if_neg c15] at h
            refine lv_iconst (v := 2) hx hb dX1_waitOn_72 (by decide) ?_
            refine lv_goto (tgt := 77) hx hb dX1_waitOn_73 (by decide) ?_
            refine lv_aload_n hx hb dX1_waitOn_77 rfl (lv_at hl 2 rfl) ?_
            obtain ⟨y25, g26, h⟩ := vg_bind h
            have n_y25 := hO _ _ _ g26
            refine va_get (D := D) (ci := 0) (v := .ref (ad y25)) (C := RX0) (T := TX0) (N := 14) hx hb hts in_X1_waitOn_X0 hown hK hP r2 (vW_k0 n_r2 g1) rfl 13 (by decide) (hts (.fieldLink RX1 130 "VaultDoors$Door" "askerDistance" "[I") (List.mem_of_getElem? (i := 7) rfl)) (fun _ h9 => h9) (by show some (va_rf (Option.map ad (mr m1 r2 13))) = _; rw [g26]; rfl) dX1_waitOn_78 ?_
            refine lv_iload hx hb dX1_waitOn_81 (lv_at hl 4 rfl) ?_
            obtain ⟨g27, h⟩ := vg_if h
            obtain ⟨g28, h⟩ := vg_if h
            refine va_iald (D := D) hx hb hK hP y25 0 (vW_k6 n_y25 g27) rfl (i := i4) g28 dX1_waitOn_83 ?_
            obtain ⟨g29, h⟩ := vg_if h
            obtain ⟨q30, g31, h⟩ := vg_bind h
            have hFc := vm_free hD hS hA
            refine va_callv (va_runV (As := [.int i1, .int (mi m1 y11 i4.toNatClampNeg), .int 2, .int (mi m1 y25 i4.toNatClampNeg)]) (rest := []) ⟨hx, hb, hml, hown, hts⟩ (cm_X2_add (m0 := m1) l D tc ad hO n_y9 g31) (cwV 4 hts gX1_waitOn_X2_add rfl rfl rfl (by decide +kernel) ⟨(Nat.le_of_ble_eq_true rfl), (Nat.le_of_ble_eq_true rfl)⟩) ⟨qW_blind, va_recv hK hP (ci := 2) (q0 := y9) rfl (vW_k2 n_y9 g29), qW_pre hP hD hK hZ⟩ rfl rfl hl.1 rfl (lv_room (Nat.le_of_ble_eq_true rfl)) dX1_waitOn_84 ⟨(Nat.le_of_ble_eq_true rfl), (Nat.le_of_ble_eq_true rfl)⟩) hS (fun q9 _ h9 => hFc q9 h9) hFc (fun u t H1 locs ht hvm hw hB hz1 hk1 hS => ?_)
            obtain ⟨hO33, hP1, hK1, hD1⟩ := hB
            rw [ht] at hP1
            have hP := hP1
            have hD := hD1.weaken (fun _ q9 _ h9 => hFc q9.1 h9)
            generalize H1 = H at hP hS ⊢
            have hP : va_P D vwCl (vW tc ad N q30) H := hP
            have hD : va_D A (vW tc ad N q30) := hD
            clear hk1 hz1 ht hvm
            refine lv_iinc (v := i4 + 1) (lv' := [(4, .int (i4 + 1)), (0, .ref (ad r0)), (1, .int i1), (2, .ref (ad r2)), (3, .int i3)]) hx hb dX1_waitOn_87 hl (k := 4) rfl rfl (by decide) rfl (fun ls hl => ?_)
            refine lv_goto (tgt := 47) hx hb dX1_waitOn_90 (by decide) ?_
            exact (ih) q30 r0 i1 r2 i3 (i4 + 1) _ _ _ hO33 n_r0 n_r2 h hP hD hS (lv_sub hl (l' := [(0, .ref (ad r0)), (1, .int i1), (2, .ref (ad r2)), (3, .int i3), (4, .int (i4 + 1))]) [1, 2, 3, 4, 0] rfl)
  unfold f_X1_waitOn at h
  refine lv_aload_n hx hb dX1_waitOn_0 rfl (lv_at hl 0 rfl) ?_
  obtain ⟨g34, h⟩ := vg_if h
  obtain ⟨y35, g36, h⟩ := vg_bind h
  have n_y35 := hO _ _ _ g36
  refine va_get (D := D) (ci := 1) (v := .ref (ad y35)) (C := RX1) (T := TX1) (N := 5) hx hb hts in_X1_waitOn_X1 hown hK hP p0 (vW_k1 n_p0 g34) rfl 2 (by decide) (hts (.fieldLink RX1 11 "VaultDoors$Vault" "doors" "[LVaultDoors$Door;") (List.mem_of_getElem? (i := 1) rfl)) (fun _ h9 => h9) (by show some (va_rf (Option.map ad (mr m0 p0 2))) = _; rw [g36]; rfl) dX1_waitOn_1 ?_
  refine lv_iload_n hx hb dX1_waitOn_4 rfl (lv_at hl 1 rfl) ?_
  obtain ⟨g37, h⟩ := vg_if h
  obtain ⟨g38, h⟩ := vg_if h
  obtain ⟨y39, g40, h⟩ := vg_bind h
  have n_y39 := hO _ _ _ g40
  refine va_aldq (D := D) hx hb hK hP y35 1 (vW_k7 n_y35 g37) rfl (i := p1) g38 dX1_waitOn_5 ?_
  refine W.eq (g2 := F0 m 6 ls [.ref (ad y39)]) (by show F0 m 6 ls (va_rf (Option.map ad (mr m0 y35 p1.toNatClampNeg)) :: _) = _; rw [g40]; rfl) ?_
  refine lv_astore_n (lv' := [(2, .ref (ad y39)), (0, .ref (ad p0)), (1, .int p1)]) hx hb dX1_waitOn_6 rfl hl (by decide) rfl (fun ls hl => ?_)
  refine lv_aload_n hx hb dX1_waitOn_7 rfl (lv_at hl 0 rfl) ?_
  refine lv_dup hx hb dX1_waitOn_8 rfl ?_
  obtain ⟨g41, h⟩ := vg_if h
  refine va_get (D := D) (ci := 0) (v := .int (mi m0 y39 4)) (C := RX0) (T := TX0) (N := 14) hx hb hts in_X1_waitOn_X0 hown hK hP y39 (vW_k0 n_y39 g41) rfl 4 (by decide) (hts (.fieldLink RX1 114 "VaultDoors$Door" "left" "I") (List.mem_of_getElem? (i := 2) rfl)) (fun _ h9 => h9) rfl dX1_waitOn_9 ?_
  refine lv_iconst (v := 1) hx hb dX1_waitOn_12 (by decide) ?_
  refine lv_isub hx hb dX1_waitOn_13 ?_
  refine va_put (D := D) (ci := 0) (v := .int ((mi m0 y39 4) - 1)) (ty := .int) (C := RX0) (T := TX0) (N := 14) hx hb hts in_X1_waitOn_X0 tyX0 tyX0_ok nmX0 hown hK hP hD hS y39 (vW_k0 n_y39 g41) rfl 4 (by decide) (hts (.fieldLink RX1 114 "VaultDoors$Door" "left" "I") (List.mem_of_getElem? (i := 2) rfl)) (fun _ h9 => h9) rfl (by decide +kernel) rfl rfl (Nat.le_of_ble_eq_true rfl) dX1_waitOn_14 (fun H locs hP hD hS => ?_)
  have hO42 := vOK.I (a := y39) (j := 4) (v := ((mi m0 y39 4) - 1)) hO
  rw [vW_p0_4 (m := m0) n_y39 g41] at hP hD
  have hP : va_P D vwCl (vW tc ad N ((mI m0 y39 4 ((mi m0 y39 4) - 1)))) H := hP
  have hD : va_D A (vW tc ad N ((mI m0 y39 4 ((mi m0 y39 4) - 1)))) := hD
  refine lv_aload_n hx hb dX1_waitOn_17 rfl (lv_at hl 0 rfl) ?_
  obtain ⟨q43, g44, h⟩ := vg_bind h
  refine va_calli (va_runV (As := []) (rest := []) ⟨hx, hb, hml, hown, hts⟩ (cm_X0_isReadyToDecide (m0 := (mI m0 y39 4 ((mi m0 y39 4) - 1))) l D tc ad hO42 n_y39 g44) (cwV 0 hts gX1_waitOn_X0_isReadyToDecide rfl rfl rfl (by decide +kernel) ⟨(Nat.le_of_ble_eq_true rfl), (Nat.le_of_ble_eq_true rfl)⟩) ⟨qR_blind, va_recv hK hP (ci := 0) (q0 := y39) rfl (vW_k0 n_y39 g41), qR_pre hP hK hZ⟩ rfl rfl hl.1 rfl (lv_room (Nat.le_of_ble_eq_true rfl)) dX1_waitOn_18 ⟨(Nat.le_of_ble_eq_true rfl), (Nat.le_of_ble_eq_true rfl)⟩) hS (fun q9 _ h9 => h9.elim) (fun q9 h9 => h9.elim) (fun w45 u t H1 locs ht hvm hw hB hz1 hk1 hS => ?_)
  have hP := hP.kept (fun k9 q9 hk9 => hk1 q9.1 (hP k9 q9 hk9).lt (fun h9 => h9))
  generalize H1 = H at hP hS ⊢
  clear hk1 hz1 ht hvm
  have hw : w45 = q43 := hw
  rw [hw]
  refine lv_if_ne (tgt := 26) hx hb dX1_waitOn_21 (by decide) (fun c46 => ?_) (fun c46 => ?_)
  · rw [if_neg c46] at h
    refine lv_aload_n hx hb dX1_waitOn_26 rfl (lv_at hl 0 rfl) ?_
    obtain ⟨q47, g48, h⟩ := vg_bind h
    have hFc := vm_free hD hS hA
    refine va_callv (va_runV (As := []) (rest := []) ⟨hx, hb, hml, hown, hts⟩ (cm_X0_decide (m0 := (mI m0 y39 4 ((mi m0 y39 4) - 1))) l D tc ad hO42 n_y39 g48) (cwV 0 hts gX1_waitOn_X0_decide rfl rfl rfl (by decide +kernel) ⟨(Nat.le_of_ble_eq_true rfl), (Nat.le_of_ble_eq_true rfl)⟩) ⟨qW_blind, va_recv hK hP (ci := 0) (q0 := y39) rfl (vW_k0 n_y39 g41), qW_pre hP hD hK hZ⟩ rfl rfl hl.1 rfl (lv_room (Nat.le_of_ble_eq_true rfl)) dX1_waitOn_27 ⟨(Nat.le_of_ble_eq_true rfl), (Nat.le_of_ble_eq_true rfl)⟩) hS (fun q9 _ h9 => hFc q9 h9) hFc (fun u t H1 locs ht hvm hw hB hz1 hk1 hS => ?_)
    obtain ⟨hO50, hP1, hK1, hD1⟩ := hB
    rw [ht] at hP1
    have hP := hP1
    have hD := hD1.weaken (fun _ q9 _ h9 => hFc q9.1 h9)
    generalize H1 = H at hP hS ⊢
    have hP : va_P D vwCl (vW tc ad N q47) H := hP
    have hD : va_D A (vW tc ad N q47) := hD
    clear hk1 hz1 ht hvm
    refine lv_aload_n hx hb dX1_waitOn_30 rfl (lv_at hl 0 rfl) ?_
    obtain ⟨g51, h⟩ := vg_if h
    refine va_get (D := D) (ci := 0) (v := .int (mi q47 y39 3)) (C := RX0) (T := TX0) (N := 14) hx hb hts in_X1_waitOn_X0 hown hK hP y39 (vW_k0 n_y39 g51) rfl 3 (by decide) (hts (.fieldLink RX1 55 "VaultDoors$Door" "state" "I") (List.mem_of_getElem? (i := 3) rfl)) (fun _ h9 => h9) rfl dX1_waitOn_31 ?_
    refine lv_iconst (v := 2) hx hb dX1_waitOn_34 (by decide) ?_
    refine lv_icmp_ne (tgt := 42) hx hb dX1_waitOn_35 (by decide) (fun c52 => ?_) (fun c52 => ?_)
    · rw [if_neg c52] at h
      refine lv_iconst (v := 0) hx hb dX1_waitOn_42 (by decide) ?_
      refine lv_istore_n (lv' := [(3, .int 0), (2, .ref (ad y39)), (0, .ref (ad p0)), (1, .int p1)]) hx hb dX1_waitOn_43 rfl hl (by decide) rfl (fun ls hl => ?_)
      refine lv_iconst (v := 0) hx hb dX1_waitOn_44 (by decide) ?_
      refine lv_istore (lv' := [(4, .int 0), (3, .int 0), (2, .ref (ad y39)), (0, .ref (ad p0)), (1, .int p1)]) hx hb dX1_waitOn_45 hl (by decide) rfl (fun ls hl => ?_)
      exact ((hL vF)) q47 p0 p1 y39 (0 : Int32) (0 : Int32) _ _ _ hO50 n_p0 n_y39 h hP hD hS (lv_sub hl (l' := [(0, .ref (ad p0)), (1, .int p1), (2, .ref (ad y39)), (3, .int 0), (4, .int 0)]) [3, 4, 2, 1, 0] rfl)
    · rw [if_pos c52] at h
      refine lv_iconst (v := 1) hx hb dX1_waitOn_38 (by decide) ?_
      refine lv_goto (tgt := 43) hx hb dX1_waitOn_39 (by decide) ?_
      refine lv_istore_n (lv' := [(3, .int 1), (2, .ref (ad y39)), (0, .ref (ad p0)), (1, .int p1)]) hx hb dX1_waitOn_43 rfl hl (by decide) rfl (fun ls hl => ?_)
      refine lv_iconst (v := 0) hx hb dX1_waitOn_44 (by decide) ?_
      refine lv_istore (lv' := [(4, .int 0), (3, .int 1), (2, .ref (ad y39)), (0, .ref (ad p0)), (1, .int p1)]) hx hb dX1_waitOn_45 hl (by decide) rfl (fun ls hl => ?_)
      exact ((hL vF)) q47 p0 p1 y39 (1 : Int32) (0 : Int32) _ _ _ hO50 n_p0 n_y39 h hP hD hS (lv_sub hl (l' := [(0, .ref (ad p0)), (1, .int p1), (2, .ref (ad y39)), (3, .int 1), (4, .int 0)]) [3, 4, 2, 1, 0] rfl)
  · rw [if_pos c46] at h
    refine lv_iconst (v := 0) hx hb dX1_waitOn_24 (by decide) ?_
    have hz := Option.some.inj h
    exact W.zret (v := 0) (ty := .boolean) hx hb hr (by decide) (fun t ht hW => ⟨⟨_, (), rfl, by rw [← hz], by rw [← hz]; exact hO42, by rw [ht, ← hz]; exact hP, va_K.moved hW.alike hK, by rw [← hz]; exact hD⟩, hS.F ht⟩) hS.2.2 dX1_waitOn_25

noncomputable def fB_X1_tickOn_2 (rec : Nat → vM → Nat → Int32 → Int32 → Option (Int32 × vM)) (m : vM) (r0 : Nat) (i1 : Int32) (i2 : Int32) : Option (Int32 × vM) :=
  if mk m r0 = 1 then
  if (mi m r0 1) ≤ i1 then (
    Option.bind (mr m r0 3) fun y3 =>
    Option.bind (mr m r0 4) fun y5 =>
    if mk m y3 = 2 then
    Option.bind (f_X2_moveOn m y3 y5) fun q8 =>
    rec 38 q8 r0 (0 : Int32) 0
    else none
  ) else (
    Option.bind (mr m r0 2) fun y12 =>
    if mk m y12 = 7 then
    if vin i1 (ml m y12) then
    Option.bind (mr m y12 i1.toNatClampNeg) fun y16 =>
    if mk m y16 = 0 then
    Option.bind (f_X0_spendTime m y16) fun q19 =>
    rec 2 q19 r0 (i1 + 1) 0
    else none
    else none
    else none
  )
  else none
noncomputable def fB_X1_tickOn_38 (rec : Nat → vM → Nat → Int32 → Int32 → Option (Int32 × vM)) (m : vM) (r0 : Nat) (i1 : Int32) (i2 : Int32) : Option (Int32 × vM) :=
  if mk m r0 = 1 then
  Option.bind (mr m r0 4) fun y2 =>
  if mk m y2 = 2 then
  if (mi m y2 0) ≤ i1 then (
    rec 99 m r0 (0 : Int32) (0 : Int32)
  ) else (
    Option.bind (mr m r0 4) fun y6 =>
    if mk m y6 = 2 then
    Option.bind (mr m y6 2) fun y9 =>
    if mk m y9 = 6 then
    if vin i1 (ml m y9) then
    Option.bind (mr m r0 4) fun y13 =>
    if mk m y13 = 2 then
    Option.bind (mr m y13 3) fun y16 =>
    if mk m y16 = 6 then
    if vin i1 (ml m y16) then
    Option.bind (mr m r0 4) fun y20 =>
    if mk m y20 = 2 then
    Option.bind (mr m y20 4) fun y23 =>
    if mk m y23 = 6 then
    if vin i1 (ml m y23) then
    Option.bind (mr m r0 4) fun y27 =>
    if mk m y27 = 2 then
    Option.bind (mr m y27 6) fun y30 =>
    if mk m y30 = 6 then
    if vin i1 (ml m y30) then
    Option.bind (f_X1_hear m r0 ((mi m y9 i1.toNatClampNeg)) ((mi m y16 i1.toNatClampNeg)) ((mi m y23 i1.toNatClampNeg)) ((mi m y30 i1.toNatClampNeg))) fun q34 =>
    rec 38 q34 r0 (i1 + 1) 0
    else none
    else none
    else none
    else none
    else none
    else none
    else none
    else none
    else none
    else none
    else none
    else none
  )
  else none
  else none
noncomputable def fB_X1_tickOn_99 (rec : Nat → vM → Nat → Int32 → Int32 → Option (Int32 × vM)) (m : vM) (r0 : Nat) (i1 : Int32) (i2 : Int32) : Option (Int32 × vM) :=
  if mk m r0 = 1 then
  if (mi m r0 1) ≤ i2 then (
    some (i1, (mI m r0 0 ((mi m r0 0) + 1)))
  ) else (
    Option.bind (mr m r0 2) fun y4 =>
    if mk m y4 = 7 then
    if vin i2 (ml m y4) then
    Option.bind (mr m y4 i2.toNatClampNeg) fun y8 =>
    if mk m y8 = 0 then
    if (mi m y8 3) = 1 then (
      Option.bind (f_X1_waitOn m r0 i2) fun q12 =>
      if q12.1 = 0 then (
        rec 99 q12.2 r0 i1 (i2 + 1)
      ) else (
        rec 99 q12.2 r0 (i1 + 1) (i2 + 1)
      )
    ) else (
      rec 99 m r0 i1 (i2 + 1)
    )
    else none
    else none
    else none
  )
  else none
noncomputable def fL_X1_tickOn (n : Nat) : Nat → vM → Nat → Int32 → Int32 → Option (Int32 × vM) := Nat.rec (fun _ _ _ _ _ => none) (fun _ rec pc m r0 i1 i2 => if pc = 2 then fB_X1_tickOn_2 rec m r0 i1 i2 else if pc = 38 then fB_X1_tickOn_38 rec m r0 i1 i2 else if pc = 99 then fB_X1_tickOn_99 rec m r0 i1 i2 else none) n
noncomputable def f_X1_tickOn (m : vM) (p0 : Nat) : Option (Int32 × vM) :=
  fL_X1_tickOn vF 2 m p0 (0 : Int32) 0
theorem in_X1_tickOn_X0 : ∀ w ∈ wsX00, w ∈ wsX1_tickOn := by decide +kernel
theorem in_X1_tickOn_X1 : ∀ w ∈ wsX10, w ∈ wsX1_tickOn := by decide +kernel
theorem in_X1_tickOn_X2 : ∀ w ∈ wsX20, w ∈ wsX1_tickOn := by decide +kernel
set_option maxHeartbeats 1000000 in
set_option maxRecDepth 100000 in
theorem cm_X1_tickOn (l : Launch) (D : va_G) (tc : Nat → ClassId) (ad : Nat → Nat) {N : Nat} {m0 : vM} {sz : Nat} {p0 : Nat} (hO : vOK N m0) (n_p0 : p0 < N) {z : Int32 × vM} (h : f_X1_tickOn m0 p0 = some z) : Met l yX1_tickOn wsX1_tickOn ({ frames := 3, cells := 0, slots := 0, locals := 72 } : Room) (va_Pc [.ref (ad p0)] (qW D tc ad N m0 sz)) (va_Qi (fun (r9 : Int32) (_ : Unit) => r9 = z.1) (fun _ t => vOK N z.2 ∧ pB D (va_A (vW tc ad N m0) sz) (vW tc ad N z.2) (vT tc) t) (va_A (vW tc ad N m0) sz)) 0 0 (va_A (vW tc ad N m0) sz) := by
  refine Met.ofW (cc := cX1_tickOn) (maxL := 3) (ret := (some .int)) (by decide) rfl ?_
  intro p e s m args below meth c s₁ B hml hv
  obtain ⟨rfl, hsz, hP, hK, hD0, hZ⟩ := hv
  have hx := B.exec
  have hb := B.bytes
  have hr := B.returns
  have hts := atoms_spec (ws := wsX1_tickOn) B.pre
  have hown : s.vm.findClass RX1 = some m.cls := findClass_of_methodNamed B.named
  have hlocks := B.notSynchronized
  subst hsz
  have hD := hD0.self (sz := s.heap.size)
  generalize hAe : va_A (vW tc ad N m0) s.heap.size = A at hD ⊢
  have hA : ∀ q : Nat, s.heap.size ≤ q → A q := fun q h => by rw [← hAe]; exact Or.inr h
  have hS : va_S A s.heap s.heap [] := va_S.rf
  have hl := lv_entry ([.ref (ad p0)]) (n := 3) (Nat.le_of_ble_eq_true rfl)
  rw [lg_entry_eq]
  generalize (lg_sl ([.ref (ad p0)]) ++ List.replicate (3 - (lg_sl ([.ref (ad p0)])).length) Slot.unset).toArray = ls at hl ⊢
  have hl : lv_has ls 3 [(0, .ref (ad p0))] := hl
  have hL : ∀ n : Nat, (∀ (m1 : vM) (r0 : Nat) (i1 : Int32) (H : Heap) (locs : List Loc) (ls : Array Slot), vOK N m1 → r0 < N → fL_X1_tickOn n 2 m1 r0 i1 0 = some z → va_P D vwCl (vW tc ad N m1) H → va_D A (vW tc ad N m1) → va_S A s.heap H locs → lv_has ls 3 [(0, .ref (ad r0)), (1, .int i1)] → W p l e (headSpec wsX1_tickOn ({ frames := 3, cells := 0, slots := 0, locals := 72 } : Room)).room s m ([.ref (ad p0)] : List Value).toArray below meth c H locs 0 0 (MQ below (va_Qi (fun (r9 : Int32) (_ : Unit) => r9 = z.1) (fun _ t => vOK N z.2 ∧ pB D A (vW tc ad N z.2) (vT tc) t) A) ([.ref (ad p0)] : List Value).toArray s 0 0 A) (F0 m 2 ls [])) ∧ (∀ (m1 : vM) (r0 : Nat) (i1 : Int32) (H : Heap) (locs : List Loc) (ls : Array Slot), vOK N m1 → r0 < N → fL_X1_tickOn n 38 m1 r0 i1 0 = some z → va_P D vwCl (vW tc ad N m1) H → va_D A (vW tc ad N m1) → va_S A s.heap H locs → lv_has ls 3 [(0, .ref (ad r0)), (1, .int i1)] → W p l e (headSpec wsX1_tickOn ({ frames := 3, cells := 0, slots := 0, locals := 72 } : Room)).room s m ([.ref (ad p0)] : List Value).toArray below meth c H locs 0 0 (MQ below (va_Qi (fun (r9 : Int32) (_ : Unit) => r9 = z.1) (fun _ t => vOK N z.2 ∧ pB D A (vW tc ad N z.2) (vT tc) t) A) ([.ref (ad p0)] : List Value).toArray s 0 0 A) (F0 m 38 ls [])) ∧ (∀ (m1 : vM) (r0 : Nat) (i1 : Int32) (i2 : Int32) (H : Heap) (locs : List Loc) (ls : Array Slot), vOK N m1 → r0 < N → fL_X1_tickOn n 99 m1 r0 i1 i2 = some z → va_P D vwCl (vW tc ad N m1) H → va_D A (vW tc ad N m1) → va_S A s.heap H locs → lv_has ls 3 [(0, .ref (ad r0)), (1, .int i1), (2, .int i2)] → W p l e (headSpec wsX1_tickOn ({ frames := 3, cells := 0, slots := 0, locals := 72 } : Room)).room s m ([.ref (ad p0)] : List Value).toArray below meth c H locs 0 0 (MQ below (va_Qi (fun (r9 : Int32) (_ : Unit) => r9 = z.1) (fun _ t => vOK N z.2 ∧ pB D A (vW tc ad N z.2) (vT tc) t) A) ([.ref (ad p0)] : List Value).toArray s 0 0 A) (F0 m 99 ls [])) := by
    intro n
    induction n with
    | zero => exact ⟨(fun _ _ _ _ _ _ _ _ h9 _ _ _ _ => by have h9 : (none : Option (Int32 × vM)) = some z := h9; cases h9), (fun _ _ _ _ _ _ _ _ h9 _ _ _ _ => by have h9 : (none : Option (Int32 × vM)) = some z := h9; cases h9), (fun _ _ _ _ _ _ _ _ _ h9 _ _ _ _ => by have h9 : (none : Option (Int32 × vM)) = some z := h9; cases h9)⟩
    | succ n ih =>
      refine ⟨?_, ?_, ?_⟩
      · intro m1 r0 i1 H locs ls hO n_r0 h hP hD hS hl
        have h : fB_X1_tickOn_2 (fL_X1_tickOn n) m1 r0 i1 0 = some z := h
        unfold fB_X1_tickOn_2 at h
        refine lv_iload_n hx hb dX1_tickOn_2 rfl (lv_at hl 1 rfl) ?_
        refine lv_aload_n hx hb dX1_tickOn_3 rfl (lv_at hl 0 rfl) ?_
        obtain ⟨g1, h⟩ := vg_if h
        refine va_get (D := D) (ci := 1) (v := .int (mi m1 r0 1)) (C := RX1) (T := TX1) (N := 5) hx hb hts in_X1_tickOn_X1 hown hK hP r0 (vW_k1 n_r0 g1) rfl 1 (by decide) (hts (.fieldLink RX1 32 "VaultDoors$Vault" "doorCount" "I") (List.mem_of_getElem? (i := 1) rfl)) (fun _ h9 => h9) rfl dX1_tickOn_4 ?_
        refine lv_icmp_ge (tgt := 25) hx hb dX1_tickOn_7 (by decide) (fun c2 => ?_) (fun c2 => ?_)
        · rw [if_pos c2] at h
          refine lv_aload_n hx hb dX1_tickOn_25 rfl (lv_at hl 0 rfl) ?_
          obtain ⟨y3, g4, h⟩ := vg_bind h
          have n_y3 := hO _ _ _ g4
          refine va_get (D := D) (ci := 1) (v := .ref (ad y3)) (C := RX1) (T := TX1) (N := 5) hx hb hts in_X1_tickOn_X1 hown hK hP r0 (vW_k1 n_r0 g1) rfl 3 (by decide) (hts (.fieldLink RX1 20 "VaultDoors$Vault" "voices" "LVaultDoors$Voices;") (List.mem_of_getElem? (i := 3) rfl)) (fun _ h9 => h9) (by show some (va_rf (Option.map ad (mr m1 r0 3))) = _; rw [g4]; rfl) dX1_tickOn_26 ?_
          refine lv_aload_n hx hb dX1_tickOn_29 rfl (lv_at hl 0 rfl) ?_
          obtain ⟨y5, g6, h⟩ := vg_bind h
          have n_y5 := hO _ _ _ g6
          refine va_get (D := D) (ci := 1) (v := .ref (ad y5)) (C := RX1) (T := TX1) (N := 5) hx hb hts in_X1_tickOn_X1 hown hK hP r0 (vW_k1 n_r0 g1) rfl 4 (by decide) (hts (.fieldLink RX1 24 "VaultDoors$Vault" "arrived" "LVaultDoors$Voices;") (List.mem_of_getElem? (i := 4) rfl)) (fun _ h9 => h9) (by show some (va_rf (Option.map ad (mr m1 r0 4))) = _; rw [g6]; rfl) dX1_tickOn_30 ?_
          obtain ⟨g7, h⟩ := vg_if h
          obtain ⟨q8, g9, h⟩ := vg_bind h
          have hFc := vm_free hD hS hA
          refine va_callv (va_runV (As := [.ref (ad y5)]) (rest := []) ⟨hx, hb, hml, hown, hts⟩ (cm_X2_moveOn (m0 := m1) l D tc ad hO n_y3 n_y5 g9) (cwV 1 hts gX1_tickOn_X2_moveOn rfl rfl rfl (by decide +kernel) ⟨(Nat.le_of_ble_eq_true rfl), (Nat.le_of_ble_eq_true rfl)⟩) ⟨qW_blind, va_recv hK hP (ci := 2) (q0 := y3) rfl (vW_k2 n_y3 g7), qW_pre hP hD hK hZ⟩ rfl rfl hl.1 rfl (lv_room (Nat.le_of_ble_eq_true rfl)) dX1_tickOn_33 ⟨(Nat.le_of_ble_eq_true rfl), (Nat.le_of_ble_eq_true rfl)⟩) hS (fun q9 _ h9 => hFc q9 h9) hFc (fun u t H1 locs ht hvm hw hB hz1 hk1 hS => ?_)
          obtain ⟨hO11, hP1, hK1, hD1⟩ := hB
          rw [ht] at hP1
          have hP := hP1
          have hD := hD1.weaken (fun _ q9 _ h9 => hFc q9.1 h9)
          generalize H1 = H at hP hS ⊢
          have hP : va_P D vwCl (vW tc ad N q8) H := hP
          have hD : va_D A (vW tc ad N q8) := hD
          clear hk1 hz1 ht hvm
          refine lv_iconst (v := 0) hx hb dX1_tickOn_36 (by decide) ?_
          refine lv_istore_n (lv' := [(1, .int 0), (0, .ref (ad r0))]) hx hb dX1_tickOn_37 rfl hl (by decide) rfl (fun ls hl => ?_)
          exact (ih.2.1) q8 r0 (0 : Int32) _ _ _ hO11 n_r0 h hP hD hS (lv_sub hl (l' := [(0, .ref (ad r0)), (1, .int 0)]) [1, 0] rfl)
        · rw [if_neg c2] at h
          refine lv_aload_n hx hb dX1_tickOn_10 rfl (lv_at hl 0 rfl) ?_
          obtain ⟨y12, g13, h⟩ := vg_bind h
          have n_y12 := hO _ _ _ g13
          refine va_get (D := D) (ci := 1) (v := .ref (ad y12)) (C := RX1) (T := TX1) (N := 5) hx hb hts in_X1_tickOn_X1 hown hK hP r0 (vW_k1 n_r0 g1) rfl 2 (by decide) (hts (.fieldLink RX1 11 "VaultDoors$Vault" "doors" "[LVaultDoors$Door;") (List.mem_of_getElem? (i := 2) rfl)) (fun _ h9 => h9) (by show some (va_rf (Option.map ad (mr m1 r0 2))) = _; rw [g13]; rfl) dX1_tickOn_11 ?_
          refine lv_iload_n hx hb dX1_tickOn_14 rfl (lv_at hl 1 rfl) ?_
          obtain ⟨g14, h⟩ := vg_if h
          obtain ⟨g15, h⟩ := vg_if h
          obtain ⟨y16, g17, h⟩ := vg_bind h
          have n_y16 := hO _ _ _ g17
          refine va_aldq (D := D) hx hb hK hP y12 1 (vW_k7 n_y12 g14) rfl (i := i1) g15 dX1_tickOn_15 ?_
          refine W.eq (g2 := F0 m 16 ls [.ref (ad y16)]) (by show F0 m 16 ls (va_rf (Option.map ad (mr m1 y12 i1.toNatClampNeg)) :: _) = _; rw [g17]; rfl) ?_
          obtain ⟨g18, h⟩ := vg_if h
          obtain ⟨q19, g20, h⟩ := vg_bind h
          have hFc := vm_free hD hS hA
          refine va_callv (va_runV (As := []) (rest := []) ⟨hx, hb, hml, hown, hts⟩ (cm_X0_spendTime (m0 := m1) l D tc ad hO n_y16 g20) (cwV 0 hts gX1_tickOn_X0_spendTime rfl rfl rfl (by decide +kernel) ⟨(Nat.le_of_ble_eq_true rfl), (Nat.le_of_ble_eq_true rfl)⟩) ⟨qW_blind, va_recv hK hP (ci := 0) (q0 := y16) rfl (vW_k0 n_y16 g18), qW_pre hP hD hK hZ⟩ rfl rfl hl.1 rfl (lv_room (Nat.le_of_ble_eq_true rfl)) dX1_tickOn_16 ⟨(Nat.le_of_ble_eq_true rfl), (Nat.le_of_ble_eq_true rfl)⟩) hS (fun q9 _ h9 => hFc q9 h9) hFc (fun u t H1 locs ht hvm hw hB hz1 hk1 hS => ?_)
          obtain ⟨hO22, hP1, hK1, hD1⟩ := hB
          rw [ht] at hP1
          have hP := hP1
          have hD := hD1.weaken (fun _ q9 _ h9 => hFc q9.1 h9)
          generalize H1 = H at hP hS ⊢
          have hP : va_P D vwCl (vW tc ad N q19) H := hP
          have hD : va_D A (vW tc ad N q19) := hD
          clear hk1 hz1 ht hvm
          refine lv_iinc (v := i1 + 1) (lv' := [(1, .int (i1 + 1)), (0, .ref (ad r0))]) hx hb dX1_tickOn_19 hl (k := 1) rfl rfl (by decide) rfl (fun ls hl => ?_)
          refine lv_goto (tgt := 2) hx hb dX1_tickOn_22 (by decide) ?_
          exact (ih.1) q19 r0 (i1 + 1) _ _ _ hO22 n_r0 h hP hD hS (lv_sub hl (l' := [(0, .ref (ad r0)), (1, .int (i1 + 1))]) [1, 0] rfl)
      · intro m1 r0 i1 H locs ls hO n_r0 h hP hD hS hl
        have h : fB_X1_tickOn_38 (fL_X1_tickOn n) m1 r0 i1 0 = some z := h
        unfold fB_X1_tickOn_38 at h
        refine lv_iload_n hx hb dX1_tickOn_38 rfl (lv_at hl 1 rfl) ?_
        refine lv_aload_n hx hb dX1_tickOn_39 rfl (lv_at hl 0 rfl) ?_
        obtain ⟨g23, h⟩ := vg_if h
        obtain ⟨y24, g25, h⟩ := vg_bind h
        have n_y24 := hO _ _ _ g25
        refine va_get (D := D) (ci := 1) (v := .ref (ad y24)) (C := RX1) (T := TX1) (N := 5) hx hb hts in_X1_tickOn_X1 hown hK hP r0 (vW_k1 n_r0 g23) rfl 4 (by decide) (hts (.fieldLink RX1 24 "VaultDoors$Vault" "arrived" "LVaultDoors$Voices;") (List.mem_of_getElem? (i := 4) rfl)) (fun _ h9 => h9) (by show some (va_rf (Option.map ad (mr m1 r0 4))) = _; rw [g25]; rfl) dX1_tickOn_40 ?_
        obtain ⟨g26, h⟩ := vg_if h
        refine va_get (D := D) (ci := 2) (v := .int (mi m1 y24 0)) (C := RX2) (T := TX2) (N := 7) hx hb hts in_X1_tickOn_X2 hown hK hP y24 (vW_k2 n_y24 g26) rfl 0 (by decide) (hts (.fieldLink RX1 71 "VaultDoors$Voices" "size" "I") (List.mem_of_getElem? (i := 5) rfl)) (fun _ h9 => h9) rfl dX1_tickOn_43 ?_
        refine lv_icmp_ge (tgt := 95) hx hb dX1_tickOn_46 (by decide) (fun c27 => ?_) (fun c27 => ?_)
        · rw [if_pos c27] at h
          refine lv_iconst (v := 0) hx hb dX1_tickOn_95 (by decide) ?_
          refine lv_istore_n (lv' := [(1, .int 0), (0, .ref (ad r0))]) hx hb dX1_tickOn_96 rfl hl (by decide) rfl (fun ls hl => ?_)
          refine lv_iconst (v := 0) hx hb dX1_tickOn_97 (by decide) ?_
          refine lv_istore_n (lv' := [(2, .int 0), (1, .int 0), (0, .ref (ad r0))]) hx hb dX1_tickOn_98 rfl hl (by decide) rfl (fun ls hl => ?_)
          exact (ih.2.2) m1 r0 (0 : Int32) (0 : Int32) _ _ _ hO n_r0 h hP hD hS (lv_sub hl (l' := [(0, .ref (ad r0)), (1, .int 0), (2, .int 0)]) [2, 1, 0] rfl)
        · rw [if_neg c27] at h
          refine lv_aload_n hx hb dX1_tickOn_49 rfl (lv_at hl 0 rfl) ?_
          refine lv_aload_n hx hb dX1_tickOn_50 rfl (lv_at hl 0 rfl) ?_
          obtain ⟨y28, g29, h⟩ := vg_bind h
          have n_y28 := hO _ _ _ g29
          refine va_get (D := D) (ci := 1) (v := .ref (ad y28)) (C := RX1) (T := TX1) (N := 5) hx hb hts in_X1_tickOn_X1 hown hK hP r0 (vW_k1 n_r0 g23) rfl 4 (by decide) (hts (.fieldLink RX1 24 "VaultDoors$Vault" "arrived" "LVaultDoors$Voices;") (List.mem_of_getElem? (i := 4) rfl)) (fun _ h9 => h9) (by show some (va_rf (Option.map ad (mr m1 r0 4))) = _; rw [g29]; rfl) dX1_tickOn_51 ?_
          obtain ⟨g30, h⟩ := vg_if h
          obtain ⟨y31, g32, h⟩ := vg_bind h
          have n_y31 := hO _ _ _ g32
          refine va_get (D := D) (ci := 2) (v := .ref (ad y31)) (C := RX2) (T := TX2) (N := 7) hx hb hts in_X1_tickOn_X2 hown hK hP y28 (vW_k2 n_y28 g30) rfl 2 (by decide) (hts (.fieldLink RX1 74 "VaultDoors$Voices" "from" "[I") (List.mem_of_getElem? (i := 6) rfl)) (fun _ h9 => h9) (by show some (va_rf (Option.map ad (mr m1 y28 2))) = _; rw [g32]; rfl) dX1_tickOn_54 ?_
          refine lv_iload_n hx hb dX1_tickOn_57 rfl (lv_at hl 1 rfl) ?_
          obtain ⟨g33, h⟩ := vg_if h
          obtain ⟨g34, h⟩ := vg_if h
          refine va_iald (D := D) hx hb hK hP y31 0 (vW_k6 n_y31 g33) rfl (i := i1) g34 dX1_tickOn_58 ?_
          refine lv_aload_n hx hb dX1_tickOn_59 rfl (lv_at hl 0 rfl) ?_
          obtain ⟨y35, g36, h⟩ := vg_bind h
          have n_y35 := hO _ _ _ g36
          refine va_get (D := D) (ci := 1) (v := .ref (ad y35)) (C := RX1) (T := TX1) (N := 5) hx hb hts in_X1_tickOn_X1 hown hK hP r0 (vW_k1 n_r0 g23) rfl 4 (by decide) (hts (.fieldLink RX1 24 "VaultDoors$Vault" "arrived" "LVaultDoors$Voices;") (List.mem_of_getElem? (i := 4) rfl)) (fun _ h9 => h9) (by show some (va_rf (Option.map ad (mr m1 r0 4))) = _; rw [g36]; rfl) dX1_tickOn_60 ?_
          obtain ⟨g37, h⟩ := vg_if h
          obtain ⟨y38, g39, h⟩ := vg_bind h
          have n_y38 := hO _ _ _ g39
          refine va_get (D := D) (ci := 2) (v := .ref (ad y38)) (C := RX2) (T := TX2) (N := 7) hx hb hts in_X1_tickOn_X2 hown hK hP y35 (vW_k2 n_y35 g37) rfl 3 (by decide) (hts (.fieldLink RX1 78 "VaultDoors$Voices" "to" "[I") (List.mem_of_getElem? (i := 7) rfl)) (fun _ h9 => h9) (by show some (va_rf (Option.map ad (mr m1 y35 3))) = _; rw [g39]; rfl) dX1_tickOn_63 ?_
          refine lv_iload_n hx hb dX1_tickOn_66 rfl (lv_at hl 1 rfl) ?_
          obtain ⟨g40, h⟩ := vg_if h
          obtain ⟨g41, h⟩ := vg_if h
          refine va_iald (D := D) hx hb hK hP y38 0 (vW_k6 n_y38 g40) rfl (i := i1) g41 dX1_tickOn_67 ?_
          refine lv_aload_n hx hb dX1_tickOn_68 rfl (lv_at hl 0 rfl) ?_
          obtain ⟨y42, g43, h⟩ := vg_bind h
          have n_y42 := hO _ _ _ g43
          refine va_get (D := D) (ci := 1) (v := .ref (ad y42)) (C := RX1) (T := TX1) (N := 5) hx hb hts in_X1_tickOn_X1 hown hK hP r0 (vW_k1 n_r0 g23) rfl 4 (by decide) (hts (.fieldLink RX1 24 "VaultDoors$Vault" "arrived" "LVaultDoors$Voices;") (List.mem_of_getElem? (i := 4) rfl)) (fun _ h9 => h9) (by show some (va_rf (Option.map ad (mr m1 r0 4))) = _; rw [g43]; rfl) dX1_tickOn_69 ?_
          obtain ⟨g44, h⟩ := vg_if h
          obtain ⟨y45, g46, h⟩ := vg_bind h
          have n_y45 := hO _ _ _ g46
          refine va_get (D := D) (ci := 2) (v := .ref (ad y45)) (C := RX2) (T := TX2) (N := 7) hx hb hts in_X1_tickOn_X2 hown hK hP y42 (vW_k2 n_y42 g44) rfl 4 (by decide) (hts (.fieldLink RX1 81 "VaultDoors$Voices" "kind" "[I") (List.mem_of_getElem? (i := 8) rfl)) (fun _ h9 => h9) (by show some (va_rf (Option.map ad (mr m1 y42 4))) = _; rw [g46]; rfl) dX1_tickOn_72 ?_
          refine lv_iload_n hx hb dX1_tickOn_75 rfl (lv_at hl 1 rfl) ?_
          obtain ⟨g47, h⟩ := vg_if h
          obtain ⟨g48, h⟩ := vg_if h
          refine va_iald (D := D) hx hb hK hP y45 0 (vW_k6 n_y45 g47) rfl (i := i1) g48 dX1_tickOn_76 ?_
          refine lv_aload_n hx hb dX1_tickOn_77 rfl (lv_at hl 0 rfl) ?_
          obtain ⟨y49, g50, h⟩ := vg_bind h
          have n_y49 := hO _ _ _ g50
          refine va_get (D := D) (ci := 1) (v := .ref (ad y49)) (C := RX1) (T := TX1) (N := 5) hx hb hts in_X1_tickOn_X1 hown hK hP r0 (vW_k1 n_r0 g23) rfl 4 (by decide) (hts (.fieldLink RX1 24 "VaultDoors$Vault" "arrived" "LVaultDoors$Voices;") (List.mem_of_getElem? (i := 4) rfl)) (fun _ h9 => h9) (by show some (va_rf (Option.map ad (mr m1 r0 4))) = _; rw [g50]; rfl) dX1_tickOn_78 ?_
          obtain ⟨g51, h⟩ := vg_if h
          obtain ⟨y52, g53, h⟩ := vg_bind h
          have n_y52 := hO _ _ _ g53
          refine va_get (D := D) (ci := 2) (v := .ref (ad y52)) (C := RX2) (T := TX2) (N := 7) hx hb hts in_X1_tickOn_X2 hown hK hP y49 (vW_k2 n_y49 g51) rfl 6 (by decide) (hts (.fieldLink RX1 84 "VaultDoors$Voices" "distance" "[I") (List.mem_of_getElem? (i := 9) rfl)) (fun _ h9 => h9) (by show some (va_rf (Option.map ad (mr m1 y49 6))) = _; rw [g53]; rfl) dX1_tickOn_81 ?_
          refine lv_iload_n hx hb dX1_tickOn_84 rfl (lv_at hl 1 rfl) ?_
          obtain ⟨g54, h⟩ := vg_if h
          obtain ⟨g55, h⟩ := vg_if h
          refine va_iald (D := D) hx hb hK hP y52 0 (vW_k6 n_y52 g54) rfl (i := i1) g55 dX1_tickOn_85 ?_
          obtain ⟨q56, g57, h⟩ := vg_bind h
          have hFc := vm_free hD hS hA
          refine va_callv (va_runV (As := [.int (mi m1 y31 i1.toNatClampNeg), .int (mi m1 y38 i1.toNatClampNeg), .int (mi m1 y45 i1.toNatClampNeg), .int (mi m1 y52 i1.toNatClampNeg)]) (rest := []) ⟨hx, hb, hml, hown, hts⟩ (cm_X1_hear (m0 := m1) l D tc ad hO n_r0 g57) (cwV 4 hts gX1_tickOn_X1_hear rfl rfl rfl (by decide +kernel) ⟨(Nat.le_of_ble_eq_true rfl), (Nat.le_of_ble_eq_true rfl)⟩) ⟨qW_blind, va_recv hK hP (ci := 1) (q0 := r0) rfl (vW_k1 n_r0 g23), qW_pre hP hD hK hZ⟩ rfl rfl hl.1 rfl (lv_room (Nat.le_of_ble_eq_true rfl)) dX1_tickOn_86 ⟨(Nat.le_of_ble_eq_true rfl), (Nat.le_of_ble_eq_true rfl)⟩) hS (fun q9 _ h9 => hFc q9 h9) hFc (fun u t H1 locs ht hvm hw hB hz1 hk1 hS => ?_)
          obtain ⟨hO59, hP1, hK1, hD1⟩ := hB
          rw [ht] at hP1
          have hP := hP1
          have hD := hD1.weaken (fun _ q9 _ h9 => hFc q9.1 h9)
          generalize H1 = H at hP hS ⊢
          have hP : va_P D vwCl (vW tc ad N q56) H := hP
          have hD : va_D A (vW tc ad N q56) := hD
          clear hk1 hz1 ht hvm
          refine lv_iinc (v := i1 + 1) (lv' := [(1, .int (i1 + 1)), (0, .ref (ad r0))]) hx hb dX1_tickOn_89 hl (k := 1) rfl rfl (by decide) rfl (fun ls hl => ?_)
          refine lv_goto (tgt := 38) hx hb dX1_tickOn_92 (by decide) ?_
          exact (ih.2.1) q56 r0 (i1 + 1) _ _ _ hO59 n_r0 h hP hD hS (lv_sub hl (l' := [(0, .ref (ad r0)), (1, .int (i1 + 1))]) [1, 0] rfl)
      · intro m1 r0 i1 i2 H locs ls hO n_r0 h hP hD hS hl
        have h : fB_X1_tickOn_99 (fL_X1_tickOn n) m1 r0 i1 i2 = some z := h
        unfold fB_X1_tickOn_99 at h
        refine lv_iload_n hx hb dX1_tickOn_99 rfl (lv_at hl 2 rfl) ?_
        refine lv_aload_n hx hb dX1_tickOn_100 rfl (lv_at hl 0 rfl) ?_
        obtain ⟨g60, h⟩ := vg_if h
        refine va_get (D := D) (ci := 1) (v := .int (mi m1 r0 1)) (C := RX1) (T := TX1) (N := 5) hx hb hts in_X1_tickOn_X1 hown hK hP r0 (vW_k1 n_r0 g60) rfl 1 (by decide) (hts (.fieldLink RX1 32 "VaultDoors$Vault" "doorCount" "I") (List.mem_of_getElem? (i := 1) rfl)) (fun _ h9 => h9) rfl dX1_tickOn_101 ?_
        refine lv_icmp_ge (tgt := 137) hx hb dX1_tickOn_104 (by decide) (fun c61 => ?_) (fun c61 => ?_)
        · rw [if_pos c61] at h
          refine lv_aload_n hx hb dX1_tickOn_137 rfl (lv_at hl 0 rfl) ?_
          refine lv_dup hx hb dX1_tickOn_138 rfl ?_
          refine va_get (D := D) (ci := 1) (v := .int (mi m1 r0 0)) (C := RX1) (T := TX1) (N := 5) hx hb hts in_X1_tickOn_X1 hown hK hP r0 (vW_k1 n_r0 g60) rfl 0 (by decide) (hts (.fieldLink RX1 28 "VaultDoors$Vault" "tick" "I") (List.mem_of_getElem? (i := 11) rfl)) (fun _ h9 => h9) rfl dX1_tickOn_139 ?_
          refine lv_iconst (v := 1) hx hb dX1_tickOn_142 (by decide) ?_
          refine lv_iadd hx hb dX1_tickOn_143 ?_
          refine va_put (D := D) (ci := 1) (v := .int ((mi m1 r0 0) + 1)) (ty := .int) (C := RX1) (T := TX1) (N := 5) hx hb hts in_X1_tickOn_X1 tyX1 tyX1_ok nmX1 hown hK hP hD hS r0 (vW_k1 n_r0 g60) rfl 0 (by decide) (hts (.fieldLink RX1 28 "VaultDoors$Vault" "tick" "I") (List.mem_of_getElem? (i := 11) rfl)) (fun _ h9 => h9) rfl (by decide +kernel) rfl rfl (Nat.le_of_ble_eq_true rfl) dX1_tickOn_144 (fun H locs hP hD hS => ?_)
          have hO62 := vOK.I (a := r0) (j := 0) (v := ((mi m1 r0 0) + 1)) hO
          rw [vW_p1_0 (m := m1) n_r0 g60] at hP hD
          have hP : va_P D vwCl (vW tc ad N ((mI m1 r0 0 ((mi m1 r0 0) + 1)))) H := hP
          have hD : va_D A (vW tc ad N ((mI m1 r0 0 ((mi m1 r0 0) + 1)))) := hD
          refine lv_iload_n hx hb dX1_tickOn_147 rfl (lv_at hl 1 rfl) ?_
          have hz := Option.some.inj h
          exact W.iret (v := i1) hx hb hr (fun t ht hW => ⟨⟨_, (), rfl, by rw [← hz], by rw [← hz]; exact hO62, by rw [ht, ← hz]; exact hP, va_K.moved hW.alike hK, by rw [← hz]; exact hD⟩, hS.F ht⟩) hS.2.2 dX1_tickOn_148
        · rw [if_neg c61] at h
          refine lv_aload_n hx hb dX1_tickOn_107 rfl (lv_at hl 0 rfl) ?_
          obtain ⟨y63, g64, h⟩ := vg_bind h
          have n_y63 := hO _ _ _ g64
          refine va_get (D := D) (ci := 1) (v := .ref (ad y63)) (C := RX1) (T := TX1) (N := 5) hx hb hts in_X1_tickOn_X1 hown hK hP r0 (vW_k1 n_r0 g60) rfl 2 (by decide) (hts (.fieldLink RX1 11 "VaultDoors$Vault" "doors" "[LVaultDoors$Door;") (List.mem_of_getElem? (i := 2) rfl)) (fun _ h9 => h9) (by show some (va_rf (Option.map ad (mr m1 r0 2))) = _; rw [g64]; rfl) dX1_tickOn_108 ?_
          refine lv_iload_n hx hb dX1_tickOn_111 rfl (lv_at hl 2 rfl) ?_
          obtain ⟨g65, h⟩ := vg_if h
          obtain ⟨g66, h⟩ := vg_if h
          obtain ⟨y67, g68, h⟩ := vg_bind h
          have n_y67 := hO _ _ _ g68
          refine va_aldq (D := D) hx hb hK hP y63 1 (vW_k7 n_y63 g65) rfl (i := i2) g66 dX1_tickOn_112 ?_
          refine W.eq (g2 := F0 m 113 ls [.ref (ad y67)]) (by show F0 m 113 ls (va_rf (Option.map ad (mr m1 y63 i2.toNatClampNeg)) :: _) = _; rw [g68]; rfl) ?_
          obtain ⟨g69, h⟩ := vg_if h
          refine va_get (D := D) (ci := 0) (v := .int (mi m1 y67 3)) (C := RX0) (T := TX0) (N := 14) hx hb hts in_X1_tickOn_X0 hown hK hP y67 (vW_k0 n_y67 g69) rfl 3 (by decide) (hts (.fieldLink RX1 55 "VaultDoors$Door" "state" "I") (List.mem_of_getElem? (i := 10) rfl)) (fun _ h9 => h9) rfl dX1_tickOn_113 ?_
          refine lv_iconst (v := 1) hx hb dX1_tickOn_116 (by decide) ?_
          refine lv_icmp_ne (tgt := 131) hx hb dX1_tickOn_117 (by decide) (fun c70 => ?_) (fun c70 => ?_)
          · rw [if_neg c70] at h
            refine lv_iinc (v := i2 + 1) (lv' := [(2, .int (i2 + 1)), (0, .ref (ad r0)), (1, .int i1)]) hx hb dX1_tickOn_131 hl (k := 2) rfl rfl (by decide) rfl (fun ls hl => ?_)
            refine lv_goto (tgt := 99) hx hb dX1_tickOn_134 (by decide) ?_
            exact (ih.2.2) m1 r0 i1 (i2 + 1) _ _ _ hO n_r0 h hP hD hS (lv_sub hl (l' := [(0, .ref (ad r0)), (1, .int i1), (2, .int (i2 + 1))]) [1, 2, 0] rfl)
          · rw [if_pos c70] at h
            refine lv_aload_n hx hb dX1_tickOn_120 rfl (lv_at hl 0 rfl) ?_
            refine lv_iload_n hx hb dX1_tickOn_121 rfl (lv_at hl 2 rfl) ?_
            obtain ⟨q71, g72, h⟩ := vg_bind h
            have hFc := vm_free hD hS hA
            refine va_calli (va_runV (As := [.int i2]) (rest := []) ⟨hx, hb, hml, hown, hts⟩ (cm_X1_waitOn (m0 := m1) l D tc ad hO n_r0 g72) (cwV 1 hts gX1_tickOn_X1_waitOn rfl rfl rfl (by decide +kernel) ⟨(Nat.le_of_ble_eq_true rfl), (Nat.le_of_ble_eq_true rfl)⟩) ⟨qW_blind, va_recv hK hP (ci := 1) (q0 := r0) rfl (vW_k1 n_r0 g60), qW_pre hP hD hK hZ⟩ rfl rfl hl.1 rfl (lv_room (Nat.le_of_ble_eq_true rfl)) dX1_tickOn_122 ⟨(Nat.le_of_ble_eq_true rfl), (Nat.le_of_ble_eq_true rfl)⟩) hS (fun q9 _ h9 => hFc q9 h9) hFc (fun w73 u t H1 locs ht hvm hw hB hz1 hk1 hS => ?_)
            obtain ⟨hO74, hP1, hK1, hD1⟩ := hB
            rw [ht] at hP1
            have hP := hP1
            have hD := hD1.weaken (fun _ q9 _ h9 => hFc q9.1 h9)
            generalize H1 = H at hP hS ⊢
            have hP : va_P D vwCl (vW tc ad N q71.2) H := hP
            have hD : va_D A (vW tc ad N q71.2) := hD
            clear hk1 hz1 ht hvm
            have hw : w73 = q71.1 := hw
            rw [hw]
            refine lv_if_eq (tgt := 131) hx hb dX1_tickOn_125 (by decide) (fun c75 => ?_) (fun c75 => ?_)
            · rw [if_pos c75] at h
              refine lv_iinc (v := i2 + 1) (lv' := [(2, .int (i2 + 1)), (0, .ref (ad r0)), (1, .int i1)]) hx hb dX1_tickOn_131 hl (k := 2) rfl rfl (by decide) rfl (fun ls hl => ?_)
              refine lv_goto (tgt := 99) hx hb dX1_tickOn_134 (by decide) ?_
              exact (ih.2.2) q71.2 r0 i1 (i2 + 1) _ _ _ hO74 n_r0 h hP hD hS (lv_sub hl (l' := [(0, .ref (ad r0)), (1, .int i1), (2, .int (i2 + 1))]) [1, 2, 0] rfl)
            · rw [if_neg c75] at h
              refine lv_iinc (v := i1 + 1) (lv' := [(1, .int (i1 + 1)), (0, .ref (ad r0)), (2, .int i2)]) hx hb dX1_tickOn_128 hl (k := 1) rfl rfl (by decide) rfl (fun ls hl => ?_)
              refine lv_iinc (v := i2 + 1) (lv' := [(2, .int (i2 + 1)), (1, .int (i1 + 1)), (0, .ref (ad r0))]) hx hb dX1_tickOn_131 hl (k := 2) rfl rfl (by decide) rfl (fun ls hl => ?_)
              refine lv_goto (tgt := 99) hx hb dX1_tickOn_134 (by decide) ?_
              exact (ih.2.2) q71.2 r0 (i1 + 1) (i2 + 1) _ _ _ hO74 n_r0 h hP hD hS (lv_sub hl (l' := [(0, .ref (ad r0)), (1, .int (i1 + 1)), (2, .int (i2 + 1))]) [2, 1, 0] rfl)
  unfold f_X1_tickOn at h
  refine lv_iconst (v := 0) hx hb dX1_tickOn_0 (by decide) ?_
  refine lv_istore_n (lv' := [(1, .int 0), (0, .ref (ad p0))]) hx hb dX1_tickOn_1 rfl hl (by decide) rfl (fun ls hl => ?_)
  exact ((hL vF).1) m0 p0 (0 : Int32) _ _ _ hO n_p0 h hP hD hS (lv_sub hl (l' := [(0, .ref (ad p0)), (1, .int 0)]) [1, 0] rfl)

noncomputable def fB_X1_openDoors_4 (rec : Nat → vM → Nat → Int32 → Int32 → Option (Int32)) (m : vM) (r0 : Nat) (i1 : Int32) (i2 : Int32) : Option (Int32) :=
  if mk m r0 = 1 then
  if (mi m r0 1) ≤ i2 then (
    some i1
  ) else (
    Option.bind (mr m r0 2) fun y3 =>
    if mk m y3 = 7 then
    if vin i2 (ml m y3) then
    Option.bind (mr m y3 i2.toNatClampNeg) fun y7 =>
    if mk m y7 = 0 then
    if (mi m y7 3) = 2 then (
      rec 4 m r0 (i1 ||| (1 <<< (i2 &&& 31))) (i2 + 1)
    ) else (
      rec 4 m r0 i1 (i2 + 1)
    )
    else none
    else none
    else none
  )
  else none
noncomputable def fL_X1_openDoors (n : Nat) : Nat → vM → Nat → Int32 → Int32 → Option (Int32) := Nat.rec (fun _ _ _ _ _ => none) (fun _ rec pc m r0 i1 i2 => if pc = 4 then fB_X1_openDoors_4 rec m r0 i1 i2 else none) n
noncomputable def f_X1_openDoors (m : vM) (p0 : Nat) : Option (Int32) :=
  fL_X1_openDoors vF 4 m p0 (0 : Int32) (0 : Int32)
theorem in_X1_openDoors_X0 : ∀ w ∈ wsX00, w ∈ wsX1_openDoors := by decide +kernel
theorem in_X1_openDoors_X1 : ∀ w ∈ wsX10, w ∈ wsX1_openDoors := by decide +kernel
set_option maxHeartbeats 1000000 in
set_option maxRecDepth 100000 in
theorem cm_X1_openDoors (l : Launch) (D : va_G) (tc : Nat → ClassId) (ad : Nat → Nat) {N : Nat} {m0 : vM} {p0 : Nat} (hO : vOK N m0) (n_p0 : p0 < N) {z : Int32} (h : f_X1_openDoors m0 p0 = some z) : Met l yX1_openDoors wsX1_openDoors ({ frames := 0, cells := 0, slots := 0, locals := 0 } : Room) (va_Pc [.ref (ad p0)] (qR D tc ad N m0)) (va_Qi (fun (r9 : Int32) (_ : Unit) => r9 = z) (fun _ _ => True) (fun _ => False)) 0 0 (fun _ => False) := by
  refine Met.ofW (cc := cX1_openDoors) (maxL := 3) (ret := (some .int)) (by decide) rfl ?_
  intro p e s m args below meth c s₁ B hml hv
  obtain ⟨rfl, hP, hK, hZ⟩ := hv
  have hx := B.exec
  have hb := B.bytes
  have hr := B.returns
  have hts := atoms_spec (ws := wsX1_openDoors) B.pre
  have hown : s.vm.findClass RX1 = some m.cls := findClass_of_methodNamed B.named
  have hlocks := B.notSynchronized
  have hS : va_S (fun _ => False) s.heap s.heap [] := va_S.rf
  have hl := lv_entry ([.ref (ad p0)]) (n := 3) (Nat.le_of_ble_eq_true rfl)
  rw [lg_entry_eq]
  generalize (lg_sl ([.ref (ad p0)]) ++ List.replicate (3 - (lg_sl ([.ref (ad p0)])).length) Slot.unset).toArray = ls at hl ⊢
  have hl : lv_has ls 3 [(0, .ref (ad p0))] := hl
  have hL : ∀ n : Nat, (∀ (m1 : vM) (r0 : Nat) (i1 : Int32) (i2 : Int32) (H : Heap) (locs : List Loc) (ls : Array Slot), vOK N m1 → r0 < N → fL_X1_openDoors n 4 m1 r0 i1 i2 = some z → va_P D vwCl (vW tc ad N m1) H → va_S (fun _ => False) s.heap H locs → lv_has ls 3 [(0, .ref (ad r0)), (1, .int i1), (2, .int i2)] → W p l e (headSpec wsX1_openDoors ({ frames := 0, cells := 0, slots := 0, locals := 0 } : Room)).room s m ([.ref (ad p0)] : List Value).toArray below meth c H locs 0 0 (MQ below (va_Qi (fun (r9 : Int32) (_ : Unit) => r9 = z) (fun _ _ => True) (fun _ => False)) ([.ref (ad p0)] : List Value).toArray s 0 0 (fun _ => False)) (F0 m 4 ls [])) := by
    intro n
    induction n with
    | zero => exact (fun _ _ _ _ _ _ _ _ _ h9 _ _ _ => by have h9 : (none : Option (Int32)) = some z := h9; cases h9)
    | succ n ih =>
      · intro m1 r0 i1 i2 H locs ls hO n_r0 h hP hS hl
        have h : fB_X1_openDoors_4 (fL_X1_openDoors n) m1 r0 i1 i2 = some z := h
        unfold fB_X1_openDoors_4 at h
        refine lv_iload_n hx hb dX1_openDoors_4 rfl (lv_at hl 2 rfl) ?_
        refine lv_aload_n hx hb dX1_openDoors_5 rfl (lv_at hl 0 rfl) ?_
        obtain ⟨g1, h⟩ := vg_if h
        refine va_get (D := D) (ci := 1) (v := .int (mi m1 r0 1)) (C := RX1) (T := TX1) (N := 5) hx hb hts in_X1_openDoors_X1 hown hK hP r0 (vW_k1 n_r0 g1) rfl 1 (by decide) (hts (.fieldLink RX1 32 "VaultDoors$Vault" "doorCount" "I") (List.mem_of_getElem? (i := 1) rfl)) (fun _ h9 => h9) rfl dX1_openDoors_6 ?_
        refine lv_icmp_ge (tgt := 37) hx hb dX1_openDoors_9 (by decide) (fun c2 => ?_) (fun c2 => ?_)
        · rw [if_pos c2] at h
          refine lv_iload_n hx hb dX1_openDoors_37 rfl (lv_at hl 1 rfl) ?_
          have hz := Option.some.inj h
          exact W.iret (v := i1) hx hb hr (fun t ht hW => ⟨⟨_, (), rfl, hz, trivial⟩, hS.F ht⟩) hS.2.2 dX1_openDoors_38
        · rw [if_neg c2] at h
          refine lv_aload_n hx hb dX1_openDoors_12 rfl (lv_at hl 0 rfl) ?_
          obtain ⟨y3, g4, h⟩ := vg_bind h
          have n_y3 := hO _ _ _ g4
          refine va_get (D := D) (ci := 1) (v := .ref (ad y3)) (C := RX1) (T := TX1) (N := 5) hx hb hts in_X1_openDoors_X1 hown hK hP r0 (vW_k1 n_r0 g1) rfl 2 (by decide) (hts (.fieldLink RX1 11 "VaultDoors$Vault" "doors" "[LVaultDoors$Door;") (List.mem_of_getElem? (i := 2) rfl)) (fun _ h9 => h9) (by show some (va_rf (Option.map ad (mr m1 r0 2))) = _; rw [g4]; rfl) dX1_openDoors_13 ?_
          refine lv_iload_n hx hb dX1_openDoors_16 rfl (lv_at hl 2 rfl) ?_
          obtain ⟨g5, h⟩ := vg_if h
          obtain ⟨g6, h⟩ := vg_if h
          obtain ⟨y7, g8, h⟩ := vg_bind h
          have n_y7 := hO _ _ _ g8
          refine va_aldq (D := D) hx hb hK hP y3 1 (vW_k7 n_y3 g5) rfl (i := i2) g6 dX1_openDoors_17 ?_
          refine W.eq (g2 := F0 m 18 ls [.ref (ad y7)]) (by show F0 m 18 ls (va_rf (Option.map ad (mr m1 y3 i2.toNatClampNeg)) :: _) = _; rw [g8]; rfl) ?_
          obtain ⟨g9, h⟩ := vg_if h
          refine va_get (D := D) (ci := 0) (v := .int (mi m1 y7 3)) (C := RX0) (T := TX0) (N := 14) hx hb hts in_X1_openDoors_X0 hown hK hP y7 (vW_k0 n_y7 g9) rfl 3 (by decide) (hts (.fieldLink RX1 55 "VaultDoors$Door" "state" "I") (List.mem_of_getElem? (i := 3) rfl)) (fun _ h9 => h9) rfl dX1_openDoors_18 ?_
          refine lv_iconst (v := 2) hx hb dX1_openDoors_21 (by decide) ?_
          refine lv_icmp_ne (tgt := 31) hx hb dX1_openDoors_22 (by decide) (fun c10 => ?_) (fun c10 => ?_)
          · rw [if_neg c10] at h
            refine lv_iinc (v := i2 + 1) (lv' := [(2, .int (i2 + 1)), (0, .ref (ad r0)), (1, .int i1)]) hx hb dX1_openDoors_31 hl (k := 2) rfl rfl (by decide) rfl (fun ls hl => ?_)
            refine lv_goto (tgt := 4) hx hb dX1_openDoors_34 (by decide) ?_
            exact (ih) m1 r0 i1 (i2 + 1) _ _ _ hO n_r0 h hP hS (lv_sub hl (l' := [(0, .ref (ad r0)), (1, .int i1), (2, .int (i2 + 1))]) [1, 2, 0] rfl)
          · rw [if_pos c10] at h
            refine lv_iload_n hx hb dX1_openDoors_25 rfl (lv_at hl 1 rfl) ?_
            refine lv_iconst (v := 1) hx hb dX1_openDoors_26 (by decide) ?_
            refine lv_iload_n hx hb dX1_openDoors_27 rfl (lv_at hl 2 rfl) ?_
            refine lv_ishl hx hb dX1_openDoors_28 ?_
            refine lv_ior hx hb dX1_openDoors_29 ?_
            refine lv_istore_n (lv' := [(1, .int (i1 ||| (1 <<< (i2 &&& 31)))), (0, .ref (ad r0)), (2, .int i2)]) hx hb dX1_openDoors_30 rfl hl (by decide) rfl (fun ls hl => ?_)
            refine lv_iinc (v := i2 + 1) (lv' := [(2, .int (i2 + 1)), (1, .int (i1 ||| (1 <<< (i2 &&& 31)))), (0, .ref (ad r0))]) hx hb dX1_openDoors_31 hl (k := 2) rfl rfl (by decide) rfl (fun ls hl => ?_)
            refine lv_goto (tgt := 4) hx hb dX1_openDoors_34 (by decide) ?_
            exact (ih) m1 r0 (i1 ||| (1 <<< (i2 &&& 31))) (i2 + 1) _ _ _ hO n_r0 h hP hS (lv_sub hl (l' := [(0, .ref (ad r0)), (1, .int (i1 ||| (1 <<< (i2 &&& 31)))), (2, .int (i2 + 1))]) [2, 1, 0] rfl)
  unfold f_X1_openDoors at h
  refine lv_iconst (v := 0) hx hb dX1_openDoors_0 (by decide) ?_
  refine lv_istore_n (lv' := [(1, .int 0), (0, .ref (ad p0))]) hx hb dX1_openDoors_1 rfl hl (by decide) rfl (fun ls hl => ?_)
  refine lv_iconst (v := 0) hx hb dX1_openDoors_2 (by decide) ?_
  refine lv_istore_n (lv' := [(2, .int 0), (1, .int 0), (0, .ref (ad p0))]) hx hb dX1_openDoors_3 rfl hl (by decide) rfl (fun ls hl => ?_)
  exact ((hL vF)) m0 p0 (0 : Int32) (0 : Int32) _ _ _ hO n_p0 h hP hS (lv_sub hl (l' := [(0, .ref (ad p0)), (1, .int 0), (2, .int 0)]) [2, 1, 0] rfl)

noncomputable def fB_X1_doorsThat_4 (rec : Nat → vM → Nat → Int32 → Int32 → Int32 → Option (Int32)) (m : vM) (r0 : Nat) (i1 : Int32) (i2 : Int32) (i3 : Int32) : Option (Int32) :=
  if mk m r0 = 1 then
  if (mi m r0 1) ≤ i3 then (
    some i2
  ) else (
    Option.bind (mr m r0 2) fun y3 =>
    if mk m y3 = 7 then
    if vin i3 (ml m y3) then
    Option.bind (mr m y3 i3.toNatClampNeg) fun y7 =>
    if mk m y7 = 0 then
    if (mi m y7 3) = i1 then (
      rec 4 m r0 i1 (i2 + 1) (i3 + 1)
    ) else (
      rec 4 m r0 i1 i2 (i3 + 1)
    )
    else none
    else none
    else none
  )
  else none
noncomputable def fL_X1_doorsThat (n : Nat) : Nat → vM → Nat → Int32 → Int32 → Int32 → Option (Int32) := Nat.rec (fun _ _ _ _ _ _ => none) (fun _ rec pc m r0 i1 i2 i3 => if pc = 4 then fB_X1_doorsThat_4 rec m r0 i1 i2 i3 else none) n
noncomputable def f_X1_doorsThat (m : vM) (p0 : Nat) (p1 : Int32) : Option (Int32) :=
  fL_X1_doorsThat vF 4 m p0 p1 (0 : Int32) (0 : Int32)
theorem in_X1_doorsThat_X0 : ∀ w ∈ wsX00, w ∈ wsX1_doorsThat := by decide +kernel
theorem in_X1_doorsThat_X1 : ∀ w ∈ wsX10, w ∈ wsX1_doorsThat := by decide +kernel
set_option maxHeartbeats 1000000 in
set_option maxRecDepth 100000 in
theorem cm_X1_doorsThat (l : Launch) (D : va_G) (tc : Nat → ClassId) (ad : Nat → Nat) {N : Nat} {m0 : vM} {p0 : Nat} {p1 : Int32} (hO : vOK N m0) (n_p0 : p0 < N) {z : Int32} (h : f_X1_doorsThat m0 p0 p1 = some z) : Met l yX1_doorsThat wsX1_doorsThat ({ frames := 0, cells := 0, slots := 0, locals := 0 } : Room) (va_Pc [.ref (ad p0), .int p1] (qR D tc ad N m0)) (va_Qi (fun (r9 : Int32) (_ : Unit) => r9 = z) (fun _ _ => True) (fun _ => False)) 0 0 (fun _ => False) := by
  refine Met.ofW (cc := cX1_doorsThat) (maxL := 4) (ret := (some .int)) (by decide) rfl ?_
  intro p e s m args below meth c s₁ B hml hv
  obtain ⟨rfl, hP, hK, hZ⟩ := hv
  have hx := B.exec
  have hb := B.bytes
  have hr := B.returns
  have hts := atoms_spec (ws := wsX1_doorsThat) B.pre
  have hown : s.vm.findClass RX1 = some m.cls := findClass_of_methodNamed B.named
  have hlocks := B.notSynchronized
  have hS : va_S (fun _ => False) s.heap s.heap [] := va_S.rf
  have hl := lv_entry ([.ref (ad p0), .int p1]) (n := 4) (Nat.le_of_ble_eq_true rfl)
  rw [lg_entry_eq]
  generalize (lg_sl ([.ref (ad p0), .int p1]) ++ List.replicate (4 - (lg_sl ([.ref (ad p0), .int p1])).length) Slot.unset).toArray = ls at hl ⊢
  have hl : lv_has ls 4 [(0, .ref (ad p0)), (1, .int p1)] := hl
  have hL : ∀ n : Nat, (∀ (m1 : vM) (r0 : Nat) (i1 : Int32) (i2 : Int32) (i3 : Int32) (H : Heap) (locs : List Loc) (ls : Array Slot), vOK N m1 → r0 < N → fL_X1_doorsThat n 4 m1 r0 i1 i2 i3 = some z → va_P D vwCl (vW tc ad N m1) H → va_S (fun _ => False) s.heap H locs → lv_has ls 4 [(0, .ref (ad r0)), (1, .int i1), (2, .int i2), (3, .int i3)] → W p l e (headSpec wsX1_doorsThat ({ frames := 0, cells := 0, slots := 0, locals := 0 } : Room)).room s m ([.ref (ad p0), .int p1] : List Value).toArray below meth c H locs 0 0 (MQ below (va_Qi (fun (r9 : Int32) (_ : Unit) => r9 = z) (fun _ _ => True) (fun _ => False)) ([.ref (ad p0), .int p1] : List Value).toArray s 0 0 (fun _ => False)) (F0 m 4 ls [])) := by
    intro n
    induction n with
    | zero => exact (fun _ _ _ _ _ _ _ _ _ _ h9 _ _ _ => by have h9 : (none : Option (Int32)) = some z := h9; cases h9)
    | succ n ih =>
      · intro m1 r0 i1 i2 i3 H locs ls hO n_r0 h hP hS hl
        have h : fB_X1_doorsThat_4 (fL_X1_doorsThat n) m1 r0 i1 i2 i3 = some z := h
        unfold fB_X1_doorsThat_4 at h
        refine lv_iload_n hx hb dX1_doorsThat_4 rfl (lv_at hl 3 rfl) ?_
        refine lv_aload_n hx hb dX1_doorsThat_5 rfl (lv_at hl 0 rfl) ?_
        obtain ⟨g1, h⟩ := vg_if h
        refine va_get (D := D) (ci := 1) (v := .int (mi m1 r0 1)) (C := RX1) (T := TX1) (N := 5) hx hb hts in_X1_doorsThat_X1 hown hK hP r0 (vW_k1 n_r0 g1) rfl 1 (by decide) (hts (.fieldLink RX1 32 "VaultDoors$Vault" "doorCount" "I") (List.mem_of_getElem? (i := 1) rfl)) (fun _ h9 => h9) rfl dX1_doorsThat_6 ?_
        refine lv_icmp_ge (tgt := 34) hx hb dX1_doorsThat_9 (by decide) (fun c2 => ?_) (fun c2 => ?_)
        · rw [if_pos c2] at h
          refine lv_iload_n hx hb dX1_doorsThat_34 rfl (lv_at hl 2 rfl) ?_
          have hz := Option.some.inj h
          exact W.iret (v := i2) hx hb hr (fun t ht hW => ⟨⟨_, (), rfl, hz, trivial⟩, hS.F ht⟩) hS.2.2 dX1_doorsThat_35
        · rw [if_neg c2] at h
          refine lv_aload_n hx hb dX1_doorsThat_12 rfl (lv_at hl 0 rfl) ?_
          obtain ⟨y3, g4, h⟩ := vg_bind h
          have n_y3 := hO _ _ _ g4
          refine va_get (D := D) (ci := 1) (v := .ref (ad y3)) (C := RX1) (T := TX1) (N := 5) hx hb hts in_X1_doorsThat_X1 hown hK hP r0 (vW_k1 n_r0 g1) rfl 2 (by decide) (hts (.fieldLink RX1 11 "VaultDoors$Vault" "doors" "[LVaultDoors$Door;") (List.mem_of_getElem? (i := 2) rfl)) (fun _ h9 => h9) (by show some (va_rf (Option.map ad (mr m1 r0 2))) = _; rw [g4]; rfl) dX1_doorsThat_13 ?_
          refine lv_iload_n hx hb dX1_doorsThat_16 rfl (lv_at hl 3 rfl) ?_
          obtain ⟨g5, h⟩ := vg_if h
          obtain ⟨g6, h⟩ := vg_if h
          obtain ⟨y7, g8, h⟩ := vg_bind h
          have n_y7 := hO _ _ _ g8
          refine va_aldq (D := D) hx hb hK hP y3 1 (vW_k7 n_y3 g5) rfl (i := i3) g6 dX1_doorsThat_17 ?_
          refine W.eq (g2 := F0 m 18 ls [.ref (ad y7)]) (by show F0 m 18 ls (va_rf (Option.map ad (mr m1 y3 i3.toNatClampNeg)) :: _) = _; rw [g8]; rfl) ?_
          obtain ⟨g9, h⟩ := vg_if h
          refine va_get (D := D) (ci := 0) (v := .int (mi m1 y7 3)) (C := RX0) (T := TX0) (N := 14) hx hb hts in_X1_doorsThat_X0 hown hK hP y7 (vW_k0 n_y7 g9) rfl 3 (by decide) (hts (.fieldLink RX1 55 "VaultDoors$Door" "state" "I") (List.mem_of_getElem? (i := 3) rfl)) (fun _ h9 => h9) rfl dX1_doorsThat_18 ?_
          refine lv_iload_n hx hb dX1_doorsThat_21 rfl (lv_at hl 1 rfl) ?_
          refine lv_icmp_ne (tgt := 28) hx hb dX1_doorsThat_22 (by decide) (fun c10 => ?_) (fun c10 => ?_)
          · rw [if_neg c10] at h
            refine lv_iinc (v := i3 + 1) (lv' := [(3, .int (i3 + 1)), (0, .ref (ad r0)), (1, .int i1), (2, .int i2)]) hx hb dX1_doorsThat_28 hl (k := 3) rfl rfl (by decide) rfl (fun ls hl => ?_)
            refine lv_goto (tgt := 4) hx hb dX1_doorsThat_31 (by decide) ?_
            exact (ih) m1 r0 i1 i2 (i3 + 1) _ _ _ hO n_r0 h hP hS (lv_sub hl (l' := [(0, .ref (ad r0)), (1, .int i1), (2, .int i2), (3, .int (i3 + 1))]) [1, 2, 3, 0] rfl)
          · rw [if_pos c10] at h
            refine lv_iinc (v := i2 + 1) (lv' := [(2, .int (i2 + 1)), (0, .ref (ad r0)), (1, .int i1), (3, .int i3)]) hx hb dX1_doorsThat_25 hl (k := 2) rfl rfl (by decide) rfl (fun ls hl => ?_)
            refine lv_iinc (v := i3 + 1) (lv' := [(3, .int (i3 + 1)), (2, .int (i2 + 1)), (0, .ref (ad r0)), (1, .int i1)]) hx hb dX1_doorsThat_28 hl (k := 3) rfl rfl (by decide) rfl (fun ls hl => ?_)
            refine lv_goto (tgt := 4) hx hb dX1_doorsThat_31 (by decide) ?_
            exact (ih) m1 r0 i1 (i2 + 1) (i3 + 1) _ _ _ hO n_r0 h hP hS (lv_sub hl (l' := [(0, .ref (ad r0)), (1, .int i1), (2, .int (i2 + 1)), (3, .int (i3 + 1))]) [2, 3, 1, 0] rfl)
  unfold f_X1_doorsThat at h
  refine lv_iconst (v := 0) hx hb dX1_doorsThat_0 (by decide) ?_
  refine lv_istore_n (lv' := [(2, .int 0), (0, .ref (ad p0)), (1, .int p1)]) hx hb dX1_doorsThat_1 rfl hl (by decide) rfl (fun ls hl => ?_)
  refine lv_iconst (v := 0) hx hb dX1_doorsThat_2 (by decide) ?_
  refine lv_istore_n (lv' := [(3, .int 0), (2, .int 0), (0, .ref (ad p0)), (1, .int p1)]) hx hb dX1_doorsThat_3 rfl hl (by decide) rfl (fun ls hl => ?_)
  exact ((hL vF)) m0 p0 p1 (0 : Int32) (0 : Int32) _ _ _ hO n_p0 h hP hS (lv_sub hl (l' := [(0, .ref (ad p0)), (1, .int p1), (2, .int 0), (3, .int 0)]) [2, 3, 1, 0] rfl)

noncomputable def f_X1_fact (m : vM) (p0 : Nat) (p1 : Int32) : Option (Int32) :=
  if p1 = 0 then (
    if mk m p0 = 1 then
    some (mi m p0 0)
    else none
  ) else (
    if p1 = 1 then (
      if mk m p0 = 1 then
      some (mi m p0 1)
      else none
    ) else (
      if p1 = 2 then (
        if mk m p0 = 1 then
        Option.bind (f_X1_doorsThat m p0 ((0 : Int32))) fun q4 =>
        some q4
        else none
      ) else (
        if p1 = 3 then (
          if mk m p0 = 1 then
          Option.bind (f_X1_doorsThat m p0 ((1 : Int32))) fun q8 =>
          some q8
          else none
        ) else (
          if p1 = 4 then (
            if mk m p0 = 1 then
            Option.bind (f_X1_doorsThat m p0 ((2 : Int32))) fun q12 =>
            some q12
            else none
          ) else (
            if p1 = 5 then (
              if mk m p0 = 1 then
              Option.bind (f_X1_doorsThat m p0 ((3 : Int32))) fun q16 =>
              some q16
              else none
            ) else (
              if p1 = 6 then (
                if mk m p0 = 1 then
                Option.bind (mr m p0 3) fun y20 =>
                if mk m y20 = 2 then
                some (mi m y20 0)
                else none
                else none
              ) else (
                if p1 = 7 then (
                  if mk m p0 = 1 then
                  Option.bind (mr m p0 3) fun y24 =>
                  if mk m y24 = 2 then
                  some (mi m y24 1)
                  else none
                  else none
                ) else (
                  if mk m p0 = 1 then
                  Option.bind (f_X1_openDoors m p0) fun q28 =>
                  some q28
                  else none
                )
              )
            )
          )
        )
      )
    )
  )
theorem in_X1_fact_X1 : ∀ w ∈ wsX10, w ∈ wsX1_fact := by decide +kernel
theorem in_X1_fact_X2 : ∀ w ∈ wsX20, w ∈ wsX1_fact := by decide +kernel
set_option maxHeartbeats 1000000 in
set_option maxRecDepth 100000 in
theorem cm_X1_fact (l : Launch) (D : va_G) (tc : Nat → ClassId) (ad : Nat → Nat) {N : Nat} {m0 : vM} {p0 : Nat} {p1 : Int32} (hO : vOK N m0) (n_p0 : p0 < N) {z : Int32} (h : f_X1_fact m0 p0 p1 = some z) : Met l yX1_fact wsX1_fact ({ frames := 1, cells := 0, slots := 0, locals := 23 } : Room) (va_Pc [.ref (ad p0), .int p1] (qR D tc ad N m0)) (va_Qi (fun (r9 : Int32) (_ : Unit) => r9 = z) (fun _ _ => True) (fun _ => False)) 0 0 (fun _ => False) := by
  refine Met.ofW (cc := cX1_fact) (maxL := 2) (ret := (some .int)) (by decide) rfl ?_
  intro p e s m args below meth c s₁ B hml hv
  obtain ⟨rfl, hP, hK, hZ⟩ := hv
  have hx := B.exec
  have hb := B.bytes
  have hr := B.returns
  have hts := atoms_spec (ws := wsX1_fact) B.pre
  have hown : s.vm.findClass RX1 = some m.cls := findClass_of_methodNamed B.named
  have hlocks := B.notSynchronized
  have hS : va_S (fun _ => False) s.heap s.heap [] := va_S.rf
  have hl := lv_entry ([.ref (ad p0), .int p1]) (n := 2) (Nat.le_of_ble_eq_true rfl)
  rw [lg_entry_eq]
  generalize (lg_sl ([.ref (ad p0), .int p1]) ++ List.replicate (2 - (lg_sl ([.ref (ad p0), .int p1])).length) Slot.unset).toArray = ls at hl ⊢
  have hl : lv_has ls 2 [(0, .ref (ad p0)), (1, .int p1)] := hl
  unfold f_X1_fact at h
  refine lv_iload_n hx hb dX1_fact_0 rfl (lv_at hl 1 rfl) ?_
  by_cases c1 : p1 = 0
  · rw [if_pos c1] at h
    refine W.eq (g2 := F0 m 1 ls [.int 0]) (by rw [c1]) ?_
    refine lv_tableIn (off := 47) (tgt := 48) hx hb dX1_fact_1 (by decide) (by decide) (by decide) (by decide) ?_
    refine lv_aload_n hx hb dX1_fact_48 rfl (lv_at hl 0 rfl) ?_
    obtain ⟨g2, h⟩ := vg_if h
    refine va_get (D := D) (ci := 1) (v := .int (mi m0 p0 0)) (C := RX1) (T := TX1) (N := 5) hx hb hts in_X1_fact_X1 hown hK hP p0 (vW_k1 n_p0 g2) rfl 0 (by decide) (hts (.fieldLink RX1 28 "VaultDoors$Vault" "tick" "I") (List.mem_of_getElem? (i := 1) rfl)) (fun _ h9 => h9) rfl dX1_fact_49 ?_
    have hz := Option.some.inj h
    exact W.iret (v := mi m0 p0 0) hx hb hr (fun t ht hW => ⟨⟨_, (), rfl, hz, trivial⟩, hS.F ht⟩) hS.2.2 dX1_fact_52
  rw [if_neg c1] at h
  by_cases c3 : p1 = 1
  · rw [if_pos c3] at h
    refine W.eq (g2 := F0 m 1 ls [.int 1]) (by rw [c3]) ?_
    refine lv_tableIn (off := 52) (tgt := 53) hx hb dX1_fact_1 (by decide) (by decide) (by decide) (by decide) ?_
    refine lv_aload_n hx hb dX1_fact_53 rfl (lv_at hl 0 rfl) ?_
    obtain ⟨g4, h⟩ := vg_if h
    refine va_get (D := D) (ci := 1) (v := .int (mi m0 p0 1)) (C := RX1) (T := TX1) (N := 5) hx hb hts in_X1_fact_X1 hown hK hP p0 (vW_k1 n_p0 g4) rfl 1 (by decide) (hts (.fieldLink RX1 32 "VaultDoors$Vault" "doorCount" "I") (List.mem_of_getElem? (i := 2) rfl)) (fun _ h9 => h9) rfl dX1_fact_54 ?_
    have hz := Option.some.inj h
    exact W.iret (v := mi m0 p0 1) hx hb hr (fun t ht hW => ⟨⟨_, (), rfl, hz, trivial⟩, hS.F ht⟩) hS.2.2 dX1_fact_57
  rw [if_neg c3] at h
  by_cases c5 : p1 = 2
  · rw [if_pos c5] at h
    refine W.eq (g2 := F0 m 1 ls [.int 2]) (by rw [c5]) ?_
    refine lv_tableIn (off := 57) (tgt := 58) hx hb dX1_fact_1 (by decide) (by decide) (by decide) (by decide) ?_
    refine lv_aload_n hx hb dX1_fact_58 rfl (lv_at hl 0 rfl) ?_
    refine lv_iconst (v := 0) hx hb dX1_fact_59 (by decide) ?_
    obtain ⟨g6, h⟩ := vg_if h
    obtain ⟨q7, g8, h⟩ := vg_bind h
    refine va_calli (va_runV (As := [.int 0]) (rest := []) ⟨hx, hb, hml, hown, hts⟩ (cm_X1_doorsThat (m0 := m0) l D tc ad hO n_p0 g8) (cwV 1 hts gX1_fact_X1_doorsThat rfl rfl rfl (by decide +kernel) ⟨(Nat.le_of_ble_eq_true rfl), (Nat.le_of_ble_eq_true rfl)⟩) ⟨qR_blind, va_recv hK hP (ci := 1) (q0 := p0) rfl (vW_k1 n_p0 g6), qR_pre hP hK hZ⟩ rfl rfl hl.1 rfl (lv_room (Nat.le_of_ble_eq_true rfl)) dX1_fact_60 ⟨(Nat.le_of_ble_eq_true rfl), (Nat.le_of_ble_eq_true rfl)⟩) hS (fun q9 _ h9 => h9.elim) (fun q9 h9 => h9.elim) (fun w9 u t H1 locs ht hvm hw hB hz1 hk1 hS => ?_)
    have hP := hP.kept (fun k9 q9 hk9 => hk1 q9.1 (hP k9 q9 hk9).lt (fun h9 => h9))
    generalize H1 = H at hP hS ⊢
    clear hk1 hz1 ht hvm
    have hw : w9 = q7 := hw
    rw [hw]
    have hz := Option.some.inj h
    exact W.iret (v := q7) hx hb hr (fun t ht hW => ⟨⟨_, (), rfl, hz, trivial⟩, hS.F ht⟩) hS.2.2 dX1_fact_63
  rw [if_neg c5] at h
  by_cases c10 : p1 = 3
  · rw [if_pos c10] at h
    refine W.eq (g2 := F0 m 1 ls [.int 3]) (by rw [c10]) ?_
    refine lv_tableIn (off := 63) (tgt := 64) hx hb dX1_fact_1 (by decide) (by decide) (by decide) (by decide) ?_
    refine lv_aload_n hx hb dX1_fact_64 rfl (lv_at hl 0 rfl) ?_
    refine lv_iconst (v := 1) hx hb dX1_fact_65 (by decide) ?_
    obtain ⟨g11, h⟩ := vg_if h
    obtain ⟨q12, g13, h⟩ := vg_bind h
    refine va_calli (va_runV (As := [.int 1]) (rest := []) ⟨hx, hb, hml, hown, hts⟩ (cm_X1_doorsThat (m0 := m0) l D tc ad hO n_p0 g13) (cwV 1 hts gX1_fact_X1_doorsThat rfl rfl rfl (by decide +kernel) ⟨(Nat.le_of_ble_eq_true rfl), (Nat.le_of_ble_eq_true rfl)⟩) ⟨qR_blind, va_recv hK hP (ci := 1) (q0 := p0) rfl (vW_k1 n_p0 g11), qR_pre hP hK hZ⟩ rfl rfl hl.1 rfl (lv_room (Nat.le_of_ble_eq_true rfl)) dX1_fact_66 ⟨(Nat.le_of_ble_eq_true rfl), (Nat.le_of_ble_eq_true rfl)⟩) hS (fun q9 _ h9 => h9.elim) (fun q9 h9 => h9.elim) (fun w14 u t H1 locs ht hvm hw hB hz1 hk1 hS => ?_)
    have hP := hP.kept (fun k9 q9 hk9 => hk1 q9.1 (hP k9 q9 hk9).lt (fun h9 => h9))
    generalize H1 = H at hP hS ⊢
    clear hk1 hz1 ht hvm
    have hw : w14 = q12 := hw
    rw [hw]
    have hz := Option.some.inj h
    exact W.iret (v := q12) hx hb hr (fun t ht hW => ⟨⟨_, (), rfl, hz, trivial⟩, hS.F ht⟩) hS.2.2 dX1_fact_69
  rw [if_neg c10] at h
  by_cases c15 : p1 = 4
  · rw [if_pos c15] at h
    refine W.eq (g2 := F0 m 1 ls [.int 4]) (by rw [c15]) ?_
    refine lv_tableIn (off := 69) (tgt := 70) hx hb dX1_fact_1 (by decide) (by decide) (by decide) (by decide) ?_
    refine lv_aload_n hx hb dX1_fact_70 rfl (lv_at hl 0 rfl) ?_
    refine lv_iconst (v := 2) hx hb dX1_fact_71 (by decide) ?_
    obtain ⟨g16, h⟩ := vg_if h
    obtain ⟨q17, g18, h⟩ := vg_bind h
    refine va_calli (va_runV (As := [.int 2]) (rest := []) ⟨hx, hb, hml, hown, hts⟩ (cm_X1_doorsThat (m0 := m0) l D tc ad hO n_p0 g18) (cwV 1 hts gX1_fact_X1_doorsThat rfl rfl rfl (by decide +kernel) ⟨(Nat.le_of_ble_eq_true rfl), (Nat.le_of_ble_eq_true rfl)⟩) ⟨qR_blind, va_recv hK hP (ci := 1) (q0 := p0) rfl (vW_k1 n_p0 g16), qR_pre hP hK hZ⟩ rfl rfl hl.1 rfl (lv_room (Nat.le_of_ble_eq_true rfl)) dX1_fact_72 ⟨(Nat.le_of_ble_eq_true rfl), (Nat.le_of_ble_eq_true rfl)⟩) hS (fun q9 _ h9 => h9.elim) (fun q9 h9 => h9.elim) (fun w19 u t H1 locs ht hvm hw hB hz1 hk1 hS => ?_)
    have hP := hP.kept (fun k9 q9 hk9 => hk1 q9.1 (hP k9 q9 hk9).lt (fun h9 => h9))
    generalize H1 = H at hP hS ⊢
    clear hk1 hz1 ht hvm
    have hw : w19 = q17 := hw
    rw [hw]
    have hz := Option.some.inj h
    exact W.iret (v := q17) hx hb hr (fun t ht hW => ⟨⟨_, (), rfl, hz, trivial⟩, hS.F ht⟩) hS.2.2 dX1_fact_75
  rw [if_neg c15] at h
  by_cases c20 : p1 = 5
  · rw [if_pos c20] at h
    refine W.eq (g2 := F0 m 1 ls [.int 5]) (by rw [c20]) ?_
    refine lv_tableIn (off := 75) (tgt := 76) hx hb dX1_fact_1 (by decide) (by decide) (by decide) (by decide) ?_
    refine lv_aload_n hx hb dX1_fact_76 rfl (lv_at hl 0 rfl) ?_
    refine lv_iconst (v := 3) hx hb dX1_fact_77 (by decide) ?_
    obtain ⟨g21, h⟩ := vg_if h
    obtain ⟨q22, g23, h⟩ := vg_bind h
    refine va_calli (va_runV (As := [.int 3]) (rest := []) ⟨hx, hb, hml, hown, hts⟩ (cm_X1_doorsThat (m0 := m0) l D tc ad hO n_p0 g23) (cwV 1 hts gX1_fact_X1_doorsThat rfl rfl rfl (by decide +kernel) ⟨(Nat.le_of_ble_eq_true rfl), (Nat.le_of_ble_eq_true rfl)⟩) ⟨qR_blind, va_recv hK hP (ci := 1) (q0 := p0) rfl (vW_k1 n_p0 g21), qR_pre hP hK hZ⟩ rfl rfl hl.1 rfl (lv_room (Nat.le_of_ble_eq_true rfl)) dX1_fact_78 ⟨(Nat.le_of_ble_eq_true rfl), (Nat.le_of_ble_eq_true rfl)⟩) hS (fun q9 _ h9 => h9.elim) (fun q9 h9 => h9.elim) (fun w24 u t H1 locs ht hvm hw hB hz1 hk1 hS => ?_)
    have hP := hP.kept (fun k9 q9 hk9 => hk1 q9.1 (hP k9 q9 hk9).lt (fun h9 => h9))
    generalize H1 = H at hP hS ⊢
    clear hk1 hz1 ht hvm
    have hw : w24 = q22 := hw
    rw [hw]
    have hz := Option.some.inj h
    exact W.iret (v := q22) hx hb hr (fun t ht hW => ⟨⟨_, (), rfl, hz, trivial⟩, hS.F ht⟩) hS.2.2 dX1_fact_81
  rw [if_neg c20] at h
  by_cases c25 : p1 = 6
  · rw [if_pos c25] at h
    refine W.eq (g2 := F0 m 1 ls [.int 6]) (by rw [c25]) ?_
    refine lv_tableIn (off := 81) (tgt := 82) hx hb dX1_fact_1 (by decide) (by decide) (by decide) (by decide) ?_
    refine lv_aload_n hx hb dX1_fact_82 rfl (lv_at hl 0 rfl) ?_
    obtain ⟨g26, h⟩ := vg_if h
    obtain ⟨y27, g28, h⟩ := vg_bind h
    have n_y27 := hO _ _ _ g28
    refine va_get (D := D) (ci := 1) (v := .ref (ad y27)) (C := RX1) (T := TX1) (N := 5) hx hb hts in_X1_fact_X1 hown hK hP p0 (vW_k1 n_p0 g26) rfl 3 (by decide) (hts (.fieldLink RX1 20 "VaultDoors$Vault" "voices" "LVaultDoors$Voices;") (List.mem_of_getElem? (i := 3) rfl)) (fun _ h9 => h9) (by show some (va_rf (Option.map ad (mr m0 p0 3))) = _; rw [g28]; rfl) dX1_fact_83 ?_
    obtain ⟨g29, h⟩ := vg_if h
    refine va_get (D := D) (ci := 2) (v := .int (mi m0 y27 0)) (C := RX2) (T := TX2) (N := 7) hx hb hts in_X1_fact_X2 hown hK hP y27 (vW_k2 n_y27 g29) rfl 0 (by decide) (hts (.fieldLink RX1 71 "VaultDoors$Voices" "size" "I") (List.mem_of_getElem? (i := 4) rfl)) (fun _ h9 => h9) rfl dX1_fact_86 ?_
    have hz := Option.some.inj h
    exact W.iret (v := mi m0 y27 0) hx hb hr (fun t ht hW => ⟨⟨_, (), rfl, hz, trivial⟩, hS.F ht⟩) hS.2.2 dX1_fact_89
  rw [if_neg c25] at h
  by_cases c30 : p1 = 7
  · rw [if_pos c30] at h
    refine W.eq (g2 := F0 m 1 ls [.int 7]) (by rw [c30]) ?_
    refine lv_tableIn (off := 89) (tgt := 90) hx hb dX1_fact_1 (by decide) (by decide) (by decide) (by decide) ?_
    refine lv_aload_n hx hb dX1_fact_90 rfl (lv_at hl 0 rfl) ?_
    obtain ⟨g31, h⟩ := vg_if h
    obtain ⟨y32, g33, h⟩ := vg_bind h
    have n_y32 := hO _ _ _ g33
    refine va_get (D := D) (ci := 1) (v := .ref (ad y32)) (C := RX1) (T := TX1) (N := 5) hx hb hts in_X1_fact_X1 hown hK hP p0 (vW_k1 n_p0 g31) rfl 3 (by decide) (hts (.fieldLink RX1 20 "VaultDoors$Vault" "voices" "LVaultDoors$Voices;") (List.mem_of_getElem? (i := 3) rfl)) (fun _ h9 => h9) (by show some (va_rf (Option.map ad (mr m0 p0 3))) = _; rw [g33]; rfl) dX1_fact_91 ?_
    obtain ⟨g34, h⟩ := vg_if h
    refine va_get (D := D) (ci := 2) (v := .int (mi m0 y32 1)) (C := RX2) (T := TX2) (N := 7) hx hb hts in_X1_fact_X2 hown hK hP y32 (vW_k2 n_y32 g34) rfl 1 (by decide) (hts (.fieldLink RX1 140 "VaultDoors$Voices" "lost" "I") (List.mem_of_getElem? (i := 5) rfl)) (fun _ h9 => h9) rfl dX1_fact_94 ?_
    have hz := Option.some.inj h
    exact W.iret (v := mi m0 y32 1) hx hb hr (fun t ht hW => ⟨⟨_, (), rfl, hz, trivial⟩, hS.F ht⟩) hS.2.2 dX1_fact_97
  rw [if_neg c30] at h
  refine lv_tableOut (tgt := 98) hx hb dX1_fact_1 ((vs_sw8 p1).resolve_right (by simp [c1, c3, c5, c10, c15, c20, c25, c30])) (by decide) ?_
  refine lv_aload_n hx hb dX1_fact_98 rfl (lv_at hl 0 rfl) ?_
  obtain ⟨g35, h⟩ := vg_if h
  obtain ⟨q36, g37, h⟩ := vg_bind h
  refine va_calli (va_runV (As := []) (rest := []) ⟨hx, hb, hml, hown, hts⟩ (cm_X1_openDoors (m0 := m0) l D tc ad hO n_p0 g37) (cwV 0 hts gX1_fact_X1_openDoors rfl rfl rfl (by decide +kernel) ⟨(Nat.le_of_ble_eq_true rfl), (Nat.le_of_ble_eq_true rfl)⟩) ⟨qR_blind, va_recv hK hP (ci := 1) (q0 := p0) rfl (vW_k1 n_p0 g35), qR_pre hP hK hZ⟩ rfl rfl hl.1 rfl (lv_room (Nat.le_of_ble_eq_true rfl)) dX1_fact_99 ⟨(Nat.le_of_ble_eq_true rfl), (Nat.le_of_ble_eq_true rfl)⟩) hS (fun q9 _ h9 => h9.elim) (fun q9 h9 => h9.elim) (fun w38 u t H1 locs ht hvm hw hB hz1 hk1 hS => ?_)
  have hP := hP.kept (fun k9 q9 hk9 => hk1 q9.1 (hP k9 q9 hk9).lt (fun h9 => h9))
  generalize H1 = H at hP hS ⊢
  clear hk1 hz1 ht hvm
  have hw : w38 = q36 := hw
  rw [hw]
  have hz := Option.some.inj h
  exact W.iret (v := q36) hx hb hr (fun t ht hW => ⟨⟨_, (), rfl, hz, trivial⟩, hS.F ht⟩) hS.2.2 dX1_fact_102

noncomputable def fB_X1_askedBy_20 (rec : Nat → vM → Nat → Int32 → Int32 → Nat → Int32 → Option (Int32)) (m : vM) (r0 : Nat) (i1 : Int32) (i2 : Int32) (r3 : Nat) (i4 : Int32) : Option (Int32) :=
  if mk m r3 = 0 then
  if (mi m r3 7) ≤ i4 then (
    some i2
  ) else (
    Option.bind (mr m r3 8) fun y3 =>
    if mk m y3 = 6 then
    if vin i4 (ml m y3) then
    rec 20 m r0 i1 (i2 ||| (1 <<< ((mi m y3 i4.toNatClampNeg) &&& 31))) r3 (i4 + 1)
    else none
    else none
  )
  else none
noncomputable def fL_X1_askedBy (n : Nat) : Nat → vM → Nat → Int32 → Int32 → Nat → Int32 → Option (Int32) := Nat.rec (fun _ _ _ _ _ _ _ => none) (fun _ rec pc m r0 i1 i2 r3 i4 => if pc = 20 then fB_X1_askedBy_20 rec m r0 i1 i2 r3 i4 else none) n
noncomputable def f_X1_askedBy (m : vM) (p0 : Nat) (p1 : Int32) : Option (Int32) :=
  if mk m p0 = 1 then
  Option.bind (f_X1_isDoor m p0 p1) fun q2 =>
  if q2 = 0 then (
    some (0 : Int32)
  ) else (
    Option.bind (mr m p0 2) fun y6 =>
    if mk m y6 = 7 then
    if vin p1 (ml m y6) then
    Option.bind (mr m y6 p1.toNatClampNeg) fun y10 =>
    fL_X1_askedBy vF 20 m p0 p1 (0 : Int32) y10 (0 : Int32)
    else none
    else none
  )
  else none
theorem in_X1_askedBy_X0 : ∀ w ∈ wsX00, w ∈ wsX1_askedBy := by decide +kernel
theorem in_X1_askedBy_X1 : ∀ w ∈ wsX10, w ∈ wsX1_askedBy := by decide +kernel
set_option maxHeartbeats 1000000 in
set_option maxRecDepth 100000 in
theorem cm_X1_askedBy (l : Launch) (D : va_G) (tc : Nat → ClassId) (ad : Nat → Nat) {N : Nat} {m0 : vM} {p0 : Nat} {p1 : Int32} (hO : vOK N m0) (n_p0 : p0 < N) {z : Int32} (h : f_X1_askedBy m0 p0 p1 = some z) : Met l yX1_askedBy wsX1_askedBy ({ frames := 1, cells := 0, slots := 0, locals := 21 } : Room) (va_Pc [.ref (ad p0), .int p1] (qR D tc ad N m0)) (va_Qi (fun (r9 : Int32) (_ : Unit) => r9 = z) (fun _ _ => True) (fun _ => False)) 0 0 (fun _ => False) := by
  refine Met.ofW (cc := cX1_askedBy) (maxL := 5) (ret := (some .int)) (by decide) rfl ?_
  intro p e s m args below meth c s₁ B hml hv
  obtain ⟨rfl, hP, hK, hZ⟩ := hv
  have hx := B.exec
  have hb := B.bytes
  have hr := B.returns
  have hts := atoms_spec (ws := wsX1_askedBy) B.pre
  have hown : s.vm.findClass RX1 = some m.cls := findClass_of_methodNamed B.named
  have hlocks := B.notSynchronized
  have hS : va_S (fun _ => False) s.heap s.heap [] := va_S.rf
  have hl := lv_entry ([.ref (ad p0), .int p1]) (n := 5) (Nat.le_of_ble_eq_true rfl)
  rw [lg_entry_eq]
  generalize (lg_sl ([.ref (ad p0), .int p1]) ++ List.replicate (5 - (lg_sl ([.ref (ad p0), .int p1])).length) Slot.unset).toArray = ls at hl ⊢
  have hl : lv_has ls 5 [(0, .ref (ad p0)), (1, .int p1)] := hl
  have hL : ∀ n : Nat, (∀ (m1 : vM) (r0 : Nat) (i1 : Int32) (i2 : Int32) (r3 : Nat) (i4 : Int32) (H : Heap) (locs : List Loc) (ls : Array Slot), vOK N m1 → r0 < N → r3 < N → fL_X1_askedBy n 20 m1 r0 i1 i2 r3 i4 = some z → va_P D vwCl (vW tc ad N m1) H → va_S (fun _ => False) s.heap H locs → lv_has ls 5 [(0, .ref (ad r0)), (1, .int i1), (2, .int i2), (3, .ref (ad r3)), (4, .int i4)] → W p l e (headSpec wsX1_askedBy ({ frames := 1, cells := 0, slots := 0, locals := 21 } : Room)).room s m ([.ref (ad p0), .int p1] : List Value).toArray below meth c H locs 0 0 (MQ below (va_Qi (fun (r9 : Int32) (_ : Unit) => r9 = z) (fun _ _ => True) (fun _ => False)) ([.ref (ad p0), .int p1] : List Value).toArray s 0 0 (fun _ => False)) (F0 m 20 ls [])) := by
    intro n
    induction n with
    | zero => exact (fun _ _ _ _ _ _ _ _ _ _ _ _ h9 _ _ _ => by have h9 : (none : Option (Int32)) = some z := h9; cases h9)
    | succ n ih =>
      · intro m1 r0 i1 i2 r3 i4 H locs ls hO n_r0 n_r3 h hP hS hl
        have h : fB_X1_askedBy_20 (fL_X1_askedBy n) m1 r0 i1 i2 r3 i4 = some z := h
        unfold fB_X1_askedBy_20 at h
        refine lv_iload hx hb dX1_askedBy_20 (lv_at hl 4 rfl) ?_
        refine lv_aload_n hx hb dX1_askedBy_22 rfl (lv_at hl 3 rfl) ?_
        obtain ⟨g1, h⟩ := vg_if h
        refine va_get (D := D) (ci := 0) (v := .int (mi m1 r3 7)) (C := RX0) (T := TX0) (N := 14) hx hb hts in_X1_askedBy_X0 hown hK hP r3 (vW_k0 n_r3 g1) rfl 7 (by decide) (hts (.fieldLink RX1 107 "VaultDoors$Door" "asked" "I") (List.mem_of_getElem? (i := 2) rfl)) (fun _ h9 => h9) rfl dX1_askedBy_23 ?_
        refine lv_icmp_ge (tgt := 47) hx hb dX1_askedBy_26 (by decide) (fun c2 => ?_) (fun c2 => ?_)
        · rw [if_pos c2] at h
          refine lv_iload_n hx hb dX1_askedBy_47 rfl (lv_at hl 2 rfl) ?_
          have hz := Option.some.inj h
          exact W.iret (v := i2) hx hb hr (fun t ht hW => ⟨⟨_, (), rfl, hz, trivial⟩, hS.F ht⟩) hS.2.2 dX1_askedBy_48
        · rw [if_neg c2] at h
          refine lv_iload_n hx hb dX1_askedBy_29 rfl (lv_at hl 2 rfl) ?_
          refine lv_iconst (v := 1) hx hb dX1_askedBy_30 (by decide) ?_
          refine lv_aload_n hx hb dX1_askedBy_31 rfl (lv_at hl 3 rfl) ?_
          obtain ⟨y3, g4, h⟩ := vg_bind h
          have n_y3 := hO _ _ _ g4
          refine va_get (D := D) (ci := 0) (v := .ref (ad y3)) (C := RX0) (T := TX0) (N := 14) hx hb hts in_X1_askedBy_X0 hown hK hP r3 (vW_k0 n_r3 g1) rfl 8 (by decide) (hts (.fieldLink RX1 110 "VaultDoors$Door" "other" "[I") (List.mem_of_getElem? (i := 3) rfl)) (fun _ h9 => h9) (by show some (va_rf (Option.map ad (mr m1 r3 8))) = _; rw [g4]; rfl) dX1_askedBy_32 ?_
          refine lv_iload hx hb dX1_askedBy_35 (lv_at hl 4 rfl) ?_
          obtain ⟨g5, h⟩ := vg_if h
          obtain ⟨g6, h⟩ := vg_if h
          refine va_iald (D := D) hx hb hK hP y3 0 (vW_k6 n_y3 g5) rfl (i := i4) g6 dX1_askedBy_37 ?_
          refine lv_ishl hx hb dX1_askedBy_38 ?_
          refine lv_ior hx hb dX1_askedBy_39 ?_
          refine lv_istore_n (lv' := [(2, .int (i2 ||| (1 <<< ((mi m1 y3 i4.toNatClampNeg) &&& 31)))), (0, .ref (ad r0)), (1, .int i1), (3, .ref (ad r3)), (4, .int i4)]) hx hb dX1_askedBy_40 rfl hl (by decide) rfl (fun ls hl => ?_)
          refine lv_iinc (v := i4 + 1) (lv' := [(4, .int (i4 + 1)), (2, .int (i2 ||| (1 <<< ((mi m1 y3 i4.toNatClampNeg) &&& 31)))), (0, .ref (ad r0)), (1, .int i1), (3, .ref (ad r3))]) hx hb dX1_askedBy_41 hl (k := 4) rfl rfl (by decide) rfl (fun ls hl => ?_)
          refine lv_goto (tgt := 20) hx hb dX1_askedBy_44 (by decide) ?_
          exact (ih) m1 r0 i1 (i2 ||| (1 <<< ((mi m1 y3 i4.toNatClampNeg) &&& 31))) r3 (i4 + 1) _ _ _ hO n_r0 n_r3 h hP hS (lv_sub hl (l' := [(0, .ref (ad r0)), (1, .int i1), (2, .int (i2 ||| (1 <<< ((mi m1 y3 i4.toNatClampNeg) &&& 31)))), (3, .ref (ad r3)), (4, .int (i4 + 1))]) [2, 3, 1, 4, 0] rfl)
  unfold f_X1_askedBy at h
  refine lv_iconst (v := 0) hx hb dX1_askedBy_0 (by decide) ?_
  refine lv_istore_n (lv' := [(2, .int 0), (0, .ref (ad p0)), (1, .int p1)]) hx hb dX1_askedBy_1 rfl hl (by decide) rfl (fun ls hl => ?_)
  refine lv_aload_n hx hb dX1_askedBy_2 rfl (lv_at hl 1 rfl) ?_
  refine lv_iload_n hx hb dX1_askedBy_3 rfl (lv_at hl 2 rfl) ?_
  obtain ⟨g7, h⟩ := vg_if h
  obtain ⟨q8, g9, h⟩ := vg_bind h
  refine va_calli (va_runV (As := [.int p1]) (rest := []) ⟨hx, hb, hml, hown, hts⟩ (cm_X1_isDoor (m0 := m0) l D tc ad hO n_p0 g9) (cwV 1 hts gX1_askedBy_X1_isDoor rfl rfl rfl (by decide +kernel) ⟨(Nat.le_of_ble_eq_true rfl), (Nat.le_of_ble_eq_true rfl)⟩) ⟨qR_blind, va_recv hK hP (ci := 1) (q0 := p0) rfl (vW_k1 n_p0 g7), qR_pre hP hK hZ⟩ rfl rfl hl.1 rfl (lv_room (Nat.le_of_ble_eq_true rfl)) dX1_askedBy_4 ⟨(Nat.le_of_ble_eq_true rfl), (Nat.le_of_ble_eq_true rfl)⟩) hS (fun q9 _ h9 => h9.elim) (fun q9 h9 => h9.elim) (fun w10 u t H1 locs ht hvm hw hB hz1 hk1 hS => ?_)
  have hP := hP.kept (fun k9 q9 hk9 => hk1 q9.1 (hP k9 q9 hk9).lt (fun h9 => h9))
  generalize H1 = H at hP hS ⊢
  clear hk1 hz1 ht hvm
  have hw : w10 = q8 := hw
  rw [hw]
  refine lv_if_eq (tgt := 47) hx hb dX1_askedBy_7 (by decide) (fun c11 => ?_) (fun c11 => ?_)
  · rw [if_pos c11] at h
    refine lv_iload_n hx hb dX1_askedBy_47 rfl (lv_at hl 0 rfl) ?_
    have hz := Option.some.inj h
    exact W.iret (v := 0) hx hb hr (fun t ht hW => ⟨⟨_, (), rfl, hz, trivial⟩, hS.F ht⟩) hS.2.2 dX1_askedBy_48
  · rw [if_neg c11] at h
    refine lv_aload_n hx hb dX1_askedBy_10 rfl (lv_at hl 1 rfl) ?_
    obtain ⟨y12, g13, h⟩ := vg_bind h
    have n_y12 := hO _ _ _ g13
    refine va_get (D := D) (ci := 1) (v := .ref (ad y12)) (C := RX1) (T := TX1) (N := 5) hx hb hts in_X1_askedBy_X1 hown hK hP p0 (vW_k1 n_p0 g7) rfl 2 (by decide) (hts (.fieldLink RX1 11 "VaultDoors$Vault" "doors" "[LVaultDoors$Door;") (List.mem_of_getElem? (i := 1) rfl)) (fun _ h9 => h9) (by show some (va_rf (Option.map ad (mr m0 p0 2))) = _; rw [g13]; rfl) dX1_askedBy_11 ?_
    refine lv_iload_n hx hb dX1_askedBy_14 rfl (lv_at hl 2 rfl) ?_
    obtain ⟨g14, h⟩ := vg_if h
    obtain ⟨g15, h⟩ := vg_if h
    obtain ⟨y16, g17, h⟩ := vg_bind h
    have n_y16 := hO _ _ _ g17
    refine va_aldq (D := D) hx hb hK hP y12 1 (vW_k7 n_y12 g14) rfl (i := p1) g15 dX1_askedBy_15 ?_
    refine W.eq (g2 := F0 m 16 ls [.ref (ad y16)]) (by show F0 m 16 ls (va_rf (Option.map ad (mr m0 y12 p1.toNatClampNeg)) :: _) = _; rw [g17]; rfl) ?_
    refine lv_astore_n (lv' := [(3, .ref (ad y16)), (2, .int 0), (0, .ref (ad p0)), (1, .int p1)]) hx hb dX1_askedBy_16 rfl hl (by decide) rfl (fun ls hl => ?_)
    refine lv_iconst (v := 0) hx hb dX1_askedBy_17 (by decide) ?_
    refine lv_istore (lv' := [(4, .int 0), (3, .ref (ad y16)), (2, .int 0), (0, .ref (ad p0)), (1, .int p1)]) hx hb dX1_askedBy_18 hl (by decide) rfl (fun ls hl => ?_)
    exact ((hL vF)) m0 p0 p1 (0 : Int32) y16 (0 : Int32) _ _ _ hO n_p0 n_y16 h hP hS (lv_sub hl (l' := [(0, .ref (ad p0)), (1, .int p1), (2, .int 0), (3, .ref (ad y16)), (4, .int 0)]) [3, 4, 2, 1, 0] rfl)

noncomputable def fB_X1_reachedFrom_8 (rec : Nat → vM → Nat → Int32 → Int32 → Int32 → Int32 → Int32 → Option (Int32)) (m : vM) (r0 : Nat) (i1 : Int32) (i2 : Int32) (i3 : Int32) (i4 : Int32) (i5 : Int32) : Option (Int32) :=
  if mk m r0 = 1 then
  if (mi m r0 1) ≤ i3 then (
    some i2
  ) else (
    rec 22 m r0 i1 i2 i3 i2 (0 : Int32)
  )
  else none
noncomputable def fB_X1_reachedFrom_22 (rec : Nat → vM → Nat → Int32 → Int32 → Int32 → Int32 → Int32 → Option (Int32)) (m : vM) (r0 : Nat) (i1 : Int32) (i2 : Int32) (i3 : Int32) (i4 : Int32) (i5 : Int32) : Option (Int32) :=
  if mk m r0 = 1 then
  if (mi m r0 1) ≤ i5 then (
    rec 8 m r0 i1 i4 (i3 + 1) 0 0
  ) else (
    if (i2 &&& (1 <<< (i5 &&& 31))) = 0 then (
      rec 22 m r0 i1 i2 i3 i4 (i5 + 1)
    ) else (
      Option.bind (f_X1_askedBy m r0 i5) fun q4 =>
      rec 22 m r0 i1 i2 i3 (i4 ||| q4) (i5 + 1)
    )
  )
  else none
noncomputable def fL_X1_reachedFrom (n : Nat) : Nat → vM → Nat → Int32 → Int32 → Int32 → Int32 → Int32 → Option (Int32) := Nat.rec (fun _ _ _ _ _ _ _ _ => none) (fun _ rec pc m r0 i1 i2 i3 i4 i5 => if pc = 8 then fB_X1_reachedFrom_8 rec m r0 i1 i2 i3 i4 i5 else if pc = 22 then fB_X1_reachedFrom_22 rec m r0 i1 i2 i3 i4 i5 else none) n
noncomputable def f_X1_reachedFrom (m : vM) (p0 : Nat) (p1 : Int32) : Option (Int32) :=
  if mk m p0 = 1 then
  Option.bind (f_X1_askedBy m p0 p1) fun q2 =>
  fL_X1_reachedFrom vF 8 m p0 p1 q2 (0 : Int32) 0 0
  else none
theorem in_X1_reachedFrom_X1 : ∀ w ∈ wsX10, w ∈ wsX1_reachedFrom := by decide +kernel
set_option maxHeartbeats 1000000 in
set_option maxRecDepth 100000 in
theorem cm_X1_reachedFrom (l : Launch) (D : va_G) (tc : Nat → ClassId) (ad : Nat → Nat) {N : Nat} {m0 : vM} {p0 : Nat} {p1 : Int32} (hO : vOK N m0) (n_p0 : p0 < N) {z : Int32} (h : f_X1_reachedFrom m0 p0 p1 = some z) : Met l yX1_reachedFrom wsX1_reachedFrom ({ frames := 2, cells := 0, slots := 0, locals := 45 } : Room) (va_Pc [.ref (ad p0), .int p1] (qR D tc ad N m0)) (va_Qi (fun (r9 : Int32) (_ : Unit) => r9 = z) (fun _ _ => True) (fun _ => False)) 0 0 (fun _ => False) := by
  refine Met.ofW (cc := cX1_reachedFrom) (maxL := 6) (ret := (some .int)) (by decide) rfl ?_
  intro p e s m args below meth c s₁ B hml hv
  obtain ⟨rfl, hP, hK, hZ⟩ := hv
  have hx := B.exec
  have hb := B.bytes
  have hr := B.returns
  have hts := atoms_spec (ws := wsX1_reachedFrom) B.pre
  have hown : s.vm.findClass RX1 = some m.cls := findClass_of_methodNamed B.named
  have hlocks := B.notSynchronized
  have hS : va_S (fun _ => False) s.heap s.heap [] := va_S.rf
  have hl := lv_entry ([.ref (ad p0), .int p1]) (n := 6) (Nat.le_of_ble_eq_true rfl)
  rw [lg_entry_eq]
  generalize (lg_sl ([.ref (ad p0), .int p1]) ++ List.replicate (6 - (lg_sl ([.ref (ad p0), .int p1])).length) Slot.unset).toArray = ls at hl ⊢
  have hl : lv_has ls 6 [(0, .ref (ad p0)), (1, .int p1)] := hl
  have hL : ∀ n : Nat, (∀ (m1 : vM) (r0 : Nat) (i1 : Int32) (i2 : Int32) (i3 : Int32) (H : Heap) (locs : List Loc) (ls : Array Slot), vOK N m1 → r0 < N → fL_X1_reachedFrom n 8 m1 r0 i1 i2 i3 0 0 = some z → va_P D vwCl (vW tc ad N m1) H → va_S (fun _ => False) s.heap H locs → lv_has ls 6 [(0, .ref (ad r0)), (1, .int i1), (2, .int i2), (3, .int i3)] → W p l e (headSpec wsX1_reachedFrom ({ frames := 2, cells := 0, slots := 0, locals := 45 } : Room)).room s m ([.ref (ad p0), .int p1] : List Value).toArray below meth c H locs 0 0 (MQ below (va_Qi (fun (r9 : Int32) (_ : Unit) => r9 = z) (fun _ _ => True) (fun _ => False)) ([.ref (ad p0), .int p1] : List Value).toArray s 0 0 (fun _ => False)) (F0 m 8 ls [])) ∧ (∀ (m1 : vM) (r0 : Nat) (i1 : Int32) (i2 : Int32) (i3 : Int32) (i4 : Int32) (i5 : Int32) (H : Heap) (locs : List Loc) (ls : Array Slot), vOK N m1 → r0 < N → fL_X1_reachedFrom n 22 m1 r0 i1 i2 i3 i4 i5 = some z → va_P D vwCl (vW tc ad N m1) H → va_S (fun _ => False) s.heap H locs → lv_has ls 6 [(0, .ref (ad r0)), (1, .int i1), (2, .int i2), (3, .int i3), (4, .int i4), (5, .int i5)] → W p l e (headSpec wsX1_reachedFrom ({ frames := 2, cells := 0, slots := 0, locals := 45 } : Room)).room s m ([.ref (ad p0), .int p1] : List Value).toArray below meth c H locs 0 0 (MQ below (va_Qi (fun (r9 : Int32) (_ : Unit) => r9 = z) (fun _ _ => True) (fun _ => False)) ([.ref (ad p0), .int p1] : List Value).toArray s 0 0 (fun _ => False)) (F0 m 22 ls [])) := by
    intro n
    induction n with
    | zero => exact ⟨(fun _ _ _ _ _ _ _ _ _ _ h9 _ _ _ => by have h9 : (none : Option (Int32)) = some z := h9; cases h9), (fun _ _ _ _ _ _ _ _ _ _ _ _ h9 _ _ _ => by have h9 : (none : Option (Int32)) = some z := h9; cases h9)⟩
    | succ n ih =>
      refine ⟨?_, ?_⟩
      · intro m1 r0 i1 i2 i3 H locs ls hO n_r0 h hP hS hl
        have h : fB_X1_reachedFrom_8 (fL_X1_reachedFrom n) m1 r0 i1 i2 i3 0 0 = some z := h
        unfold fB_X1_reachedFrom_8 at h
        refine lv_iload_n hx hb dX1_reachedFrom_8 rfl (lv_at hl 3 rfl) ?_
        refine lv_aload_n hx hb dX1_reachedFrom_9 rfl (lv_at hl 0 rfl) ?_
        obtain ⟨g1, h⟩ := vg_if h
        refine va_get (D := D) (ci := 1) (v := .int (mi m1 r0 1)) (C := RX1) (T := TX1) (N := 5) hx hb hts in_X1_reachedFrom_X1 hown hK hP r0 (vW_k1 n_r0 g1) rfl 1 (by decide) (hts (.fieldLink RX1 32 "VaultDoors$Vault" "doorCount" "I") (List.mem_of_getElem? (i := 1) rfl)) (fun _ h9 => h9) rfl dX1_reachedFrom_10 ?_
        refine lv_icmp_ge (tgt := 66) hx hb dX1_reachedFrom_13 (by decide) (fun c2 => ?_) (fun c2 => ?_)
        · rw [if_pos c2] at h
          refine lv_iload_n hx hb dX1_reachedFrom_66 rfl (lv_at hl 2 rfl) ?_
          have hz := Option.some.inj h
          exact W.iret (v := i2) hx hb hr (fun t ht hW => ⟨⟨_, (), rfl, hz, trivial⟩, hS.F ht⟩) hS.2.2 dX1_reachedFrom_67
        · rw [if_neg c2] at h
          refine lv_iload_n hx hb dX1_reachedFrom_16 rfl (lv_at hl 2 rfl) ?_
          refine lv_istore (lv' := [(4, .int i2), (0, .ref (ad r0)), (1, .int i1), (2, .int i2), (3, .int i3)]) hx hb dX1_reachedFrom_17 hl (by decide) rfl (fun ls hl => ?_)
          refine lv_iconst (v := 0) hx hb dX1_reachedFrom_19 (by decide) ?_
          refine lv_istore (lv' := [(5, .int 0), (4, .int i2), (0, .ref (ad r0)), (1, .int i1), (2, .int i2), (3, .int i3)]) hx hb dX1_reachedFrom_20 hl (by decide) rfl (fun ls hl => ?_)
          exact (ih.2) m1 r0 i1 i2 i3 i2 (0 : Int32) _ _ _ hO n_r0 h hP hS (lv_sub hl (l' := [(0, .ref (ad r0)), (1, .int i1), (2, .int i2), (3, .int i3), (4, .int i2), (5, .int 0)]) [2, 3, 4, 5, 1, 0] rfl)
      · intro m1 r0 i1 i2 i3 i4 i5 H locs ls hO n_r0 h hP hS hl
        have h : fB_X1_reachedFrom_22 (fL_X1_reachedFrom n) m1 r0 i1 i2 i3 i4 i5 = some z := h
        unfold fB_X1_reachedFrom_22 at h
        refine lv_iload hx hb dX1_reachedFrom_22 (lv_at hl 5 rfl) ?_
        refine lv_aload_n hx hb dX1_reachedFrom_24 rfl (lv_at hl 0 rfl) ?_
        obtain ⟨g3, h⟩ := vg_if h
        refine va_get (D := D) (ci := 1) (v := .int (mi m1 r0 1)) (C := RX1) (T := TX1) (N := 5) hx hb hts in_X1_reachedFrom_X1 hown hK hP r0 (vW_k1 n_r0 g3) rfl 1 (by decide) (hts (.fieldLink RX1 32 "VaultDoors$Vault" "doorCount" "I") (List.mem_of_getElem? (i := 1) rfl)) (fun _ h9 => h9) rfl dX1_reachedFrom_25 ?_
        refine lv_icmp_ge (tgt := 57) hx hb dX1_reachedFrom_28 (by decide) (fun c4 => ?_) (fun c4 => ?_)
        · rw [if_pos c4] at h
          refine lv_iload hx hb dX1_reachedFrom_57 (lv_at hl 4 rfl) ?_
          refine lv_istore_n (lv' := [(2, .int i4), (0, .ref (ad r0)), (1, .int i1), (3, .int i3), (4, .int i4), (5, .int i5)]) hx hb dX1_reachedFrom_59 rfl hl (by decide) rfl (fun ls hl => ?_)
          refine lv_iinc (v := i3 + 1) (lv' := [(3, .int (i3 + 1)), (2, .int i4), (0, .ref (ad r0)), (1, .int i1), (4, .int i4), (5, .int i5)]) hx hb dX1_reachedFrom_60 hl (k := 3) rfl rfl (by decide) rfl (fun ls hl => ?_)
          refine lv_goto (tgt := 8) hx hb dX1_reachedFrom_63 (by decide) ?_
          exact (ih.1) m1 r0 i1 i4 (i3 + 1) _ _ _ hO n_r0 h hP hS (lv_sub hl (l' := [(0, .ref (ad r0)), (1, .int i1), (2, .int i4), (3, .int (i3 + 1))]) [2, 3, 1, 0] rfl)
        · rw [if_neg c4] at h
          refine lv_iload_n hx hb dX1_reachedFrom_31 rfl (lv_at hl 2 rfl) ?_
          refine lv_iconst (v := 1) hx hb dX1_reachedFrom_32 (by decide) ?_
          refine lv_iload hx hb dX1_reachedFrom_33 (lv_at hl 5 rfl) ?_
          refine lv_ishl hx hb dX1_reachedFrom_35 ?_
          refine lv_iand hx hb dX1_reachedFrom_36 ?_
          refine lv_if_eq (tgt := 51) hx hb dX1_reachedFrom_37 (by decide) (fun c5 => ?_) (fun c5 => ?_)
          · rw [if_pos c5] at h
            refine lv_iinc (v := i5 + 1) (lv' := [(5, .int (i5 + 1)), (0, .ref (ad r0)), (1, .int i1), (2, .int i2), (3, .int i3), (4, .int i4)]) hx hb dX1_reachedFrom_51 hl (k := 5) rfl rfl (by decide) rfl (fun ls hl => ?_)
            refine lv_goto (tgt := 22) hx hb dX1_reachedFrom_54 (by decide) ?_
            exact (ih.2) m1 r0 i1 i2 i3 i4 (i5 + 1) _ _ _ hO n_r0 h hP hS (lv_sub hl (l' := [(0, .ref (ad r0)), (1, .int i1), (2, .int i2), (3, .int i3), (4, .int i4), (5, .int (i5 + 1))]) [1, 2, 3, 4, 5, 0] rfl)
          · rw [if_neg c5] at h
            refine lv_iload hx hb dX1_reachedFrom_40 (lv_at hl 4 rfl) ?_
            refine lv_aload_n hx hb dX1_reachedFrom_42 rfl (lv_at hl 0 rfl) ?_
            refine lv_iload hx hb dX1_reachedFrom_43 (lv_at hl 5 rfl) ?_
            obtain ⟨q6, g7, h⟩ := vg_bind h
            refine va_calli (va_runV (As := [.int i5]) (rest := [.int i4]) ⟨hx, hb, hml, hown, hts⟩ (cm_X1_askedBy (m0 := m1) l D tc ad hO n_r0 g7) (cwV 1 hts gX1_reachedFrom_X1_askedBy rfl rfl rfl (by decide +kernel) ⟨(Nat.le_of_ble_eq_true rfl), (Nat.le_of_ble_eq_true rfl)⟩) ⟨qR_blind, va_recv hK hP (ci := 1) (q0 := r0) rfl (vW_k1 n_r0 g3), qR_pre hP hK hZ⟩ rfl rfl hl.1 rfl (lv_room (Nat.le_of_ble_eq_true rfl)) dX1_reachedFrom_45 ⟨(Nat.le_of_ble_eq_true rfl), (Nat.le_of_ble_eq_true rfl)⟩) hS (fun q9 _ h9 => h9.elim) (fun q9 h9 => h9.elim) (fun w8 u t H1 locs ht hvm hw hB hz1 hk1 hS => ?_)
            have hP := hP.kept (fun k9 q9 hk9 => hk1 q9.1 (hP k9 q9 hk9).lt (fun h9 => h9))
            generalize H1 = H at hP hS ⊢
            clear hk1 hz1 ht hvm
            have hw : w8 = q6 := hw
            rw [hw]
            refine lv_ior hx hb dX1_reachedFrom_48 ?_
            refine lv_istore (lv' := [(4, .int (i4 ||| q6)), (0, .ref (ad r0)), (1, .int i1), (2, .int i2), (3, .int i3), (5, .int i5)]) hx hb dX1_reachedFrom_49 hl (by decide) rfl (fun ls hl => ?_)
            refine lv_iinc (v := i5 + 1) (lv' := [(5, .int (i5 + 1)), (4, .int (i4 ||| q6)), (0, .ref (ad r0)), (1, .int i1), (2, .int i2), (3, .int i3)]) hx hb dX1_reachedFrom_51 hl (k := 5) rfl rfl (by decide) rfl (fun ls hl => ?_)
            refine lv_goto (tgt := 22) hx hb dX1_reachedFrom_54 (by decide) ?_
            exact (ih.2) m1 r0 i1 i2 i3 (i4 ||| q6) (i5 + 1) _ _ _ hO n_r0 h hP hS (lv_sub hl (l' := [(0, .ref (ad r0)), (1, .int i1), (2, .int i2), (3, .int i3), (4, .int (i4 ||| q6)), (5, .int (i5 + 1))]) [2, 3, 4, 5, 1, 0] rfl)
  unfold f_X1_reachedFrom at h
  refine lv_aload_n hx hb dX1_reachedFrom_0 rfl (lv_at hl 0 rfl) ?_
  refine lv_iload_n hx hb dX1_reachedFrom_1 rfl (lv_at hl 1 rfl) ?_
  obtain ⟨g9, h⟩ := vg_if h
  obtain ⟨q10, g11, h⟩ := vg_bind h
  refine va_calli (va_runV (As := [.int p1]) (rest := []) ⟨hx, hb, hml, hown, hts⟩ (cm_X1_askedBy (m0 := m0) l D tc ad hO n_p0 g11) (cwV 1 hts gX1_reachedFrom_X1_askedBy rfl rfl rfl (by decide +kernel) ⟨(Nat.le_of_ble_eq_true rfl), (Nat.le_of_ble_eq_true rfl)⟩) ⟨qR_blind, va_recv hK hP (ci := 1) (q0 := p0) rfl (vW_k1 n_p0 g9), qR_pre hP hK hZ⟩ rfl rfl hl.1 rfl (lv_room (Nat.le_of_ble_eq_true rfl)) dX1_reachedFrom_2 ⟨(Nat.le_of_ble_eq_true rfl), (Nat.le_of_ble_eq_true rfl)⟩) hS (fun q9 _ h9 => h9.elim) (fun q9 h9 => h9.elim) (fun w12 u t H1 locs ht hvm hw hB hz1 hk1 hS => ?_)
  have hP := hP.kept (fun k9 q9 hk9 => hk1 q9.1 (hP k9 q9 hk9).lt (fun h9 => h9))
  generalize H1 = H at hP hS ⊢
  clear hk1 hz1 ht hvm
  have hw : w12 = q10 := hw
  rw [hw]
  refine lv_istore_n (lv' := [(2, .int q10), (0, .ref (ad p0)), (1, .int p1)]) hx hb dX1_reachedFrom_5 rfl hl (by decide) rfl (fun ls hl => ?_)
  refine lv_iconst (v := 0) hx hb dX1_reachedFrom_6 (by decide) ?_
  refine lv_istore_n (lv' := [(3, .int 0), (2, .int q10), (0, .ref (ad p0)), (1, .int p1)]) hx hb dX1_reachedFrom_7 rfl hl (by decide) rfl (fun ls hl => ?_)
  exact ((hL vF).1) m0 p0 p1 q10 (0 : Int32) _ _ _ hO n_p0 h hP hS (lv_sub hl (l' := [(0, .ref (ad p0)), (1, .int p1), (2, .int q10), (3, .int 0)]) [2, 3, 1, 0] rfl)

noncomputable def fB_X1_copyFrom_18 (rec : Nat → vM → Nat → Nat → Int32 → Option (vM)) (m : vM) (r0 : Nat) (r1 : Nat) (i2 : Int32) : Option (vM) :=
  if mk m r0 = 1 then
  if (mi m r0 1) ≤ i2 then (
    Option.bind (mr m r0 3) fun y3 =>
    if mk m r1 = 1 then
    Option.bind (mr m r1 3) fun y6 =>
    if mk m y3 = 2 then
    Option.bind (f_X2_copyFrom m y3 y6) fun q9 =>
    some q9
    else none
    else none
  ) else (
    Option.bind (mr m r0 2) fun y13 =>
    if mk m y13 = 7 then
    if vin i2 (ml m y13) then
    Option.bind (mr m y13 i2.toNatClampNeg) fun y17 =>
    if mk m r1 = 1 then
    Option.bind (mr m r1 2) fun y20 =>
    if mk m y20 = 7 then
    if vin i2 (ml m y20) then
    Option.bind (mr m y20 i2.toNatClampNeg) fun y24 =>
    if mk m y17 = 0 then
    Option.bind (f_X0_copyFrom m y17 y24) fun q27 =>
    rec 18 q27 r0 r1 (i2 + 1)
    else none
    else none
    else none
    else none
    else none
    else none
  )
  else none
noncomputable def fL_X1_copyFrom (n : Nat) : Nat → vM → Nat → Nat → Int32 → Option (vM) := Nat.rec (fun _ _ _ _ _ => none) (fun _ rec pc m r0 r1 i2 => if pc = 18 then fB_X1_copyFrom_18 rec m r0 r1 i2 else none) n
noncomputable def f_X1_copyFrom (m : vM) (p0 : Nat) (p1 : Nat) : Option (vM) :=
  if mk m p1 = 1 then
  if mk m p0 = 1 then
  fL_X1_copyFrom vF 18 ((mI ((mI m p0 0 (mi m p1 0))) p0 1 (mi ((mI m p0 0 (mi m p1 0))) p1 1))) p0 p1 (0 : Int32)
  else none
  else none
theorem in_X1_copyFrom_X1 : ∀ w ∈ wsX10, w ∈ wsX1_copyFrom := by decide +kernel
set_option maxHeartbeats 1000000 in
set_option maxRecDepth 100000 in
theorem cm_X1_copyFrom (l : Launch) (D : va_G) (tc : Nat → ClassId) (ad : Nat → Nat) {N : Nat} {m0 : vM} {sz : Nat} {p0 : Nat} {p1 : Nat} (hO : vOK N m0) (n_p0 : p0 < N) (n_p1 : p1 < N) {z : vM} (h : f_X1_copyFrom m0 p0 p1 = some z) : Met l yX1_copyFrom wsX1_copyFrom ({ frames := 2, cells := 0, slots := 0, locals := 81 } : Room) (va_Pc [.ref (ad p0), .ref (ad p1)] (qW D tc ad N m0 sz)) (va_Qv (fun (_ : Unit) => True) (fun _ t => vOK N z ∧ pB D (va_A (vW tc ad N m0) sz) (vW tc ad N z) (vT tc) t) (va_A (vW tc ad N m0) sz)) 0 0 (va_A (vW tc ad N m0) sz) := by
  refine Met.ofW (cc := cX1_copyFrom) (maxL := 3) (ret := none) (by decide) rfl ?_
  intro p e s m args below meth c s₁ B hml hv
  obtain ⟨rfl, hsz, hP, hK, hD0, hZ⟩ := hv
  have hx := B.exec
  have hb := B.bytes
  have hr := B.returns
  have hts := atoms_spec (ws := wsX1_copyFrom) B.pre
  have hown : s.vm.findClass RX1 = some m.cls := findClass_of_methodNamed B.named
  have hlocks := B.notSynchronized
  subst hsz
  have hD := hD0.self (sz := s.heap.size)
  generalize hAe : va_A (vW tc ad N m0) s.heap.size = A at hD ⊢
  have hA : ∀ q : Nat, s.heap.size ≤ q → A q := fun q h => by rw [← hAe]; exact Or.inr h
  have hS : va_S A s.heap s.heap [] := va_S.rf
  have hl := lv_entry ([.ref (ad p0), .ref (ad p1)]) (n := 3) (Nat.le_of_ble_eq_true rfl)
  rw [lg_entry_eq]
  generalize (lg_sl ([.ref (ad p0), .ref (ad p1)]) ++ List.replicate (3 - (lg_sl ([.ref (ad p0), .ref (ad p1)])).length) Slot.unset).toArray = ls at hl ⊢
  have hl : lv_has ls 3 [(0, .ref (ad p0)), (1, .ref (ad p1))] := hl
  have hL : ∀ n : Nat, (∀ (m1 : vM) (r0 : Nat) (r1 : Nat) (i2 : Int32) (H : Heap) (locs : List Loc) (ls : Array Slot), vOK N m1 → r0 < N → r1 < N → fL_X1_copyFrom n 18 m1 r0 r1 i2 = some z → va_P D vwCl (vW tc ad N m1) H → va_D A (vW tc ad N m1) → va_S A s.heap H locs → lv_has ls 3 [(0, .ref (ad r0)), (1, .ref (ad r1)), (2, .int i2)] → W p l e (headSpec wsX1_copyFrom ({ frames := 2, cells := 0, slots := 0, locals := 81 } : Room)).room s m ([.ref (ad p0), .ref (ad p1)] : List Value).toArray below meth c H locs 0 0 (MQ below (va_Qv (fun (_ : Unit) => True) (fun _ t => vOK N z ∧ pB D A (vW tc ad N z) (vT tc) t) A) ([.ref (ad p0), .ref (ad p1)] : List Value).toArray s 0 0 A) (F0 m 18 ls [])) := by
    intro n
    induction n with
    | zero => exact (fun _ _ _ _ _ _ _ _ _ _ h9 _ _ _ _ => by have h9 : (none : Option (vM)) = some z := h9; cases h9)
    | succ n ih =>
      · intro m1 r0 r1 i2 H locs ls hO n_r0 n_r1 h hP hD hS hl
        have h : fB_X1_copyFrom_18 (fL_X1_copyFrom n) m1 r0 r1 i2 = some z := h
        unfold fB_X1_copyFrom_18 at h
        refine lv_iload_n hx hb dX1_copyFrom_18 rfl (lv_at hl 2 rfl) ?_
        refine lv_aload_n hx hb dX1_copyFrom_19 rfl (lv_at hl 0 rfl) ?_
        obtain ⟨g1, h⟩ := vg_if h
        refine va_get (D := D) (ci := 1) (v := .int (mi m1 r0 1)) (C := RX1) (T := TX1) (N := 5) hx hb hts in_X1_copyFrom_X1 hown hK hP r0 (vW_k1 n_r0 g1) rfl 1 (by decide) (hts (.fieldLink RX1 32 "VaultDoors$Vault" "doorCount" "I") (List.mem_of_getElem? (i := 2) rfl)) (fun _ h9 => h9) rfl dX1_copyFrom_20 ?_
        refine lv_icmp_ge (tgt := 47) hx hb dX1_copyFrom_23 (by decide) (fun c2 => ?_) (fun c2 => ?_)
        · rw [if_pos c2] at h
          refine lv_aload_n hx hb dX1_copyFrom_47 rfl (lv_at hl 0 rfl) ?_
          obtain ⟨y3, g4, h⟩ := vg_bind h
          have n_y3 := hO _ _ _ g4
          refine va_get (D := D) (ci := 1) (v := .ref (ad y3)) (C := RX1) (T := TX1) (N := 5) hx hb hts in_X1_copyFrom_X1 hown hK hP r0 (vW_k1 n_r0 g1) rfl 3 (by decide) (hts (.fieldLink RX1 20 "VaultDoors$Vault" "voices" "LVaultDoors$Voices;") (List.mem_of_getElem? (i := 4) rfl)) (fun _ h9 => h9) (by show some (va_rf (Option.map ad (mr m1 r0 3))) = _; rw [g4]; rfl) dX1_copyFrom_48 ?_
          refine lv_aload_n hx hb dX1_copyFrom_51 rfl (lv_at hl 1 rfl) ?_
          obtain ⟨g5, h⟩ := vg_if h
          obtain ⟨y6, g7, h⟩ := vg_bind h
          have n_y6 := hO _ _ _ g7
          refine va_get (D := D) (ci := 1) (v := .ref (ad y6)) (C := RX1) (T := TX1) (N := 5) hx hb hts in_X1_copyFrom_X1 hown hK hP r1 (vW_k1 n_r1 g5) rfl 3 (by decide) (hts (.fieldLink RX1 20 "VaultDoors$Vault" "voices" "LVaultDoors$Voices;") (List.mem_of_getElem? (i := 4) rfl)) (fun _ h9 => h9) (by show some (va_rf (Option.map ad (mr m1 r1 3))) = _; rw [g7]; rfl) dX1_copyFrom_52 ?_
          obtain ⟨g8, h⟩ := vg_if h
          obtain ⟨q9, g10, h⟩ := vg_bind h
          have hFc := vm_free hD hS hA
          refine va_callv (va_runV (As := [.ref (ad y6)]) (rest := []) ⟨hx, hb, hml, hown, hts⟩ (cm_X2_copyFrom (m0 := m1) l D tc ad hO n_y3 n_y6 g10) (cwV 1 hts gX1_copyFrom_X2_copyFrom rfl rfl rfl (by decide +kernel) ⟨(Nat.le_of_ble_eq_true rfl), (Nat.le_of_ble_eq_true rfl)⟩) ⟨qW_blind, va_recv hK hP (ci := 2) (q0 := y3) rfl (vW_k2 n_y3 g8), qW_pre hP hD hK hZ⟩ rfl rfl hl.1 rfl (lv_room (Nat.le_of_ble_eq_true rfl)) dX1_copyFrom_55 ⟨(Nat.le_of_ble_eq_true rfl), (Nat.le_of_ble_eq_true rfl)⟩) hS (fun q9 _ h9 => hFc q9 h9) hFc (fun u t H1 locs ht hvm hw hB hz1 hk1 hS => ?_)
          obtain ⟨hO12, hP1, hK1, hD1⟩ := hB
          rw [ht] at hP1
          have hP := hP1
          have hD := hD1.weaken (fun _ q9 _ h9 => hFc q9.1 h9)
          generalize H1 = H at hP hS ⊢
          have hP : va_P D vwCl (vW tc ad N q9) H := hP
          have hD : va_D A (vW tc ad N q9) := hD
          clear hk1 hz1 ht hvm
          have hz := Option.some.inj h
          exact W.vret hx hb hr (fun t ht hW => ⟨⟨(), rfl, trivial, by rw [← hz]; exact hO12, by rw [ht, ← hz]; exact hP, va_K.moved hW.alike hK, by rw [← hz]; exact hD⟩, hS.F ht⟩) hS.2.2 dX1_copyFrom_58
        · rw [if_neg c2] at h
          refine lv_aload_n hx hb dX1_copyFrom_26 rfl (lv_at hl 0 rfl) ?_
          obtain ⟨y13, g14, h⟩ := vg_bind h
          have n_y13 := hO _ _ _ g14
          refine va_get (D := D) (ci := 1) (v := .ref (ad y13)) (C := RX1) (T := TX1) (N := 5) hx hb hts in_X1_copyFrom_X1 hown hK hP r0 (vW_k1 n_r0 g1) rfl 2 (by decide) (hts (.fieldLink RX1 11 "VaultDoors$Vault" "doors" "[LVaultDoors$Door;") (List.mem_of_getElem? (i := 3) rfl)) (fun _ h9 => h9) (by show some (va_rf (Option.map ad (mr m1 r0 2))) = _; rw [g14]; rfl) dX1_copyFrom_27 ?_
          refine lv_iload_n hx hb dX1_copyFrom_30 rfl (lv_at hl 2 rfl) ?_
          obtain ⟨g15, h⟩ := vg_if h
          obtain ⟨g16, h⟩ := vg_if h
          obtain ⟨y17, g18, h⟩ := vg_bind h
          have n_y17 := hO _ _ _ g18
          refine va_aldq (D := D) hx hb hK hP y13 1 (vW_k7 n_y13 g15) rfl (i := i2) g16 dX1_copyFrom_31 ?_
          refine W.eq (g2 := F0 m 32 ls [.ref (ad y17)]) (by show F0 m 32 ls (va_rf (Option.map ad (mr m1 y13 i2.toNatClampNeg)) :: _) = _; rw [g18]; rfl) ?_
          refine lv_aload_n hx hb dX1_copyFrom_32 rfl (lv_at hl 1 rfl) ?_
          obtain ⟨g19, h⟩ := vg_if h
          obtain ⟨y20, g21, h⟩ := vg_bind h
          have n_y20 := hO _ _ _ g21
          refine va_get (D := D) (ci := 1) (v := .ref (ad y20)) (C := RX1) (T := TX1) (N := 5) hx hb hts in_X1_copyFrom_X1 hown hK hP r1 (vW_k1 n_r1 g19) rfl 2 (by decide) (hts (.fieldLink RX1 11 "VaultDoors$Vault" "doors" "[LVaultDoors$Door;") (List.mem_of_getElem? (i := 3) rfl)) (fun _ h9 => h9) (by show some (va_rf (Option.map ad (mr m1 r1 2))) = _; rw [g21]; rfl) dX1_copyFrom_33 ?_
          refine lv_iload_n hx hb dX1_copyFrom_36 rfl (lv_at hl 2 rfl) ?_
          obtain ⟨g22, h⟩ := vg_if h
          obtain ⟨g23, h⟩ := vg_if h
          obtain ⟨y24, g25, h⟩ := vg_bind h
          have n_y24 := hO _ _ _ g25
          refine va_aldq (D := D) hx hb hK hP y20 1 (vW_k7 n_y20 g22) rfl (i := i2) g23 dX1_copyFrom_37 ?_
          refine W.eq (g2 := F0 m 38 ls [.ref (ad y24), .ref (ad y17)]) (by show F0 m 38 ls (va_rf (Option.map ad (mr m1 y20 i2.toNatClampNeg)) :: _) = _; rw [g25]; rfl) ?_
          obtain ⟨g26, h⟩ := vg_if h
          obtain ⟨q27, g28, h⟩ := vg_bind h
          have hFc := vm_free hD hS hA
          refine va_callv (va_runV (As := [.ref (ad y24)]) (rest := []) ⟨hx, hb, hml, hown, hts⟩ (cm_X0_copyFrom (m0 := m1) l D tc ad hO n_y17 n_y24 g28) (cwV 1 hts gX1_copyFrom_X0_copyFrom rfl rfl rfl (by decide +kernel) ⟨(Nat.le_of_ble_eq_true rfl), (Nat.le_of_ble_eq_true rfl)⟩) ⟨qW_blind, va_recv hK hP (ci := 0) (q0 := y17) rfl (vW_k0 n_y17 g26), qW_pre hP hD hK hZ⟩ rfl rfl hl.1 rfl (lv_room (Nat.le_of_ble_eq_true rfl)) dX1_copyFrom_38 ⟨(Nat.le_of_ble_eq_true rfl), (Nat.le_of_ble_eq_true rfl)⟩) hS (fun q9 _ h9 => hFc q9 h9) hFc (fun u t H1 locs ht hvm hw hB hz1 hk1 hS => ?_)
          obtain ⟨hO30, hP1, hK1, hD1⟩ := hB
          rw [ht] at hP1
          have hP := hP1
          have hD := hD1.weaken (fun _ q9 _ h9 => hFc q9.1 h9)
          generalize H1 = H at hP hS ⊢
          have hP : va_P D vwCl (vW tc ad N q27) H := hP
          have hD : va_D A (vW tc ad N q27) := hD
          clear hk1 hz1 ht hvm
          refine lv_iinc (v := i2 + 1) (lv' := [(2, .int (i2 + 1)), (0, .ref (ad r0)), (1, .ref (ad r1))]) hx hb dX1_copyFrom_41 hl (k := 2) rfl rfl (by decide) rfl (fun ls hl => ?_)
          refine lv_goto (tgt := 18) hx hb dX1_copyFrom_44 (by decide) ?_
          exact (ih) q27 r0 r1 (i2 + 1) _ _ _ hO30 n_r0 n_r1 h hP hD hS (lv_sub hl (l' := [(0, .ref (ad r0)), (1, .ref (ad r1)), (2, .int (i2 + 1))]) [1, 2, 0] rfl)
  unfold f_X1_copyFrom at h
  refine lv_aload_n hx hb dX1_copyFrom_0 rfl (lv_at hl 0 rfl) ?_
  refine lv_aload_n hx hb dX1_copyFrom_1 rfl (lv_at hl 1 rfl) ?_
  obtain ⟨g31, h⟩ := vg_if h
  refine va_get (D := D) (ci := 1) (v := .int (mi m0 p1 0)) (C := RX1) (T := TX1) (N := 5) hx hb hts in_X1_copyFrom_X1 hown hK hP p1 (vW_k1 n_p1 g31) rfl 0 (by decide) (hts (.fieldLink RX1 28 "VaultDoors$Vault" "tick" "I") (List.mem_of_getElem? (i := 1) rfl)) (fun _ h9 => h9) rfl dX1_copyFrom_2 ?_
  obtain ⟨g32, h⟩ := vg_if h
  refine va_put (D := D) (ci := 1) (v := .int (mi m0 p1 0)) (ty := .int) (C := RX1) (T := TX1) (N := 5) hx hb hts in_X1_copyFrom_X1 tyX1 tyX1_ok nmX1 hown hK hP hD hS p0 (vW_k1 n_p0 g32) rfl 0 (by decide) (hts (.fieldLink RX1 28 "VaultDoors$Vault" "tick" "I") (List.mem_of_getElem? (i := 1) rfl)) (fun _ h9 => h9) rfl (by decide +kernel) rfl rfl (Nat.le_of_ble_eq_true rfl) dX1_copyFrom_5 (fun H locs hP hD hS => ?_)
  have hO33 := vOK.I (a := p0) (j := 0) (v := (mi m0 p1 0)) hO
  rw [vW_p1_0 (m := m0) n_p0 g32] at hP hD
  have hP : va_P D vwCl (vW tc ad N ((mI m0 p0 0 (mi m0 p1 0)))) H := hP
  have hD : va_D A (vW tc ad N ((mI m0 p0 0 (mi m0 p1 0)))) := hD
  refine lv_aload_n hx hb dX1_copyFrom_8 rfl (lv_at hl 0 rfl) ?_
  refine lv_aload_n hx hb dX1_copyFrom_9 rfl (lv_at hl 1 rfl) ?_
  refine va_get (D := D) (ci := 1) (v := .int (mi ((mI m0 p0 0 (mi m0 p1 0))) p1 1)) (C := RX1) (T := TX1) (N := 5) hx hb hts in_X1_copyFrom_X1 hown hK hP p1 (vW_k1 n_p1 g31) rfl 1 (by decide) (hts (.fieldLink RX1 32 "VaultDoors$Vault" "doorCount" "I") (List.mem_of_getElem? (i := 2) rfl)) (fun _ h9 => h9) rfl dX1_copyFrom_10 ?_
  refine va_put (D := D) (ci := 1) (v := .int (mi ((mI m0 p0 0 (mi m0 p1 0))) p1 1)) (ty := .int) (C := RX1) (T := TX1) (N := 5) hx hb hts in_X1_copyFrom_X1 tyX1 tyX1_ok nmX1 hown hK hP hD hS p0 (vW_k1 n_p0 g32) rfl 1 (by decide) (hts (.fieldLink RX1 32 "VaultDoors$Vault" "doorCount" "I") (List.mem_of_getElem? (i := 2) rfl)) (fun _ h9 => h9) rfl (by decide +kernel) rfl rfl (Nat.le_of_ble_eq_true rfl) dX1_copyFrom_13 (fun H locs hP hD hS => ?_)
  have hO34 := vOK.I (a := p0) (j := 1) (v := (mi ((mI m0 p0 0 (mi m0 p1 0))) p1 1)) hO33
  rw [vW_p1_1 (m := ((mI m0 p0 0 (mi m0 p1 0)))) n_p0 g32] at hP hD
  have hP : va_P D vwCl (vW tc ad N ((mI ((mI m0 p0 0 (mi m0 p1 0))) p0 1 (mi ((mI m0 p0 0 (mi m0 p1 0))) p1 1)))) H := hP
  have hD : va_D A (vW tc ad N ((mI ((mI m0 p0 0 (mi m0 p1 0))) p0 1 (mi ((mI m0 p0 0 (mi m0 p1 0))) p1 1)))) := hD
  refine lv_iconst (v := 0) hx hb dX1_copyFrom_16 (by decide) ?_
  refine lv_istore_n (lv' := [(2, .int 0), (0, .ref (ad p0)), (1, .ref (ad p1))]) hx hb dX1_copyFrom_17 rfl hl (by decide) rfl (fun ls hl => ?_)
  exact ((hL vF)) ((mI ((mI m0 p0 0 (mi m0 p1 0))) p0 1 (mi ((mI m0 p0 0 (mi m0 p1 0))) p1 1))) p0 p1 (0 : Int32) _ _ _ hO34 n_p0 n_p1 h hP hD hS (lv_sub hl (l' := [(0, .ref (ad p0)), (1, .ref (ad p1)), (2, .int 0)]) [1, 2, 0] rfl)
