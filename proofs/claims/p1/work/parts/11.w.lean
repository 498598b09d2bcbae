theorem in_X0_init_X0 : ∀ w ∈ wsX00, w ∈ wsX0_init := by decide +kernel
set_option maxHeartbeats 4000000 in
set_option maxRecDepth 100000 in
theorem ct_X0_init (l : Launch) (dC : Nat → ClassId) (dI : Nat → Nat → Nat) (ad0 : Nat) (sz : Nat) : Met l yX0_init wsX0_init ({ frames := 1, cells := 5, slots := 132, locals := 20 }) (va_Pc [.ref ad0] (pZ (dC, dI) [(ad0, .inr (0, [.int 0, .int 0, .int 0, .int 0, .int 0, .int 0, .int 0, .int 0, .null, .null, .null, .int 0, .null, .null]))] [] sz)) (va_Qv (fun (_ : Unit) => True) (fun _ t => ∃ (d1 : Nat), ∃ (d2 : Nat), ∃ (d3 : Nat), ∃ (d4 : Nat), ∃ (d5 : Nat), pB (dC, dI) (va_A [(ad0, .inr (0, [.int 0, .int 0, .int 0, .int 0, .int 0, .int 0, .int 0, .int 0, .null, .null, .null, .int 0, .null, .null]))] sz) [(ad0, .inr (0, [.int 0, .int 0, .int 0, .int 0, .int 0, .int 0, .int 0, .int 0, .ref d1, .ref d2, .ref d3, .int 0, .ref d4, .ref d5]))] [] t) (va_A [(ad0, .inr (0, [.int 0, .int 0, .int 0, .int 0, .int 0, .int 0, .int 0, .int 0, .null, .null, .null, .int 0, .null, .null]))] sz)) 5 132 (va_A [(ad0, .inr (0, [.int 0, .int 0, .int 0, .int 0, .int 0, .int 0, .int 0, .int 0, .null, .null, .null, .int 0, .null, .null]))] sz) := by
  refine Met.ofW (cc := cX0_init) (maxL := 1) (ret := none) (by decide) rfl ?_
  intro p e s m args below meth c s₁ B hml hv
  obtain ⟨rfl, hsz, hP, hK, hD0⟩ := hv
  have hx := B.exec
  have hb := B.bytes
  have hr := B.returns
  have hts := atoms_spec (ws := wsX0_init) B.pre
  have hown : s.vm.findClass RX0 = some m.cls := findClass_of_methodNamed B.named
  have hlocks := B.notSynchronized
  have hin : meth.name = "<init>" := (name_of_methodNamed B.named B.method).1
  subst hsz
  have hD := hD0.self (sz := s.heap.size)
  generalize hAe : va_A [(ad0, .inr (0, [.int 0, .int 0, .int 0, .int 0, .int 0, .int 0, .int 0, .int 0, .null, .null, .null, .int 0, .null, .null]))] s.heap.size = A at hD ⊢
  have hA : ∀ q : Nat, s.heap.size ≤ q → A q := fun q h => by rw [← hAe]; exact Or.inr h
  have hS : va_S A s.heap s.heap [] := va_S.rf
  have hP : va_P (dC, dI) vwCl [(ad0, .inr (0, [.int 0, .int 0, .int 0, .int 0, .int 0, .int 0, .int 0, .int 0, .null, .null, .null, .int 0, .null, .null]))] s.heap := hP
  have hl := lv_entry ([.ref ad0]) (n := 1) (Nat.le_of_ble_eq_true rfl)
  rw [lg_entry_eq]
  generalize (lg_sl ([.ref ad0]) ++ List.replicate (1 - (lg_sl ([.ref ad0])).length) Slot.unset).toArray = ls at hl ⊢
  have hl : lv_has ls 1 [(0, .ref ad0)] := hl
  refine lv_aload_n hx hb dX0_init_0 rfl (lv_at hl 0 rfl) ?_
  refine W.objInit hx hb hown (hts (.methodLink RX0 3 objectInit) (List.mem_of_getElem? (i := 1) rfl)) (hts (.instanceMethod objectInit) (List.mem_of_getElem? (i := 2) rfl)) (hts (.code objectInit ⟨#[0xb1]⟩ 1 none) (List.mem_of_getElem? (i := 3) rfl)) rfl (by rw [hml]; exact hl.1) rfl dX0_init_1 (Nat.le_of_ble_eq_true rfl) (Nat.le_of_ble_eq_true rfl) ?_
  refine W.eq (g2 := F0 m 4 ls []) rfl ?_
  refine lv_aload_n hx hb dX0_init_4 rfl (lv_at hl 0 rfl) ?_
  refine lv_iconst (v := 4) hx hb dX0_init_5 (by decide) ?_
  refine va_newa (D := (dC, dI)) (atype := .int) (ty := .int) (a0 := (4, .inl (fun _ => 0))) (N' := 4) hx hb (hts (.arrayClass .int) (List.mem_of_getElem? (i := 4) rfl)) rfl hK hP hD hS hA (fun _ => rfl) (by decide) (by decide) (by decide) (Nat.le_of_ble_eq_true rfl) (Nat.le_of_ble_eq_true rfl) dX0_init_6 (fun q_1 cA_2 H hK hP hD hS => ?_)
  have hP : va_P (dC, dI) vwCl [(ad0, .inr (0, [.int 0, .int 0, .int 0, .int 0, .int 0, .int 0, .int 0, .int 0, .null, .null, .null, .int 0, .null, .null])), (q_1, .inl (cA_2, 4, .inl (fun _ => 0)))] H := hP
  have hD : va_D A [(ad0, .inr (0, [.int 0, .int 0, .int 0, .int 0, .int 0, .int 0, .int 0, .int 0, .null, .null, .null, .int 0, .null, .null])), (q_1, .inl (cA_2, 4, .inl (fun _ => 0)))] := hD
  have hK : va_K (dC, dI) vwCl [(cA_2, .int)] _ := hK
  refine W.widen (k := 1) (n := 4) (by omega) (by omega) ?_
  refine va_putF (D := (dC, dI)) (ci := 0) (v := .ref q_1) (ty := .array .int) (C := RX0) (T := TX0) (N := 14) hx hb hts in_X0_init_X0 tyX0 tyX0_ok nmX0 hown hK hP hD hS 0 rfl rfl 8 (by decide) (hts (.fieldLink RX0 9 "VaultDoors$Door" "other" "[I") (List.mem_of_getElem? (i := 5) rfl)) (fun _ h9 => h9) rfl hin rfl (by decide +kernel) rfl rfl (Nat.le_of_ble_eq_true rfl) dX0_init_8 (fun H locs hP hD hS => ?_)
  have hP : va_P (dC, dI) vwCl [(ad0, .inr (0, [.int 0, .int 0, .int 0, .int 0, .int 0, .int 0, .int 0, .int 0, .ref q_1, .null, .null, .int 0, .null, .null])), (q_1, .inl (cA_2, 4, .inl (fun _ => 0)))] H := hP
  have hD : va_D A [(ad0, .inr (0, [.int 0, .int 0, .int 0, .int 0, .int 0, .int 0, .int 0, .int 0, .ref q_1, .null, .null, .int 0, .null, .null])), (q_1, .inl (cA_2, 4, .inl (fun _ => 0)))] := hD
  refine lv_aload_n hx hb dX0_init_11 rfl (lv_at hl 0 rfl) ?_
  refine lv_iconst (v := 4) hx hb dX0_init_12 (by decide) ?_
  refine va_newa (D := (dC, dI)) (atype := .int) (ty := .int) (a0 := (4, .inl (fun _ => 0))) (N' := 4) hx hb (hts (.arrayClass .int) (List.mem_of_getElem? (i := 4) rfl)) rfl hK hP hD hS hA (fun _ => rfl) (by decide) (by decide) (by decide) (Nat.le_of_ble_eq_true rfl) (Nat.le_of_ble_eq_true rfl) dX0_init_13 (fun q_3 cA_4 H hK hP hD hS => ?_)
  have hP : va_P (dC, dI) vwCl [(ad0, .inr (0, [.int 0, .int 0, .int 0, .int 0, .int 0, .int 0, .int 0, .int 0, .ref q_1, .null, .null, .int 0, .null, .null])), (q_1, .inl (cA_2, 4, .inl (fun _ => 0))), (q_3, .inl (cA_4, 4, .inl (fun _ => 0)))] H := hP
  have hD : va_D A [(ad0, .inr (0, [.int 0, .int 0, .int 0, .int 0, .int 0, .int 0, .int 0, .int 0, .ref q_1, .null, .null, .int 0, .null, .null])), (q_1, .inl (cA_2, 4, .inl (fun _ => 0))), (q_3, .inl (cA_4, 4, .inl (fun _ => 0)))] := hD
  have hK : va_K (dC, dI) vwCl [(cA_2, .int), (cA_4, .int)] _ := hK
  refine W.widen (k := 2) (n := 8) (by omega) (by omega) ?_
  refine va_putF (D := (dC, dI)) (ci := 0) (v := .ref q_3) (ty := .array .int) (C := RX0) (T := TX0) (N := 14) hx hb hts in_X0_init_X0 tyX0 tyX0_ok nmX0 hown hK hP hD hS 0 rfl rfl 9 (by decide) (hts (.fieldLink RX0 15 "VaultDoors$Door" "distance" "[I") (List.mem_of_getElem? (i := 6) rfl)) (fun _ h9 => h9) rfl hin rfl (by decide +kernel) rfl rfl (Nat.le_of_ble_eq_true rfl) dX0_init_15 (fun H locs hP hD hS => ?_)
  have hP : va_P (dC, dI) vwCl [(ad0, .inr (0, [.int 0, .int 0, .int 0, .int 0, .int 0, .int 0, .int 0, .int 0, .ref q_1, .ref q_3, .null, .int 0, .null, .null])), (q_1, .inl (cA_2, 4, .inl (fun _ => 0))), (q_3, .inl (cA_4, 4, .inl (fun _ => 0)))] H := hP
  have hD : va_D A [(ad0, .inr (0, [.int 0, .int 0, .int 0, .int 0, .int 0, .int 0, .int 0, .int 0, .ref q_1, .ref q_3, .null, .int 0, .null, .null])), (q_1, .inl (cA_2, 4, .inl (fun _ => 0))), (q_3, .inl (cA_4, 4, .inl (fun _ => 0)))] := hD
  refine lv_aload_n hx hb dX0_init_18 rfl (lv_at hl 0 rfl) ?_
  refine lv_iconst (v := 4) hx hb dX0_init_19 (by decide) ?_
  refine va_newa (D := (dC, dI)) (atype := .int) (ty := .int) (a0 := (4, .inl (fun _ => 0))) (N' := 4) hx hb (hts (.arrayClass .int) (List.mem_of_getElem? (i := 4) rfl)) rfl hK hP hD hS hA (fun _ => rfl) (by decide) (by decide) (by decide) (Nat.le_of_ble_eq_true rfl) (Nat.le_of_ble_eq_true rfl) dX0_init_20 (fun q_5 cA_6 H hK hP hD hS => ?_)
  have hP : va_P (dC, dI) vwCl [(ad0, .inr (0, [.int 0, .int 0, .int 0, .int 0, .int 0, .int 0, .int 0, .int 0, .ref q_1, .ref q_3, .null, .int 0, .null, .null])), (q_1, .inl (cA_2, 4, .inl (fun _ => 0))), (q_3, .inl (cA_4, 4, .inl (fun _ => 0))), (q_5, .inl (cA_6, 4, .inl (fun _ => 0)))] H := hP
  have hD : va_D A [(ad0, .inr (0, [.int 0, .int 0, .int 0, .int 0, .int 0, .int 0, .int 0, .int 0, .ref q_1, .ref q_3, .null, .int 0, .null, .null])), (q_1, .inl (cA_2, 4, .inl (fun _ => 0))), (q_3, .inl (cA_4, 4, .inl (fun _ => 0))), (q_5, .inl (cA_6, 4, .inl (fun _ => 0)))] := hD
  have hK : va_K (dC, dI) vwCl [(cA_2, .int), (cA_4, .int), (cA_6, .int)] _ := hK
  refine W.widen (k := 3) (n := 12) (by omega) (by omega) ?_
  refine va_putF (D := (dC, dI)) (ci := 0) (v := .ref q_5) (ty := .array .int) (C := RX0) (T := TX0) (N := 14) hx hb hts in_X0_init_X0 tyX0 tyX0_ok nmX0 hown hK hP hD hS 0 rfl rfl 10 (by decide) (hts (.fieldLink RX0 18 "VaultDoors$Door" "answer" "[I") (List.mem_of_getElem? (i := 7) rfl)) (fun _ h9 => h9) rfl hin rfl (by decide +kernel) rfl rfl (Nat.le_of_ble_eq_true rfl) dX0_init_22 (fun H locs hP hD hS => ?_)
  have hP : va_P (dC, dI) vwCl [(ad0, .inr (0, [.int 0, .int 0, .int 0, .int 0, .int 0, .int 0, .int 0, .int 0, .ref q_1, .ref q_3, .ref q_5, .int 0, .null, .null])), (q_1, .inl (cA_2, 4, .inl (fun _ => 0))), (q_3, .inl (cA_4, 4, .inl (fun _ => 0))), (q_5, .inl (cA_6, 4, .inl (fun _ => 0)))] H := hP
  have hD : va_D A [(ad0, .inr (0, [.int 0, .int 0, .int 0, .int 0, .int 0, .int 0, .int 0, .int 0, .ref q_1, .ref q_3, .ref q_5, .int 0, .null, .null])), (q_1, .inl (cA_2, 4, .inl (fun _ => 0))), (q_3, .inl (cA_4, 4, .inl (fun _ => 0))), (q_5, .inl (cA_6, 4, .inl (fun _ => 0)))] := hD
  refine lv_aload_n hx hb dX0_init_25 rfl (lv_at hl 0 rfl) ?_
  refine lv_bipush (v := 60) hx hb dX0_init_26 (by decide) ?_
  refine va_newa (D := (dC, dI)) (atype := .int) (ty := .int) (a0 := (60, .inl (fun _ => 0))) (N' := 60) hx hb (hts (.arrayClass .int) (List.mem_of_getElem? (i := 4) rfl)) rfl hK hP hD hS hA (fun _ => rfl) (by decide) (by decide) (by decide) (Nat.le_of_ble_eq_true rfl) (Nat.le_of_ble_eq_true rfl) dX0_init_28 (fun q_7 cA_8 H hK hP hD hS => ?_)
  have hP : va_P (dC, dI) vwCl [(ad0, .inr (0, [.int 0, .int 0, .int 0, .int 0, .int 0, .int 0, .int 0, .int 0, .ref q_1, .ref q_3, .ref q_5, .int 0, .null, .null])), (q_1, .inl (cA_2, 4, .inl (fun _ => 0))), (q_3, .inl (cA_4, 4, .inl (fun _ => 0))), (q_5, .inl (cA_6, 4, .inl (fun _ => 0))), (q_7, .inl (cA_8, 60, .inl (fun _ => 0)))] H := hP
  have hD : va_D A [(ad0, .inr (0, [.int 0, .int 0, .int 0, .int 0, .int 0, .int 0, .int 0, .int 0, .ref q_1, .ref q_3, .ref q_5, .int 0, .null, .null])), (q_1, .inl (cA_2, 4, .inl (fun _ => 0))), (q_3, .inl (cA_4, 4, .inl (fun _ => 0))), (q_5, .inl (cA_6, 4, .inl (fun _ => 0))), (q_7, .inl (cA_8, 60, .inl (fun _ => 0)))] := hD
  have hK : va_K (dC, dI) vwCl [(cA_2, .int), (cA_4, .int), (cA_6, .int), (cA_8, .int)] _ := hK
  refine W.widen (k := 4) (n := 72) (by omega) (by omega) ?_
  refine va_putF (D := (dC, dI)) (ci := 0) (v := .ref q_7) (ty := .array .int) (C := RX0) (T := TX0) (N := 14) hx hb hts in_X0_init_X0 tyX0 tyX0_ok nmX0 hown hK hP hD hS 0 rfl rfl 12 (by decide) (hts (.fieldLink RX0 21 "VaultDoors$Door" "asker" "[I") (List.mem_of_getElem? (i := 8) rfl)) (fun _ h9 => h9) rfl hin rfl (by decide +kernel) rfl rfl (Nat.le_of_ble_eq_true rfl) dX0_init_30 (fun H locs hP hD hS => ?_)
  have hP : va_P (dC, dI) vwCl [(ad0, .inr (0, [.int 0, .int 0, .int 0, .int 0, .int 0, .int 0, .int 0, .int 0, .ref q_1, .ref q_3, .ref q_5, .int 0, .ref q_7, .null])), (q_1, .inl (cA_2, 4, .inl (fun _ => 0))), (q_3, .inl (cA_4, 4, .inl (fun _ => 0))), (q_5, .inl (cA_6, 4, .inl (fun _ => 0))), (q_7, .inl (cA_8, 60, .inl (fun _ => 0)))] H := hP
  have hD : va_D A [(ad0, .inr (0, [.int 0, .int 0, .int 0, .int 0, .int 0, .int 0, .int 0, .int 0, .ref q_1, .ref q_3, .ref q_5, .int 0, .ref q_7, .null])), (q_1, .inl (cA_2, 4, .inl (fun _ => 0))), (q_3, .inl (cA_4, 4, .inl (fun _ => 0))), (q_5, .inl (cA_6, 4, .inl (fun _ => 0))), (q_7, .inl (cA_8, 60, .inl (fun _ => 0)))] := hD
  refine lv_aload_n hx hb dX0_init_33 rfl (lv_at hl 0 rfl) ?_
  refine lv_bipush (v := 60) hx hb dX0_init_34 (by decide) ?_
  refine va_newa (D := (dC, dI)) (atype := .int) (ty := .int) (a0 := (60, .inl (fun _ => 0))) (N' := 60) hx hb (hts (.arrayClass .int) (List.mem_of_getElem? (i := 4) rfl)) rfl hK hP hD hS hA (fun _ => rfl) (by decide) (by decide) (by decide) (Nat.le_of_ble_eq_true rfl) (Nat.le_of_ble_eq_true rfl) dX0_init_36 (fun q_9 cA_10 H hK hP hD hS => ?_)
  have hP : va_P (dC, dI) vwCl [(ad0, .inr (0, [.int 0, .int 0, .int 0, .int 0, .int 0, .int 0, .int 0, .int 0, .ref q_1, .ref q_3, .ref q_5, .int 0, .ref q_7, .null])), (q_1, .inl (cA_2, 4, .inl (fun _ => 0))), (q_3, .inl (cA_4, 4, .inl (fun _ => 0))), (q_5, .inl (cA_6, 4, .inl (fun _ => 0))), (q_7, .inl (cA_8, 60, .inl (fun _ => 0))), (q_9, .inl (cA_10, 60, .inl (fun _ => 0)))] H := hP
  have hD : va_D A [(ad0, .inr (0, [.int 0, .int 0, .int 0, .int 0, .int 0, .int 0, .int 0, .int 0, .ref q_1, .ref q_3, .ref q_5, .int 0, .ref q_7, .null])), (q_1, .inl (cA_2, 4, .inl (fun _ => 0))), (q_3, .inl (cA_4, 4, .inl (fun _ => 0))), (q_5, .inl (cA_6, 4, .inl (fun _ => 0))), (q_7, .inl (cA_8, 60, .inl (fun _ => 0))), (q_9, .inl (cA_10, 60, .inl (fun _ => 0)))] := hD
  have hK : va_K (dC, dI) vwCl [(cA_2, .int), (cA_4, .int), (cA_6, .int), (cA_8, .int), (cA_10, .int)] _ := hK
  refine W.widen (k := 5) (n := 132) (by omega) (by omega) ?_
  refine va_putF (D := (dC, dI)) (ci := 0) (v := .ref q_9) (ty := .array .int) (C := RX0) (T := TX0) (N := 14) hx hb hts in_X0_init_X0 tyX0 tyX0_ok nmX0 hown hK hP hD hS 0 rfl rfl 13 (by decide) (hts (.fieldLink RX0 24 "VaultDoors$Door" "askerDistance" "[I") (List.mem_of_getElem? (i := 9) rfl)) (fun _ h9 => h9) rfl hin rfl (by decide +kernel) rfl rfl (Nat.le_of_ble_eq_true rfl) dX0_init_38 (fun H locs hP hD hS => ?_)
  have hP : va_P (dC, dI) vwCl [(ad0, .inr (0, [.int 0, .int 0, .int 0, .int 0, .int 0, .int 0, .int 0, .int 0, .ref q_1, .ref q_3, .ref q_5, .int 0, .ref q_7, .ref q_9])), (q_1, .inl (cA_2, 4, .inl (fun _ => 0))), (q_3, .inl (cA_4, 4, .inl (fun _ => 0))), (q_5, .inl (cA_6, 4, .inl (fun _ => 0))), (q_7, .inl (cA_8, 60, .inl (fun _ => 0))), (q_9, .inl (cA_10, 60, .inl (fun _ => 0)))] H := hP
  have hD : va_D A [(ad0, .inr (0, [.int 0, .int 0, .int 0, .int 0, .int 0, .int 0, .int 0, .int 0, .ref q_1, .ref q_3, .ref q_5, .int 0, .ref q_7, .ref q_9])), (q_1, .inl (cA_2, 4, .inl (fun _ => 0))), (q_3, .inl (cA_4, 4, .inl (fun _ => 0))), (q_5, .inl (cA_6, 4, .inl (fun _ => 0))), (q_7, .inl (cA_8, 60, .inl (fun _ => 0))), (q_9, .inl (cA_10, 60, .inl (fun _ => 0)))] := hD
  have hP9 := hP.sub (ws' := [(ad0, .inr (0, [.int 0, .int 0, .int 0, .int 0, .int 0, .int 0, .int 0, .int 0, .ref q_1, .ref q_3, .ref q_5, .int 0, .ref q_7, .ref q_9]))]) [0] rfl
  have hD9 := hD.sub (ws' := [(ad0, .inr (0, [.int 0, .int 0, .int 0, .int 0, .int 0, .int 0, .int 0, .int 0, .ref q_1, .ref q_3, .ref q_5, .int 0, .ref q_7, .ref q_9]))]) [0] (by decide) rfl
  have hK9 := hK.sub (tys' := []) [] rfl
  exact W.vret hx hb hr (fun t ht hW => ⟨⟨(), rfl, trivial, q_1, q_3, q_5, q_7, q_9, by rw [ht]; exact hP9, va_K.moved hW.alike hK9, hD9⟩, hS.F ht⟩) hS.2.2 dX0_init_41

theorem in_X2_init_X2 : ∀ w ∈ wsX20, w ∈ wsX2_init := by decide +kernel
set_option maxHeartbeats 4000000 in
set_option maxRecDepth 100000 in
theorem ct_X2_init (l : Launch) (dC : Nat → ClassId) (dI : Nat → Nat → Nat) (ao : Nat) (sz : Nat) : Met l yX2_init wsX2_init ({ frames := 1, cells := 5, slots := 300, locals := 20 }) (va_Pc [.ref ao] (pZ (dC, dI) [(ao, .inr (2, [.int 0, .int 0, .null, .null, .null, .null, .null]))] [] sz)) (va_Qv (fun (_ : Unit) => True) (fun _ t => ∃ (o1 : Nat), ∃ (o2 : Nat), ∃ (o3 : Nat), ∃ (o4 : Nat), ∃ (o5 : Nat), pB (dC, dI) (va_A [(ao, .inr (2, [.int 0, .int 0, .null, .null, .null, .null, .null]))] sz) [(ao, .inr (2, [.int 0, .int 0, .ref o1, .ref o2, .ref o3, .ref o4, .ref o5]))] [] t) (va_A [(ao, .inr (2, [.int 0, .int 0, .null, .null, .null, .null, .null]))] sz)) 5 300 (va_A [(ao, .inr (2, [.int 0, .int 0, .null, .null, .null, .null, .null]))] sz) := by
  refine Met.ofW (cc := cX2_init) (maxL := 1) (ret := none) (by decide) rfl ?_
  intro p e s m args below meth c s₁ B hml hv
  obtain ⟨rfl, hsz, hP, hK, hD0⟩ := hv
  have hx := B.exec
  have hb := B.bytes
  have hr := B.returns
  have hts := atoms_spec (ws := wsX2_init) B.pre
  have hown : s.vm.findClass RX2 = some m.cls := findClass_of_methodNamed B.named
  have hlocks := B.notSynchronized
  have hin : meth.name = "<init>" := (name_of_methodNamed B.named B.method).1
  subst hsz
  have hD := hD0.self (sz := s.heap.size)
  generalize hAe : va_A [(ao, .inr (2, [.int 0, .int 0, .null, .null, .null, .null, .null]))] s.heap.size = A at hD ⊢
  have hA : ∀ q : Nat, s.heap.size ≤ q → A q := fun q h => by rw [← hAe]; exact Or.inr h
  have hS : va_S A s.heap s.heap [] := va_S.rf
  have hP : va_P (dC, dI) vwCl [(ao, .inr (2, [.int 0, .int 0, .null, .null, .null, .null, .null]))] s.heap := hP
  have hl := lv_entry ([.ref ao]) (n := 1) (Nat.le_of_ble_eq_true rfl)
  rw [lg_entry_eq]
  generalize (lg_sl ([.ref ao]) ++ List.replicate (1 - (lg_sl ([.ref ao])).length) Slot.unset).toArray = ls at hl ⊢
  have hl : lv_has ls 1 [(0, .ref ao)] := hl
  refine lv_aload_n hx hb dX2_init_0 rfl (lv_at hl 0 rfl) ?_
  refine W.objInit hx hb hown (hts (.methodLink RX2 3 objectInit) (List.mem_of_getElem? (i := 1) rfl)) (hts (.instanceMethod objectInit) (List.mem_of_getElem? (i := 2) rfl)) (hts (.code objectInit ⟨#[0xb1]⟩ 1 none) (List.mem_of_getElem? (i := 3) rfl)) rfl (by rw [hml]; exact hl.1) rfl dX2_init_1 (Nat.le_of_ble_eq_true rfl) (Nat.le_of_ble_eq_true rfl) ?_
  refine W.eq (g2 := F0 m 4 ls []) rfl ?_
  refine lv_aload_n hx hb dX2_init_4 rfl (lv_at hl 0 rfl) ?_
  refine lv_bipush (v := 60) hx hb dX2_init_5 (by decide) ?_
  refine va_newa (D := (dC, dI)) (atype := .int) (ty := .int) (a0 := (60, .inl (fun _ => 0))) (N' := 60) hx hb (hts (.arrayClass .int) (List.mem_of_getElem? (i := 4) rfl)) rfl hK hP hD hS hA (fun _ => rfl) (by decide) (by decide) (by decide) (Nat.le_of_ble_eq_true rfl) (Nat.le_of_ble_eq_true rfl) dX2_init_7 (fun q_1 cA_2 H hK hP hD hS => ?_)
  have hP : va_P (dC, dI) vwCl [(ao, .inr (2, [.int 0, .int 0, .null, .null, .null, .null, .null])), (q_1, .inl (cA_2, 60, .inl (fun _ => 0)))] H := hP
  have hD : va_D A [(ao, .inr (2, [.int 0, .int 0, .null, .null, .null, .null, .null])), (q_1, .inl (cA_2, 60, .inl (fun _ => 0)))] := hD
  have hK : va_K (dC, dI) vwCl [(cA_2, .int)] _ := hK
  refine W.widen (k := 1) (n := 60) (by omega) (by omega) ?_
  refine va_putF (D := (dC, dI)) (ci := 2) (v := .ref q_1) (ty := .array .int) (C := RX2) (T := TX2) (N := 7) hx hb hts in_X2_init_X2 tyX2 tyX2_ok nmX2 hown hK hP hD hS 0 rfl rfl 2 (by decide) (hts (.fieldLink RX2 9 "VaultDoors$Voices" "from" "[I") (List.mem_of_getElem? (i := 5) rfl)) (fun _ h9 => h9) rfl hin rfl (by decide +kernel) rfl rfl (Nat.le_of_ble_eq_true rfl) dX2_init_9 (fun H locs hP hD hS => ?_)
  have hP : va_P (dC, dI) vwCl [(ao, .inr (2, [.int 0, .int 0, .ref q_1, .null, .null, .null, .null])), (q_1, .inl (cA_2, 60, .inl (fun _ => 0)))] H := hP
  have hD : va_D A [(ao, .inr (2, [.int 0, .int 0, .ref q_1, .null, .null, .null, .null])), (q_1, .inl (cA_2, 60, .inl (fun _ => 0)))] := hD
  refine lv_aload_n hx hb dX2_init_12 rfl (lv_at hl 0 rfl) ?_
  refine lv_bipush (v := 60) hx hb dX2_init_13 (by decide) ?_
  refine va_newa (D := (dC, dI)) (atype := .int) (ty := .int) (a0 := (60, .inl (fun _ => 0))) (N' := 60) hx hb (hts (.arrayClass .int) (List.mem_of_getElem? (i := 4) rfl)) rfl hK hP hD hS hA (fun _ => rfl) (by decide) (by decide) (by decide) (Nat.le_of_ble_eq_true rfl) (Nat.le_of_ble_eq_true rfl) dX2_init_15 (fun q_3 cA_4 H hK hP hD hS => ?_)
  have hP : va_P (dC, dI) vwCl [(ao, .inr (2, [.int 0, .int 0, .ref q_1, .null, .null, .null, .null])), (q_1, .inl (cA_2, 60, .inl (fun _ => 0))), (q_3, .inl (cA_4, 60, .inl (fun _ => 0)))] H := hP
  have hD : va_D A [(ao, .inr (2, [.int 0, .int 0, .ref q_1, .null, .null, .null, .null])), (q_1, .inl (cA_2, 60, .inl (fun _ => 0))), (q_3, .inl (cA_4, 60, .inl (fun _ => 0)))] := hD
  have hK : va_K (dC, dI) vwCl [(cA_2, .int), (cA_4, .int)] _ := hK
  refine W.widen (k := 2) (n := 120) (by omega) (by omega) ?_
  refine va_putF (D := (dC, dI)) (ci := 2) (v := .ref q_3) (ty := .array .int) (C := RX2) (T := TX2) (N := 7) hx hb hts in_X2_init_X2 tyX2 tyX2_ok nmX2 hown hK hP hD hS 0 rfl rfl 3 (by decide) (hts (.fieldLink RX2 15 "VaultDoors$Voices" "to" "[I") (List.mem_of_getElem? (i := 6) rfl)) (fun _ h9 => h9) rfl hin rfl (by decide +kernel) rfl rfl (Nat.le_of_ble_eq_true rfl) dX2_init_17 (fun H locs hP hD hS => ?_)
  have hP : va_P (dC, dI) vwCl [(ao, .inr (2, [.int 0, .int 0, .ref q_1, .ref q_3, .null, .null, .null])), (q_1, .inl (cA_2, 60, .inl (fun _ => 0))), (q_3, .inl (cA_4, 60, .inl (fun _ => 0)))] H := hP
  have hD : va_D A [(ao, .inr (2, [.int 0, .int 0, .ref q_1, .ref q_3, .null, .null, .null])), (q_1, .inl (cA_2, 60, .inl (fun _ => 0))), (q_3, .inl (cA_4, 60, .inl (fun _ => 0)))] := hD
  refine lv_aload_n hx hb dX2_init_20 rfl (lv_at hl 0 rfl) ?_
  refine lv_bipush (v := 60) hx hb dX2_init_21 (by decide) ?_
  refine va_newa (D := (dC, dI)) (atype := .int) (ty := .int) (a0 := (60, .inl (fun _ => 0))) (N' := 60) hx hb (hts (.arrayClass .int) (List.mem_of_getElem? (i := 4) rfl)) rfl hK hP hD hS hA (fun _ => rfl) (by decide) (by decide) (by decide) (Nat.le_of_ble_eq_true rfl) (Nat.le_of_ble_eq_true rfl) dX2_init_23 (fun q_5 cA_6 H hK hP hD hS => ?_)
  have hP : va_P (dC, dI) vwCl [(ao, .inr (2, [.int 0, .int 0, .ref q_1, .ref q_3, .null, .null, .null])), (q_1, .inl (cA_2, 60, .inl (fun _ => 0))), (q_3, .inl (cA_4, 60, .inl (fun _ => 0))), (q_5, .inl (cA_6, 60, .inl (fun _ => 0)))] H := hP
  have hD : va_D A [(ao, .inr (2, [.int 0, .int 0, .ref q_1, .ref q_3, .null, .null, .null])), (q_1, .inl (cA_2, 60, .inl (fun _ => 0))), (q_3, .inl (cA_4, 60, .inl (fun _ => 0))), (q_5, .inl (cA_6, 60, .inl (fun _ => 0)))] := hD
  have hK : va_K (dC, dI) vwCl [(cA_2, .int), (cA_4, .int), (cA_6, .int)] _ := hK
  refine W.widen (k := 3) (n := 180) (by omega) (by omega) ?_
  refine va_putF (D := (dC, dI)) (ci := 2) (v := .ref q_5) (ty := .array .int) (C := RX2) (T := TX2) (N := 7) hx hb hts in_X2_init_X2 tyX2 tyX2_ok nmX2 hown hK hP hD hS 0 rfl rfl 4 (by decide) (hts (.fieldLink RX2 18 "VaultDoors$Voices" "kind" "[I") (List.mem_of_getElem? (i := 7) rfl)) (fun _ h9 => h9) rfl hin rfl (by decide +kernel) rfl rfl (Nat.le_of_ble_eq_true rfl) dX2_init_25 (fun H locs hP hD hS => ?_)
  have hP : va_P (dC, dI) vwCl [(ao, .inr (2, [.int 0, .int 0, .ref q_1, .ref q_3, .ref q_5, .null, .null])), (q_1, .inl (cA_2, 60, .inl (fun _ => 0))), (q_3, .inl (cA_4, 60, .inl (fun _ => 0))), (q_5, .inl (cA_6, 60, .inl (fun _ => 0)))] H := hP
  have hD : va_D A [(ao, .inr (2, [.int 0, .int 0, .ref q_1, .ref q_3, .ref q_5, .null, .null])), (q_1, .inl (cA_2, 60, .inl (fun _ => 0))), (q_3, .inl (cA_4, 60, .inl (fun _ => 0))), (q_5, .inl (cA_6, 60, .inl (fun _ => 0)))] := hD
  refine lv_aload_n hx hb dX2_init_28 rfl (lv_at hl 0 rfl) ?_
  refine lv_bipush (v := 60) hx hb dX2_init_29 (by decide) ?_
  refine va_newa (D := (dC, dI)) (atype := .int) (ty := .int) (a0 := (60, .inl (fun _ => 0))) (N' := 60) hx hb (hts (.arrayClass .int) (List.mem_of_getElem? (i := 4) rfl)) rfl hK hP hD hS hA (fun _ => rfl) (by decide) (by decide) (by decide) (Nat.le_of_ble_eq_true rfl) (Nat.le_of_ble_eq_true rfl) dX2_init_31 (fun q_7 cA_8 H hK hP hD hS => ?_)
  have hP : va_P (dC, dI) vwCl [(ao, .inr (2, [.int 0, .int 0, .ref q_1, .ref q_3, .ref q_5, .null, .null])), (q_1, .inl (cA_2, 60, .inl (fun _ => 0))), (q_3, .inl (cA_4, 60, .inl (fun _ => 0))), (q_5, .inl (cA_6, 60, .inl (fun _ => 0))), (q_7, .inl (cA_8, 60, .inl (fun _ => 0)))] H := hP
  have hD : va_D A [(ao, .inr (2, [.int 0, .int 0, .ref q_1, .ref q_3, .ref q_5, .null, .null])), (q_1, .inl (cA_2, 60, .inl (fun _ => 0))), (q_3, .inl (cA_4, 60, .inl (fun _ => 0))), (q_5, .inl (cA_6, 60, .inl (fun _ => 0))), (q_7, .inl (cA_8, 60, .inl (fun _ => 0)))] := hD
  have hK : va_K (dC, dI) vwCl [(cA_2, .int), (cA_4, .int), (cA_6, .int), (cA_8, .int)] _ := hK
  refine W.widen (k := 4) (n := 240) (by omega) (by omega) ?_
  refine va_putF (D := (dC, dI)) (ci := 2) (v := .ref q_7) (ty := .array .int) (C := RX2) (T := TX2) (N := 7) hx hb hts in_X2_init_X2 tyX2 tyX2_ok nmX2 hown hK hP hD hS 0 rfl rfl 5 (by decide) (hts (.fieldLink RX2 21 "VaultDoors$Voices" "left" "[I") (List.mem_of_getElem? (i := 8) rfl)) (fun _ h9 => h9) rfl hin rfl (by decide +kernel) rfl rfl (Nat.le_of_ble_eq_true rfl) dX2_init_33 (fun H locs hP hD hS => ?_)
  have hP : va_P (dC, dI) vwCl [(ao, .inr (2, [.int 0, .int 0, .ref q_1, .ref q_3, .ref q_5, .ref q_7, .null])), (q_1, .inl (cA_2, 60, .inl (fun _ => 0))), (q_3, .inl (cA_4, 60, .inl (fun _ => 0))), (q_5, .inl (cA_6, 60, .inl (fun _ => 0))), (q_7, .inl (cA_8, 60, .inl (fun _ => 0)))] H := hP
  have hD : va_D A [(ao, .inr (2, [.int 0, .int 0, .ref q_1, .ref q_3, .ref q_5, .ref q_7, .null])), (q_1, .inl (cA_2, 60, .inl (fun _ => 0))), (q_3, .inl (cA_4, 60, .inl (fun _ => 0))), (q_5, .inl (cA_6, 60, .inl (fun _ => 0))), (q_7, .inl (cA_8, 60, .inl (fun _ => 0)))] := hD
  refine lv_aload_n hx hb dX2_init_36 rfl (lv_at hl 0 rfl) ?_
  refine lv_bipush (v := 60) hx hb dX2_init_37 (by decide) ?_
  refine va_newa (D := (dC, dI)) (atype := .int) (ty := .int) (a0 := (60, .inl (fun _ => 0))) (N' := 60) hx hb (hts (.arrayClass .int) (List.mem_of_getElem? (i := 4) rfl)) rfl hK hP hD hS hA (fun _ => rfl) (by decide) (by decide) (by decide) (Nat.le_of_ble_eq_true rfl) (Nat.le_of_ble_eq_true rfl) dX2_init_39 (fun q_9 cA_10 H hK hP hD hS => ?_)
  have hP : va_P (dC, dI) vwCl [(ao, .inr (2, [.int 0, .int 0, .ref q_1, .ref q_3, .ref q_5, .ref q_7, .null])), (q_1, .inl (cA_2, 60, .inl (fun _ => 0))), (q_3, .inl (cA_4, 60, .inl (fun _ => 0))), (q_5, .inl (cA_6, 60, .inl (fun _ => 0))), (q_7, .inl (cA_8, 60, .inl (fun _ => 0))), (q_9, .inl (cA_10, 60, .inl (fun _ => 0)))] H := hP
  have hD : va_D A [(ao, .inr (2, [.int 0, .int 0, .ref q_1, .ref q_3, .ref q_5, .ref q_7, .null])), (q_1, .inl (cA_2, 60, .inl (fun _ => 0))), (q_3, .inl (cA_4, 60, .inl (fun _ => 0))), (q_5, .inl (cA_6, 60, .inl (fun _ => 0))), (q_7, .inl (cA_8, 60, .inl (fun _ => 0))), (q_9, .inl (cA_10, 60, .inl (fun _ => 0)))] := hD
  have hK : va_K (dC, dI) vwCl [(cA_2, .int), (cA_4, .int), (cA_6, .int), (cA_8, .int), (cA_10, .int)] _ := hK
  refine W.widen (k := 5) (n := 300) (by omega) (by omega) ?_
  refine va_putF (D := (dC, dI)) (ci := 2) (v := .ref q_9) (ty := .array .int) (C := RX2) (T := TX2) (N := 7) hx hb hts in_X2_init_X2 tyX2 tyX2_ok nmX2 hown hK hP hD hS 0 rfl rfl 6 (by decide) (hts (.fieldLink RX2 24 "VaultDoors$Voices" "distance" "[I") (List.mem_of_getElem? (i := 9) rfl)) (fun _ h9 => h9) rfl hin rfl (by decide +kernel) rfl rfl (Nat.le_of_ble_eq_true rfl) dX2_init_41 (fun H locs hP hD hS => ?_)
  have hP : va_P (dC, dI) vwCl [(ao, .inr (2, [.int 0, .int 0, .ref q_1, .ref q_3, .ref q_5, .ref q_7, .ref q_9])), (q_1, .inl (cA_2, 60, .inl (fun _ => 0))), (q_3, .inl (cA_4, 60, .inl (fun _ => 0))), (q_5, .inl (cA_6, 60, .inl (fun _ => 0))), (q_7, .inl (cA_8, 60, .inl (fun _ => 0))), (q_9, .inl (cA_10, 60, .inl (fun _ => 0)))] H := hP
  have hD : va_D A [(ao, .inr (2, [.int 0, .int 0, .ref q_1, .ref q_3, .ref q_5, .ref q_7, .ref q_9])), (q_1, .inl (cA_2, 60, .inl (fun _ => 0))), (q_3, .inl (cA_4, 60, .inl (fun _ => 0))), (q_5, .inl (cA_6, 60, .inl (fun _ => 0))), (q_7, .inl (cA_8, 60, .inl (fun _ => 0))), (q_9, .inl (cA_10, 60, .inl (fun _ => 0)))] := hD
  have hP9 := hP.sub (ws' := [(ao, .inr (2, [.int 0, .int 0, .ref q_1, .ref q_3, .ref q_5, .ref q_7, .ref q_9]))]) [0] rfl
  have hD9 := hD.sub (ws' := [(ao, .inr (2, [.int 0, .int 0, .ref q_1, .ref q_3, .ref q_5, .ref q_7, .ref q_9]))]) [0] (by decide) rfl
  have hK9 := hK.sub (tys' := []) [] rfl
  exact W.vret hx hb hr (fun t ht hW => ⟨⟨(), rfl, trivial, q_1, q_3, q_5, q_7, q_9, by rw [ht]; exact hP9, va_K.moved hW.alike hK9, hD9⟩, hS.F ht⟩) hS.2.2 dX2_init_44
