theorem in_X1_addDoor_X0 : ∀ w ∈ wsX00, w ∈ wsX1_addDoor := by decide +kernel
theorem in_X1_addDoor_X1 : ∀ w ∈ wsX10, w ∈ wsX1_addDoor := by decide +kernel
set_option maxHeartbeats 4000000 in
set_option maxRecDepth 100000 in
theorem ct_X1_addDoor (l : Launch) (dC : Nat → ClassId) (dI : Nat → Nat → Nat) (za : Int32) (zb : Int32) (zc : Int32) (av : Nat) (adr : Nat) (ao : Nat) (aar : Nat) (ad0 : Nat) (d1 : Nat) (d2 : Nat) (d3 : Nat) (d4 : Nat) (d5 : Nat) (cD : ClassId) (fd : Nat → Option Nat) (sz : Nat) : Met l yX1_addDoor wsX1_addDoor ({ frames := 0, cells := 0, slots := 0, locals := 0 }) (va_Pc [.ref av, .int za, .int zb, .int zc] (pZ (dC, dI) [(av, .inr (1, [.int 0, .int 0, .ref adr, .ref ao, .ref aar])), (adr, .inl (cD, 10, .inr (.inr (.inr (.inr (va_up fd 0 (some ad0))))))), (ad0, .inr (0, [.int 0, .int 0, .int 0, .int 0, .int 0, .int 0, .int 0, .int 0, .ref d1, .ref d2, .ref d3, .int 0, .ref d4, .ref d5]))] [(cD, .object RX0)] sz)) (va_Qi (fun (r : Int32) (_ : Unit) => r = 0) (fun _ t => pB (dC, dI) (va_A [(av, .inr (1, [.int 0, .int 0, .ref adr, .ref ao, .ref aar])), (adr, .inl (cD, 10, .inr (.inr (.inr (.inr (va_up fd 0 (some ad0))))))), (ad0, .inr (0, [.int 0, .int 0, .int 0, .int 0, .int 0, .int 0, .int 0, .int 0, .ref d1, .ref d2, .ref d3, .int 0, .ref d4, .ref d5]))] sz) [] [] t) (va_A [(av, .inr (1, [.int 0, .int 0, .ref adr, .ref ao, .ref aar])), (adr, .inl (cD, 10, .inr (.inr (.inr (.inr (va_up fd 0 (some ad0))))))), (ad0, .inr (0, [.int 0, .int 0, .int 0, .int 0, .int 0, .int 0, .int 0, .int 0, .ref d1, .ref d2, .ref d3, .int 0, .ref d4, .ref d5]))] sz)) 0 0 (va_A [(av, .inr (1, [.int 0, .int 0, .ref adr, .ref ao, .ref aar])), (adr, .inl (cD, 10, .inr (.inr (.inr (.inr (va_up fd 0 (some ad0))))))), (ad0, .inr (0, [.int 0, .int 0, .int 0, .int 0, .int 0, .int 0, .int 0, .int 0, .ref d1, .ref d2, .ref d3, .int 0, .ref d4, .ref d5]))] sz) := by
  refine Met.ofW (cc := cX1_addDoor) (maxL := 5) (ret := (some .int)) (by decide) rfl ?_
  intro p e s m args below meth c s₁ B hml hv
  obtain ⟨rfl, hsz, hP, hK, hD0⟩ := hv
  have hx := B.exec
  have hb := B.bytes
  have hr := B.returns
  have hts := atoms_spec (ws := wsX1_addDoor) B.pre
  have hown : s.vm.findClass RX1 = some m.cls := findClass_of_methodNamed B.named
  have hlocks := B.notSynchronized
  subst hsz
  have hD := hD0.self (sz := s.heap.size)
  generalize hAe : va_A [(av, .inr (1, [.int 0, .int 0, .ref adr, .ref ao, .ref aar])), (adr, .inl (cD, 10, .inr (.inr (.inr (.inr (va_up fd 0 (some ad0))))))), (ad0, .inr (0, [.int 0, .int 0, .int 0, .int 0, .int 0, .int 0, .int 0, .int 0, .ref d1, .ref d2, .ref d3, .int 0, .ref d4, .ref d5]))] s.heap.size = A at hD ⊢
  have hA : ∀ q : Nat, s.heap.size ≤ q → A q := fun q h => by rw [← hAe]; exact Or.inr h
  have hS : va_S A s.heap s.heap [] := va_S.rf
  have hP : va_P (dC, dI) vwCl [(av, .inr (1, [.int 0, .int 0, .ref adr, .ref ao, .ref aar])), (adr, .inl (cD, 10, .inr (.inr (.inr (.inr (va_up fd 0 (some ad0))))))), (ad0, .inr (0, [.int 0, .int 0, .int 0, .int 0, .int 0, .int 0, .int 0, .int 0, .ref d1, .ref d2, .ref d3, .int 0, .ref d4, .ref d5]))] s.heap := hP
  have hl := lv_entry ([.ref av, .int za, .int zb, .int zc]) (n := 5) (Nat.le_of_ble_eq_true rfl)
  rw [lg_entry_eq]
  generalize (lg_sl ([.ref av, .int za, .int zb, .int zc]) ++ List.replicate (5 - (lg_sl ([.ref av, .int za, .int zb, .int zc])).length) Slot.unset).toArray = ls at hl ⊢
  have hl : lv_has ls 5 [(0, .ref av), (1, .int za), (2, .int zb), (3, .int zc)] := hl
  refine lv_aload_n hx hb dX1_addDoor_0 rfl (lv_at hl 0 rfl) ?_
  refine va_get (D := (dC, dI)) (ci := 1) (v := .int 0) (C := RX1) (T := TX1) (N := 5) hx hb hts in_X1_addDoor_X1 hown hK hP 0 rfl rfl 1 (by decide) (hts (.fieldLink RX1 32 "VaultDoors$Vault" "doorCount" "I") (List.mem_of_getElem? (i := 1) rfl)) (fun _ h9 => h9) rfl dX1_addDoor_1 ?_
  refine lv_istore (lv' := [(4, .int 0), (0, .ref av), (1, .int za), (2, .int zb), (3, .int zc)]) hx hb dX1_addDoor_4 hl (by decide) rfl (fun ls hl => ?_)
  refine lv_iload hx hb dX1_addDoor_6 (lv_at hl 0 rfl) ?_
  refine lv_bipush (v := 10) hx hb dX1_addDoor_8 (by decide) ?_
  refine lv_icmp_ge (tgt := 56) hx hb dX1_addDoor_10 (by decide) (fun h => absurd h (by decide)) (fun _ => ?_)
  refine lv_aload_n hx hb dX1_addDoor_13 rfl (lv_at hl 1 rfl) ?_
  refine va_get (D := (dC, dI)) (ci := 1) (v := .ref adr) (C := RX1) (T := TX1) (N := 5) hx hb hts in_X1_addDoor_X1 hown hK hP 0 rfl rfl 2 (by decide) (hts (.fieldLink RX1 11 "VaultDoors$Vault" "doors" "[LVaultDoors$Door;") (List.mem_of_getElem? (i := 2) rfl)) (fun _ h9 => h9) rfl dX1_addDoor_14 ?_
  refine lv_iload hx hb dX1_addDoor_17 (lv_at hl 0 rfl) ?_
  refine va_aldq (D := (dC, dI)) hx hb hK hP 1 0 rfl rfl (i := 0) (vs_vi (by decide)) dX1_addDoor_19 ?_
  refine W.eq (g2 := F0 m 20 ls [.ref ad0]) rfl ?_
  refine lv_iload_n hx hb dX1_addDoor_20 rfl (lv_at hl 2 rfl) ?_
  refine va_put (D := (dC, dI)) (ci := 0) (v := .int za) (ty := .int) (C := RX0) (T := TX0) (N := 14) hx hb hts in_X1_addDoor_X0 tyX0 tyX0_ok nmX0 hown hK hP hD hS 2 rfl rfl 0 (by decide) (hts (.fieldLink RX1 42 "VaultDoors$Door" "secret" "I") (List.mem_of_getElem? (i := 3) rfl)) (fun _ h9 => h9) rfl (by decide +kernel) rfl rfl (Nat.le_of_ble_eq_true rfl) dX1_addDoor_21 (fun H locs hP hD hS => ?_)
  have hP : va_P (dC, dI) vwCl [(av, .inr (1, [.int 0, .int 0, .ref adr, .ref ao, .ref aar])), (adr, .inl (cD, 10, .inr (.inr (.inr (.inr (va_up fd 0 (some ad0))))))), (ad0, .inr (0, [.int za, .int 0, .int 0, .int 0, .int 0, .int 0, .int 0, .int 0, .ref d1, .ref d2, .ref d3, .int 0, .ref d4, .ref d5]))] H := hP
  have hD : va_D A [(av, .inr (1, [.int 0, .int 0, .ref adr, .ref ao, .ref aar])), (adr, .inl (cD, 10, .inr (.inr (.inr (.inr (va_up fd 0 (some ad0))))))), (ad0, .inr (0, [.int za, .int 0, .int 0, .int 0, .int 0, .int 0, .int 0, .int 0, .ref d1, .ref d2, .ref d3, .int 0, .ref d4, .ref d5]))] := hD
  refine lv_aload_n hx hb dX1_addDoor_24 rfl (lv_at hl 1 rfl) ?_
  refine va_get (D := (dC, dI)) (ci := 1) (v := .ref adr) (C := RX1) (T := TX1) (N := 5) hx hb hts in_X1_addDoor_X1 hown hK hP 0 rfl rfl 2 (by decide) (hts (.fieldLink RX1 11 "VaultDoors$Vault" "doors" "[LVaultDoors$Door;") (List.mem_of_getElem? (i := 2) rfl)) (fun _ h9 => h9) rfl dX1_addDoor_25 ?_
  refine lv_iload hx hb dX1_addDoor_28 (lv_at hl 0 rfl) ?_
  refine va_aldq (D := (dC, dI)) hx hb hK hP 1 0 rfl rfl (i := 0) (vs_vi (by decide)) dX1_addDoor_30 ?_
  refine W.eq (g2 := F0 m 31 ls [.ref ad0]) rfl ?_
  refine lv_iload_n hx hb dX1_addDoor_31 rfl (lv_at hl 3 rfl) ?_
  refine va_put (D := (dC, dI)) (ci := 0) (v := .int zb) (ty := .int) (C := RX0) (T := TX0) (N := 14) hx hb hts in_X1_addDoor_X0 tyX0 tyX0_ok nmX0 hown hK hP hD hS 2 rfl rfl 1 (by decide) (hts (.fieldLink RX1 45 "VaultDoors$Door" "patience" "I") (List.mem_of_getElem? (i := 4) rfl)) (fun _ h9 => h9) rfl (by decide +kernel) rfl rfl (Nat.le_of_ble_eq_true rfl) dX1_addDoor_32 (fun H locs hP hD hS => ?_)
  have hP : va_P (dC, dI) vwCl [(av, .inr (1, [.int 0, .int 0, .ref adr, .ref ao, .ref aar])), (adr, .inl (cD, 10, .inr (.inr (.inr (.inr (va_up fd 0 (some ad0))))))), (ad0, .inr (0, [.int za, .int zb, .int 0, .int 0, .int 0, .int 0, .int 0, .int 0, .ref d1, .ref d2, .ref d3, .int 0, .ref d4, .ref d5]))] H := hP
  have hD : va_D A [(av, .inr (1, [.int 0, .int 0, .ref adr, .ref ao, .ref aar])), (adr, .inl (cD, 10, .inr (.inr (.inr (.inr (va_up fd 0 (some ad0))))))), (ad0, .inr (0, [.int za, .int zb, .int 0, .int 0, .int 0, .int 0, .int 0, .int 0, .ref d1, .ref d2, .ref d3, .int 0, .ref d4, .ref d5]))] := hD
  refine lv_aload_n hx hb dX1_addDoor_35 rfl (lv_at hl 1 rfl) ?_
  refine va_get (D := (dC, dI)) (ci := 1) (v := .ref adr) (C := RX1) (T := TX1) (N := 5) hx hb hts in_X1_addDoor_X1 hown hK hP 0 rfl rfl 2 (by decide) (hts (.fieldLink RX1 11 "VaultDoors$Vault" "doors" "[LVaultDoors$Door;") (List.mem_of_getElem? (i := 2) rfl)) (fun _ h9 => h9) rfl dX1_addDoor_36 ?_
  refine lv_iload hx hb dX1_addDoor_39 (lv_at hl 0 rfl) ?_
  refine va_aldq (D := (dC, dI)) hx hb hK hP 1 0 rfl rfl (i := 0) (vs_vi (by decide)) dX1_addDoor_41 ?_
  refine W.eq (g2 := F0 m 42 ls [.ref ad0]) rfl ?_
  refine lv_iload_n hx hb dX1_addDoor_42 rfl (lv_at hl 4 rfl) ?_
  refine va_put (D := (dC, dI)) (ci := 0) (v := .int zc) (ty := .int) (C := RX0) (T := TX0) (N := 14) hx hb hts in_X1_addDoor_X0 tyX0 tyX0_ok nmX0 hown hK hP hD hS 2 rfl rfl 2 (by decide) (hts (.fieldLink RX1 48 "VaultDoors$Door" "rule" "I") (List.mem_of_getElem? (i := 5) rfl)) (fun _ h9 => h9) rfl (by decide +kernel) rfl rfl (Nat.le_of_ble_eq_true rfl) dX1_addDoor_43 (fun H locs hP hD hS => ?_)
  have hP : va_P (dC, dI) vwCl [(av, .inr (1, [.int 0, .int 0, .ref adr, .ref ao, .ref aar])), (adr, .inl (cD, 10, .inr (.inr (.inr (.inr (va_up fd 0 (some ad0))))))), (ad0, .inr (0, [.int za, .int zb, .int zc, .int 0, .int 0, .int 0, .int 0, .int 0, .ref d1, .ref d2, .ref d3, .int 0, .ref d4, .ref d5]))] H := hP
  have hD : va_D A [(av, .inr (1, [.int 0, .int 0, .ref adr, .ref ao, .ref aar])), (adr, .inl (cD, 10, .inr (.inr (.inr (.inr (va_up fd 0 (some ad0))))))), (ad0, .inr (0, [.int za, .int zb, .int zc, .int 0, .int 0, .int 0, .int 0, .int 0, .ref d1, .ref d2, .ref d3, .int 0, .ref d4, .ref d5]))] := hD
  refine lv_aload_n hx hb dX1_addDoor_46 rfl (lv_at hl 1 rfl) ?_
  refine lv_dup hx hb dX1_addDoor_47 rfl ?_
  refine va_get (D := (dC, dI)) (ci := 1) (v := .int 0) (C := RX1) (T := TX1) (N := 5) hx hb hts in_X1_addDoor_X1 hown hK hP 0 rfl rfl 1 (by decide) (hts (.fieldLink RX1 32 "VaultDoors$Vault" "doorCount" "I") (List.mem_of_getElem? (i := 1) rfl)) (fun _ h9 => h9) rfl dX1_addDoor_48 ?_
  refine lv_iconst (v := 1) hx hb dX1_addDoor_51 (by decide) ?_
  refine lv_iadd hx hb dX1_addDoor_52 ?_
  refine lv_topi (nm_r (e' := 1) (by decide) ?_)
  refine va_put (D := (dC, dI)) (ci := 1) (v := .int 1) (ty := .int) (C := RX1) (T := TX1) (N := 5) hx hb hts in_X1_addDoor_X1 tyX1 tyX1_ok nmX1 hown hK hP hD hS 0 rfl rfl 1 (by decide) (hts (.fieldLink RX1 32 "VaultDoors$Vault" "doorCount" "I") (List.mem_of_getElem? (i := 1) rfl)) (fun _ h9 => h9) rfl (by decide +kernel) rfl rfl (Nat.le_of_ble_eq_true rfl) dX1_addDoor_53 (fun H locs hP hD hS => ?_)
  have hP : va_P (dC, dI) vwCl [(av, .inr (1, [.int 0, .int 1, .ref adr, .ref ao, .ref aar])), (adr, .inl (cD, 10, .inr (.inr (.inr (.inr (va_up fd 0 (some ad0))))))), (ad0, .inr (0, [.int za, .int zb, .int zc, .int 0, .int 0, .int 0, .int 0, .int 0, .ref d1, .ref d2, .ref d3, .int 0, .ref d4, .ref d5]))] H := hP
  have hD : va_D A [(av, .inr (1, [.int 0, .int 1, .ref adr, .ref ao, .ref aar])), (adr, .inl (cD, 10, .inr (.inr (.inr (.inr (va_up fd 0 (some ad0))))))), (ad0, .inr (0, [.int za, .int zb, .int zc, .int 0, .int 0, .int 0, .int 0, .int 0, .ref d1, .ref d2, .ref d3, .int 0, .ref d4, .ref d5]))] := hD
  refine lv_iload hx hb dX1_addDoor_56 (lv_at hl 0 rfl) ?_
  have hP9 := hP.sub (ws' := []) [] rfl
  have hD9 := hD.sub (ws' := []) [] (by decide) rfl
  have hK9 := hK.sub (tys' := []) [] rfl
  exact W.iret (v := 0) hx hb hr (fun t ht hW => ⟨⟨_, (), rfl, rfl, by rw [ht]; exact hP9, va_K.moved hW.alike hK9, hD9⟩, hS.F ht⟩) hS.2.2 dX1_addDoor_58

theorem in_X3_build_X1 : ∀ w ∈ wsX10, w ∈ wsX3_build := by decide +kernel
theorem in_X3_build_X3 : ∀ w ∈ wsX30, w ∈ wsX3_build := by decide +kernel
set_option maxHeartbeats 4000000 in
set_option maxRecDepth 100000 in
theorem ct_X3_build (l : Launch) (hnt : l.stackTraces = false) (dC : Nat → ClassId) (dI : Nat → Nat → Nat) (za : Int32) (zb : Int32) (zc : Int32) (ax : Nat) (av : Nat) (at_ : Nat) (adr : Nat) (ao : Nat) (aar : Nat) (ad0 : Nat) (d1 : Nat) (d2 : Nat) (d3 : Nat) (d4 : Nat) (d5 : Nat) (cD : ClassId) (fd : Nat → Option Nat) (sz : Nat) : vx_Met l yX3_build wsX3_build ({ frames := 6, cells := 1, slots := 6, locals := 90 }) (va_Pc [.ref ax, .int za, .int zb, .int zc] (pY (dC, dI) [(ax, .inr (3, [.ref av, .ref at_])), (av, .inr (1, [.int 0, .int 0, .ref adr, .ref ao, .ref aar])), (adr, .inl (cD, 10, .inr (.inr (.inr (.inr (va_up fd 0 (some ad0))))))), (ad0, .inr (0, [.int 0, .int 0, .int 0, .int 0, .int 0, .int 0, .int 0, .int 0, .ref d1, .ref d2, .ref d3, .int 0, .ref d4, .ref d5]))] [(cD, .object RX0)] sz)) (va_Qi (fun (r : Int32) (_ : Unit) => r = 0 ∧ vs_ok za zb zc) (fun _ t => pB (dC, dI) (va_A [(ax, .inr (3, [.ref av, .ref at_])), (av, .inr (1, [.int 0, .int 0, .ref adr, .ref ao, .ref aar])), (adr, .inl (cD, 10, .inr (.inr (.inr (.inr (va_up fd 0 (some ad0))))))), (ad0, .inr (0, [.int 0, .int 0, .int 0, .int 0, .int 0, .int 0, .int 0, .int 0, .ref d1, .ref d2, .ref d3, .int 0, .ref d4, .ref d5]))] sz) [] [] t) (va_A [(ax, .inr (3, [.ref av, .ref at_])), (av, .inr (1, [.int 0, .int 0, .ref adr, .ref ao, .ref aar])), (adr, .inl (cD, 10, .inr (.inr (.inr (.inr (va_up fd 0 (some ad0))))))), (ad0, .inr (0, [.int 0, .int 0, .int 0, .int 0, .int 0, .int 0, .int 0, .int 0, .ref d1, .ref d2, .ref d3, .int 0, .ref d4, .ref d5]))] sz)) (vx_X (fun (_ : Unit) => True) (fun E _ _ => E = vs_I ∧ ¬ vs_ok za zb zc) (va_A [(ax, .inr (3, [.ref av, .ref at_])), (av, .inr (1, [.int 0, .int 0, .ref adr, .ref ao, .ref aar])), (adr, .inl (cD, 10, .inr (.inr (.inr (.inr (va_up fd 0 (some ad0))))))), (ad0, .inr (0, [.int 0, .int 0, .int 0, .int 0, .int 0, .int 0, .int 0, .int 0, .ref d1, .ref d2, .ref d3, .int 0, .ref d4, .ref d5]))] sz)) 1 6 (va_A [(ax, .inr (3, [.ref av, .ref at_])), (av, .inr (1, [.int 0, .int 0, .ref adr, .ref ao, .ref aar])), (adr, .inl (cD, 10, .inr (.inr (.inr (.inr (va_up fd 0 (some ad0))))))), (ad0, .inr (0, [.int 0, .int 0, .int 0, .int 0, .int 0, .int 0, .int 0, .int 0, .ref d1, .ref d2, .ref d3, .int 0, .ref d4, .ref d5]))] sz) := by
  refine vx_ofW (cc := cX3_build) (maxL := 4) (ret := (some .int)) (by decide) rfl ?_
  intro p e s m args below meth c s₁ B hml htab hv
  obtain ⟨rfl, ⟨hsz, hP, hK, hD0⟩, hT⟩ := hv
  have hx := B.exec
  have hb := B.bytes
  have hr := B.returns
  have hts := atoms_spec (ws := wsX3_build) B.pre
  have hown : s.vm.findClass RX3 = some m.cls := findClass_of_methodNamed B.named
  have hlocks := B.notSynchronized
  subst hsz
  have hD := hD0.self (sz := s.heap.size)
  generalize hAe : va_A [(ax, .inr (3, [.ref av, .ref at_])), (av, .inr (1, [.int 0, .int 0, .ref adr, .ref ao, .ref aar])), (adr, .inl (cD, 10, .inr (.inr (.inr (.inr (va_up fd 0 (some ad0))))))), (ad0, .inr (0, [.int 0, .int 0, .int 0, .int 0, .int 0, .int 0, .int 0, .int 0, .ref d1, .ref d2, .ref d3, .int 0, .ref d4, .ref d5]))] s.heap.size = A at hD hT ⊢
  have hA : ∀ q : Nat, s.heap.size ≤ q → A q := fun q h => by rw [← hAe]; exact Or.inr h
  have hS : va_S A s.heap s.heap [] := va_S.rf
  have hP : va_P (dC, dI) vwCl [(ax, .inr (3, [.ref av, .ref at_])), (av, .inr (1, [.int 0, .int 0, .ref adr, .ref ao, .ref aar])), (adr, .inl (cD, 10, .inr (.inr (.inr (.inr (va_up fd 0 (some ad0))))))), (ad0, .inr (0, [.int 0, .int 0, .int 0, .int 0, .int 0, .int 0, .int 0, .int 0, .ref d1, .ref d2, .ref d3, .int 0, .ref d4, .ref d5]))] s.heap := hP
  have hl := lv_entry ([.ref ax, .int za, .int zb, .int zc]) (n := 4) (Nat.le_of_ble_eq_true rfl)
  rw [lg_entry_eq]
  generalize (lg_sl ([.ref ax, .int za, .int zb, .int zc]) ++ List.replicate (4 - (lg_sl ([.ref ax, .int za, .int zb, .int zc])).length) Slot.unset).toArray = ls at hl ⊢
  have hl : lv_has ls 4 [(0, .ref ax), (1, .int za), (2, .int zb), (3, .int zc)] := hl
  refine lv_iload_n hx hb dX3_build_0 rfl (lv_at hl 1 rfl) ?_
  refine lv_iconst (v := 0) hx hb dX3_build_1 (by decide) ?_
  refine lv_bipush (v := 99) hx hb dX3_build_2 (by decide) ?_
  have hPc := hP.sub (ws' := []) [] rfl
  have hKc := hK.sub (tys' := []) [] rfl
  refine va_calli (va_runS (As := [.int za, .int 0, .int 99]) (rest := []) ⟨hx, hb, hml, hown, hts⟩ (ct_X3_isIn l dC dI za 0 99) (va_cwS 3 hts gX3_build_X3_isIn rfl rfl rfl (by decide +kernel) ⟨(Nat.le_of_ble_eq_true rfl), (Nat.le_of_ble_eq_true rfl)⟩) ⟨pR_blind, pR_pre hPc hKc⟩ rfl rfl hl.1 rfl (lv_room (Nat.le_of_ble_eq_true rfl)) dX3_build_4 ⟨(Nat.le_of_ble_eq_true rfl), (Nat.le_of_ble_eq_true rfl)⟩) hS (fun q _ h => h.elim) (fun q h => h.elim) (fun r_1 u_2 t H1 locs ht hvm hw hB hz1 hk1 hS => ?_)
  have hP := hP.kept (fun k q hk => hk1 q.1 (hP k q hk).lt (fun h => h))
  generalize H1 = H at hP hS ⊢
  have hw : r_1 = vs_in za 0 99 := hw
  subst hw
  refine lv_if_ne (tgt := 20) hx hb dX3_build_7 (by decide) (fun c_3 => ?_) (fun c_3 => ?_)
  · refine lv_iload_n hx hb dX3_build_20 rfl (lv_at hl 2 rfl) ?_
    have hPc := hP.sub (ws' := []) [] rfl
    have hKc := hK.sub (tys' := []) [] rfl
    refine va_calli (va_runS (As := [.int zb]) (rest := []) ⟨hx, hb, hml, hown, hts⟩ (ct_X3_isPatience l dC dI zb) (va_cwS 1 hts gX3_build_X3_isPatience rfl rfl rfl (by decide +kernel) ⟨(Nat.le_of_ble_eq_true rfl), (Nat.le_of_ble_eq_true rfl)⟩) ⟨pR_blind, pR_pre hPc hKc⟩ rfl rfl hl.1 rfl (lv_room (Nat.le_of_ble_eq_true rfl)) dX3_build_21 ⟨(Nat.le_of_ble_eq_true rfl), (Nat.le_of_ble_eq_true rfl)⟩) hS (fun q _ h => h.elim) (fun q h => h.elim) (fun r_4 u_5 t H1 locs ht hvm hw hB hz1 hk1 hS => ?_)
    have hP := hP.kept (fun k q hk => hk1 q.1 (hP k q hk).lt (fun h => h))
    generalize H1 = H at hP hS ⊢
    have hw : r_4 = vs_in zb 1 20 := hw
    subst hw
    refine lv_if_eq (tgt := 34) hx hb dX3_build_24 (by decide) (fun c_6 => ?_) (fun c_6 => ?_)
    · obtain ⟨sa, hstr⟩ := hT.2.2 (37, "patience is not 1 to 20, or rule is not 0 to 3") (by decide +kernel)
      exact vx_throwS (own := RX3) (cls := vs_I) (text := "patience is not 1 to 20, or rule is not 0 to 3") (names := vs_N) (ik := 23) (is := 37) (ic := 27) (sa := sa) hx hb hnt hown (by decide +kernel) (by decide +kernel) (hts (.classLink RX3 23 vs_I) (List.mem_of_getElem? (i := 1) rfl)) (hts (.initialized vs_I) (List.mem_of_getElem? (i := 2) rfl)) hstr (vx_hat (fun w h => hts w (List.mem_cons_of_mem _ (List.mem_append_left _ (List.mem_append_right _ h)))) vs_c27 (vs_Wo hT.2.1.1.1 hT.2.1.2.2.2.2.2.2.2)) vs_g27 hT.1.1 hT.1.2 hS (hl.1.trans hml.symm) dX3_build_34 dX3_build_37 dX3_build_38 dX3_build_40 dX3_build_43 (fun x h9 => (htab x h9).elim) (Nat.le_of_ble_eq_true rfl) (Nat.le_of_ble_eq_true rfl) (Nat.le_of_ble_eq_true rfl) (Nat.le_of_ble_eq_true rfl) hlocks (fun t _ h1 h2 => ⟨(), trivial, ⟨rfl, (by simp [vs_ok, c_3, c_6])⟩, vs_F hS h1 h2⟩) hS.2.2 (Nat.le_of_ble_eq_true rfl) (Nat.le_of_ble_eq_true rfl)
    · refine lv_iload_n hx hb dX3_build_27 rfl (lv_at hl 3 rfl) ?_
      have hPc := hP.sub (ws' := []) [] rfl
      have hKc := hK.sub (tys' := []) [] rfl
      refine va_calli (va_runS (As := [.int zc]) (rest := []) ⟨hx, hb, hml, hown, hts⟩ (ct_X3_isRule l dC dI zc) (va_cwS 1 hts gX3_build_X3_isRule rfl rfl rfl (by decide +kernel) ⟨(Nat.le_of_ble_eq_true rfl), (Nat.le_of_ble_eq_true rfl)⟩) ⟨pR_blind, pR_pre hPc hKc⟩ rfl rfl hl.1 rfl (lv_room (Nat.le_of_ble_eq_true rfl)) dX3_build_28 ⟨(Nat.le_of_ble_eq_true rfl), (Nat.le_of_ble_eq_true rfl)⟩) hS (fun q _ h => h.elim) (fun q h => h.elim) (fun r_7 u_8 t H1 locs ht hvm hw hB hz1 hk1 hS => ?_)
      have hP := hP.kept (fun k q hk => hk1 q.1 (hP k q hk).lt (fun h => h))
      generalize H1 = H at hP hS ⊢
      have hw : r_7 = vs_in zc 0 3 := hw
      subst hw
      refine lv_if_ne (tgt := 44) hx hb dX3_build_31 (by decide) (fun c_9 => ?_) (fun c_9 => ?_)
      · refine lv_aload_n hx hb dX3_build_44 rfl (lv_at hl 0 rfl) ?_
        refine va_get (D := (dC, dI)) (ci := 3) (v := .ref av) (C := RX3) (T := TX3) (N := 2) hx hb hts in_X3_build_X3 hown hK hP 0 rfl rfl 0 (by decide) (hts (.fieldLink RX3 10 "VaultDoors" "vault" "LVaultDoors$Vault;") (List.mem_of_getElem? (i := 5) rfl)) (fun _ h9 => h9) rfl dX3_build_45 ?_
        refine va_get (D := (dC, dI)) (ci := 1) (v := .int 0) (C := RX1) (T := TX1) (N := 5) hx hb hts in_X3_build_X1 hown hK hP 1 rfl rfl 1 (by decide) (hts (.fieldLink RX3 39 "VaultDoors$Vault" "doorCount" "I") (List.mem_of_getElem? (i := 6) rfl)) (fun _ h9 => h9) rfl dX3_build_48 ?_
        refine lv_bipush (v := 10) hx hb dX3_build_51 (by decide) ?_
        refine lv_icmp_lt (tgt := 66) hx hb dX3_build_53 (by decide) (fun _ => ?_) (fun h => absurd h (by decide))
        refine lv_aload_n hx hb dX3_build_66 rfl (lv_at hl 0 rfl) ?_
        refine va_get (D := (dC, dI)) (ci := 3) (v := .ref av) (C := RX3) (T := TX3) (N := 2) hx hb hts in_X3_build_X3 hown hK hP 0 rfl rfl 0 (by decide) (hts (.fieldLink RX3 10 "VaultDoors" "vault" "LVaultDoors$Vault;") (List.mem_of_getElem? (i := 5) rfl)) (fun _ h9 => h9) rfl dX3_build_67 ?_
        refine lv_iload_n hx hb dX3_build_70 rfl (lv_at hl 1 rfl) ?_
        refine lv_iload_n hx hb dX3_build_71 rfl (lv_at hl 2 rfl) ?_
        refine lv_iload_n hx hb dX3_build_72 rfl (lv_at hl 3 rfl) ?_
        have hPc := hP.sub (ws' := [(av, .inr (1, [.int 0, .int 0, .ref adr, .ref ao, .ref aar])), (adr, .inl (cD, 10, .inr (.inr (.inr (.inr (va_up fd 0 (some ad0))))))), (ad0, .inr (0, [.int 0, .int 0, .int 0, .int 0, .int 0, .int 0, .int 0, .int 0, .ref d1, .ref d2, .ref d3, .int 0, .ref d4, .ref d5]))]) [1, 2, 3] rfl
        have hKc := hK.sub (tys' := [(cD, .object RX0)]) [0] rfl
        have hDc := hD.sub (ws' := [(av, .inr (1, [.int 0, .int 0, .ref adr, .ref ao, .ref aar])), (adr, .inl (cD, 10, .inr (.inr (.inr (.inr (va_up fd 0 (some ad0))))))), (ad0, .inr (0, [.int 0, .int 0, .int 0, .int 0, .int 0, .int 0, .int 0, .int 0, .ref d1, .ref d2, .ref d3, .int 0, .ref d4, .ref d5]))]) [1, 2, 3] (by decide) rfl
        have hFc := va_free (wc := [(av, .inr (1, [.int 0, .int 0, .ref adr, .ref ao, .ref aar])), (adr, .inl (cD, 10, .inr (.inr (.inr (.inr (va_up fd 0 (some ad0))))))), (ad0, .inr (0, [.int 0, .int 0, .int 0, .int 0, .int 0, .int 0, .int 0, .int 0, .ref d1, .ref d2, .ref d3, .int 0, .ref d4, .ref d5]))]) hD hS hA [1, 2, 3] rfl
        refine va_calli (va_runV (As := [.int za, .int zb, .int zc]) (rest := []) ⟨hx, hb, hml, hown, hts⟩ (ct_X1_addDoor l dC dI za zb zc av adr ao aar ad0 d1 d2 d3 d4 d5 cD fd H.size) (cwV 3 hts gX3_build_X1_addDoor rfl rfl rfl (by decide +kernel) ⟨(Nat.le_of_ble_eq_true rfl), (Nat.le_of_ble_eq_true rfl)⟩) ⟨pZ_blind, va_recv hKc hPc (ci := 1) (q0 := 0) rfl rfl, pZ_pre hPc hDc hKc⟩ rfl rfl hl.1 rfl (lv_room (Nat.le_of_ble_eq_true rfl)) dX3_build_73 ⟨(Nat.le_of_ble_eq_true rfl), (Nat.le_of_ble_eq_true rfl)⟩) hS (fun q _ h => hFc q h) hFc (fun r_10 u_11 t H1 locs ht hvm hw hB hz1 hk1 hS => ?_)
        obtain ⟨hP1, hK1, hD1⟩ := hB
        rw [ht] at hP1
        have hK1 := va_K.moved hvm.symm hK1
        obtain ⟨hP, hD⟩ := va_join (wr := [(ax, .inr (3, [.ref av, .ref at_]))]) (w1 := []) hP hD [1, 2, 3] [0] rfl rfl (by decide) (by decide) hk1 hFc hP1 hD1
        generalize H1 = H at hP hS ⊢
        have hP : va_P (dC, dI) vwCl [(ax, .inr (3, [.ref av, .ref at_]))] H := hP
        have hD : va_D A [(ax, .inr (3, [.ref av, .ref at_]))] := hD
        have hK : va_K (dC, dI) vwCl [(cD, .object RX0)] _ := hK
        have hw : r_10 = 0 := hw
        subst hw
        refine W.widen (k := 1) (n := 6) (by omega) (by omega) ?_
        have hP9 := hP.sub (ws' := []) [] rfl
        have hD9 := hD.sub (ws' := []) [] (by decide) rfl
        have hK9 := hK.sub (tys' := []) [] rfl
        refine vx_ret ?_
        exact W.iret (v := 0) hx hb hr (fun t ht hW => ⟨⟨_, (), rfl, (by simp [vs_ok, c_3, c_6, c_9]), by rw [ht]; exact hP9, va_K.moved hW.alike hK9, hD9⟩, hS.F ht⟩) hS.2.2 dX3_build_76
      · obtain ⟨sa, hstr⟩ := hT.2.2 (37, "patience is not 1 to 20, or rule is not 0 to 3") (by decide +kernel)
        exact vx_throwS (own := RX3) (cls := vs_I) (text := "patience is not 1 to 20, or rule is not 0 to 3") (names := vs_N) (ik := 23) (is := 37) (ic := 27) (sa := sa) hx hb hnt hown (by decide +kernel) (by decide +kernel) (hts (.classLink RX3 23 vs_I) (List.mem_of_getElem? (i := 1) rfl)) (hts (.initialized vs_I) (List.mem_of_getElem? (i := 2) rfl)) hstr (vx_hat (fun w h => hts w (List.mem_cons_of_mem _ (List.mem_append_left _ (List.mem_append_right _ h)))) vs_c27 (vs_Wo hT.2.1.1.1 hT.2.1.2.2.2.2.2.2.2)) vs_g27 hT.1.1 hT.1.2 hS (hl.1.trans hml.symm) dX3_build_34 dX3_build_37 dX3_build_38 dX3_build_40 dX3_build_43 (fun x h9 => (htab x h9).elim) (Nat.le_of_ble_eq_true rfl) (Nat.le_of_ble_eq_true rfl) (Nat.le_of_ble_eq_true rfl) (Nat.le_of_ble_eq_true rfl) hlocks (fun t _ h1 h2 => ⟨(), trivial, ⟨rfl, (by simp [vs_ok, c_3, c_6, c_9])⟩, vs_F hS h1 h2⟩) hS.2.2 (Nat.le_of_ble_eq_true rfl) (Nat.le_of_ble_eq_true rfl)
  · obtain ⟨sa, hstr⟩ := hT.2.2 (25, "secret is not 0 to 99") (by decide +kernel)
    exact vx_throwS (own := RX3) (cls := vs_I) (text := "secret is not 0 to 99") (names := vs_N) (ik := 23) (is := 25) (ic := 27) (sa := sa) hx hb hnt hown (by decide +kernel) (by decide +kernel) (hts (.classLink RX3 23 vs_I) (List.mem_of_getElem? (i := 1) rfl)) (hts (.initialized vs_I) (List.mem_of_getElem? (i := 2) rfl)) hstr (vx_hat (fun w h => hts w (List.mem_cons_of_mem _ (List.mem_append_left _ (List.mem_append_right _ h)))) vs_c27 (vs_Wo hT.2.1.1.1 hT.2.1.2.2.2.2.2.2.2)) vs_g27 hT.1.1 hT.1.2 hS (hl.1.trans hml.symm) dX3_build_10 dX3_build_13 dX3_build_14 dX3_build_16 dX3_build_19 (fun x h9 => (htab x h9).elim) (Nat.le_of_ble_eq_true rfl) (Nat.le_of_ble_eq_true rfl) (Nat.le_of_ble_eq_true rfl) (Nat.le_of_ble_eq_true rfl) hlocks (fun t _ h1 h2 => ⟨(), trivial, ⟨rfl, (by simp [vs_ok, c_3])⟩, vs_F hS h1 h2⟩) hS.2.2 (Nat.le_of_ble_eq_true rfl) (Nat.le_of_ble_eq_true rfl)
