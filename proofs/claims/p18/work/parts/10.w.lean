noncomputable def f_X0_init (N : Nat) (m : vM) (p0 : Nat) : Option (Nat × vM) :=
  if mk ((mN m N 6 4)) p0 = 0 then
  some ((((((N + 1) + 1) + 1) + 1) + 1), (mR ((mN ((mR ((mN ((mR ((mN ((mR ((mN ((mR ((mN m N 6 4)) p0 8 (some N))) ((N + 1)) 6 4)) p0 9 (some ((N + 1))))) (((N + 1) + 1)) 6 4)) p0 10 (some (((N + 1) + 1))))) ((((N + 1) + 1) + 1)) 6 60)) p0 12 (some ((((N + 1) + 1) + 1))))) (((((N + 1) + 1) + 1) + 1)) 6 60)) p0 13 (some (((((N + 1) + 1) + 1) + 1)))))
  else none
theorem in_X0_init_X0 : ∀ w ∈ wsX00, w ∈ wsX0_init := by decide +kernel
set_option maxHeartbeats 1000000 in
set_option maxRecDepth 100000 in
theorem cm_X0_init (l : Launch) (D : va_G) (tc : Nat → ClassId) (ad : Nat → Nat) {N : Nat} {m0 : vM} {sz : Nat} {p0 : Nat} (hO : vOK N m0) (n_p0 : p0 < N) {z : Nat × vM} (h : f_X0_init N m0 p0 = some z) : Met l yX0_init wsX0_init ({ frames := 1, cells := 5, slots := 132, locals := 20 } : Room) (va_Pc [.ref (ad p0)] (qW D tc ad N m0 sz)) (va_Qv (fun (_ : Unit) => True) (fun _ t => vX D (va_A (vW tc ad N m0) sz) tc ad N z.1 z.2 t) (va_A (vW tc ad N m0) sz)) 5 132 (va_A (vW tc ad N m0) sz) := by
  refine Met.ofW (cc := cX0_init) (maxL := 1) (ret := none) (by decide) rfl ?_
  intro p e s m args below meth c s₁ B hml hv
  obtain ⟨rfl, hsz, hP, hK, hD0, hZ⟩ := hv
  have hx := B.exec
  have hb := B.bytes
  have hr := B.returns
  have hts := atoms_spec (ws := wsX0_init) B.pre
  have hown : s.vm.findClass RX0 = some m.cls := findClass_of_methodNamed B.named
  have hlocks := B.notSynchronized
  have hin : meth.name = "<init>" := (name_of_methodNamed B.named B.method).1
  subst hsz
  have hD := hD0.self (sz := s.heap.size)
  generalize hAe : va_A (vW tc ad N m0) s.heap.size = A at hD ⊢
  have hA : ∀ q : Nat, s.heap.size ≤ q → A q := fun q h => by rw [← hAe]; exact Or.inr h
  have hS : va_S A s.heap s.heap [] := va_S.rf
  have hl := lv_entry ([.ref (ad p0)]) (n := 1) (Nat.le_of_ble_eq_true rfl)
  rw [lg_entry_eq]
  generalize (lg_sl ([.ref (ad p0)]) ++ List.replicate (1 - (lg_sl ([.ref (ad p0)])).length) Slot.unset).toArray = ls at hl ⊢
  have hl : lv_has ls 1 [(0, .ref (ad p0))] := hl
  unfold f_X0_init at h
  refine lv_aload_n hx hb dX0_init_0 rfl (lv_at hl 0 rfl) ?_
  refine W.objInit hx hb hown (hts (.methodLink RX0 3 objectInit) (List.mem_of_getElem? (i := 1) rfl)) (hts (.instanceMethod objectInit) (List.mem_of_getElem? (i := 2) rfl)) (hts (.code objectInit ⟨#[0xb1]⟩ 1 none) (List.mem_of_getElem? (i := 3) rfl)) rfl (by rw [hml]; exact hl.1) rfl dX0_init_1 (Nat.le_of_ble_eq_true rfl) (Nat.le_of_ble_eq_true rfl) ?_
  refine W.eq (g2 := F0 m 4 ls []) rfl ?_
  refine lv_aload_n hx hb dX0_init_4 rfl (lv_at hl 0 rfl) ?_
  refine lv_iconst (v := 4) hx hb dX0_init_5 (by decide) ?_
  refine wm_new6 (n := 4) (n' := 4) hx hb (hts (.arrayClass .int) (List.mem_of_getElem? (i := 4) rfl)) hO hK hP hD hS hA (by decide) (by decide) (Nat.le_of_ble_eq_true rfl) (Nat.le_of_ble_eq_true rfl) (Nat.le_of_ble_eq_true rfl) dX0_init_6 (fun ad1 H e2 hP hD hS => ?_)
  have hl : lv_has ls 1 [(0, .ref (ad1 p0))] := by rw [e2 p0 n_p0]; exact hl
  have e3 : ∀ k, k < N → ad1 k = ad k := fun k hk => (e2 k (Nat.lt_of_lt_of_le hk (Nat.le_refl _))).trans ((fun _ _ => rfl) k hk)
  have e4 : N ≤ (N + 1) := Nat.le_trans (Nat.le_refl _) (Nat.le_succ _)
  have hO5 := vOK.N (k := 6) (n := 4) hO
  have n6 : p0 < (N + 1) := Nat.lt_of_lt_of_le n_p0 (Nat.le_succ _)
  refine W.eq (g2 := F0 m 8 ls [.ref (ad1 N), .ref (ad1 p0)]) (by rw [e2 p0 n_p0]) ?_
  have hP : va_P D vwCl (vW tc ad1 ((N + 1)) ((mN m0 N 6 4))) H := hP
  have hD : va_D A (vW tc ad1 ((N + 1)) ((mN m0 N 6 4))) := hD
  obtain ⟨g7, h⟩ := vg_if h
  refine va_putF (D := D) (ci := 0) (v := .ref (ad1 N)) (ty := .array .int) (C := RX0) (T := TX0) (N := 14) hx hb hts in_X0_init_X0 tyX0 tyX0_ok nmX0 hown hK hP hD hS p0 (vW_k0 n6 g7) rfl 8 (by decide) (hts (.fieldLink RX0 9 "VaultDoors$Door" "other" "[I") (List.mem_of_getElem? (i := 5) rfl)) (fun _ h9 => h9) rfl hin rfl (by decide +kernel) rfl rfl (Nat.le_of_ble_eq_true rfl) dX0_init_8 (fun H locs hP hD hS => ?_)
  rw [vW_p0_8 (m := ((mN m0 N 6 4))) n6 g7] at hP hD
  have hO8 := vOK.R (a := p0) (j := 8) hO5 (Nat.lt_succ_self _)
  have hP : va_P D vwCl (vW tc ad1 ((N + 1)) ((mR ((mN m0 N 6 4)) p0 8 (some N)))) H := hP
  have hD : va_D A (vW tc ad1 ((N + 1)) ((mR ((mN m0 N 6 4)) p0 8 (some N)))) := hD
  refine lv_aload_n hx hb dX0_init_11 rfl (lv_at hl 0 rfl) ?_
  refine lv_iconst (v := 4) hx hb dX0_init_12 (by decide) ?_
  refine wm_new6 (n := 4) (n' := 4) hx hb (hts (.arrayClass .int) (List.mem_of_getElem? (i := 4) rfl)) hO8 hK hP hD hS hA (by decide) (by decide) (Nat.le_of_ble_eq_true rfl) (Nat.le_of_ble_eq_true rfl) (Nat.le_of_ble_eq_true rfl) dX0_init_13 (fun ad9 H e10 hP hD hS => ?_)
  have hl : lv_has ls 1 [(0, .ref (ad9 p0))] := by rw [e10 p0 n6]; exact hl
  have e11 : ∀ k, k < N → ad9 k = ad k := fun k hk => (e10 k (Nat.lt_of_lt_of_le hk e4)).trans (e3 k hk)
  have e12 : N ≤ ((N + 1) + 1) := Nat.le_trans e4 (Nat.le_succ _)
  have hO13 := vOK.N (k := 6) (n := 4) hO8
  have n14 : p0 < ((N + 1) + 1) := Nat.lt_of_lt_of_le n6 (Nat.le_succ _)
  have n15 : N < ((N + 1) + 1) := Nat.lt_of_lt_of_le (Nat.lt_succ_self _) (Nat.le_succ _)
  refine W.eq (g2 := F0 m 15 ls [.ref (ad9 ((N + 1))), .ref (ad9 p0)]) (by rw [e10 p0 n6]) ?_
  have hP : va_P D vwCl (vW tc ad9 (((N + 1) + 1)) ((mN ((mR ((mN m0 N 6 4)) p0 8 (some N))) ((N + 1)) 6 4))) H := hP
  have hD : va_D A (vW tc ad9 (((N + 1) + 1)) ((mN ((mR ((mN m0 N 6 4)) p0 8 (some N))) ((N + 1)) 6 4))) := hD
  refine va_putF (D := D) (ci := 0) (v := .ref (ad9 ((N + 1)))) (ty := .array .int) (C := RX0) (T := TX0) (N := 14) hx hb hts in_X0_init_X0 tyX0 tyX0_ok nmX0 hown hK hP hD hS p0 (vW_k0 n14 (mN_k2 (m := ((mR ((mN m0 N 6 4)) p0 8 (some N)))) (n := 4) n6 g7)) rfl 9 (by decide) (hts (.fieldLink RX0 15 "VaultDoors$Door" "distance" "[I") (List.mem_of_getElem? (i := 6) rfl)) (fun _ h9 => h9) rfl hin rfl (by decide +kernel) rfl rfl (Nat.le_of_ble_eq_true rfl) dX0_init_15 (fun H locs hP hD hS => ?_)
  rw [vW_p0_9 (m := ((mN ((mR ((mN m0 N 6 4)) p0 8 (some N))) ((N + 1)) 6 4))) n14 (mN_k2 (m := ((mR ((mN m0 N 6 4)) p0 8 (some N)))) (n := 4) n6 g7)] at hP hD
  have hO16 := vOK.R (a := p0) (j := 9) hO13 (Nat.lt_succ_self _)
  have hP : va_P D vwCl (vW tc ad9 (((N + 1) + 1)) ((mR ((mN ((mR ((mN m0 N 6 4)) p0 8 (some N))) ((N + 1)) 6 4)) p0 9 (some ((N + 1)))))) H := hP
  have hD : va_D A (vW tc ad9 (((N + 1) + 1)) ((mR ((mN ((mR ((mN m0 N 6 4)) p0 8 (some N))) ((N + 1)) 6 4)) p0 9 (some ((N + 1)))))) := hD
  refine lv_aload_n hx hb dX0_init_18 rfl (lv_at hl 0 rfl) ?_
  refine lv_iconst (v := 4) hx hb dX0_init_19 (by decide) ?_
  refine wm_new6 (n := 4) (n' := 4) hx hb (hts (.arrayClass .int) (List.mem_of_getElem? (i := 4) rfl)) hO16 hK hP hD hS hA (by decide) (by decide) (Nat.le_of_ble_eq_true rfl) (Nat.le_of_ble_eq_true rfl) (Nat.le_of_ble_eq_true rfl) dX0_init_20 (fun ad17 H e18 hP hD hS => ?_)
  have hl : lv_has ls 1 [(0, .ref (ad17 p0))] := by rw [e18 p0 n14]; exact hl
  have e19 : ∀ k, k < N → ad17 k = ad k := fun k hk => (e18 k (Nat.lt_of_lt_of_le hk e12)).trans (e11 k hk)
  have e20 : N ≤ (((N + 1) + 1) + 1) := Nat.le_trans e12 (Nat.le_succ _)
  have hO21 := vOK.N (k := 6) (n := 4) hO16
  have n22 : p0 < (((N + 1) + 1) + 1) := Nat.lt_of_lt_of_le n14 (Nat.le_succ _)
  have n23 : N < (((N + 1) + 1) + 1) := Nat.lt_of_lt_of_le n15 (Nat.le_succ _)
  have n24 : ((N + 1)) < (((N + 1) + 1) + 1) := Nat.lt_of_lt_of_le (Nat.lt_succ_self _) (Nat.le_succ _)
  refine W.eq (g2 := F0 m 22 ls [.ref (ad17 (((N + 1) + 1))), .ref (ad17 p0)]) (by rw [e18 p0 n14]) ?_
  have hP : va_P D vwCl (vW tc ad17 ((((N + 1) + 1) + 1)) ((mN ((mR ((mN ((mR ((mN m0 N 6 4)) p0 8 (some N))) ((N + 1)) 6 4)) p0 9 (some ((N + 1))))) (((N + 1) + 1)) 6 4))) H := hP
  have hD : va_D A (vW tc ad17 ((((N + 1) + 1) + 1)) ((mN ((mR ((mN ((mR ((mN m0 N 6 4)) p0 8 (some N))) ((N + 1)) 6 4)) p0 9 (some ((N + 1))))) (((N + 1) + 1)) 6 4))) := hD
  refine va_putF (D := D) (ci := 0) (v := .ref (ad17 (((N + 1) + 1)))) (ty := .array .int) (C := RX0) (T := TX0) (N := 14) hx hb hts in_X0_init_X0 tyX0 tyX0_ok nmX0 hown hK hP hD hS p0 (vW_k0 n22 (mN_k2 (m := ((mR ((mN ((mR ((mN m0 N 6 4)) p0 8 (some N))) ((N + 1)) 6 4)) p0 9 (some ((N + 1)))))) (n := 4) n14 (mN_k2 (m := ((mR ((mN m0 N 6 4)) p0 8 (some N)))) (n := 4) n6 g7))) rfl 10 (by decide) (hts (.fieldLink RX0 18 "VaultDoors$Door" "answer" "[I") (List.mem_of_getElem? (i := 7) rfl)) (fun _ h9 => h9) rfl hin rfl (by decide +kernel) rfl rfl (Nat.le_of_ble_eq_true rfl) dX0_init_22 (fun H locs hP hD hS => ?_)
  rw [vW_p0_10 (m := ((mN ((mR ((mN ((mR ((mN m0 N 6 4)) p0 8 (some N))) ((N + 1)) 6 4)) p0 9 (some ((N + 1))))) (((N + 1) + 1)) 6 4))) n22 (mN_k2 (m := ((mR ((mN ((mR ((mN m0 N 6 4)) p0 8 (some N))) ((N + 1)) 6 4)) p0 9 (some ((N + 1)))))) (n := 4) n14 (mN_k2 (m := ((mR ((mN m0 N 6 4)) p0 8 (some N)))) (n := 4) n6 g7))] at hP hD
  have hO25 := vOK.R (a := p0) (j := 10) hO21 (Nat.lt_succ_self _)
  have hP : va_P D vwCl (vW tc ad17 ((((N + 1) + 1) + 1)) ((mR ((mN ((mR ((mN ((mR ((mN m0 N 6 4)) p0 8 (some N))) ((N + 1)) 6 4)) p0 9 (some ((N + 1))))) (((N + 1) + 1)) 6 4)) p0 10 (some (((N + 1) + 1)))))) H := hP
  have hD : va_D A (vW tc ad17 ((((N + 1) + 1) + 1)) ((mR ((mN ((mR ((mN ((mR ((mN m0 N 6 4)) p0 8 (some N))) ((N + 1)) 6 4)) p0 9 (some ((N + 1))))) (((N + 1) + 1)) 6 4)) p0 10 (some (((N + 1) + 1)))))) := hD
  refine lv_aload_n hx hb dX0_init_25 rfl (lv_at hl 0 rfl) ?_
  refine lv_bipush (v := 60) hx hb dX0_init_26 (by decide) ?_
  refine wm_new6 (n := 60) (n' := 60) hx hb (hts (.arrayClass .int) (List.mem_of_getElem? (i := 4) rfl)) hO25 hK hP hD hS hA (by decide) (by decide) (Nat.le_of_ble_eq_true rfl) (Nat.le_of_ble_eq_true rfl) (Nat.le_of_ble_eq_true rfl) dX0_init_28 (fun ad26 H e27 hP hD hS => ?_)
  have hl : lv_has ls 1 [(0, .ref (ad26 p0))] := by rw [e27 p0 n22]; exact hl
  have e28 : ∀ k, k < N → ad26 k = ad k := fun k hk => (e27 k (Nat.lt_of_lt_of_le hk e20)).trans (e19 k hk)
  have e29 : N ≤ ((((N + 1) + 1) + 1) + 1) := Nat.le_trans e20 (Nat.le_succ _)
  have hO30 := vOK.N (k := 6) (n := 60) hO25
  have n31 : p0 < ((((N + 1) + 1) + 1) + 1) := Nat.lt_of_lt_of_le n22 (Nat.le_succ _)
  have n32 : N < ((((N + 1) + 1) + 1) + 1) := Nat.lt_of_lt_of_le n23 (Nat.le_succ _)
  have n33 : ((N + 1)) < ((((N + 1) + 1) + 1) + 1) := Nat.lt_of_lt_of_le n24 (Nat.le_succ _)
  have n34 : (((N + 1) + 1)) < ((((N + 1) + 1) + 1) + 1) := Nat.lt_of_lt_of_le (Nat.lt_succ_self _) (Nat.le_succ _)
  refine W.eq (g2 := F0 m 30 ls [.ref (ad26 ((((N + 1) + 1) + 1))), .ref (ad26 p0)]) (by rw [e27 p0 n22]) ?_
  have hP : va_P D vwCl (vW tc ad26 (((((N + 1) + 1) + 1) + 1)) ((mN ((mR ((mN ((mR ((mN ((mR ((mN m0 N 6 4)) p0 8 (some N))) ((N + 1)) 6 4)) p0 9 (some ((N + 1))))) (((N + 1) + 1)) 6 4)) p0 10 (some (((N + 1) + 1))))) ((((N + 1) + 1) + 1)) 6 60))) H := hP
  have hD : va_D A (vW tc ad26 (((((N + 1) + 1) + 1) + 1)) ((mN ((mR ((mN ((mR ((mN ((mR ((mN m0 N 6 4)) p0 8 (some N))) ((N + 1)) 6 4)) p0 9 (some ((N + 1))))) (((N + 1) + 1)) 6 4)) p0 10 (some (((N + 1) + 1))))) ((((N + 1) + 1) + 1)) 6 60))) := hD
  refine va_putF (D := D) (ci := 0) (v := .ref (ad26 ((((N + 1) + 1) + 1)))) (ty := .array .int) (C := RX0) (T := TX0) (N := 14) hx hb hts in_X0_init_X0 tyX0 tyX0_ok nmX0 hown hK hP hD hS p0 (vW_k0 n31 (mN_k2 (m := ((mR ((mN ((mR ((mN ((mR ((mN m0 N 6 4)) p0 8 (some N))) ((N + 1)) 6 4)) p0 9 (some ((N + 1))))) (((N + 1) + 1)) 6 4)) p0 10 (some (((N + 1) + 1)))))) (n := 60) n22 (mN_k2 (m := ((mR ((mN ((mR ((mN m0 N 6 4)) p0 8 (some N))) ((N + 1)) 6 4)) p0 9 (some ((N + 1)))))) (n := 4) n14 (mN_k2 (m := ((mR ((mN m0 N 6 4)) p0 8 (some N)))) (n := 4) n6 g7)))) rfl 12 (by decide) (hts (.fieldLink RX0 21 "VaultDoors$Door" "asker" "[I") (List.mem_of_getElem? (i := 8) rfl)) (fun _ h9 => h9) rfl hin rfl (by decide +kernel) rfl rfl (Nat.le_of_ble_eq_true rfl) dX0_init_30 (fun H locs hP hD hS => ?_)
  rw [vW_p0_12 (m := ((mN ((mR ((mN ((mR ((mN ((mR ((mN m0 N 6 4)) p0 8 (some N))) ((N + 1)) 6 4)) p0 9 (some ((N + 1))))) (((N + 1) + 1)) 6 4)) p0 10 (some (((N + 1) + 1))))) ((((N + 1) + 1) + 1)) 6 60))) n31 (mN_k2 (m := ((mR ((mN ((mR ((mN ((mR ((mN m0 N 6 4)) p0 8 (some N))) ((N + 1)) 6 4)) p0 9 (some ((N + 1))))) (((N + 1) + 1)) 6 4)) p0 10 (some (((N + 1) + 1)))))) (n := 60) n22 (mN_k2 (m := ((mR ((mN ((mR ((mN m0 N 6 4)) p0 8 (some N))) ((N + 1)) 6 4)) p0 9 (some ((N + 1)))))) (n := 4) n14 (mN_k2 (m := ((mR ((mN m0 N 6 4)) p0 8 (some N)))) (n := 4) n6 g7)))] at hP hD
  have hO35 := vOK.R (a := p0) (j := 12) hO30 (Nat.lt_succ_self _)
  have hP : va_P D vwCl (vW tc ad26 (((((N + 1) + 1) + 1) + 1)) ((mR ((mN ((mR ((mN ((mR ((mN ((mR ((mN m0 N 6 4)) p0 8 (some N))) ((N + 1)) 6 4)) p0 9 (some ((N + 1))))) (((N + 1) + 1)) 6 4)) p0 10 (some (((N + 1) + 1))))) ((((N + 1) + 1) + 1)) 6 60)) p0 12 (some ((((N + 1) + 1) + 1)))))) H := hP
  have hD : va_D A (vW tc ad26 (((((N + 1) + 1) + 1) + 1)) ((mR ((mN ((mR ((mN ((mR ((mN ((mR ((mN m0 N 6 4)) p0 8 (some N))) ((N + 1)) 6 4)) p0 9 (some ((N + 1))))) (((N + 1) + 1)) 6 4)) p0 10 (some (((N + 1) + 1))))) ((((N + 1) + 1) + 1)) 6 60)) p0 12 (some ((((N + 1) + 1) + 1)))))) := hD
  refine lv_aload_n hx hb dX0_init_33 rfl (lv_at hl 0 rfl) ?_
  refine lv_bipush (v := 60) hx hb dX0_init_34 (by decide) ?_
  refine wm_new6 (n := 60) (n' := 60) hx hb (hts (.arrayClass .int) (List.mem_of_getElem? (i := 4) rfl)) hO35 hK hP hD hS hA (by decide) (by decide) (Nat.le_of_ble_eq_true rfl) (Nat.le_of_ble_eq_true rfl) (Nat.le_of_ble_eq_true rfl) dX0_init_36 (fun ad36 H e37 hP hD hS => ?_)
  have hl : lv_has ls 1 [(0, .ref (ad36 p0))] := by rw [e37 p0 n31]; exact hl
  have e38 : ∀ k, k < N → ad36 k = ad k := fun k hk => (e37 k (Nat.lt_of_lt_of_le hk e29)).trans (e28 k hk)
  have e39 : N ≤ (((((N + 1) + 1) + 1) + 1) + 1) := Nat.le_trans e29 (Nat.le_succ _)
  have hO40 := vOK.N (k := 6) (n := 60) hO35
  have n41 : p0 < (((((N + 1) + 1) + 1) + 1) + 1) := Nat.lt_of_lt_of_le n31 (Nat.le_succ _)
  have n42 : N < (((((N + 1) + 1) + 1) + 1) + 1) := Nat.lt_of_lt_of_le n32 (Nat.le_succ _)
  have n43 : ((N + 1)) < (((((N + 1) + 1) + 1) + 1) + 1) := Nat.lt_of_lt_of_le n33 (Nat.le_succ _)
  have n44 : (((N + 1) + 1)) < (((((N + 1) + 1) + 1) + 1) + 1) := Nat.lt_of_lt_of_le n34 (Nat.le_succ _)
  have n45 : ((((N + 1) + 1) + 1)) < (((((N + 1) + 1) + 1) + 1) + 1) := Nat.lt_of_lt_of_le (Nat.lt_succ_self _) (Nat.le_succ _)
  refine W.eq (g2 := F0 m 38 ls [.ref (ad36 (((((N + 1) + 1) + 1) + 1))), .ref (ad36 p0)]) (by rw [e37 p0 n31]) ?_
  have hP : va_P D vwCl (vW tc ad36 ((((((N + 1) + 1) + 1) + 1) + 1)) ((mN ((mR ((mN ((mR ((mN ((mR ((mN ((mR ((mN m0 N 6 4)) p0 8 (some N))) ((N + 1)) 6 4)) p0 9 (some ((N + 1))))) (((N + 1) + 1)) 6 4)) p0 10 (some (((N + 1) + 1))))) ((((N + 1) + 1) + 1)) 6 60)) p0 12 (some ((((N + 1) + 1) + 1))))) (((((N + 1) + 1) + 1) + 1)) 6 60))) H := hP
  have hD : va_D A (vW tc ad36 ((((((N + 1) + 1) + 1) + 1) + 1)) ((mN ((mR ((mN ((mR ((mN ((mR ((mN ((mR ((mN m0 N 6 4)) p0 8 (some N))) ((N + 1)) 6 4)) p0 9 (some ((N + 1))))) (((N + 1) + 1)) 6 4)) p0 10 (some (((N + 1) + 1))))) ((((N + 1) + 1) + 1)) 6 60)) p0 12 (some ((((N + 1) + 1) + 1))))) (((((N + 1) + 1) + 1) + 1)) 6 60))) := hD
  refine va_putF (D := D) (ci := 0) (v := .ref (ad36 (((((N + 1) + 1) + 1) + 1)))) (ty := .array .int) (C := RX0) (T := TX0) (N := 14) hx hb hts in_X0_init_X0 tyX0 tyX0_ok nmX0 hown hK hP hD hS p0 (vW_k0 n41 (mN_k2 (m := ((mR ((mN ((mR ((mN ((mR ((mN ((mR ((mN m0 N 6 4)) p0 8 (some N))) ((N + 1)) 6 4)) p0 9 (some ((N + 1))))) (((N + 1) + 1)) 6 4)) p0 10 (some (((N + 1) + 1))))) ((((N + 1) + 1) + 1)) 6 60)) p0 12 (some ((((N + 1) + 1) + 1)))))) (n := 60) n31 (mN_k2 (m := ((mR ((mN ((mR ((mN ((mR ((mN m0 N 6 4)) p0 8 (some N))) ((N + 1)) 6 4)) p0 9 (some ((N + 1))))) (((N + 1) + 1)) 6 4)) p0 10 (some (((N + 1) + 1)))))) (n := 60) n22 (mN_k2 (m := ((mR ((mN ((mR ((mN m0 N 6 4)) p0 8 (some N))) ((N + 1)) 6 4)) p0 9 (some ((N + 1)))))) (n := 4) n14 (mN_k2 (m := ((mR ((mN m0 N 6 4)) p0 8 (some N)))) (n := 4) n6 g7))))) rfl 13 (by decide) (hts (.fieldLink RX0 24 "VaultDoors$Door" "askerDistance" "[I") (List.mem_of_getElem? (i := 9) rfl)) (fun _ h9 => h9) rfl hin rfl (by decide +kernel) rfl rfl (Nat.le_of_ble_eq_true rfl) dX0_init_38 (fun H locs hP hD hS => ?_)
  rw [vW_p0_13 (m := ((mN ((mR ((mN ((mR ((mN ((mR ((mN ((mR ((mN m0 N 6 4)) p0 8 (some N))) ((N + 1)) 6 4)) p0 9 (some ((N + 1))))) (((N + 1) + 1)) 6 4)) p0 10 (some (((N + 1) + 1))))) ((((N + 1) + 1) + 1)) 6 60)) p0 12 (some ((((N + 1) + 1) + 1))))) (((((N + 1) + 1) + 1) + 1)) 6 60))) n41 (mN_k2 (m := ((mR ((mN ((mR ((mN ((mR ((mN ((mR ((mN m0 N 6 4)) p0 8 (some N))) ((N + 1)) 6 4)) p0 9 (some ((N + 1))))) (((N + 1) + 1)) 6 4)) p0 10 (some (((N + 1) + 1))))) ((((N + 1) + 1) + 1)) 6 60)) p0 12 (some ((((N + 1) + 1) + 1)))))) (n := 60) n31 (mN_k2 (m := ((mR ((mN ((mR ((mN ((mR ((mN m0 N 6 4)) p0 8 (some N))) ((N + 1)) 6 4)) p0 9 (some ((N + 1))))) (((N + 1) + 1)) 6 4)) p0 10 (some (((N + 1) + 1)))))) (n := 60) n22 (mN_k2 (m := ((mR ((mN ((mR ((mN m0 N 6 4)) p0 8 (some N))) ((N + 1)) 6 4)) p0 9 (some ((N + 1)))))) (n := 4) n14 (mN_k2 (m := ((mR ((mN m0 N 6 4)) p0 8 (some N)))) (n := 4) n6 g7))))] at hP hD
  have hO46 := vOK.R (a := p0) (j := 13) hO40 (Nat.lt_succ_self _)
  have hP : va_P D vwCl (vW tc ad36 ((((((N + 1) + 1) + 1) + 1) + 1)) ((mR ((mN ((mR ((mN ((mR ((mN ((mR ((mN ((mR ((mN m0 N 6 4)) p0 8 (some N))) ((N + 1)) 6 4)) p0 9 (some ((N + 1))))) (((N + 1) + 1)) 6 4)) p0 10 (some (((N + 1) + 1))))) ((((N + 1) + 1) + 1)) 6 60)) p0 12 (some ((((N + 1) + 1) + 1))))) (((((N + 1) + 1) + 1) + 1)) 6 60)) p0 13 (some (((((N + 1) + 1) + 1) + 1)))))) H := hP
  have hD : va_D A (vW tc ad36 ((((((N + 1) + 1) + 1) + 1) + 1)) ((mR ((mN ((mR ((mN ((mR ((mN ((mR ((mN ((mR ((mN m0 N 6 4)) p0 8 (some N))) ((N + 1)) 6 4)) p0 9 (some ((N + 1))))) (((N + 1) + 1)) 6 4)) p0 10 (some (((N + 1) + 1))))) ((((N + 1) + 1) + 1)) 6 60)) p0 12 (some ((((N + 1) + 1) + 1))))) (((((N + 1) + 1) + 1) + 1)) 6 60)) p0 13 (some (((((N + 1) + 1) + 1) + 1)))))) := hD
  have hz := Option.some.inj h
  refine W.widen (k := 5) (n := 132) (Nat.le_of_ble_eq_true rfl) (Nat.le_of_ble_eq_true rfl) ?_
  exact W.vret hx hb hr (fun t ht hW => ⟨⟨(), rfl, trivial, by rw [← hz]; exact ⟨ad36, e38, e39, hO46, by rw [ht]; exact hP, va_K.moved hW.alike hK, hD⟩⟩, hS.F ht⟩) hS.2.2 dX0_init_41

noncomputable def f_X2_init (N : Nat) (m : vM) (p0 : Nat) : Option (Nat × vM) :=
  if mk ((mN m N 6 60)) p0 = 2 then
  some ((((((N + 1) + 1) + 1) + 1) + 1), (mR ((mN ((mR ((mN ((mR ((mN ((mR ((mN ((mR ((mN m N 6 60)) p0 2 (some N))) ((N + 1)) 6 60)) p0 3 (some ((N + 1))))) (((N + 1) + 1)) 6 60)) p0 4 (some (((N + 1) + 1))))) ((((N + 1) + 1) + 1)) 6 60)) p0 5 (some ((((N + 1) + 1) + 1))))) (((((N + 1) + 1) + 1) + 1)) 6 60)) p0 6 (some (((((N + 1) + 1) + 1) + 1)))))
  else none
theorem in_X2_init_X2 : ∀ w ∈ wsX20, w ∈ wsX2_init := by decide +kernel
set_option maxHeartbeats 1000000 in
set_option maxRecDepth 100000 in
theorem cm_X2_init (l : Launch) (D : va_G) (tc : Nat → ClassId) (ad : Nat → Nat) {N : Nat} {m0 : vM} {sz : Nat} {p0 : Nat} (hO : vOK N m0) (n_p0 : p0 < N) {z : Nat × vM} (h : f_X2_init N m0 p0 = some z) : Met l yX2_init wsX2_init ({ frames := 1, cells := 5, slots := 300, locals := 20 } : Room) (va_Pc [.ref (ad p0)] (qW D tc ad N m0 sz)) (va_Qv (fun (_ : Unit) => True) (fun _ t => vX D (va_A (vW tc ad N m0) sz) tc ad N z.1 z.2 t) (va_A (vW tc ad N m0) sz)) 5 300 (va_A (vW tc ad N m0) sz) := by
  refine Met.ofW (cc := cX2_init) (maxL := 1) (ret := none) (by decide) rfl ?_
  intro p e s m args below meth c s₁ B hml hv
  obtain ⟨rfl, hsz, hP, hK, hD0, hZ⟩ := hv
  have hx := B.exec
  have hb := B.bytes
  have hr := B.returns
  have hts := atoms_spec (ws := wsX2_init) B.pre
  have hown : s.vm.findClass RX2 = some m.cls := findClass_of_methodNamed B.named
  have hlocks := B.notSynchronized
  have hin : meth.name = "<init>" := (name_of_methodNamed B.named B.method).1
  subst hsz
  have hD := hD0.self (sz := s.heap.size)
  generalize hAe : va_A (vW tc ad N m0) s.heap.size = A at hD ⊢
  have hA : ∀ q : Nat, s.heap.size ≤ q → A q := fun q h => by rw [← hAe]; exact Or.inr h
  have hS : va_S A s.heap s.heap [] := va_S.rf
  have hl := lv_entry ([.ref (ad p0)]) (n := 1) (Nat.le_of_ble_eq_true rfl)
  rw [lg_entry_eq]
  generalize (lg_sl ([.ref (ad p0)]) ++ List.replicate (1 - (lg_sl ([.ref (ad p0)])).length) Slot.unset).toArray = ls at hl ⊢
  have hl : lv_has ls 1 [(0, .ref (ad p0))] := hl
  unfold f_X2_init at h
  refine lv_aload_n hx hb dX2_init_0 rfl (lv_at hl 0 rfl) ?_
  refine W.objInit hx hb hown (hts (.methodLink RX2 3 objectInit) (List.mem_of_getElem? (i := 1) rfl)) (hts (.instanceMethod objectInit) (List.mem_of_getElem? (i := 2) rfl)) (hts (.code objectInit ⟨#[0xb1]⟩ 1 none) (List.mem_of_getElem? (i := 3) rfl)) rfl (by rw [hml]; exact hl.1) rfl dX2_init_1 (Nat.le_of_ble_eq_true rfl) (Nat.le_of_ble_eq_true rfl) ?_
  refine W.eq (g2 := F0 m 4 ls []) rfl ?_
  refine lv_aload_n hx hb dX2_init_4 rfl (lv_at hl 0 rfl) ?_
  refine lv_bipush (v := 60) hx hb dX2_init_5 (by decide) ?_
  refine wm_new6 (n := 60) (n' := 60) hx hb (hts (.arrayClass .int) (List.mem_of_getElem? (i := 4) rfl)) hO hK hP hD hS hA (by decide) (by decide) (Nat.le_of_ble_eq_true rfl) (Nat.le_of_ble_eq_true rfl) (Nat.le_of_ble_eq_true rfl) dX2_init_7 (fun ad1 H e2 hP hD hS => ?_)
  have hl : lv_has ls 1 [(0, .ref (ad1 p0))] := by rw [e2 p0 n_p0]; exact hl
  have e3 : ∀ k, k < N → ad1 k = ad k := fun k hk => (e2 k (Nat.lt_of_lt_of_le hk (Nat.le_refl _))).trans ((fun _ _ => rfl) k hk)
  have e4 : N ≤ (N + 1) := Nat.le_trans (Nat.le_refl _) (Nat.le_succ _)
  have hO5 := vOK.N (k := 6) (n := 60) hO
  have n6 : p0 < (N + 1) := Nat.lt_of_lt_of_le n_p0 (Nat.le_succ _)
  refine W.eq (g2 := F0 m 9 ls [.ref (ad1 N), .ref (ad1 p0)]) (by rw [e2 p0 n_p0]) ?_
  have hP : va_P D vwCl (vW tc ad1 ((N + 1)) ((mN m0 N 6 60))) H := hP
  have hD : va_D A (vW tc ad1 ((N + 1)) ((mN m0 N 6 60))) := hD
  obtain ⟨g7, h⟩ := vg_if h
  refine va_putF (D := D) (ci := 2) (v := .ref (ad1 N)) (ty := .array .int) (C := RX2) (T := TX2) (N := 7) hx hb hts in_X2_init_X2 tyX2 tyX2_ok nmX2 hown hK hP hD hS p0 (vW_k2 n6 g7) rfl 2 (by decide) (hts (.fieldLink RX2 9 "VaultDoors$Voices" "from" "[I") (List.mem_of_getElem? (i := 5) rfl)) (fun _ h9 => h9) rfl hin rfl (by decide +kernel) rfl rfl (Nat.le_of_ble_eq_true rfl) dX2_init_9 (fun H locs hP hD hS => ?_)
  rw [vW_p2_2 (m := ((mN m0 N 6 60))) n6 g7] at hP hD
  have hO8 := vOK.R (a := p0) (j := 2) hO5 (Nat.lt_succ_self _)
  have hP : va_P D vwCl (vW tc ad1 ((N + 1)) ((mR ((mN m0 N 6 60)) p0 2 (some N)))) H := hP
  have hD : va_D A (vW tc ad1 ((N + 1)) ((mR ((mN m0 N 6 60)) p0 2 (some N)))) := hD
  refine lv_aload_n hx hb dX2_init_12 rfl (lv_at hl 0 rfl) ?_
  refine lv_bipush (v := 60) hx hb dX2_init_13 (by decide) ?_
  refine wm_new6 (n := 60) (n' := 60) hx hb (hts (.arrayClass .int) (List.mem_of_getElem? (i := 4) rfl)) hO8 hK hP hD hS hA (by decide) (by decide) (Nat.le_of_ble_eq_true rfl) (Nat.le_of_ble_eq_true rfl) (Nat.le_of_ble_eq_true rfl) dX2_init_15 (fun ad9 H e10 hP hD hS => ?_)
  have hl : lv_has ls 1 [(0, .ref (ad9 p0))] := by rw [e10 p0 n6]; exact hl
  have e11 : ∀ k, k < N → ad9 k = ad k := fun k hk => (e10 k (Nat.lt_of_lt_of_le hk e4)).trans (e3 k hk)
  have e12 : N ≤ ((N + 1) + 1) := Nat.le_trans e4 (Nat.le_succ _)
  have hO13 := vOK.N (k := 6) (n := 60) hO8
  have n14 : p0 < ((N + 1) + 1) := Nat.lt_of_lt_of_le n6 (Nat.le_succ _)
  have n15 : N < ((N + 1) + 1) := Nat.lt_of_lt_of_le (Nat.lt_succ_self _) (Nat.le_succ _)
  refine W.eq (g2 := F0 m 17 ls [.ref (ad9 ((N + 1))), .ref (ad9 p0)]) (by rw [e10 p0 n6]) ?_
  have hP : va_P D vwCl (vW tc ad9 (((N + 1) + 1)) ((mN ((mR ((mN m0 N 6 60)) p0 2 (some N))) ((N + 1)) 6 60))) H := hP
  have hD : va_D A (vW tc ad9 (((N + 1) + 1)) ((mN ((mR ((mN m0 N 6 60)) p0 2 (some N))) ((N + 1)) 6 60))) := hD
  refine va_putF (D := D) (ci := 2) (v := .ref (ad9 ((N + 1)))) (ty := .array .int) (C := RX2) (T := TX2) (N := 7) hx hb hts in_X2_init_X2 tyX2 tyX2_ok nmX2 hown hK hP hD hS p0 (vW_k2 n14 (mN_k2 (m := ((mR ((mN m0 N 6 60)) p0 2 (some N)))) (n := 60) n6 g7)) rfl 3 (by decide) (hts (.fieldLink RX2 15 "VaultDoors$Voices" "to" "[I") (List.mem_of_getElem? (i := 6) rfl)) (fun _ h9 => h9) rfl hin rfl (by decide +kernel) rfl rfl (Nat.le_of_ble_eq_true rfl) dX2_init_17 (fun H locs hP hD hS => ?_)
  rw [vW_p2_3 (m := ((mN ((mR ((mN m0 N 6 60)) p0 2 (some N))) ((N + 1)) 6 60))) n14 (mN_k2 (m := ((mR ((mN m0 N 6 60)) p0 2 (some N)))) (n := 60) n6 g7)] at hP hD
  have hO16 := vOK.R (a := p0) (j := 3) hO13 (Nat.lt_succ_self _)
  have hP : va_P D vwCl (vW tc ad9 (((N + 1) + 1)) ((mR ((mN ((mR ((mN m0 N 6 60)) p0 2 (some N))) ((N + 1)) 6 60)) p0 3 (some ((N + 1)))))) H := hP
  have hD : va_D A (vW tc ad9 (((N + 1) + 1)) ((mR ((mN ((mR ((mN m0 N 6 60)) p0 2 (some N))) ((N + 1)) 6 60)) p0 3 (some ((N + 1)))))) := hD
  refine lv_aload_n hx hb dX2_init_20 rfl (lv_at hl 0 rfl) ?_
  refine lv_bipush (v := 60) hx hb dX2_init_21 (by decide) ?_
  refine wm_new6 (n := 60) (n' := 60) hx hb (hts (.arrayClass .int) (List.mem_of_getElem? (i := 4) rfl)) hO16 hK hP hD hS hA (by decide) (by decide) (Nat.le_of_ble_eq_true rfl) (Nat.le_of_ble_eq_true rfl) (Nat.le_of_ble_eq_true rfl) dX2_init_23 (fun ad17 H e18 hP hD hS => ?_)
  have hl : lv_has ls 1 [(0, .ref (ad17 p0))] := by rw [e18 p0 n14]; exact hl
  have e19 : ∀ k, k < N → ad17 k = ad k := fun k hk => (e18 k (Nat.lt_of_lt_of_le hk e12)).trans (e11 k hk)
  have e20 : N ≤ (((N + 1) + 1) + 1) := Nat.le_trans e12 (Nat.le_succ _)
  have hO21 := vOK.N (k := 6) (n := 60) hO16
  have n22 : p0 < (((N + 1) + 1) + 1) := Nat.lt_of_lt_of_le n14 (Nat.le_succ _)
  have n23 : N < (((N + 1) + 1) + 1) := Nat.lt_of_lt_of_le n15 (Nat.le_succ _)
  have n24 : ((N + 1)) < (((N + 1) + 1) + 1) := Nat.lt_of_lt_of_le (Nat.lt_succ_self _) (Nat.le_succ _)
  refine W.eq (g2 := F0 m 25 ls [.ref (ad17 (((N + 1) + 1))), .ref (ad17 p0)]) (by rw [e18 p0 n14]) ?_
  have hP : va_P D vwCl (vW tc ad17 ((((N + 1) + 1) + 1)) ((mN ((mR ((mN ((mR ((mN m0 N 6 60)) p0 2 (some N))) ((N + 1)) 6 60)) p0 3 (some ((N + 1))))) (((N + 1) + 1)) 6 60))) H := hP
  have hD : va_D A (vW tc ad17 ((((N + 1) + 1) + 1)) ((mN ((mR ((mN ((mR ((mN m0 N 6 60)) p0 2 (some N))) ((N + 1)) 6 60)) p0 3 (some ((N + 1))))) (((N + 1) + 1)) 6 60))) := hD
  refine va_putF (D := D) (ci := 2) (v := .ref (ad17 (((N + 1) + 1)))) (ty := .array .int) (C := RX2) (T := TX2) (N := 7) hx hb hts in_X2_init_X2 tyX2 tyX2_ok nmX2 hown hK hP hD hS p0 (vW_k2 n22 (mN_k2 (m := ((mR ((mN ((mR ((mN m0 N 6 60)) p0 2 (some N))) ((N + 1)) 6 60)) p0 3 (some ((N + 1)))))) (n := 60) n14 (mN_k2 (m := ((mR ((mN m0 N 6 60)) p0 2 (some N)))) (n := 60) n6 g7))) rfl 4 (by decide) (hts (.fieldLink RX2 18 "VaultDoors$Voices" "kind" "[I") (List.mem_of_getElem? (i := 7) rfl)) (fun _ h9 => h9) rfl hin rfl (by decide +kernel) rfl rfl (Nat.le_of_ble_eq_true rfl) dX2_init_25 (fun H locs hP hD hS => ?_)
  rw [vW_p2_4 (m := ((mN ((mR ((mN ((mR ((mN m0 N 6 60)) p0 2 (some N))) ((N + 1)) 6 60)) p0 3 (some ((N + 1))))) (((N + 1) + 1)) 6 60))) n22 (mN_k2 (m := ((mR ((mN ((mR ((mN m0 N 6 60)) p0 2 (some N))) ((N + 1)) 6 60)) p0 3 (some ((N + 1)))))) (n := 60) n14 (mN_k2 (m := ((mR ((mN m0 N 6 60)) p0 2 (some N)))) (n := 60) n6 g7))] at hP hD
  have hO25 := vOK.R (a := p0) (j := 4) hO21 (Nat.lt_succ_self _)
  have hP : va_P D vwCl (vW tc ad17 ((((N + 1) + 1) + 1)) ((mR ((mN ((mR ((mN ((mR ((mN m0 N 6 60)) p0 2 (some N))) ((N + 1)) 6 60)) p0 3 (some ((N + 1))))) (((N + 1) + 1)) 6 60)) p0 4 (some (((N + 1) + 1)))))) H := hP
  have hD : va_D A (vW tc ad17 ((((N + 1) + 1) + 1)) ((mR ((mN ((mR ((mN ((mR ((mN m0 N 6 60)) p0 2 (some N))) ((N + 1)) 6 60)) p0 3 (some ((N + 1))))) (((N + 1) + 1)) 6 60)) p0 4 (some (((N + 1) + 1)))))) := hD
  refine lv_aload_n hx hb dX2_init_28 rfl (lv_at hl 0 rfl) ?_
  refine lv_bipush (v := 60) hx hb dX2_init_29 (by decide) ?_
  refine wm_new6 (n := 60) (n' := 60) hx hb (hts (.arrayClass .int) (List.mem_of_getElem? (i := 4) rfl)) hO25 hK hP hD hS hA (by decide) (by decide) (Nat.le_of_ble_eq_true rfl) (Nat.le_of_ble_eq_true rfl) (Nat.le_of_ble_eq_true rfl) dX2_init_31 (fun ad26 H e27 hP hD hS => ?_)
  have hl : lv_has ls 1 [(0, .ref (ad26 p0))] := by rw [e27 p0 n22]; exact hl
  have e28 : ∀ k, k < N → ad26 k = ad k := fun k hk => (e27 k (Nat.lt_of_lt_of_le hk e20)).trans (e19 k hk)
  have e29 : N ≤ ((((N + 1) + 1) + 1) + 1) := Nat.le_trans e20 (Nat.le_succ _)
  have hO30 := vOK.N (k := 6) (n := 60) hO25
  have n31 : p0 < ((((N + 1) + 1) + 1) + 1) := Nat.lt_of_lt_of_le n22 (Nat.le_succ _)
  have n32 : N < ((((N + 1) + 1) + 1) + 1) := Nat.lt_of_lt_of_le n23 (Nat.le_succ _)
  have n33 : ((N + 1)) < ((((N + 1) + 1) + 1) + 1) := Nat.lt_of_lt_of_le n24 (Nat.le_succ _)
  have n34 : (((N + 1) + 1)) < ((((N + 1) + 1) + 1) + 1) := Nat.lt_of_lt_of_le (Nat.lt_succ_self _) (Nat.le_succ _)
  refine W.eq (g2 := F0 m 33 ls [.ref (ad26 ((((N + 1) + 1) + 1))), .ref (ad26 p0)]) (by rw [e27 p0 n22]) ?_
  have hP : va_P D vwCl (vW tc ad26 (((((N + 1) + 1) + 1) + 1)) ((mN ((mR ((mN ((mR ((mN ((mR ((mN m0 N 6 60)) p0 2 (some N))) ((N + 1)) 6 60)) p0 3 (some ((N + 1))))) (((N + 1) + 1)) 6 60)) p0 4 (some (((N + 1) + 1))))) ((((N + 1) + 1) + 1)) 6 60))) H := hP
  have hD : va_D A (vW tc ad26 (((((N + 1) + 1) + 1) + 1)) ((mN ((mR ((mN ((mR ((mN ((mR ((mN m0 N 6 60)) p0 2 (some N))) ((N + 1)) 6 60)) p0 3 (some ((N + 1))))) (((N + 1) + 1)) 6 60)) p0 4 (some (((N + 1) + 1))))) ((((N + 1) + 1) + 1)) 6 60))) := hD
  refine va_putF (D := D) (ci := 2) (v := .ref (ad26 ((((N + 1) + 1) + 1)))) (ty := .array .int) (C := RX2) (T := TX2) (N := 7) hx hb hts in_X2_init_X2 tyX2 tyX2_ok nmX2 hown hK hP hD hS p0 (vW_k2 n31 (mN_k2 (m := ((mR ((mN ((mR ((mN ((mR ((mN m0 N 6 60)) p0 2 (some N))) ((N + 1)) 6 60)) p0 3 (some ((N + 1))))) (((N + 1) + 1)) 6 60)) p0 4 (some (((N + 1) + 1)))))) (n := 60) n22 (mN_k2 (m := ((mR ((mN ((mR ((mN m0 N 6 60)) p0 2 (some N))) ((N + 1)) 6 60)) p0 3 (some ((N + 1)))))) (n := 60) n14 (mN_k2 (m := ((mR ((mN m0 N 6 60)) p0 2 (some N)))) (n := 60) n6 g7)))) rfl 5 (by decide) (hts (.fieldLink RX2 21 "VaultDoors$Voices" "left" "[I") (List.mem_of_getElem? (i := 8) rfl)) (fun _ h9 => h9) rfl hin rfl (by decide +kernel) rfl rfl (Nat.le_of_ble_eq_true rfl) dX2_init_33 (fun H locs hP hD hS => ?_)
  rw [vW_p2_5 (m := ((mN ((mR ((mN ((mR ((mN ((mR ((mN m0 N 6 60)) p0 2 (some N))) ((N + 1)) 6 60)) p0 3 (some ((N + 1))))) (((N + 1) + 1)) 6 60)) p0 4 (some (((N + 1) + 1))))) ((((N + 1) + 1) + 1)) 6 60))) n31 (mN_k2 (m := ((mR ((mN ((mR ((mN ((mR ((mN m0 N 6 60)) p0 2 (some N))) ((N + 1)) 6 60)) p0 3 (some ((N + 1))))) (((N + 1) + 1)) 6 60)) p0 4 (some (((N + 1) + 1)))))) (n := 60) n22 (mN_k2 (m := ((mR ((mN ((mR ((mN m0 N 6 60)) p0 2 (some N))) ((N + 1)) 6 60)) p0 3 (some ((N + 1)))))) (n := 60) n14 (mN_k2 (m := ((mR ((mN m0 N 6 60)) p0 2 (some N)))) (n := 60) n6 g7)))] at hP hD
  have hO35 := vOK.R (a := p0) (j := 5) hO30 (Nat.lt_succ_self _)
  have hP : va_P D vwCl (vW tc ad26 (((((N + 1) + 1) + 1) + 1)) ((mR ((mN ((mR ((mN ((mR ((mN ((mR ((mN m0 N 6 60)) p0 2 (some N))) ((N + 1)) 6 60)) p0 3 (some ((N + 1))))) (((N + 1) + 1)) 6 60)) p0 4 (some (((N + 1) + 1))))) ((((N + 1) + 1) + 1)) 6 60)) p0 5 (some ((((N + 1) + 1) + 1)))))) H := hP
  have hD : va_D A (vW tc ad26 (((((N + 1) + 1) + 1) + 1)) ((mR ((mN ((mR ((mN ((mR ((mN ((mR ((mN m0 N 6 60)) p0 2 (some N))) ((N + 1)) 6 60)) p0 3 (some ((N + 1))))) (((N + 1) + 1)) 6 60)) p0 4 (some (((N + 1) + 1))))) ((((N + 1) + 1) + 1)) 6 60)) p0 5 (some ((((N + 1) + 1) + 1)))))) := hD
  refine lv_aload_n hx hb dX2_init_36 rfl (lv_at hl 0 rfl) ?_
  refine lv_bipush (v := 60) hx hb dX2_init_37 (by decide) ?_
  refine wm_new6 (n := 60) (n' := 60) hx hb (hts (.arrayClass .int) (List.mem_of_getElem? (i := 4) rfl)) hO35 hK hP hD hS hA (by decide) (by decide) (Nat.le_of_ble_eq_true rfl) (Nat.le_of_ble_eq_true rfl) (Nat.le_of_ble_eq_true rfl) dX2_init_39 (fun ad36 H e37 hP hD hS => ?_)
  have hl : lv_has ls 1 [(0, .ref (ad36 p0))] := by rw [e37 p0 n31]; exact hl
  have e38 : ∀ k, k < N → ad36 k = ad k := fun k hk => (e37 k (Nat.lt_of_lt_of_le hk e29)).trans (e28 k hk)
  have e39 : N ≤ (((((N + 1) + 1) + 1) + 1) + 1) := Nat.le_trans e29 (Nat.le_succ _)
  have hO40 := vOK.N (k := 6) (n := 60) hO35
  have n41 : p0 < (((((N + 1) + 1) + 1) + 1) + 1) := Nat.lt_of_lt_of_le n31 (Nat.le_succ _)
  have n42 : N < (((((N + 1) + 1) + 1) + 1) + 1) := Nat.lt_of_lt_of_le n32 (Nat.le_succ _)
  have n43 : ((N + 1)) < (((((N + 1) + 1) + 1) + 1) + 1) := Nat.lt_of_lt_of_le n33 (Nat.le_succ _)
  have n44 : (((N + 1) + 1)) < (((((N + 1) + 1) + 1) + 1) + 1) := Nat.lt_of_lt_of_le n34 (Nat.le_succ _)
  have n45 : ((((N + 1) + 1) + 1)) < (((((N + 1) + 1) + 1) + 1) + 1) := Nat.lt_of_lt_of_le (Nat.lt_succ_self _) (Nat.le_succ _)
  refine W.eq (g2 := F0 m 41 ls [.ref (ad36 (((((N + 1) + 1) + 1) + 1))), .ref (ad36 p0)]) (by rw [e37 p0 n31]) ?_
  have hP : va_P D vwCl (vW tc ad36 ((((((N + 1) + 1) + 1) + 1) + 1)) ((mN ((mR ((mN ((mR ((mN ((mR ((mN ((mR ((mN m0 N 6 60)) p0 2 (some N))) ((N + 1)) 6 60)) p0 3 (some ((N + 1))))) (((N + 1) + 1)) 6 60)) p0 4 (some (((N + 1) + 1))))) ((((N + 1) + 1) + 1)) 6 60)) p0 5 (some ((((N + 1) + 1) + 1))))) (((((N + 1) + 1) + 1) + 1)) 6 60))) H := hP
  have hD : va_D A (vW tc ad36 ((((((N + 1) + 1) + 1) + 1) + 1)) ((mN ((mR ((mN ((mR ((mN ((mR ((mN ((mR ((mN m0 N 6 60)) p0 2 (some N))) ((N + 1)) 6 60)) p0 3 (some ((N + 1))))) (((N + 1) + 1)) 6 60)) p0 4 (some (((N + 1) + 1))))) ((((N + 1) + 1) + 1)) 6 60)) p0 5 (some ((((N + 1) + 1) + 1))))) (((((N + 1) + 1) + 1) + 1)) 6 60))) := hD
  refine va_putF (D := D) (ci := 2) (v := .ref (ad36 (((((N + 1) + 1) + 1) + 1)))) (ty := .array .int) (C := RX2) (T := TX2) (N := 7) hx hb hts in_X2_init_X2 tyX2 tyX2_ok nmX2 hown hK hP hD hS p0 (vW_k2 n41 (mN_k2 (m := ((mR ((mN ((mR ((mN ((mR ((mN ((mR ((mN m0 N 6 60)) p0 2 (some N))) ((N + 1)) 6 60)) p0 3 (some ((N + 1))))) (((N + 1) + 1)) 6 60)) p0 4 (some (((N + 1) + 1))))) ((((N + 1) + 1) + 1)) 6 60)) p0 5 (some ((((N + 1) + 1) + 1)))))) (n := 60) n31 (mN_k2 (m := ((mR ((mN ((mR ((mN ((mR ((mN m0 N 6 60)) p0 2 (some N))) ((N + 1)) 6 60)) p0 3 (some ((N + 1))))) (((N + 1) + 1)) 6 60)) p0 4 (some (((N + 1) + 1)))))) (n := 60) n22 (mN_k2 (m := ((mR ((mN ((mR ((mN m0 N 6 60)) p0 2 (some N))) ((N + 1)) 6 60)) p0 3 (some ((N + 1)))))) (n := 60) n14 (mN_k2 (m := ((mR ((mN m0 N 6 60)) p0 2 (some N)))) (n := 60) n6 g7))))) rfl 6 (by decide) (hts (.fieldLink RX2 24 "VaultDoors$Voices" "distance" "[I") (List.mem_of_getElem? (i := 9) rfl)) (fun _ h9 => h9) rfl hin rfl (by decide +kernel) rfl rfl (Nat.le_of_ble_eq_true rfl) dX2_init_41 (fun H locs hP hD hS => ?_)
  rw [vW_p2_6 (m := ((mN ((mR ((mN ((mR ((mN ((mR ((mN ((mR ((mN m0 N 6 60)) p0 2 (some N))) ((N + 1)) 6 60)) p0 3 (some ((N + 1))))) (((N + 1) + 1)) 6 60)) p0 4 (some (((N + 1) + 1))))) ((((N + 1) + 1) + 1)) 6 60)) p0 5 (some ((((N + 1) + 1) + 1))))) (((((N + 1) + 1) + 1) + 1)) 6 60))) n41 (mN_k2 (m := ((mR ((mN ((mR ((mN ((mR ((mN ((mR ((mN m0 N 6 60)) p0 2 (some N))) ((N + 1)) 6 60)) p0 3 (some ((N + 1))))) (((N + 1) + 1)) 6 60)) p0 4 (some (((N + 1) + 1))))) ((((N + 1) + 1) + 1)) 6 60)) p0 5 (some ((((N + 1) + 1) + 1)))))) (n := 60) n31 (mN_k2 (m := ((mR ((mN ((mR ((mN ((mR ((mN m0 N 6 60)) p0 2 (some N))) ((N + 1)) 6 60)) p0 3 (some ((N + 1))))) (((N + 1) + 1)) 6 60)) p0 4 (some (((N + 1) + 1)))))) (n := 60) n22 (mN_k2 (m := ((mR ((mN ((mR ((mN m0 N 6 60)) p0 2 (some N))) ((N + 1)) 6 60)) p0 3 (some ((N + 1)))))) (n := 60) n14 (mN_k2 (m := ((mR ((mN m0 N 6 60)) p0 2 (some N)))) (n := 60) n6 g7))))] at hP hD
  have hO46 := vOK.R (a := p0) (j := 6) hO40 (Nat.lt_succ_self _)
  have hP : va_P D vwCl (vW tc ad36 ((((((N + 1) + 1) + 1) + 1) + 1)) ((mR ((mN ((mR ((mN ((mR ((mN ((mR ((mN ((mR ((mN m0 N 6 60)) p0 2 (some N))) ((N + 1)) 6 60)) p0 3 (some ((N + 1))))) (((N + 1) + 1)) 6 60)) p0 4 (some (((N + 1) + 1))))) ((((N + 1) + 1) + 1)) 6 60)) p0 5 (some ((((N + 1) + 1) + 1))))) (((((N + 1) + 1) + 1) + 1)) 6 60)) p0 6 (some (((((N + 1) + 1) + 1) + 1)))))) H := hP
  have hD : va_D A (vW tc ad36 ((((((N + 1) + 1) + 1) + 1) + 1)) ((mR ((mN ((mR ((mN ((mR ((mN ((mR ((mN ((mR ((mN m0 N 6 60)) p0 2 (some N))) ((N + 1)) 6 60)) p0 3 (some ((N + 1))))) (((N + 1) + 1)) 6 60)) p0 4 (some (((N + 1) + 1))))) ((((N + 1) + 1) + 1)) 6 60)) p0 5 (some ((((N + 1) + 1) + 1))))) (((((N + 1) + 1) + 1) + 1)) 6 60)) p0 6 (some (((((N + 1) + 1) + 1) + 1)))))) := hD
  have hz := Option.some.inj h
  refine W.widen (k := 5) (n := 300) (Nat.le_of_ble_eq_true rfl) (Nat.le_of_ble_eq_true rfl) ?_
  exact W.vret hx hb hr (fun t ht hW => ⟨⟨(), rfl, trivial, by rw [← hz]; exact ⟨ad36, e38, e39, hO46, by rw [ht]; exact hP, va_K.moved hW.alike hK, hD⟩⟩, hS.F ht⟩) hS.2.2 dX2_init_44

noncomputable def fB_X1_init_37 (rec : Nat → Nat → vM → Nat → Nat → Nat → Int32 → Option (Nat × vM)) (N : Nat) (m : vM) (kc ks : Nat) (r0 : Nat) (i1 : Int32) : Option (Nat × vM) :=
  if 10 ≤ i1 then (
    some (N, m)
  ) else (
    if mk m r0 = 1 then
    Option.bind (mr m r0 2) fun y3 =>
    if (kc + 1) ≤ 73 then
    if (ks + 14) ≤ 2084 then
    Option.bind (f_X0_init ((N + 1)) ((mN m N 0 0)) N) fun q14 =>
    if ((kc + 1) + 5) ≤ 73 then
    if ((ks + 14) + 132) ≤ 2084 then
    if mk q14.2 y3 = 7 then
    if mk q14.2 N = 0 then
    if vin i1 (ml q14.2 y3) then
    rec 37 q14.1 ((mR q14.2 y3 i1.toNatClampNeg (some N))) (((kc + 1) + 5)) (((ks + 14) + 132)) r0 (i1 + 1)
    else none
    else none
    else none
    else none
    else none
    else none
    else none
    else none
  )
noncomputable def fL_X1_init (n : Nat) : Nat → Nat → vM → Nat → Nat → Nat → Int32 → Option (Nat × vM) := Nat.rec (fun _ _ _ _ _ _ _ => none) (fun _ rec pc N m kc ks r0 i1 => if pc = 37 then fB_X1_init_37 rec N m kc ks r0 i1 else none) n
noncomputable def f_X1_init (N : Nat) (m : vM) (p0 : Nat) : Option (Nat × vM) :=
  if mk ((mN m N 7 10)) p0 = 1 then
  Option.bind (f_X2_init (((N + 1) + 1)) ((mN ((mR ((mN m N 7 10)) p0 2 (some N))) ((N + 1)) 2 0)) ((N + 1))) fun q16 =>
  if mk q16.2 p0 = 1 then
  Option.bind (f_X2_init ((q16.1 + 1)) ((mN ((mR q16.2 p0 3 (some ((N + 1))))) q16.1 2 0)) q16.1) fun q38 =>
  if mk q38.2 p0 = 1 then
  fL_X1_init vF 37 q38.1 ((mR q38.2 p0 4 (some q16.1))) ((((((0 + 1) + 1) + 5) + 1) + 5)) ((((((0 + 10) + 7) + 300) + 7) + 300)) p0 (0 : Int32)
  else none
  else none
  else none
theorem in_X1_init_X0 : ∀ w ∈ wsX00, w ∈ wsX1_init := by decide +kernel
theorem in_X1_init_X1 : ∀ w ∈ wsX10, w ∈ wsX1_init := by decide +kernel
theorem in_X1_init_X2 : ∀ w ∈ wsX20, w ∈ wsX1_init := by decide +kernel
set_option maxHeartbeats 1000000 in
set_option maxRecDepth 100000 in
theorem cm_X1_init (l : Launch) (D : va_G) (tc : Nat → ClassId) (ad : Nat → Nat) {N : Nat} {m0 : vM} {sz : Nat} {p0 : Nat} (hO : vOK N m0) (n_p0 : p0 < N) {z : Nat × vM} (h : f_X1_init N m0 p0 = some z) : Met l yX1_init wsX1_init ({ frames := 2, cells := 73, slots := 2084, locals := 40 } : Room) (va_Pc [.ref (ad p0)] (qW D tc ad N m0 sz)) (va_Qv (fun (_ : Unit) => True) (fun _ t => vX D (va_A (vW tc ad N m0) sz) tc ad N z.1 z.2 t) (va_A (vW tc ad N m0) sz)) 73 2084 (va_A (vW tc ad N m0) sz) := by
  refine Met.ofW (cc := cX1_init) (maxL := 2) (ret := none) (by decide) rfl ?_
  intro p e s m args below meth c s₁ B hml hv
  obtain ⟨rfl, hsz, hP, hK, hD0, hZ⟩ := hv
  have hx := B.exec
  have hb := B.bytes
  have hr := B.returns
  have hts := atoms_spec (ws := wsX1_init) B.pre
  have hown : s.vm.findClass RX1 = some m.cls := findClass_of_methodNamed B.named
  have hlocks := B.notSynchronized
  have hin : meth.name = "<init>" := (name_of_methodNamed B.named B.method).1
  subst hsz
  have hD := hD0.self (sz := s.heap.size)
  generalize hAe : va_A (vW tc ad N m0) s.heap.size = A at hD ⊢
  have hA : ∀ q : Nat, s.heap.size ≤ q → A q := fun q h => by rw [← hAe]; exact Or.inr h
  have hS : va_S A s.heap s.heap [] := va_S.rf
  have hl := lv_entry ([.ref (ad p0)]) (n := 2) (Nat.le_of_ble_eq_true rfl)
  rw [lg_entry_eq]
  generalize (lg_sl ([.ref (ad p0)]) ++ List.replicate (2 - (lg_sl ([.ref (ad p0)])).length) Slot.unset).toArray = ls at hl ⊢
  have hl : lv_has ls 2 [(0, .ref (ad p0))] := hl
  have hL : ∀ n : Nat, (∀ (NL : Nat) (adL : Nat → Nat) (m1 : vM) (kc ks : Nat) (r0 : Nat) (i1 : Int32) (H : Heap) (locs : List Loc) (ls : Array Slot), N ≤ NL → (∀ k, k < N → adL k = ad k) → kc ≤ 73 → ks ≤ 2084 → vOK NL m1 → r0 < NL → fL_X1_init n 37 NL m1 kc ks r0 i1 = some z → va_P D vwCl (vW tc adL NL m1) H → va_D A (vW tc adL NL m1) → va_S A s.heap H locs → lv_has ls 2 [(0, .ref (adL r0)), (1, .int i1)] → W p l e (headSpec wsX1_init ({ frames := 2, cells := 73, slots := 2084, locals := 40 } : Room)).room s m ([.ref (ad p0)] : List Value).toArray below meth c H locs kc ks (MQ below (va_Qv (fun (_ : Unit) => True) (fun _ t => vX D A tc ad N z.1 z.2 t) A) ([.ref (ad p0)] : List Value).toArray s 73 2084 A) (F0 m 37 ls [])) := by
    intro n
    induction n with
    | zero => exact (fun _ _ _ _ _ _ _ _ _ _ _ _ _ _ _ _ h9 _ _ _ _ => by have h9 : (none : Option (Nat × vM)) = some z := h9; cases h9)
    | succ n ih =>
      · intro NL adL m1 kc ks r0 i1 H locs ls hNN hE hc hs hO n_r0 h hP hD hS hl
        have h : fB_X1_init_37 (fL_X1_init n) NL m1 kc ks r0 i1 = some z := h
        unfold fB_X1_init_37 at h
        refine lv_iload_n hx hb dX1_init_37 rfl (lv_at hl 1 rfl) ?_
        refine lv_bipush (v := 10) hx hb dX1_init_38 (by decide) ?_
        refine lv_icmp_ge (tgt := 62) hx hb dX1_init_40 (by decide) (fun c1 => ?_) (fun c1 => ?_)
        · rw [if_pos c1] at h
          have hz := Option.some.inj h
          refine W.widen (k := 73) (n := 2084) hc hs ?_
          exact W.vret hx hb hr (fun t ht hW => ⟨⟨(), rfl, trivial, by rw [← hz]; exact ⟨adL, hE, hNN, hO, by rw [ht]; exact hP, va_K.moved hW.alike hK, hD⟩⟩, hS.F ht⟩) hS.2.2 dX1_init_62
        · rw [if_neg c1] at h
          refine lv_aload_n hx hb dX1_init_43 rfl (lv_at hl 0 rfl) ?_
          obtain ⟨g2, h⟩ := vg_if h
          obtain ⟨y3, g4, h⟩ := vg_bind h
          have n_y3 := hO _ _ _ g4
          refine va_get (D := D) (ci := 1) (v := .ref (adL y3)) (C := RX1) (T := TX1) (N := 5) hx hb hts in_X1_init_X1 hown hK hP r0 (vW_k1 n_r0 g2) rfl 2 (by decide) (hts (.fieldLink RX1 11 "VaultDoors$Vault" "doors" "[LVaultDoors$Door;") (List.mem_of_getElem? (i := 5) rfl)) (fun _ h9 => h9) (by show some (va_rf (Option.map adL (mr m1 r0 2))) = _; rw [g4]; rfl) dX1_init_44 ?_
          refine lv_iload_n hx hb dX1_init_47 rfl (lv_at hl 1 rfl) ?_
          obtain ⟨g5, h⟩ := vg_if h
          obtain ⟨g6, h⟩ := vg_if h
          refine wm_obj0 hx hb hts in_X1_init_X0 hown (hts (.classLink RX1 9 RX0) (List.mem_of_getElem? (i := 4) rfl)) (hts (.instantiable RX0 14) (List.mem_of_getElem? (i := 11) rfl)) (hts (.initialized RX0) (List.mem_of_getElem? (i := 12) rfl)) hO hK hP hD hS hA g5 g6 dX1_init_48 (fun ad7 H e8 hP hD hS => ?_)
          have hl : lv_has ls 2 [(0, .ref (ad7 r0)), (1, .int i1)] := by rw [e8 r0 n_r0]; exact hl
          have e9 : ∀ k, k < N → ad7 k = ad k := fun k hk => (e8 k (Nat.lt_of_lt_of_le hk hNN)).trans (hE k hk)
          have e10 : N ≤ (NL + 1) := Nat.le_trans hNN (Nat.le_succ _)
          have hO11 := vOK.N (k := 0) (n := 0) hO
          have n12 : r0 < (NL + 1) := Nat.lt_of_lt_of_le n_r0 (Nat.le_succ _)
          have n13 : y3 < (NL + 1) := Nat.lt_of_lt_of_le n_y3 (Nat.le_succ _)
          refine W.eq (g2 := F0 m 51 ls [.ref (ad7 NL), .int i1, .ref (ad7 y3)]) (by rw [e8 y3 n_y3]) ?_
          have hP : va_P D vwCl (vW tc ad7 ((NL + 1)) ((mN m1 NL 0 0))) H := hP
          have hD : va_D A (vW tc ad7 ((NL + 1)) ((mN m1 NL 0 0))) := hD
          refine lv_dup hx hb dX1_init_51 rfl ?_
          obtain ⟨q14, g15, h⟩ := vg_bind h
          obtain ⟨g16, h⟩ := vg_if h
          obtain ⟨g17, h⟩ := vg_if h
          have hFc := vm_free hD hS hA
          refine va_callv (va_runIN (As := []) (rest := [.ref (ad7 NL), .int i1, .ref (ad7 y3)]) ⟨hx, hb, hml, hown, hts⟩ (cm_X0_init (m0 := (mN m1 NL 0 0)) l D tc ad7 hO11 (Nat.lt_succ_self _) g15) (⟨va_cnB 0 hts gX1_init_X0_init_n27 rfl rfl rfl hZ.2.2.2.2.1 (hts (.initialized RX0) (List.mem_of_getElem? (i := 12) rfl)) (by decide +kernel) ⟨(Nat.le_of_ble_eq_true rfl), (Nat.le_of_ble_eq_true rfl)⟩, rfl, (hts (.instanceMethod yX0_init) (List.mem_of_getElem? (i := 22) rfl))⟩) ⟨qW_blind, qW_pre hP hD hK hZ⟩ rfl rfl hl.1 rfl (lv_room (Nat.le_of_ble_eq_true rfl)) dX1_init_52 ⟨g16, g17⟩) hS (fun q9 _ h9 => hFc q9 h9) hFc (fun u t H1 locs ht hvm hw hB hz1 hk1 hS => ?_)
          obtain ⟨ad19, e20, e21, hO22, hP1, hK1, hD1⟩ := hB
          rw [ht] at hP1
          have hP := hP1
          have hD := hD1.weaken (fun _ q9 _ h9 => hFc q9.1 h9)
          generalize H1 = H at hP hS ⊢
          clear hk1 hz1 ht hvm
          have hl : lv_has ls 2 [(0, .ref (ad19 r0)), (1, .int i1)] := by rw [e20 r0 n12]; exact hl
          have e23 : ∀ k, k < N → ad19 k = ad k := fun k hk => (e20 k (Nat.lt_of_lt_of_le hk e10)).trans (e9 k hk)
          have e24 : N ≤ q14.1 := Nat.le_trans e10 e21
          have n25 : r0 < q14.1 := Nat.lt_of_lt_of_le n12 e21
          have n26 : y3 < q14.1 := Nat.lt_of_lt_of_le n13 e21
          have n27 : NL < q14.1 := Nat.lt_of_lt_of_le (Nat.lt_succ_self _) e21
          refine W.eq (g2 := F0 m 55 ls [.ref (ad19 NL), .int i1, .ref (ad19 y3)]) (by rw [e20 NL (Nat.lt_succ_self _), e20 y3 n13]) ?_
          have hP : va_P D vwCl (vW tc ad19 q14.1 q14.2) H := hP
          have hD : va_D A (vW tc ad19 q14.1 q14.2) := hD
          obtain ⟨g28, h⟩ := vg_if h
          obtain ⟨g29, h⟩ := vg_if h
          obtain ⟨g30, h⟩ := vg_if h
          refine va_astq (D := D) hx hb hK hP hD hS y3 1 NL 0 (vW_k7 n26 g28) rfl (vW_k0 n27 g29) rfl (i := i1) g30 dX1_init_55 (fun H locs hP hD hS => ?_)
          rw [vW_p7 (m := q14.2) n26 g28] at hP hD
          have hO31 := vOK.R (a := y3) (j := i1.toNatClampNeg) hO22 n27
          have hP : va_P D vwCl (vW tc ad19 q14.1 ((mR q14.2 y3 i1.toNatClampNeg (some NL)))) H := hP
          have hD : va_D A (vW tc ad19 q14.1 ((mR q14.2 y3 i1.toNatClampNeg (some NL)))) := hD
          refine lv_iinc (v := i1 + 1) (lv' := [(1, .int (i1 + 1)), (0, .ref (ad19 r0))]) hx hb dX1_init_56 hl (k := 1) rfl rfl (by decide) rfl (fun ls hl => ?_)
          refine lv_goto (tgt := 37) hx hb dX1_init_59 (by decide) ?_
          exact (ih) q14.1 ad19 ((mR q14.2 y3 i1.toNatClampNeg (some NL))) (((kc + 1) + 5)) (((ks + 14) + 132)) r0 (i1 + 1) _ _ _ e24 e23 g16 g17 hO31 n25 h hP hD hS (lv_sub hl (l' := [(0, .ref (ad19 r0)), (1, .int (i1 + 1))]) [1, 0] rfl)
  unfold f_X1_init at h
  refine lv_aload_n hx hb dX1_init_0 rfl (lv_at hl 0 rfl) ?_
  refine W.objInit hx hb hown (hts (.methodLink RX1 3 objectInit) (List.mem_of_getElem? (i := 1) rfl)) (hts (.instanceMethod objectInit) (List.mem_of_getElem? (i := 2) rfl)) (hts (.code objectInit ⟨#[0xb1]⟩ 1 none) (List.mem_of_getElem? (i := 3) rfl)) rfl (by rw [hml]; exact hl.1) rfl dX1_init_1 (Nat.le_of_ble_eq_true rfl) (Nat.le_of_ble_eq_true rfl) ?_
  refine W.eq (g2 := F0 m 4 ls []) rfl ?_
  refine lv_aload_n hx hb dX1_init_4 rfl (lv_at hl 0 rfl) ?_
  refine lv_bipush (v := 10) hx hb dX1_init_5 (by decide) ?_
  refine wm_new7 (n := 10) (n' := 10) hx hb hown (hts (.classLink RX1 9 RX0) (List.mem_of_getElem? (i := 4) rfl)) hZ.2.1 hO hK hP hD hS hA (by decide) (by decide) (Nat.le_of_ble_eq_true rfl) (Nat.le_of_ble_eq_true rfl) (Nat.le_of_ble_eq_true rfl) dX1_init_7 (fun ad32 H e33 hP hD hS => ?_)
  have hl : lv_has ls 2 [(0, .ref (ad32 p0))] := by rw [e33 p0 n_p0]; exact hl
  have e34 : ∀ k, k < N → ad32 k = ad k := fun k hk => (e33 k (Nat.lt_of_lt_of_le hk (Nat.le_refl _))).trans ((fun _ _ => rfl) k hk)
  have e35 : N ≤ (N + 1) := Nat.le_trans (Nat.le_refl _) (Nat.le_succ _)
  have hO36 := vOK.N (k := 7) (n := 10) hO
  have n37 : p0 < (N + 1) := Nat.lt_of_lt_of_le n_p0 (Nat.le_succ _)
  refine W.eq (g2 := F0 m 10 ls [.ref (ad32 N), .ref (ad32 p0)]) (by rw [e33 p0 n_p0]) ?_
  have hP : va_P D vwCl (vW tc ad32 ((N + 1)) ((mN m0 N 7 10))) H := hP
  have hD : va_D A (vW tc ad32 ((N + 1)) ((mN m0 N 7 10))) := hD
  obtain ⟨g38, h⟩ := vg_if h
  refine va_putF (D := D) (ci := 1) (v := .ref (ad32 N)) (ty := .array (.object "VaultDoors$Door")) (C := RX1) (T := TX1) (N := 5) hx hb hts in_X1_init_X1 tyX1 tyX1_ok nmX1 hown hK hP hD hS p0 (vW_k1 n37 g38) rfl 2 (by decide) (hts (.fieldLink RX1 11 "VaultDoors$Vault" "doors" "[LVaultDoors$Door;") (List.mem_of_getElem? (i := 5) rfl)) (fun _ h9 => h9) rfl hin rfl (by decide +kernel) rfl rfl (Nat.le_of_ble_eq_true rfl) dX1_init_10 (fun H locs hP hD hS => ?_)
  rw [vW_p1_2 (m := ((mN m0 N 7 10))) n37 g38] at hP hD
  have hO39 := vOK.R (a := p0) (j := 2) hO36 (Nat.lt_succ_self _)
  have hP : va_P D vwCl (vW tc ad32 ((N + 1)) ((mR ((mN m0 N 7 10)) p0 2 (some N)))) H := hP
  have hD : va_D A (vW tc ad32 ((N + 1)) ((mR ((mN m0 N 7 10)) p0 2 (some N)))) := hD
  refine lv_aload_n hx hb dX1_init_13 rfl (lv_at hl 0 rfl) ?_
  refine wm_obj2 hx hb hts in_X1_init_X2 hown (hts (.classLink RX1 17 RX2) (List.mem_of_getElem? (i := 6) rfl)) (hts (.instantiable RX2 7) (List.mem_of_getElem? (i := 7) rfl)) (hts (.initialized RX2) (List.mem_of_getElem? (i := 8) rfl)) hO39 hK hP hD hS hA (Nat.le_of_ble_eq_true rfl) (Nat.le_of_ble_eq_true rfl) dX1_init_14 (fun ad40 H e41 hP hD hS => ?_)
  have hl : lv_has ls 2 [(0, .ref (ad40 p0))] := by rw [e41 p0 n37]; exact hl
  have e42 : ∀ k, k < N → ad40 k = ad k := fun k hk => (e41 k (Nat.lt_of_lt_of_le hk e35)).trans (e34 k hk)
  have e43 : N ≤ ((N + 1) + 1) := Nat.le_trans e35 (Nat.le_succ _)
  have hO44 := vOK.N (k := 2) (n := 0) hO39
  have n45 : p0 < ((N + 1) + 1) := Nat.lt_of_lt_of_le n37 (Nat.le_succ _)
  have n46 : N < ((N + 1) + 1) := Nat.lt_of_lt_of_le (Nat.lt_succ_self _) (Nat.le_succ _)
  refine W.eq (g2 := F0 m 17 ls [.ref (ad40 ((N + 1))), .ref (ad40 p0)]) (by rw [e41 p0 n37]) ?_
  have hP : va_P D vwCl (vW tc ad40 (((N + 1) + 1)) ((mN ((mR ((mN m0 N 7 10)) p0 2 (some N))) ((N + 1)) 2 0))) H := hP
  have hD : va_D A (vW tc ad40 (((N + 1) + 1)) ((mN ((mR ((mN m0 N 7 10)) p0 2 (some N))) ((N + 1)) 2 0))) := hD
  refine lv_dup hx hb dX1_init_17 rfl ?_
  obtain ⟨q47, g48, h⟩ := vg_bind h
  have hFc := vm_free hD hS hA
  refine va_callv (va_runIN (As := []) (rest := [.ref (ad40 ((N + 1))), .ref (ad40 p0)]) ⟨hx, hb, hml, hown, hts⟩ (cm_X2_init (m0 := (mN ((mR ((mN m0 N 7 10)) p0 2 (some N))) ((N + 1)) 2 0)) l D tc ad40 hO44 (Nat.lt_succ_self _) g48) (⟨va_cnB 0 hts gX1_init_X2_init_n19 rfl rfl rfl hZ.2.2.2.1 (hts (.initialized RX2) (List.mem_of_getElem? (i := 8) rfl)) (by decide +kernel) ⟨(Nat.le_of_ble_eq_true rfl), (Nat.le_of_ble_eq_true rfl)⟩, rfl, (hts (.instanceMethod yX2_init) (List.mem_of_getElem? (i := 13) rfl))⟩) ⟨qW_blind, qW_pre hP hD hK hZ⟩ rfl rfl hl.1 rfl (lv_room (Nat.le_of_ble_eq_true rfl)) dX1_init_18 ⟨(Nat.le_of_ble_eq_true rfl), (Nat.le_of_ble_eq_true rfl)⟩) hS (fun q9 _ h9 => hFc q9 h9) hFc (fun u t H1 locs ht hvm hw hB hz1 hk1 hS => ?_)
  obtain ⟨ad50, e51, e52, hO53, hP1, hK1, hD1⟩ := hB
  rw [ht] at hP1
  have hP := hP1
  have hD := hD1.weaken (fun _ q9 _ h9 => hFc q9.1 h9)
  generalize H1 = H at hP hS ⊢
  clear hk1 hz1 ht hvm
  have hl : lv_has ls 2 [(0, .ref (ad50 p0))] := by rw [e51 p0 n45]; exact hl
  have e54 : ∀ k, k < N → ad50 k = ad k := fun k hk => (e51 k (Nat.lt_of_lt_of_le hk e43)).trans (e42 k hk)
  have e55 : N ≤ q47.1 := Nat.le_trans e43 e52
  have n56 : p0 < q47.1 := Nat.lt_of_lt_of_le n45 e52
  have n57 : N < q47.1 := Nat.lt_of_lt_of_le n46 e52
  have n58 : ((N + 1)) < q47.1 := Nat.lt_of_lt_of_le (Nat.lt_succ_self _) e52
  refine W.eq (g2 := F0 m 21 ls [.ref (ad50 ((N + 1))), .ref (ad50 p0)]) (by rw [e51 ((N + 1)) (Nat.lt_succ_self _), e51 p0 n45]) ?_
  have hP : va_P D vwCl (vW tc ad50 q47.1 q47.2) H := hP
  have hD : va_D A (vW tc ad50 q47.1 q47.2) := hD
  obtain ⟨g59, h⟩ := vg_if h
  refine va_putF (D := D) (ci := 1) (v := .ref (ad50 ((N + 1)))) (ty := .object "VaultDoors$Voices") (C := RX1) (T := TX1) (N := 5) hx hb hts in_X1_init_X1 tyX1 tyX1_ok nmX1 hown hK hP hD hS p0 (vW_k1 n56 g59) rfl 3 (by decide) (hts (.fieldLink RX1 20 "VaultDoors$Vault" "voices" "LVaultDoors$Voices;") (List.mem_of_getElem? (i := 9) rfl)) (fun _ h9 => h9) rfl hin rfl (by decide +kernel) rfl rfl (Nat.le_of_ble_eq_true rfl) dX1_init_21 (fun H locs hP hD hS => ?_)
  rw [vW_p1_3 (m := q47.2) n56 g59] at hP hD
  have hO60 := vOK.R (a := p0) (j := 3) hO53 n58
  have hP : va_P D vwCl (vW tc ad50 q47.1 ((mR q47.2 p0 3 (some ((N + 1)))))) H := hP
  have hD : va_D A (vW tc ad50 q47.1 ((mR q47.2 p0 3 (some ((N + 1)))))) := hD
  refine lv_aload_n hx hb dX1_init_24 rfl (lv_at hl 0 rfl) ?_
  refine wm_obj2 hx hb hts in_X1_init_X2 hown (hts (.classLink RX1 17 RX2) (List.mem_of_getElem? (i := 6) rfl)) (hts (.instantiable RX2 7) (List.mem_of_getElem? (i := 7) rfl)) (hts (.initialized RX2) (List.mem_of_getElem? (i := 8) rfl)) hO60 hK hP hD hS hA (Nat.le_of_ble_eq_true rfl) (Nat.le_of_ble_eq_true rfl) dX1_init_25 (fun ad61 H e62 hP hD hS => ?_)
  have hl : lv_has ls 2 [(0, .ref (ad61 p0))] := by rw [e62 p0 n56]; exact hl
  have e63 : ∀ k, k < N → ad61 k = ad k := fun k hk => (e62 k (Nat.lt_of_lt_of_le hk e55)).trans (e54 k hk)
  have e64 : N ≤ (q47.1 + 1) := Nat.le_trans e55 (Nat.le_succ _)
  have hO65 := vOK.N (k := 2) (n := 0) hO60
  have n66 : p0 < (q47.1 + 1) := Nat.lt_of_lt_of_le n56 (Nat.le_succ _)
  have n67 : N < (q47.1 + 1) := Nat.lt_of_lt_of_le n57 (Nat.le_succ _)
  have n68 : ((N + 1)) < (q47.1 + 1) := Nat.lt_of_lt_of_le n58 (Nat.le_succ _)
  refine W.eq (g2 := F0 m 28 ls [.ref (ad61 q47.1), .ref (ad61 p0)]) (by rw [e62 p0 n56]) ?_
  have hP : va_P D vwCl (vW tc ad61 ((q47.1 + 1)) ((mN ((mR q47.2 p0 3 (some ((N + 1))))) q47.1 2 0))) H := hP
  have hD : va_D A (vW tc ad61 ((q47.1 + 1)) ((mN ((mR q47.2 p0 3 (some ((N + 1))))) q47.1 2 0))) := hD
  refine lv_dup hx hb dX1_init_28 rfl ?_
  obtain ⟨q69, g70, h⟩ := vg_bind h
  have hFc := vm_free hD hS hA
  refine va_callv (va_runIN (As := []) (rest := [.ref (ad61 q47.1), .ref (ad61 p0)]) ⟨hx, hb, hml, hown, hts⟩ (cm_X2_init (m0 := (mN ((mR q47.2 p0 3 (some ((N + 1))))) q47.1 2 0)) l D tc ad61 hO65 (Nat.lt_succ_self _) g70) (⟨va_cnB 0 hts gX1_init_X2_init_n19 rfl rfl rfl hZ.2.2.2.1 (hts (.initialized RX2) (List.mem_of_getElem? (i := 8) rfl)) (by decide +kernel) ⟨(Nat.le_of_ble_eq_true rfl), (Nat.le_of_ble_eq_true rfl)⟩, rfl, (hts (.instanceMethod yX2_init) (List.mem_of_getElem? (i := 13) rfl))⟩) ⟨qW_blind, qW_pre hP hD hK hZ⟩ rfl rfl hl.1 rfl (lv_room (Nat.le_of_ble_eq_true rfl)) dX1_init_29 ⟨(Nat.le_of_ble_eq_true rfl), (Nat.le_of_ble_eq_true rfl)⟩) hS (fun q9 _ h9 => hFc q9 h9) hFc (fun u t H1 locs ht hvm hw hB hz1 hk1 hS => ?_)
  obtain ⟨ad72, e73, e74, hO75, hP1, hK1, hD1⟩ := hB
  rw [ht] at hP1
  have hP := hP1
  have hD := hD1.weaken (fun _ q9 _ h9 => hFc q9.1 h9)
  generalize H1 = H at hP hS ⊢
  clear hk1 hz1 ht hvm
  have hl : lv_has ls 2 [(0, .ref (ad72 p0))] := by rw [e73 p0 n66]; exact hl
  have e76 : ∀ k, k < N → ad72 k = ad k := fun k hk => (e73 k (Nat.lt_of_lt_of_le hk e64)).trans (e63 k hk)
  have e77 : N ≤ q69.1 := Nat.le_trans e64 e74
  have n78 : p0 < q69.1 := Nat.lt_of_lt_of_le n66 e74
  have n79 : N < q69.1 := Nat.lt_of_lt_of_le n67 e74
  have n80 : ((N + 1)) < q69.1 := Nat.lt_of_lt_of_le n68 e74
  have n81 : q47.1 < q69.1 := Nat.lt_of_lt_of_le (Nat.lt_succ_self _) e74
  refine W.eq (g2 := F0 m 32 ls [.ref (ad72 q47.1), .ref (ad72 p0)]) (by rw [e73 q47.1 (Nat.lt_succ_self _), e73 p0 n66]) ?_
  have hP : va_P D vwCl (vW tc ad72 q69.1 q69.2) H := hP
  have hD : va_D A (vW tc ad72 q69.1 q69.2) := hD
  obtain ⟨g82, h⟩ := vg_if h
  refine va_putF (D := D) (ci := 1) (v := .ref (ad72 q47.1)) (ty := .object "VaultDoors$Voices") (C := RX1) (T := TX1) (N := 5) hx hb hts in_X1_init_X1 tyX1 tyX1_ok nmX1 hown hK hP hD hS p0 (vW_k1 n78 g82) rfl 4 (by decide) (hts (.fieldLink RX1 24 "VaultDoors$Vault" "arrived" "LVaultDoors$Voices;") (List.mem_of_getElem? (i := 10) rfl)) (fun _ h9 => h9) rfl hin rfl (by decide +kernel) rfl rfl (Nat.le_of_ble_eq_true rfl) dX1_init_32 (fun H locs hP hD hS => ?_)
  rw [vW_p1_4 (m := q69.2) n78 g82] at hP hD
  have hO83 := vOK.R (a := p0) (j := 4) hO75 n81
  have hP : va_P D vwCl (vW tc ad72 q69.1 ((mR q69.2 p0 4 (some q47.1)))) H := hP
  have hD : va_D A (vW tc ad72 q69.1 ((mR q69.2 p0 4 (some q47.1)))) := hD
  refine lv_iconst (v := 0) hx hb dX1_init_35 (by decide) ?_
  refine lv_istore_n (lv' := [(1, .int 0), (0, .ref (ad72 p0))]) hx hb dX1_init_36 rfl hl (by decide) rfl (fun ls hl => ?_)
  exact ((hL vF)) q69.1 ad72 ((mR q69.2 p0 4 (some q47.1))) ((((((0 + 1) + 1) + 5) + 1) + 5)) ((((((0 + 10) + 7) + 300) + 7) + 300)) p0 (0 : Int32) _ _ _ e77 e76 (Nat.le_of_ble_eq_true rfl) (Nat.le_of_ble_eq_true rfl) hO83 n78 h hP hD hS (lv_sub hl (l' := [(0, .ref (ad72 p0)), (1, .int 0)]) [1, 0] rfl)

noncomputable def f_X3_init (N : Nat) (m : vM) (p0 : Nat) : Option (Nat × vM) :=
  Option.bind (f_X1_init ((N + 1)) ((mN m N 1 0)) N) fun q7 =>
  if mk q7.2 p0 = 3 then
  Option.bind (f_X1_init ((q7.1 + 1)) ((mN ((mR q7.2 p0 0 (some N))) q7.1 1 0)) q7.1) fun q27 =>
  if mk q27.2 p0 = 3 then
  some (q27.1, (mR q27.2 p0 1 (some q7.1)))
  else none
  else none
theorem in_X3_init_X1 : ∀ w ∈ wsX10, w ∈ wsX3_init := by decide +kernel
theorem in_X3_init_X3 : ∀ w ∈ wsX30, w ∈ wsX3_init := by decide +kernel
set_option maxHeartbeats 1000000 in
set_option maxRecDepth 100000 in
theorem cm_X3_init (l : Launch) (D : va_G) (tc : Nat → ClassId) (ad : Nat → Nat) {N : Nat} {m0 : vM} {sz : Nat} {p0 : Nat} (hO : vOK N m0) (n_p0 : p0 < N) {z : Nat × vM} (h : f_X3_init N m0 p0 = some z) : Met l yX3_init wsX3_init ({ frames := 3, cells := 148, slots := 4178, locals := 61 } : Room) (va_Pc [.ref (ad p0)] (qW D tc ad N m0 sz)) (va_Qv (fun (_ : Unit) => True) (fun _ t => vX D (va_A (vW tc ad N m0) sz) tc ad N z.1 z.2 t) (va_A (vW tc ad N m0) sz)) 148 4178 (va_A (vW tc ad N m0) sz) := by
  refine Met.ofW (cc := cX3_init) (maxL := 1) (ret := none) (by decide) rfl ?_
  intro p e s m args below meth c s₁ B hml hv
  obtain ⟨rfl, hsz, hP, hK, hD0, hZ⟩ := hv
  have hx := B.exec
  have hb := B.bytes
  have hr := B.returns
  have hts := atoms_spec (ws := wsX3_init) B.pre
  have hown : s.vm.findClass RX3 = some m.cls := findClass_of_methodNamed B.named
  have hlocks := B.notSynchronized
  have hin : meth.name = "<init>" := (name_of_methodNamed B.named B.method).1
  subst hsz
  have hD := hD0.self (sz := s.heap.size)
  generalize hAe : va_A (vW tc ad N m0) s.heap.size = A at hD ⊢
  have hA : ∀ q : Nat, s.heap.size ≤ q → A q := fun q h => by rw [← hAe]; exact Or.inr h
  have hS : va_S A s.heap s.heap [] := va_S.rf
  have hl := lv_entry ([.ref (ad p0)]) (n := 1) (Nat.le_of_ble_eq_true rfl)
  rw [lg_entry_eq]
  generalize (lg_sl ([.ref (ad p0)]) ++ List.replicate (1 - (lg_sl ([.ref (ad p0)])).length) Slot.unset).toArray = ls at hl ⊢
  have hl : lv_has ls 1 [(0, .ref (ad p0))] := hl
  unfold f_X3_init at h
  refine lv_aload_n hx hb dX3_init_0 rfl (lv_at hl 0 rfl) ?_
  refine W.objInit hx hb hown (hts (.methodLink RX3 1 objectInit) (List.mem_of_getElem? (i := 1) rfl)) (hts (.instanceMethod objectInit) (List.mem_of_getElem? (i := 2) rfl)) (hts (.code objectInit ⟨#[0xb1]⟩ 1 none) (List.mem_of_getElem? (i := 3) rfl)) rfl (by rw [hml]; exact hl.1) rfl dX3_init_1 (Nat.le_of_ble_eq_true rfl) (Nat.le_of_ble_eq_true rfl) ?_
  refine W.eq (g2 := F0 m 4 ls []) rfl ?_
  refine lv_aload_n hx hb dX3_init_4 rfl (lv_at hl 0 rfl) ?_
  refine wm_obj1 hx hb hts in_X3_init_X1 hown (hts (.classLink RX3 7 RX1) (List.mem_of_getElem? (i := 4) rfl)) (hts (.instantiable RX1 5) (List.mem_of_getElem? (i := 5) rfl)) (hts (.initialized RX1) (List.mem_of_getElem? (i := 6) rfl)) hO hK hP hD hS hA (Nat.le_of_ble_eq_true rfl) (Nat.le_of_ble_eq_true rfl) dX3_init_5 (fun ad1 H e2 hP hD hS => ?_)
  have hl : lv_has ls 1 [(0, .ref (ad1 p0))] := by rw [e2 p0 n_p0]; exact hl
  have e3 : ∀ k, k < N → ad1 k = ad k := fun k hk => (e2 k (Nat.lt_of_lt_of_le hk (Nat.le_refl _))).trans ((fun _ _ => rfl) k hk)
  have e4 : N ≤ (N + 1) := Nat.le_trans (Nat.le_refl _) (Nat.le_succ _)
  have hO5 := vOK.N (k := 1) (n := 0) hO
  have n6 : p0 < (N + 1) := Nat.lt_of_lt_of_le n_p0 (Nat.le_succ _)
  refine W.eq (g2 := F0 m 8 ls [.ref (ad1 N), .ref (ad1 p0)]) (by rw [e2 p0 n_p0]) ?_
  have hP : va_P D vwCl (vW tc ad1 ((N + 1)) ((mN m0 N 1 0))) H := hP
  have hD : va_D A (vW tc ad1 ((N + 1)) ((mN m0 N 1 0))) := hD
  refine lv_dup hx hb dX3_init_8 rfl ?_
  obtain ⟨q7, g8, h⟩ := vg_bind h
  have hFc := vm_free hD hS hA
  refine va_callv (va_runI (As := []) (rest := [.ref (ad1 N), .ref (ad1 p0)]) ⟨hx, hb, hml, hown, hts⟩ (cm_X1_init (m0 := (mN m0 N 1 0)) l D tc ad1 hO5 (Nat.lt_succ_self _) g8) (cwI 0 hts gX3_init_X1_init rfl rfl rfl (hts (.initialized RX1) (List.mem_of_getElem? (i := 6) rfl)) (hts (.methodLink RX3 9 yX1_init) (List.mem_of_getElem? (i := 9) rfl)) (hts (.instanceMethod yX1_init) (List.mem_of_getElem? (i := 10) rfl)) rfl (by decide +kernel) ⟨(Nat.le_of_ble_eq_true rfl), (Nat.le_of_ble_eq_true rfl)⟩) ⟨qW_blind, qW_pre hP hD hK hZ⟩ rfl rfl hl.1 rfl (lv_room (Nat.le_of_ble_eq_true rfl)) dX3_init_9 ⟨(Nat.le_of_ble_eq_true rfl), (Nat.le_of_ble_eq_true rfl)⟩) hS (fun q9 _ h9 => hFc q9 h9) hFc (fun u t H1 locs ht hvm hw hB hz1 hk1 hS => ?_)
  obtain ⟨ad10, e11, e12, hO13, hP1, hK1, hD1⟩ := hB
  rw [ht] at hP1
  have hP := hP1
  have hD := hD1.weaken (fun _ q9 _ h9 => hFc q9.1 h9)
  generalize H1 = H at hP hS ⊢
  clear hk1 hz1 ht hvm
  have hl : lv_has ls 1 [(0, .ref (ad10 p0))] := by rw [e11 p0 n6]; exact hl
  have e14 : ∀ k, k < N → ad10 k = ad k := fun k hk => (e11 k (Nat.lt_of_lt_of_le hk e4)).trans (e3 k hk)
  have e15 : N ≤ q7.1 := Nat.le_trans e4 e12
  have n16 : p0 < q7.1 := Nat.lt_of_lt_of_le n6 e12
  have n17 : N < q7.1 := Nat.lt_of_lt_of_le (Nat.lt_succ_self _) e12
  refine W.eq (g2 := F0 m 12 ls [.ref (ad10 N), .ref (ad10 p0)]) (by rw [e11 N (Nat.lt_succ_self _), e11 p0 n6]) ?_
  have hP : va_P D vwCl (vW tc ad10 q7.1 q7.2) H := hP
  have hD : va_D A (vW tc ad10 q7.1 q7.2) := hD
  obtain ⟨g18, h⟩ := vg_if h
  refine va_putF (D := D) (ci := 3) (v := .ref (ad10 N)) (ty := .object "VaultDoors$Vault") (C := RX3) (T := TX3) (N := 2) hx hb hts in_X3_init_X3 tyX3 tyX3_ok nmX3 hown hK hP hD hS p0 (vW_k3 n16 g18) rfl 0 (by decide) (hts (.fieldLink RX3 10 "VaultDoors" "vault" "LVaultDoors$Vault;") (List.mem_of_getElem? (i := 7) rfl)) (fun _ h9 => h9) rfl hin rfl (by decide +kernel) rfl rfl (Nat.le_of_ble_eq_true rfl) dX3_init_12 (fun H locs hP hD hS => ?_)
  rw [vW_p3_0 (m := q7.2) n16 g18] at hP hD
  have hO19 := vOK.R (a := p0) (j := 0) hO13 n17
  have hP : va_P D vwCl (vW tc ad10 q7.1 ((mR q7.2 p0 0 (some N)))) H := hP
  have hD : va_D A (vW tc ad10 q7.1 ((mR q7.2 p0 0 (some N)))) := hD
  refine lv_aload_n hx hb dX3_init_15 rfl (lv_at hl 0 rfl) ?_
  refine wm_obj1 hx hb hts in_X3_init_X1 hown (hts (.classLink RX3 7 RX1) (List.mem_of_getElem? (i := 4) rfl)) (hts (.instantiable RX1 5) (List.mem_of_getElem? (i := 5) rfl)) (hts (.initialized RX1) (List.mem_of_getElem? (i := 6) rfl)) hO19 hK hP hD hS hA (Nat.le_of_ble_eq_true rfl) (Nat.le_of_ble_eq_true rfl) dX3_init_16 (fun ad20 H e21 hP hD hS => ?_)
  have hl : lv_has ls 1 [(0, .ref (ad20 p0))] := by rw [e21 p0 n16]; exact hl
  have e22 : ∀ k, k < N → ad20 k = ad k := fun k hk => (e21 k (Nat.lt_of_lt_of_le hk e15)).trans (e14 k hk)
  have e23 : N ≤ (q7.1 + 1) := Nat.le_trans e15 (Nat.le_succ _)
  have hO24 := vOK.N (k := 1) (n := 0) hO19
  have n25 : p0 < (q7.1 + 1) := Nat.lt_of_lt_of_le n16 (Nat.le_succ _)
  have n26 : N < (q7.1 + 1) := Nat.lt_of_lt_of_le n17 (Nat.le_succ _)
  refine W.eq (g2 := F0 m 19 ls [.ref (ad20 q7.1), .ref (ad20 p0)]) (by rw [e21 p0 n16]) ?_
  have hP : va_P D vwCl (vW tc ad20 ((q7.1 + 1)) ((mN ((mR q7.2 p0 0 (some N))) q7.1 1 0))) H := hP
  have hD : va_D A (vW tc ad20 ((q7.1 + 1)) ((mN ((mR q7.2 p0 0 (some N))) q7.1 1 0))) := hD
  refine lv_dup hx hb dX3_init_19 rfl ?_
  obtain ⟨q27, g28, h⟩ := vg_bind h
  have hFc := vm_free hD hS hA
  refine va_callv (va_runI (As := []) (rest := [.ref (ad20 q7.1), .ref (ad20 p0)]) ⟨hx, hb, hml, hown, hts⟩ (cm_X1_init (m0 := (mN ((mR q7.2 p0 0 (some N))) q7.1 1 0)) l D tc ad20 hO24 (Nat.lt_succ_self _) g28) (cwI 0 hts gX3_init_X1_init rfl rfl rfl (hts (.initialized RX1) (List.mem_of_getElem? (i := 6) rfl)) (hts (.methodLink RX3 9 yX1_init) (List.mem_of_getElem? (i := 9) rfl)) (hts (.instanceMethod yX1_init) (List.mem_of_getElem? (i := 10) rfl)) rfl (by decide +kernel) ⟨(Nat.le_of_ble_eq_true rfl), (Nat.le_of_ble_eq_true rfl)⟩) ⟨qW_blind, qW_pre hP hD hK hZ⟩ rfl rfl hl.1 rfl (lv_room (Nat.le_of_ble_eq_true rfl)) dX3_init_20 ⟨(Nat.le_of_ble_eq_true rfl), (Nat.le_of_ble_eq_true rfl)⟩) hS (fun q9 _ h9 => hFc q9 h9) hFc (fun u t H1 locs ht hvm hw hB hz1 hk1 hS => ?_)
  obtain ⟨ad30, e31, e32, hO33, hP1, hK1, hD1⟩ := hB
  rw [ht] at hP1
  have hP := hP1
  have hD := hD1.weaken (fun _ q9 _ h9 => hFc q9.1 h9)
  generalize H1 = H at hP hS ⊢
  clear hk1 hz1 ht hvm
  have hl : lv_has ls 1 [(0, .ref (ad30 p0))] := by rw [e31 p0 n25]; exact hl
  have e34 : ∀ k, k < N → ad30 k = ad k := fun k hk => (e31 k (Nat.lt_of_lt_of_le hk e23)).trans (e22 k hk)
  have e35 : N ≤ q27.1 := Nat.le_trans e23 e32
  have n36 : p0 < q27.1 := Nat.lt_of_lt_of_le n25 e32
  have n37 : N < q27.1 := Nat.lt_of_lt_of_le n26 e32
  have n38 : q7.1 < q27.1 := Nat.lt_of_lt_of_le (Nat.lt_succ_self _) e32
  refine W.eq (g2 := F0 m 23 ls [.ref (ad30 q7.1), .ref (ad30 p0)]) (by rw [e31 q7.1 (Nat.lt_succ_self _), e31 p0 n25]) ?_
  have hP : va_P D vwCl (vW tc ad30 q27.1 q27.2) H := hP
  have hD : va_D A (vW tc ad30 q27.1 q27.2) := hD
  obtain ⟨g39, h⟩ := vg_if h
  refine va_putF (D := D) (ci := 3) (v := .ref (ad30 q7.1)) (ty := .object "VaultDoors$Vault") (C := RX3) (T := TX3) (N := 2) hx hb hts in_X3_init_X3 tyX3 tyX3_ok nmX3 hown hK hP hD hS p0 (vW_k3 n36 g39) rfl 1 (by decide) (hts (.fieldLink RX3 16 "VaultDoors" "trial" "LVaultDoors$Vault;") (List.mem_of_getElem? (i := 8) rfl)) (fun _ h9 => h9) rfl hin rfl (by decide +kernel) rfl rfl (Nat.le_of_ble_eq_true rfl) dX3_init_23 (fun H locs hP hD hS => ?_)
  rw [vW_p3_1 (m := q27.2) n36 g39] at hP hD
  have hO40 := vOK.R (a := p0) (j := 1) hO33 n38
  have hP : va_P D vwCl (vW tc ad30 q27.1 ((mR q27.2 p0 1 (some q7.1)))) H := hP
  have hD : va_D A (vW tc ad30 q27.1 ((mR q27.2 p0 1 (some q7.1)))) := hD
  have hz := Option.some.inj h
  refine W.widen (k := 148) (n := 4178) (Nat.le_of_ble_eq_true rfl) (Nat.le_of_ble_eq_true rfl) ?_
  exact W.vret hx hb hr (fun t ht hW => ⟨⟨(), rfl, trivial, by rw [← hz]; exact ⟨ad30, e34, e35, hO40, by rw [ht]; exact hP, va_K.moved hW.alike hK, hD⟩⟩, hS.F ht⟩) hS.2.2 dX3_init_26

noncomputable def f_X4_init (N : Nat) (m : vM) (p0 : Nat) : Option (Nat × vM) :=
  if mk ((mN m N 8 0)) p0 = 4 then
  some (((N + 1) + 1), (mR ((mN ((mR ((mN m N 8 0)) p0 5 (some N))) ((N + 1)) 8 0)) p0 6 (some ((N + 1)))))
  else none
theorem in_X4_init_X4 : ∀ w ∈ wsX40, w ∈ wsX4_init := by decide +kernel
set_option maxHeartbeats 1000000 in
set_option maxRecDepth 100000 in
theorem cm_X4_init (l : Launch) (D : va_G) (tc : Nat → ClassId) (ad : Nat → Nat) {N : Nat} {m0 : vM} {sz : Nat} {p0 : Nat} (hO : vOK N m0) (n_p0 : p0 < N) {z : Nat × vM} (h : f_X4_init N m0 p0 = some z) : Met l yX4_init wsX4_init ({ frames := 1, cells := 2, slots := 0, locals := 20 } : Room) (va_Pc [.ref (ad p0)] (qW D tc ad N m0 sz)) (va_Qv (fun (_ : Unit) => True) (fun _ t => vX D (va_A (vW tc ad N m0) sz) tc ad N z.1 z.2 t) (va_A (vW tc ad N m0) sz)) 2 0 (va_A (vW tc ad N m0) sz) := by
  refine Met.ofW (cc := cX4_init) (maxL := 1) (ret := none) (by decide) rfl ?_
  intro p e s m args below meth c s₁ B hml hv
  obtain ⟨rfl, hsz, hP, hK, hD0, hZ⟩ := hv
  have hx := B.exec
  have hb := B.bytes
  have hr := B.returns
  have hts := atoms_spec (ws := wsX4_init) B.pre
  have hown : s.vm.findClass RX4 = some m.cls := findClass_of_methodNamed B.named
  have hlocks := B.notSynchronized
  have hin : meth.name = "<init>" := (name_of_methodNamed B.named B.method).1
  subst hsz
  have hD := hD0.self (sz := s.heap.size)
  generalize hAe : va_A (vW tc ad N m0) s.heap.size = A at hD ⊢
  have hA : ∀ q : Nat, s.heap.size ≤ q → A q := fun q h => by rw [← hAe]; exact Or.inr h
  have hS : va_S A s.heap s.heap [] := va_S.rf
  have hl := lv_entry ([.ref (ad p0)]) (n := 1) (Nat.le_of_ble_eq_true rfl)
  rw [lg_entry_eq]
  generalize (lg_sl ([.ref (ad p0)]) ++ List.replicate (1 - (lg_sl ([.ref (ad p0)])).length) Slot.unset).toArray = ls at hl ⊢
  have hl : lv_has ls 1 [(0, .ref (ad p0))] := hl
  unfold f_X4_init at h
  refine lv_aload_n hx hb dX4_init_0 rfl (lv_at hl 0 rfl) ?_
  refine W.objInit hx hb hown (hts (.methodLink RX4 1 objectInit) (List.mem_of_getElem? (i := 1) rfl)) (hts (.instanceMethod objectInit) (List.mem_of_getElem? (i := 2) rfl)) (hts (.code objectInit ⟨#[0xb1]⟩ 1 none) (List.mem_of_getElem? (i := 3) rfl)) rfl (by rw [hml]; exact hl.1) rfl dX4_init_1 (Nat.le_of_ble_eq_true rfl) (Nat.le_of_ble_eq_true rfl) ?_
  refine W.eq (g2 := F0 m 4 ls []) rfl ?_
  refine lv_aload_n hx hb dX4_init_4 rfl (lv_at hl 0 rfl) ?_
  refine lv_iconst (v := 0) hx hb dX4_init_5 (by decide) ?_
  refine wm_new8 (n := 0) (n' := 0) hx hb hown (hts (.classLink RX4 7 "[I") (List.mem_of_getElem? (i := 4) rfl)) hZ.2.1 hO hK hP hD hS hA (by decide) (by decide) (Nat.le_of_ble_eq_true rfl) (Nat.le_of_ble_eq_true rfl) (Nat.le_of_ble_eq_true rfl) dX4_init_6 (fun ad1 H e2 hP hD hS => ?_)
  have hl : lv_has ls 1 [(0, .ref (ad1 p0))] := by rw [e2 p0 n_p0]; exact hl
  have e3 : ∀ k, k < N → ad1 k = ad k := fun k hk => (e2 k (Nat.lt_of_lt_of_le hk (Nat.le_refl _))).trans ((fun _ _ => rfl) k hk)
  have e4 : N ≤ (N + 1) := Nat.le_trans (Nat.le_refl _) (Nat.le_succ _)
  have hO5 := vOK.N (k := 8) (n := 0) hO
  have n6 : p0 < (N + 1) := Nat.lt_of_lt_of_le n_p0 (Nat.le_succ _)
  refine W.eq (g2 := F0 m 9 ls [.ref (ad1 N), .ref (ad1 p0)]) (by rw [e2 p0 n_p0]) ?_
  have hP : va_P D vwCl (vW tc ad1 ((N + 1)) ((mN m0 N 8 0))) H := hP
  have hD : va_D A (vW tc ad1 ((N + 1)) ((mN m0 N 8 0))) := hD
  obtain ⟨g7, h⟩ := vg_if h
  refine va_put (D := D) (ci := 4) (v := .ref (ad1 N)) (ty := .array (.array .int)) (C := RX4) (T := TX4) (N := 9) hx hb hts in_X4_init_X4 tyX4 tyX4_ok nmX4 hown hK hP hD hS p0 (vW_k4 n6 g7) rfl 5 (by decide) (hts (.fieldLink RX4 9 "VaultDoorsLaw$Door" "asks" "[[I") (List.mem_of_getElem? (i := 5) rfl)) (fun _ h9 => h9) rfl (by decide +kernel) rfl rfl (Nat.le_of_ble_eq_true rfl) dX4_init_9 (fun H locs hP hD hS => ?_)
  rw [vW_p4_5 (m := ((mN m0 N 8 0))) n6 g7] at hP hD
  have hO8 := vOK.R (a := p0) (j := 5) hO5 (Nat.lt_succ_self _)
  have hP : va_P D vwCl (vW tc ad1 ((N + 1)) ((mR ((mN m0 N 8 0)) p0 5 (some N)))) H := hP
  have hD : va_D A (vW tc ad1 ((N + 1)) ((mR ((mN m0 N 8 0)) p0 5 (some N)))) := hD
  refine lv_aload_n hx hb dX4_init_12 rfl (lv_at hl 0 rfl) ?_
  refine lv_iconst (v := 0) hx hb dX4_init_13 (by decide) ?_
  refine wm_new8 (n := 0) (n' := 0) hx hb hown (hts (.classLink RX4 7 "[I") (List.mem_of_getElem? (i := 4) rfl)) hZ.2.1 hO8 hK hP hD hS hA (by decide) (by decide) (Nat.le_of_ble_eq_true rfl) (Nat.le_of_ble_eq_true rfl) (Nat.le_of_ble_eq_true rfl) dX4_init_14 (fun ad9 H e10 hP hD hS => ?_)
  have hl : lv_has ls 1 [(0, .ref (ad9 p0))] := by rw [e10 p0 n6]; exact hl
  have e11 : ∀ k, k < N → ad9 k = ad k := fun k hk => (e10 k (Nat.lt_of_lt_of_le hk e4)).trans (e3 k hk)
  have e12 : N ≤ ((N + 1) + 1) := Nat.le_trans e4 (Nat.le_succ _)
  have hO13 := vOK.N (k := 8) (n := 0) hO8
  have n14 : p0 < ((N + 1) + 1) := Nat.lt_of_lt_of_le n6 (Nat.le_succ _)
  have n15 : N < ((N + 1) + 1) := Nat.lt_of_lt_of_le (Nat.lt_succ_self _) (Nat.le_succ _)
  refine W.eq (g2 := F0 m 17 ls [.ref (ad9 ((N + 1))), .ref (ad9 p0)]) (by rw [e10 p0 n6]) ?_
  have hP : va_P D vwCl (vW tc ad9 (((N + 1) + 1)) ((mN ((mR ((mN m0 N 8 0)) p0 5 (some N))) ((N + 1)) 8 0))) H := hP
  have hD : va_D A (vW tc ad9 (((N + 1) + 1)) ((mN ((mR ((mN m0 N 8 0)) p0 5 (some N))) ((N + 1)) 8 0))) := hD
  refine va_put (D := D) (ci := 4) (v := .ref (ad9 ((N + 1)))) (ty := .array (.array .int)) (C := RX4) (T := TX4) (N := 9) hx hb hts in_X4_init_X4 tyX4 tyX4_ok nmX4 hown hK hP hD hS p0 (vW_k4 n14 (mN_k2 (m := ((mR ((mN m0 N 8 0)) p0 5 (some N)))) (n := 0) n6 g7)) rfl 6 (by decide) (hts (.fieldLink RX4 15 "VaultDoorsLaw$Door" "kept" "[[I") (List.mem_of_getElem? (i := 6) rfl)) (fun _ h9 => h9) rfl (by decide +kernel) rfl rfl (Nat.le_of_ble_eq_true rfl) dX4_init_17 (fun H locs hP hD hS => ?_)
  rw [vW_p4_6 (m := ((mN ((mR ((mN m0 N 8 0)) p0 5 (some N))) ((N + 1)) 8 0))) n14 (mN_k2 (m := ((mR ((mN m0 N 8 0)) p0 5 (some N)))) (n := 0) n6 g7)] at hP hD
  have hO16 := vOK.R (a := p0) (j := 6) hO13 (Nat.lt_succ_self _)
  have hP : va_P D vwCl (vW tc ad9 (((N + 1) + 1)) ((mR ((mN ((mR ((mN m0 N 8 0)) p0 5 (some N))) ((N + 1)) 8 0)) p0 6 (some ((N + 1)))))) H := hP
  have hD : va_D A (vW tc ad9 (((N + 1) + 1)) ((mR ((mN ((mR ((mN m0 N 8 0)) p0 5 (some N))) ((N + 1)) 8 0)) p0 6 (some ((N + 1)))))) := hD
  have hz := Option.some.inj h
  refine W.widen (k := 2) (n := 0) (Nat.le_of_ble_eq_true rfl) (Nat.le_of_ble_eq_true rfl) ?_
  exact W.vret hx hb hr (fun t ht hW => ⟨⟨(), rfl, trivial, by rw [← hz]; exact ⟨ad9, e11, e12, hO16, by rw [ht]; exact hP, va_K.moved hW.alike hK, hD⟩⟩, hS.F ht⟩) hS.2.2 dX4_init_20

noncomputable def f_X5_init (N : Nat) (m : vM) (p0 : Nat) : Option (Nat × vM) :=
  if mk ((mN m N 9 0)) p0 = 5 then
  some (((N + 1) + 1), (mR ((mN ((mR ((mN m N 9 0)) p0 0 (some N))) ((N + 1)) 8 0)) p0 1 (some ((N + 1)))))
  else none
theorem in_X5_init_X5 : ∀ w ∈ wsX50, w ∈ wsX5_init := by decide +kernel
set_option maxHeartbeats 1000000 in
set_option maxRecDepth 100000 in
theorem cm_X5_init (l : Launch) (D : va_G) (tc : Nat → ClassId) (ad : Nat → Nat) {N : Nat} {m0 : vM} {sz : Nat} {p0 : Nat} (hO : vOK N m0) (n_p0 : p0 < N) {z : Nat × vM} (h : f_X5_init N m0 p0 = some z) : Met l yX5_init wsX5_init ({ frames := 1, cells := 2, slots := 0, locals := 20 } : Room) (va_Pc [.ref (ad p0)] (qW D tc ad N m0 sz)) (va_Qv (fun (_ : Unit) => True) (fun _ t => vX D (va_A (vW tc ad N m0) sz) tc ad N z.1 z.2 t) (va_A (vW tc ad N m0) sz)) 2 0 (va_A (vW tc ad N m0) sz) := by
  refine Met.ofW (cc := cX5_init) (maxL := 1) (ret := none) (by decide) rfl ?_
  intro p e s m args below meth c s₁ B hml hv
  obtain ⟨rfl, hsz, hP, hK, hD0, hZ⟩ := hv
  have hx := B.exec
  have hb := B.bytes
  have hr := B.returns
  have hts := atoms_spec (ws := wsX5_init) B.pre
  have hown : s.vm.findClass RX5 = some m.cls := findClass_of_methodNamed B.named
  have hlocks := B.notSynchronized
  have hin : meth.name = "<init>" := (name_of_methodNamed B.named B.method).1
  subst hsz
  have hD := hD0.self (sz := s.heap.size)
  generalize hAe : va_A (vW tc ad N m0) s.heap.size = A at hD ⊢
  have hA : ∀ q : Nat, s.heap.size ≤ q → A q := fun q h => by rw [← hAe]; exact Or.inr h
  have hS : va_S A s.heap s.heap [] := va_S.rf
  have hl := lv_entry ([.ref (ad p0)]) (n := 1) (Nat.le_of_ble_eq_true rfl)
  rw [lg_entry_eq]
  generalize (lg_sl ([.ref (ad p0)]) ++ List.replicate (1 - (lg_sl ([.ref (ad p0)])).length) Slot.unset).toArray = ls at hl ⊢
  have hl : lv_has ls 1 [(0, .ref (ad p0))] := hl
  unfold f_X5_init at h
  refine lv_aload_n hx hb dX5_init_0 rfl (lv_at hl 0 rfl) ?_
  refine W.objInit hx hb hown (hts (.methodLink RX5 1 objectInit) (List.mem_of_getElem? (i := 1) rfl)) (hts (.instanceMethod objectInit) (List.mem_of_getElem? (i := 2) rfl)) (hts (.code objectInit ⟨#[0xb1]⟩ 1 none) (List.mem_of_getElem? (i := 3) rfl)) rfl (by rw [hml]; exact hl.1) rfl dX5_init_1 (Nat.le_of_ble_eq_true rfl) (Nat.le_of_ble_eq_true rfl) ?_
  refine W.eq (g2 := F0 m 4 ls []) rfl ?_
  refine lv_aload_n hx hb dX5_init_4 rfl (lv_at hl 0 rfl) ?_
  refine lv_iconst (v := 0) hx hb dX5_init_5 (by decide) ?_
  refine wm_new9 (n := 0) (n' := 0) hx hb hown (hts (.classLink RX5 7 RX4) (List.mem_of_getElem? (i := 4) rfl)) hZ.2.1 hO hK hP hD hS hA (by decide) (by decide) (Nat.le_of_ble_eq_true rfl) (Nat.le_of_ble_eq_true rfl) (Nat.le_of_ble_eq_true rfl) dX5_init_6 (fun ad1 H e2 hP hD hS => ?_)
  have hl : lv_has ls 1 [(0, .ref (ad1 p0))] := by rw [e2 p0 n_p0]; exact hl
  have e3 : ∀ k, k < N → ad1 k = ad k := fun k hk => (e2 k (Nat.lt_of_lt_of_le hk (Nat.le_refl _))).trans ((fun _ _ => rfl) k hk)
  have e4 : N ≤ (N + 1) := Nat.le_trans (Nat.le_refl _) (Nat.le_succ _)
  have hO5 := vOK.N (k := 9) (n := 0) hO
  have n6 : p0 < (N + 1) := Nat.lt_of_lt_of_le n_p0 (Nat.le_succ _)
  refine W.eq (g2 := F0 m 9 ls [.ref (ad1 N), .ref (ad1 p0)]) (by rw [e2 p0 n_p0]) ?_
  have hP : va_P D vwCl (vW tc ad1 ((N + 1)) ((mN m0 N 9 0))) H := hP
  have hD : va_D A (vW tc ad1 ((N + 1)) ((mN m0 N 9 0))) := hD
  obtain ⟨g7, h⟩ := vg_if h
  refine va_put (D := D) (ci := 5) (v := .ref (ad1 N)) (ty := .array (.object "VaultDoorsLaw$Door")) (C := RX5) (T := TX5) (N := 4) hx hb hts in_X5_init_X5 tyX5 tyX5_ok nmX5 hown hK hP hD hS p0 (vW_k5 n6 g7) rfl 0 (by decide) (hts (.fieldLink RX5 9 "VaultDoorsLaw$Sim" "doors" "[LVaultDoorsLaw$Door;") (List.mem_of_getElem? (i := 5) rfl)) (fun _ h9 => h9) rfl (by decide +kernel) rfl rfl (Nat.le_of_ble_eq_true rfl) dX5_init_9 (fun H locs hP hD hS => ?_)
  rw [vW_p5_0 (m := ((mN m0 N 9 0))) n6 g7] at hP hD
  have hO8 := vOK.R (a := p0) (j := 0) hO5 (Nat.lt_succ_self _)
  have hP : va_P D vwCl (vW tc ad1 ((N + 1)) ((mR ((mN m0 N 9 0)) p0 0 (some N)))) H := hP
  have hD : va_D A (vW tc ad1 ((N + 1)) ((mR ((mN m0 N 9 0)) p0 0 (some N)))) := hD
  refine lv_aload_n hx hb dX5_init_12 rfl (lv_at hl 0 rfl) ?_
  refine lv_iconst (v := 0) hx hb dX5_init_13 (by decide) ?_
  refine wm_new8 (n := 0) (n' := 0) hx hb hown (hts (.classLink RX5 15 "[I") (List.mem_of_getElem? (i := 6) rfl)) hZ.2.1 hO8 hK hP hD hS hA (by decide) (by decide) (Nat.le_of_ble_eq_true rfl) (Nat.le_of_ble_eq_true rfl) (Nat.le_of_ble_eq_true rfl) dX5_init_14 (fun ad9 H e10 hP hD hS => ?_)
  have hl : lv_has ls 1 [(0, .ref (ad9 p0))] := by rw [e10 p0 n6]; exact hl
  have e11 : ∀ k, k < N → ad9 k = ad k := fun k hk => (e10 k (Nat.lt_of_lt_of_le hk e4)).trans (e3 k hk)
  have e12 : N ≤ ((N + 1) + 1) := Nat.le_trans e4 (Nat.le_succ _)
  have hO13 := vOK.N (k := 8) (n := 0) hO8
  have n14 : p0 < ((N + 1) + 1) := Nat.lt_of_lt_of_le n6 (Nat.le_succ _)
  have n15 : N < ((N + 1) + 1) := Nat.lt_of_lt_of_le (Nat.lt_succ_self _) (Nat.le_succ _)
  refine W.eq (g2 := F0 m 17 ls [.ref (ad9 ((N + 1))), .ref (ad9 p0)]) (by rw [e10 p0 n6]) ?_
  have hP : va_P D vwCl (vW tc ad9 (((N + 1) + 1)) ((mN ((mR ((mN m0 N 9 0)) p0 0 (some N))) ((N + 1)) 8 0))) H := hP
  have hD : va_D A (vW tc ad9 (((N + 1) + 1)) ((mN ((mR ((mN m0 N 9 0)) p0 0 (some N))) ((N + 1)) 8 0))) := hD
  refine va_put (D := D) (ci := 5) (v := .ref (ad9 ((N + 1)))) (ty := .array (.array .int)) (C := RX5) (T := TX5) (N := 4) hx hb hts in_X5_init_X5 tyX5 tyX5_ok nmX5 hown hK hP hD hS p0 (vW_k5 n14 (mN_k2 (m := ((mR ((mN m0 N 9 0)) p0 0 (some N)))) (n := 0) n6 g7)) rfl 1 (by decide) (hts (.fieldLink RX5 17 "VaultDoorsLaw$Sim" "voices" "[[I") (List.mem_of_getElem? (i := 7) rfl)) (fun _ h9 => h9) rfl (by decide +kernel) rfl rfl (Nat.le_of_ble_eq_true rfl) dX5_init_17 (fun H locs hP hD hS => ?_)
  rw [vW_p5_1 (m := ((mN ((mR ((mN m0 N 9 0)) p0 0 (some N))) ((N + 1)) 8 0))) n14 (mN_k2 (m := ((mR ((mN m0 N 9 0)) p0 0 (some N)))) (n := 0) n6 g7)] at hP hD
  have hO16 := vOK.R (a := p0) (j := 1) hO13 (Nat.lt_succ_self _)
  have hP : va_P D vwCl (vW tc ad9 (((N + 1) + 1)) ((mR ((mN ((mR ((mN m0 N 9 0)) p0 0 (some N))) ((N + 1)) 8 0)) p0 1 (some ((N + 1)))))) H := hP
  have hD : va_D A (vW tc ad9 (((N + 1) + 1)) ((mR ((mN ((mR ((mN m0 N 9 0)) p0 0 (some N))) ((N + 1)) 8 0)) p0 1 (some ((N + 1)))))) := hD
  have hz := Option.some.inj h
  refine W.widen (k := 2) (n := 0) (Nat.le_of_ble_eq_true rfl) (Nat.le_of_ble_eq_true rfl) ?_
  exact W.vret hx hb hr (fun t ht hW => ⟨⟨(), rfl, trivial, by rw [← hz]; exact ⟨ad9, e11, e12, hO16, by rw [ht]; exact hP, va_K.moved hW.alike hK, hD⟩⟩, hS.F ht⟩) hS.2.2 dX5_init_20
