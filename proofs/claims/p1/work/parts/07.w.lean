theorem in_X4_isDoor_X4 : ∀ w ∈ wsX40, w ∈ wsX4_isDoor := by decide +kernel
set_option maxHeartbeats 4000000 in
set_option maxRecDepth 100000 in
theorem ct_X4_isDoor (l : Launch) (dC : Nat → ClassId) (dI : Nat → Nat → Nat) (th : Int32) (zn : Int32) (am : Nat) (m1 : Nat) (m2 : Nat) (m3 : Nat) (m4 : Nat) (m5 : Nat) (m6 : Nat) : Met l yX4_isDoor wsX4_isDoor ({ frames := 1, cells := 0, slots := 0, locals := 22 }) (va_Pc [.ref am, .int zn] (pR (dC, dI) [(am, .inr (4, [.int th, .int 0, .ref m1, .ref m2, .ref m3, .ref m4, .ref m5, .ref m6]))] [])) (va_Qi (fun (r : Int32) (_ : Unit) => r = 0) (fun _ _ => True) (fun _ => False)) 0 0 (fun _ => False) := by
  refine Met.ofW (cc := cX4_isDoor) (maxL := 2) (ret := (some .boolean)) (by decide) rfl ?_
  intro p e s m args below meth c s₁ B hml hv
  obtain ⟨rfl, hP, hK⟩ := hv
  have hx := B.exec
  have hb := B.bytes
  have hr := B.returns
  have hts := atoms_spec (ws := wsX4_isDoor) B.pre
  have hown : s.vm.findClass RX4 = some m.cls := findClass_of_methodNamed B.named
  have hlocks := B.notSynchronized
  have hS : va_S (fun _ => False) s.heap s.heap [] := va_S.rf
  have hP : va_P (dC, dI) vwCl [(am, .inr (4, [.int th, .int 0, .ref m1, .ref m2, .ref m3, .ref m4, .ref m5, .ref m6]))] s.heap := hP
  have hl := lv_entry ([.ref am, .int zn]) (n := 2) (Nat.le_of_ble_eq_true rfl)
  rw [lg_entry_eq]
  generalize (lg_sl ([.ref am, .int zn]) ++ List.replicate (2 - (lg_sl ([.ref am, .int zn])).length) Slot.unset).toArray = ls at hl ⊢
  have hl : lv_has ls 2 [(0, .ref am), (1, .int zn)] := hl
  refine lv_iload_n hx hb dX4_isDoor_0 rfl (lv_at hl 1 rfl) ?_
  refine lv_iconst (v := 0) hx hb dX4_isDoor_1 (by decide) ?_
  refine lv_aload_n hx hb dX4_isDoor_2 rfl (lv_at hl 0 rfl) ?_
  refine va_get (D := (dC, dI)) (ci := 4) (v := .int 0) (C := RX4) (T := TX4) (N := 8) hx hb hts in_X4_isDoor_X4 hown hK hP 0 rfl rfl 1 (by decide) (hts (.fieldLink RX4 32 "VaultDoorsModel" "doors" "I") (List.mem_of_getElem? (i := 1) rfl)) (fun _ h9 => h9) rfl dX4_isDoor_3 ?_
  refine lv_iconst (v := 1) hx hb dX4_isDoor_6 (by decide) ?_
  refine lv_isub hx hb dX4_isDoor_7 ?_
  refine lv_topi (nm_r (e' := (-1)) (by decide) ?_)
  have hPc := hP.sub (ws' := []) [] rfl
  have hKc := hK.sub (tys' := []) [] rfl
  refine va_calli (va_runS (As := [.int zn, .int 0, .int (-1)]) (rest := []) ⟨hx, hb, hml, hown, hts⟩ (ct_X4_isIn l dC dI zn 0 ((-1))) (va_cwS 3 hts gX4_isDoor_X4_isIn rfl rfl rfl (by decide +kernel) ⟨(Nat.le_of_ble_eq_true rfl), (Nat.le_of_ble_eq_true rfl)⟩) ⟨pR_blind, pR_pre hPc hKc⟩ rfl rfl hl.1 rfl (lv_room (Nat.le_of_ble_eq_true rfl)) dX4_isDoor_8 ⟨(Nat.le_of_ble_eq_true rfl), (Nat.le_of_ble_eq_true rfl)⟩) hS (fun q _ h => h.elim) (fun q h => h.elim) (fun r_1 u_2 t H1 locs ht hvm hw hB hz1 hk1 hS => ?_)
  have hP := hP.kept (fun k q hk => hk1 q.1 (hP k q hk).lt (fun h => h))
  generalize H1 = H at hP hS ⊢
  have hw : r_1 = vs_in zn 0 (-1) := hw
  subst hw
  rw [vs_in_neg]
  exact W.zret (v := 0) (ty := .boolean) hx hb hr (by decide) (fun t ht hW => ⟨⟨_, (), rfl, rfl, trivial⟩, hS.F ht⟩) hS.2.2 dX4_isDoor_11

theorem in_X4_fail_X4 : ∀ w ∈ wsX40, w ∈ wsX4_fail := by decide +kernel
set_option maxHeartbeats 4000000 in
set_option maxRecDepth 100000 in
theorem ct_X4_fail (l : Launch) (dC : Nat → ClassId) (dI : Nat → Nat → Nat) (th : Int32) (zn : Int32) (am : Nat) (m1 : Nat) (m2 : Nat) (m3 : Nat) (m4 : Nat) (m5 : Nat) (m6 : Nat) (sz : Nat) : Met l yX4_fail wsX4_fail ({ frames := 0, cells := 0, slots := 0, locals := 0 }) (va_Pc [.ref am, .int zn] (pZ (dC, dI) [(am, .inr (4, [.int th, .int 0, .ref m1, .ref m2, .ref m3, .ref m4, .ref m5, .ref m6]))] [] sz)) (va_Qi (fun (r : Int32) (_ : Unit) => r = 0) (fun _ t => pB (dC, dI) (va_A [(am, .inr (4, [.int th, .int 0, .ref m1, .ref m2, .ref m3, .ref m4, .ref m5, .ref m6]))] sz) [(am, .inr (4, [.int zn, .int 0, .ref m1, .ref m2, .ref m3, .ref m4, .ref m5, .ref m6]))] [] t) (va_A [(am, .inr (4, [.int th, .int 0, .ref m1, .ref m2, .ref m3, .ref m4, .ref m5, .ref m6]))] sz)) 0 0 (va_A [(am, .inr (4, [.int th, .int 0, .ref m1, .ref m2, .ref m3, .ref m4, .ref m5, .ref m6]))] sz) := by
  refine Met.ofW (cc := cX4_fail) (maxL := 2) (ret := (some .int)) (by decide) rfl ?_
  intro p e s m args below meth c s₁ B hml hv
  obtain ⟨rfl, hsz, hP, hK, hD0⟩ := hv
  have hx := B.exec
  have hb := B.bytes
  have hr := B.returns
  have hts := atoms_spec (ws := wsX4_fail) B.pre
  have hown : s.vm.findClass RX4 = some m.cls := findClass_of_methodNamed B.named
  have hlocks := B.notSynchronized
  subst hsz
  have hD := hD0.self (sz := s.heap.size)
  generalize hAe : va_A [(am, .inr (4, [.int th, .int 0, .ref m1, .ref m2, .ref m3, .ref m4, .ref m5, .ref m6]))] s.heap.size = A at hD ⊢
  have hA : ∀ q : Nat, s.heap.size ≤ q → A q := fun q h => by rw [← hAe]; exact Or.inr h
  have hS : va_S A s.heap s.heap [] := va_S.rf
  have hP : va_P (dC, dI) vwCl [(am, .inr (4, [.int th, .int 0, .ref m1, .ref m2, .ref m3, .ref m4, .ref m5, .ref m6]))] s.heap := hP
  have hl := lv_entry ([.ref am, .int zn]) (n := 2) (Nat.le_of_ble_eq_true rfl)
  rw [lg_entry_eq]
  generalize (lg_sl ([.ref am, .int zn]) ++ List.replicate (2 - (lg_sl ([.ref am, .int zn])).length) Slot.unset).toArray = ls at hl ⊢
  have hl : lv_has ls 2 [(0, .ref am), (1, .int zn)] := hl
  refine lv_aload_n hx hb dX4_fail_0 rfl (lv_at hl 0 rfl) ?_
  refine lv_iload_n hx hb dX4_fail_1 rfl (lv_at hl 1 rfl) ?_
  refine va_put (D := (dC, dI)) (ci := 4) (v := .int zn) (ty := .int) (C := RX4) (T := TX4) (N := 8) hx hb hts in_X4_fail_X4 tyX4 tyX4_ok nmX4 hown hK hP hD hS 0 rfl rfl 0 (by decide) (hts (.fieldLink RX4 28 "VaultDoorsModel" "thrown" "I") (List.mem_of_getElem? (i := 1) rfl)) (fun _ h9 => h9) rfl (by decide +kernel) rfl rfl (Nat.le_of_ble_eq_true rfl) dX4_fail_2 (fun H locs hP hD hS => ?_)
  have hP : va_P (dC, dI) vwCl [(am, .inr (4, [.int zn, .int 0, .ref m1, .ref m2, .ref m3, .ref m4, .ref m5, .ref m6]))] H := hP
  have hD : va_D A [(am, .inr (4, [.int zn, .int 0, .ref m1, .ref m2, .ref m3, .ref m4, .ref m5, .ref m6]))] := hD
  refine lv_iconst (v := 0) hx hb dX4_fail_5 (by decide) ?_
  have hP9 := hP.sub (ws' := [(am, .inr (4, [.int zn, .int 0, .ref m1, .ref m2, .ref m3, .ref m4, .ref m5, .ref m6]))]) [0] rfl
  have hD9 := hD.sub (ws' := [(am, .inr (4, [.int zn, .int 0, .ref m1, .ref m2, .ref m3, .ref m4, .ref m5, .ref m6]))]) [0] (by decide) rfl
  have hK9 := hK.sub (tys' := []) [] rfl
  exact W.iret (v := 0) hx hb hr (fun t ht hW => ⟨⟨_, (), rfl, rfl, by rw [ht]; exact hP9, va_K.moved hW.alike hK9, hD9⟩, hS.F ht⟩) hS.2.2 dX4_fail_6

theorem in_X4_thrown_X4 : ∀ w ∈ wsX40, w ∈ wsX4_thrown := by decide +kernel
set_option maxHeartbeats 4000000 in
set_option maxRecDepth 100000 in
theorem ct_X4_thrown (l : Launch) (dC : Nat → ClassId) (dI : Nat → Nat → Nat) (th : Int32) (dn : Int32) (am : Nat) (m1 : Nat) (m2 : Nat) (m3 : Nat) (m4 : Nat) (m5 : Nat) (m6 : Nat) : Met l yX4_thrown wsX4_thrown ({ frames := 0, cells := 0, slots := 0, locals := 0 }) (va_Pc [.ref am] (pR (dC, dI) [(am, .inr (4, [.int th, .int dn, .ref m1, .ref m2, .ref m3, .ref m4, .ref m5, .ref m6]))] [])) (va_Qi (fun (r : Int32) (_ : Unit) => r = th) (fun _ _ => True) (fun _ => False)) 0 0 (fun _ => False) := by
  refine Met.ofW (cc := cX4_thrown) (maxL := 1) (ret := (some .int)) (by decide) rfl ?_
  intro p e s m args below meth c s₁ B hml hv
  obtain ⟨rfl, hP, hK⟩ := hv
  have hx := B.exec
  have hb := B.bytes
  have hr := B.returns
  have hts := atoms_spec (ws := wsX4_thrown) B.pre
  have hown : s.vm.findClass RX4 = some m.cls := findClass_of_methodNamed B.named
  have hlocks := B.notSynchronized
  have hS : va_S (fun _ => False) s.heap s.heap [] := va_S.rf
  have hP : va_P (dC, dI) vwCl [(am, .inr (4, [.int th, .int dn, .ref m1, .ref m2, .ref m3, .ref m4, .ref m5, .ref m6]))] s.heap := hP
  have hl := lv_entry ([.ref am]) (n := 1) (Nat.le_of_ble_eq_true rfl)
  rw [lg_entry_eq]
  generalize (lg_sl ([.ref am]) ++ List.replicate (1 - (lg_sl ([.ref am])).length) Slot.unset).toArray = ls at hl ⊢
  have hl : lv_has ls 1 [(0, .ref am)] := hl
  refine lv_aload_n hx hb dX4_thrown_0 rfl (lv_at hl 0 rfl) ?_
  refine va_get (D := (dC, dI)) (ci := 4) (v := .int th) (C := RX4) (T := TX4) (N := 8) hx hb hts in_X4_thrown_X4 hown hK hP 0 rfl rfl 0 (by decide) (hts (.fieldLink RX4 28 "VaultDoorsModel" "thrown" "I") (List.mem_of_getElem? (i := 1) rfl)) (fun _ h9 => h9) rfl dX4_thrown_1 ?_
  exact W.iret (v := th) hx hb hr (fun t ht hW => ⟨⟨_, (), rfl, rfl, trivial⟩, hS.F ht⟩) hS.2.2 dX4_thrown_4

theorem in_X4_ask_X4 : ∀ w ∈ wsX40, w ∈ wsX4_ask := by decide +kernel
set_option maxHeartbeats 4000000 in
set_option maxRecDepth 100000 in
theorem ct_X4_ask (l : Launch) (dC : Nat → ClassId) (dI : Nat → Nat → Nat) (th : Int32) (za : Int32) (zb : Int32) (zc : Int32) (am : Nat) (m1 : Nat) (m2 : Nat) (m3 : Nat) (m4 : Nat) (m5 : Nat) (m6 : Nat) (sz : Nat) : Met l yX4_ask wsX4_ask ({ frames := 2, cells := 0, slots := 0, locals := 43 }) (va_Pc [.ref am, .int za, .int zb, .int zc] (pZ (dC, dI) [(am, .inr (4, [.int th, .int 0, .ref m1, .ref m2, .ref m3, .ref m4, .ref m5, .ref m6]))] [] sz)) (va_Qi (fun (r : Int32) (_ : Unit) => r = 0) (fun _ t => pB (dC, dI) (va_A [(am, .inr (4, [.int th, .int 0, .ref m1, .ref m2, .ref m3, .ref m4, .ref m5, .ref m6]))] sz) [(am, .inr (4, [.int 1, .int 0, .ref m1, .ref m2, .ref m3, .ref m4, .ref m5, .ref m6]))] [] t) (va_A [(am, .inr (4, [.int th, .int 0, .ref m1, .ref m2, .ref m3, .ref m4, .ref m5, .ref m6]))] sz)) 0 0 (va_A [(am, .inr (4, [.int th, .int 0, .ref m1, .ref m2, .ref m3, .ref m4, .ref m5, .ref m6]))] sz) := by
  refine Met.ofW (cc := cX4_ask) (maxL := 5) (ret := (some .int)) (by decide) rfl ?_
  intro p e s m args below meth c s₁ B hml hv
  obtain ⟨rfl, hsz, hP, hK, hD0⟩ := hv
  have hx := B.exec
  have hb := B.bytes
  have hr := B.returns
  have hts := atoms_spec (ws := wsX4_ask) B.pre
  have hown : s.vm.findClass RX4 = some m.cls := findClass_of_methodNamed B.named
  have hlocks := B.notSynchronized
  subst hsz
  have hD := hD0.self (sz := s.heap.size)
  generalize hAe : va_A [(am, .inr (4, [.int th, .int 0, .ref m1, .ref m2, .ref m3, .ref m4, .ref m5, .ref m6]))] s.heap.size = A at hD ⊢
  have hA : ∀ q : Nat, s.heap.size ≤ q → A q := fun q h => by rw [← hAe]; exact Or.inr h
  have hS : va_S A s.heap s.heap [] := va_S.rf
  have hP : va_P (dC, dI) vwCl [(am, .inr (4, [.int th, .int 0, .ref m1, .ref m2, .ref m3, .ref m4, .ref m5, .ref m6]))] s.heap := hP
  have hl := lv_entry ([.ref am, .int za, .int zb, .int zc]) (n := 5) (Nat.le_of_ble_eq_true rfl)
  rw [lg_entry_eq]
  generalize (lg_sl ([.ref am, .int za, .int zb, .int zc]) ++ List.replicate (5 - (lg_sl ([.ref am, .int za, .int zb, .int zc])).length) Slot.unset).toArray = ls at hl ⊢
  have hl : lv_has ls 5 [(0, .ref am), (1, .int za), (2, .int zb), (3, .int zc)] := hl
  refine lv_aload_n hx hb dX4_ask_0 rfl (lv_at hl 0 rfl) ?_
  refine lv_iconst (v := 0) hx hb dX4_ask_1 (by decide) ?_
  refine va_put (D := (dC, dI)) (ci := 4) (v := .int 0) (ty := .int) (C := RX4) (T := TX4) (N := 8) hx hb hts in_X4_ask_X4 tyX4 tyX4_ok nmX4 hown hK hP hD hS 0 rfl rfl 0 (by decide) (hts (.fieldLink RX4 28 "VaultDoorsModel" "thrown" "I") (List.mem_of_getElem? (i := 1) rfl)) (fun _ h9 => h9) rfl (by decide +kernel) rfl rfl (Nat.le_of_ble_eq_true rfl) dX4_ask_2 (fun H locs hP hD hS => ?_)
  have hP : va_P (dC, dI) vwCl [(am, .inr (4, [.int 0, .int 0, .ref m1, .ref m2, .ref m3, .ref m4, .ref m5, .ref m6]))] H := hP
  have hD : va_D A [(am, .inr (4, [.int 0, .int 0, .ref m1, .ref m2, .ref m3, .ref m4, .ref m5, .ref m6]))] := hD
  refine lv_aload_n hx hb dX4_ask_5 rfl (lv_at hl 0 rfl) ?_
  refine lv_iload_n hx hb dX4_ask_6 rfl (lv_at hl 1 rfl) ?_
  have hPc := hP.sub (ws' := [(am, .inr (4, [.int 0, .int 0, .ref m1, .ref m2, .ref m3, .ref m4, .ref m5, .ref m6]))]) [0] rfl
  have hKc := hK.sub (tys' := []) [] rfl
  refine va_calli (va_runV (As := [.int za]) (rest := []) ⟨hx, hb, hml, hown, hts⟩ (ct_X4_isDoor l dC dI 0 za am m1 m2 m3 m4 m5 m6) (cwV 1 hts gX4_ask_X4_isDoor rfl rfl rfl (by decide +kernel) ⟨(Nat.le_of_ble_eq_true rfl), (Nat.le_of_ble_eq_true rfl)⟩) ⟨pR_blind, va_recv hKc hPc (ci := 4) (q0 := 0) rfl rfl, pR_pre hPc hKc⟩ rfl rfl hl.1 rfl (lv_room (Nat.le_of_ble_eq_true rfl)) dX4_ask_7 ⟨(Nat.le_of_ble_eq_true rfl), (Nat.le_of_ble_eq_true rfl)⟩) hS (fun q _ h => h.elim) (fun q h => h.elim) (fun r_1 u_2 t H1 locs ht hvm hw hB hz1 hk1 hS => ?_)
  have hP := hP.kept (fun k q hk => hk1 q.1 (hP k q hk).lt (fun h => h))
  generalize H1 = H at hP hS ⊢
  have hw : r_1 = 0 := hw
  subst hw
  refine lv_if_eq (tgt := 21) hx hb dX4_ask_10 (by decide) (fun _ => ?_) (fun h => absurd h (by decide))
  refine lv_aload_n hx hb dX4_ask_21 rfl (lv_at hl 0 rfl) ?_
  refine lv_iconst (v := 1) hx hb dX4_ask_22 (by decide) ?_
  have hPc := hP.sub (ws' := [(am, .inr (4, [.int 0, .int 0, .ref m1, .ref m2, .ref m3, .ref m4, .ref m5, .ref m6]))]) [0] rfl
  have hKc := hK.sub (tys' := []) [] rfl
  have hDc := hD.sub (ws' := [(am, .inr (4, [.int 0, .int 0, .ref m1, .ref m2, .ref m3, .ref m4, .ref m5, .ref m6]))]) [0] (by decide) rfl
  have hFc := va_free (wc := [(am, .inr (4, [.int 0, .int 0, .ref m1, .ref m2, .ref m3, .ref m4, .ref m5, .ref m6]))]) hD hS hA [0] rfl
  refine va_calli (va_runV (As := [.int 1]) (rest := []) ⟨hx, hb, hml, hown, hts⟩ (ct_X4_fail l dC dI 0 1 am m1 m2 m3 m4 m5 m6 H.size) (cwV 1 hts gX4_ask_X4_fail rfl rfl rfl (by decide +kernel) ⟨(Nat.le_of_ble_eq_true rfl), (Nat.le_of_ble_eq_true rfl)⟩) ⟨pZ_blind, va_recv hKc hPc (ci := 4) (q0 := 0) rfl rfl, pZ_pre hPc hDc hKc⟩ rfl rfl hl.1 rfl (lv_room (Nat.le_of_ble_eq_true rfl)) dX4_ask_23 ⟨(Nat.le_of_ble_eq_true rfl), (Nat.le_of_ble_eq_true rfl)⟩) hS (fun q _ h => hFc q h) hFc (fun r_3 u_4 t H1 locs ht hvm hw hB hz1 hk1 hS => ?_)
  obtain ⟨hP1, hK1, hD1⟩ := hB
  rw [ht] at hP1
  have hK1 := va_K.moved hvm.symm hK1
  obtain ⟨hP, hD⟩ := va_join (wr := []) (w1 := [(am, .inr (4, [.int 1, .int 0, .ref m1, .ref m2, .ref m3, .ref m4, .ref m5, .ref m6]))]) hP hD [0] [] rfl rfl (by decide) (by decide) hk1 hFc hP1 hD1
  generalize H1 = H at hP hS ⊢
  have hP : va_P (dC, dI) vwCl [(am, .inr (4, [.int 1, .int 0, .ref m1, .ref m2, .ref m3, .ref m4, .ref m5, .ref m6]))] H := hP
  have hD : va_D A [(am, .inr (4, [.int 1, .int 0, .ref m1, .ref m2, .ref m3, .ref m4, .ref m5, .ref m6]))] := hD
  have hK : va_K (dC, dI) vwCl [] _ := hK
  have hw : r_3 = 0 := hw
  subst hw
  have hP9 := hP.sub (ws' := [(am, .inr (4, [.int 1, .int 0, .ref m1, .ref m2, .ref m3, .ref m4, .ref m5, .ref m6]))]) [0] rfl
  have hD9 := hD.sub (ws' := [(am, .inr (4, [.int 1, .int 0, .ref m1, .ref m2, .ref m3, .ref m4, .ref m5, .ref m6]))]) [0] (by decide) rfl
  have hK9 := hK.sub (tys' := []) [] rfl
  exact W.iret (v := 0) hx hb hr (fun t ht hW => ⟨⟨_, (), rfl, rfl, by rw [ht]; exact hP9, va_K.moved hW.alike hK9, hD9⟩, hS.F ht⟩) hS.2.2 dX4_ask_26

theorem in_X4_set_X4 : ∀ w ∈ wsX40, w ∈ wsX4_set := by decide +kernel
set_option maxHeartbeats 4000000 in
set_option maxRecDepth 100000 in
theorem ct_X4_set (l : Launch) (dC : Nat → ClassId) (dI : Nat → Nat → Nat) (th : Int32) (za : Int32) (zb : Int32) (zc : Int32) (am : Nat) (m1 : Nat) (m2 : Nat) (m3 : Nat) (m4 : Nat) (m5 : Nat) (m6 : Nat) (sz : Nat) : Met l yX4_set wsX4_set ({ frames := 2, cells := 0, slots := 0, locals := 43 }) (va_Pc [.ref am, .int za, .int zb, .int zc] (pZ (dC, dI) [(am, .inr (4, [.int th, .int 0, .ref m1, .ref m2, .ref m3, .ref m4, .ref m5, .ref m6]))] [] sz)) (va_Qi (fun (r : Int32) (_ : Unit) => r = 0) (fun _ t => pB (dC, dI) (va_A [(am, .inr (4, [.int th, .int 0, .ref m1, .ref m2, .ref m3, .ref m4, .ref m5, .ref m6]))] sz) [(am, .inr (4, [.int 1, .int 0, .ref m1, .ref m2, .ref m3, .ref m4, .ref m5, .ref m6]))] [] t) (va_A [(am, .inr (4, [.int th, .int 0, .ref m1, .ref m2, .ref m3, .ref m4, .ref m5, .ref m6]))] sz)) 0 0 (va_A [(am, .inr (4, [.int th, .int 0, .ref m1, .ref m2, .ref m3, .ref m4, .ref m5, .ref m6]))] sz) := by
  refine Met.ofW (cc := cX4_set) (maxL := 5) (ret := (some .int)) (by decide) rfl ?_
  intro p e s m args below meth c s₁ B hml hv
  obtain ⟨rfl, hsz, hP, hK, hD0⟩ := hv
  have hx := B.exec
  have hb := B.bytes
  have hr := B.returns
  have hts := atoms_spec (ws := wsX4_set) B.pre
  have hown : s.vm.findClass RX4 = some m.cls := findClass_of_methodNamed B.named
  have hlocks := B.notSynchronized
  subst hsz
  have hD := hD0.self (sz := s.heap.size)
  generalize hAe : va_A [(am, .inr (4, [.int th, .int 0, .ref m1, .ref m2, .ref m3, .ref m4, .ref m5, .ref m6]))] s.heap.size = A at hD ⊢
  have hA : ∀ q : Nat, s.heap.size ≤ q → A q := fun q h => by rw [← hAe]; exact Or.inr h
  have hS : va_S A s.heap s.heap [] := va_S.rf
  have hP : va_P (dC, dI) vwCl [(am, .inr (4, [.int th, .int 0, .ref m1, .ref m2, .ref m3, .ref m4, .ref m5, .ref m6]))] s.heap := hP
  have hl := lv_entry ([.ref am, .int za, .int zb, .int zc]) (n := 5) (Nat.le_of_ble_eq_true rfl)
  rw [lg_entry_eq]
  generalize (lg_sl ([.ref am, .int za, .int zb, .int zc]) ++ List.replicate (5 - (lg_sl ([.ref am, .int za, .int zb, .int zc])).length) Slot.unset).toArray = ls at hl ⊢
  have hl : lv_has ls 5 [(0, .ref am), (1, .int za), (2, .int zb), (3, .int zc)] := hl
  refine lv_aload_n hx hb dX4_set_0 rfl (lv_at hl 0 rfl) ?_
  refine lv_iconst (v := 0) hx hb dX4_set_1 (by decide) ?_
  refine va_put (D := (dC, dI)) (ci := 4) (v := .int 0) (ty := .int) (C := RX4) (T := TX4) (N := 8) hx hb hts in_X4_set_X4 tyX4 tyX4_ok nmX4 hown hK hP hD hS 0 rfl rfl 0 (by decide) (hts (.fieldLink RX4 28 "VaultDoorsModel" "thrown" "I") (List.mem_of_getElem? (i := 1) rfl)) (fun _ h9 => h9) rfl (by decide +kernel) rfl rfl (Nat.le_of_ble_eq_true rfl) dX4_set_2 (fun H locs hP hD hS => ?_)
  have hP : va_P (dC, dI) vwCl [(am, .inr (4, [.int 0, .int 0, .ref m1, .ref m2, .ref m3, .ref m4, .ref m5, .ref m6]))] H := hP
  have hD : va_D A [(am, .inr (4, [.int 0, .int 0, .ref m1, .ref m2, .ref m3, .ref m4, .ref m5, .ref m6]))] := hD
  refine lv_aload_n hx hb dX4_set_5 rfl (lv_at hl 0 rfl) ?_
  refine lv_iload_n hx hb dX4_set_6 rfl (lv_at hl 1 rfl) ?_
  have hPc := hP.sub (ws' := [(am, .inr (4, [.int 0, .int 0, .ref m1, .ref m2, .ref m3, .ref m4, .ref m5, .ref m6]))]) [0] rfl
  have hKc := hK.sub (tys' := []) [] rfl
  refine va_calli (va_runV (As := [.int za]) (rest := []) ⟨hx, hb, hml, hown, hts⟩ (ct_X4_isDoor l dC dI 0 za am m1 m2 m3 m4 m5 m6) (cwV 1 hts gX4_set_X4_isDoor rfl rfl rfl (by decide +kernel) ⟨(Nat.le_of_ble_eq_true rfl), (Nat.le_of_ble_eq_true rfl)⟩) ⟨pR_blind, va_recv hKc hPc (ci := 4) (q0 := 0) rfl rfl, pR_pre hPc hKc⟩ rfl rfl hl.1 rfl (lv_room (Nat.le_of_ble_eq_true rfl)) dX4_set_7 ⟨(Nat.le_of_ble_eq_true rfl), (Nat.le_of_ble_eq_true rfl)⟩) hS (fun q _ h => h.elim) (fun q h => h.elim) (fun r_1 u_2 t H1 locs ht hvm hw hB hz1 hk1 hS => ?_)
  have hP := hP.kept (fun k q hk => hk1 q.1 (hP k q hk).lt (fun h => h))
  generalize H1 = H at hP hS ⊢
  have hw : r_1 = 0 := hw
  subst hw
  refine lv_if_ne (tgt := 19) hx hb dX4_set_10 (by decide) (fun h => absurd h (by decide)) (fun _ => ?_)
  refine lv_aload_n hx hb dX4_set_13 rfl (lv_at hl 0 rfl) ?_
  refine lv_iconst (v := 1) hx hb dX4_set_14 (by decide) ?_
  have hPc := hP.sub (ws' := [(am, .inr (4, [.int 0, .int 0, .ref m1, .ref m2, .ref m3, .ref m4, .ref m5, .ref m6]))]) [0] rfl
  have hKc := hK.sub (tys' := []) [] rfl
  have hDc := hD.sub (ws' := [(am, .inr (4, [.int 0, .int 0, .ref m1, .ref m2, .ref m3, .ref m4, .ref m5, .ref m6]))]) [0] (by decide) rfl
  have hFc := va_free (wc := [(am, .inr (4, [.int 0, .int 0, .ref m1, .ref m2, .ref m3, .ref m4, .ref m5, .ref m6]))]) hD hS hA [0] rfl
  refine va_calli (va_runV (As := [.int 1]) (rest := []) ⟨hx, hb, hml, hown, hts⟩ (ct_X4_fail l dC dI 0 1 am m1 m2 m3 m4 m5 m6 H.size) (cwV 1 hts gX4_set_X4_fail rfl rfl rfl (by decide +kernel) ⟨(Nat.le_of_ble_eq_true rfl), (Nat.le_of_ble_eq_true rfl)⟩) ⟨pZ_blind, va_recv hKc hPc (ci := 4) (q0 := 0) rfl rfl, pZ_pre hPc hDc hKc⟩ rfl rfl hl.1 rfl (lv_room (Nat.le_of_ble_eq_true rfl)) dX4_set_15 ⟨(Nat.le_of_ble_eq_true rfl), (Nat.le_of_ble_eq_true rfl)⟩) hS (fun q _ h => hFc q h) hFc (fun r_3 u_4 t H1 locs ht hvm hw hB hz1 hk1 hS => ?_)
  obtain ⟨hP1, hK1, hD1⟩ := hB
  rw [ht] at hP1
  have hK1 := va_K.moved hvm.symm hK1
  obtain ⟨hP, hD⟩ := va_join (wr := []) (w1 := [(am, .inr (4, [.int 1, .int 0, .ref m1, .ref m2, .ref m3, .ref m4, .ref m5, .ref m6]))]) hP hD [0] [] rfl rfl (by decide) (by decide) hk1 hFc hP1 hD1
  generalize H1 = H at hP hS ⊢
  have hP : va_P (dC, dI) vwCl [(am, .inr (4, [.int 1, .int 0, .ref m1, .ref m2, .ref m3, .ref m4, .ref m5, .ref m6]))] H := hP
  have hD : va_D A [(am, .inr (4, [.int 1, .int 0, .ref m1, .ref m2, .ref m3, .ref m4, .ref m5, .ref m6]))] := hD
  have hK : va_K (dC, dI) vwCl [] _ := hK
  have hw : r_3 = 0 := hw
  subst hw
  have hP9 := hP.sub (ws' := [(am, .inr (4, [.int 1, .int 0, .ref m1, .ref m2, .ref m3, .ref m4, .ref m5, .ref m6]))]) [0] rfl
  have hD9 := hD.sub (ws' := [(am, .inr (4, [.int 1, .int 0, .ref m1, .ref m2, .ref m3, .ref m4, .ref m5, .ref m6]))]) [0] (by decide) rfl
  have hK9 := hK.sub (tys' := []) [] rfl
  exact W.iret (v := 0) hx hb hr (fun t ht hW => ⟨⟨_, (), rfl, rfl, by rw [ht]; exact hP9, va_K.moved hW.alike hK9, hD9⟩, hS.F ht⟩) hS.2.2 dX4_set_18

theorem in_X4_whisper_X4 : ∀ w ∈ wsX40, w ∈ wsX4_whisper := by decide +kernel
set_option maxHeartbeats 4000000 in
set_option maxRecDepth 100000 in
theorem ct_X4_whisper (l : Launch) (dC : Nat → ClassId) (dI : Nat → Nat → Nat) (th : Int32) (za : Int32) (zb : Int32) (am : Nat) (m1 : Nat) (m2 : Nat) (m3 : Nat) (m4 : Nat) (m5 : Nat) (m6 : Nat) (sz : Nat) : Met l yX4_whisper wsX4_whisper ({ frames := 2, cells := 0, slots := 0, locals := 43 }) (va_Pc [.ref am, .int za, .int zb] (pZ (dC, dI) [(am, .inr (4, [.int th, .int 0, .ref m1, .ref m2, .ref m3, .ref m4, .ref m5, .ref m6]))] [] sz)) (va_Qi (fun (r : Int32) (_ : Unit) => r = 0) (fun _ t => pB (dC, dI) (va_A [(am, .inr (4, [.int th, .int 0, .ref m1, .ref m2, .ref m3, .ref m4, .ref m5, .ref m6]))] sz) [(am, .inr (4, [.int 1, .int 0, .ref m1, .ref m2, .ref m3, .ref m4, .ref m5, .ref m6]))] [] t) (va_A [(am, .inr (4, [.int th, .int 0, .ref m1, .ref m2, .ref m3, .ref m4, .ref m5, .ref m6]))] sz)) 0 0 (va_A [(am, .inr (4, [.int th, .int 0, .ref m1, .ref m2, .ref m3, .ref m4, .ref m5, .ref m6]))] sz) := by
  refine Met.ofW (cc := cX4_whisper) (maxL := 4) (ret := (some .boolean)) (by decide) rfl ?_
  intro p e s m args below meth c s₁ B hml hv
  obtain ⟨rfl, hsz, hP, hK, hD0⟩ := hv
  have hx := B.exec
  have hb := B.bytes
  have hr := B.returns
  have hts := atoms_spec (ws := wsX4_whisper) B.pre
  have hown : s.vm.findClass RX4 = some m.cls := findClass_of_methodNamed B.named
  have hlocks := B.notSynchronized
  subst hsz
  have hD := hD0.self (sz := s.heap.size)
  generalize hAe : va_A [(am, .inr (4, [.int th, .int 0, .ref m1, .ref m2, .ref m3, .ref m4, .ref m5, .ref m6]))] s.heap.size = A at hD ⊢
  have hA : ∀ q : Nat, s.heap.size ≤ q → A q := fun q h => by rw [← hAe]; exact Or.inr h
  have hS : va_S A s.heap s.heap [] := va_S.rf
  have hP : va_P (dC, dI) vwCl [(am, .inr (4, [.int th, .int 0, .ref m1, .ref m2, .ref m3, .ref m4, .ref m5, .ref m6]))] s.heap := hP
  have hl := lv_entry ([.ref am, .int za, .int zb]) (n := 4) (Nat.le_of_ble_eq_true rfl)
  rw [lg_entry_eq]
  generalize (lg_sl ([.ref am, .int za, .int zb]) ++ List.replicate (4 - (lg_sl ([.ref am, .int za, .int zb])).length) Slot.unset).toArray = ls at hl ⊢
  have hl : lv_has ls 4 [(0, .ref am), (1, .int za), (2, .int zb)] := hl
  refine lv_aload_n hx hb dX4_whisper_0 rfl (lv_at hl 0 rfl) ?_
  refine lv_aload_n hx hb dX4_whisper_1 rfl (lv_at hl 0 rfl) ?_
  refine lv_iload_n hx hb dX4_whisper_2 rfl (lv_at hl 1 rfl) ?_
  have hPc := hP.sub (ws' := [(am, .inr (4, [.int th, .int 0, .ref m1, .ref m2, .ref m3, .ref m4, .ref m5, .ref m6]))]) [0] rfl
  have hKc := hK.sub (tys' := []) [] rfl
  refine va_calli (va_runV (As := [.int za]) (rest := [.ref am]) ⟨hx, hb, hml, hown, hts⟩ (ct_X4_isDoor l dC dI th za am m1 m2 m3 m4 m5 m6) (cwV 1 hts gX4_whisper_X4_isDoor rfl rfl rfl (by decide +kernel) ⟨(Nat.le_of_ble_eq_true rfl), (Nat.le_of_ble_eq_true rfl)⟩) ⟨pR_blind, va_recv hKc hPc (ci := 4) (q0 := 0) rfl rfl, pR_pre hPc hKc⟩ rfl rfl hl.1 rfl (lv_room (Nat.le_of_ble_eq_true rfl)) dX4_whisper_3 ⟨(Nat.le_of_ble_eq_true rfl), (Nat.le_of_ble_eq_true rfl)⟩) hS (fun q _ h => h.elim) (fun q h => h.elim) (fun r_1 u_2 t H1 locs ht hvm hw hB hz1 hk1 hS => ?_)
  have hP := hP.kept (fun k q hk => hk1 q.1 (hP k q hk).lt (fun h => h))
  generalize H1 = H at hP hS ⊢
  have hw : r_1 = 0 := hw
  subst hw
  refine lv_if_ne (tgt := 13) hx hb dX4_whisper_6 (by decide) (fun h => absurd h (by decide)) (fun _ => ?_)
  refine lv_iconst (v := 1) hx hb dX4_whisper_9 (by decide) ?_
  refine lv_goto (tgt := 28) hx hb dX4_whisper_10 (by decide) ?_
  refine va_put (D := (dC, dI)) (ci := 4) (v := .int 1) (ty := .int) (C := RX4) (T := TX4) (N := 8) hx hb hts in_X4_whisper_X4 tyX4 tyX4_ok nmX4 hown hK hP hD hS 0 rfl rfl 0 (by decide) (hts (.fieldLink RX4 28 "VaultDoorsModel" "thrown" "I") (List.mem_of_getElem? (i := 1) rfl)) (fun _ h9 => h9) rfl (by decide +kernel) rfl rfl (Nat.le_of_ble_eq_true rfl) dX4_whisper_28 (fun H locs hP hD hS => ?_)
  have hP : va_P (dC, dI) vwCl [(am, .inr (4, [.int 1, .int 0, .ref m1, .ref m2, .ref m3, .ref m4, .ref m5, .ref m6]))] H := hP
  have hD : va_D A [(am, .inr (4, [.int 1, .int 0, .ref m1, .ref m2, .ref m3, .ref m4, .ref m5, .ref m6]))] := hD
  refine lv_aload_n hx hb dX4_whisper_31 rfl (lv_at hl 0 rfl) ?_
  refine va_get (D := (dC, dI)) (ci := 4) (v := .int 1) (C := RX4) (T := TX4) (N := 8) hx hb hts in_X4_whisper_X4 hown hK hP 0 rfl rfl 0 (by decide) (hts (.fieldLink RX4 28 "VaultDoorsModel" "thrown" "I") (List.mem_of_getElem? (i := 1) rfl)) (fun _ h9 => h9) rfl dX4_whisper_32 ?_
  refine lv_if_ne (tgt := 47) hx hb dX4_whisper_35 (by decide) (fun _ => ?_) (fun h => absurd h (by decide))
  refine lv_iconst (v := 0) hx hb dX4_whisper_47 (by decide) ?_
  have hP9 := hP.sub (ws' := [(am, .inr (4, [.int 1, .int 0, .ref m1, .ref m2, .ref m3, .ref m4, .ref m5, .ref m6]))]) [0] rfl
  have hD9 := hD.sub (ws' := [(am, .inr (4, [.int 1, .int 0, .ref m1, .ref m2, .ref m3, .ref m4, .ref m5, .ref m6]))]) [0] (by decide) rfl
  have hK9 := hK.sub (tys' := []) [] rfl
  exact W.zret (v := 0) (ty := .boolean) hx hb hr (by decide) (fun t ht hW => ⟨⟨_, (), rfl, rfl, by rw [ht]; exact hP9, va_K.moved hW.alike hK9, hD9⟩, hS.F ht⟩) hS.2.2 dX4_whisper_48

theorem in_X4_door_X4 : ∀ w ∈ wsX40, w ∈ wsX4_door := by decide +kernel
set_option maxHeartbeats 4000000 in
set_option maxRecDepth 100000 in
theorem ct_X4_door (l : Launch) (dC : Nat → ClassId) (dI : Nat → Nat → Nat) (th : Int32) (za : Int32) (zb : Int32) (am : Nat) (m1 : Nat) (m2 : Nat) (m3 : Nat) (m4 : Nat) (m5 : Nat) (m6 : Nat) (sz : Nat) : Met l yX4_door wsX4_door ({ frames := 2, cells := 0, slots := 0, locals := 43 }) (va_Pc [.ref am, .int za, .int zb] (pZ (dC, dI) [(am, .inr (4, [.int th, .int 0, .ref m1, .ref m2, .ref m3, .ref m4, .ref m5, .ref m6]))] [] sz)) (va_Qi (fun (r : Int32) (_ : Unit) => r = 0) (fun _ t => pB (dC, dI) (va_A [(am, .inr (4, [.int th, .int 0, .ref m1, .ref m2, .ref m3, .ref m4, .ref m5, .ref m6]))] sz) [(am, .inr (4, [.int 1, .int 0, .ref m1, .ref m2, .ref m3, .ref m4, .ref m5, .ref m6]))] [] t) (va_A [(am, .inr (4, [.int th, .int 0, .ref m1, .ref m2, .ref m3, .ref m4, .ref m5, .ref m6]))] sz)) 0 0 (va_A [(am, .inr (4, [.int th, .int 0, .ref m1, .ref m2, .ref m3, .ref m4, .ref m5, .ref m6]))] sz) := by
  refine Met.ofW (cc := cX4_door) (maxL := 3) (ret := (some .int)) (by decide) rfl ?_
  intro p e s m args below meth c s₁ B hml hv
  obtain ⟨rfl, hsz, hP, hK, hD0⟩ := hv
  have hx := B.exec
  have hb := B.bytes
  have hr := B.returns
  have hts := atoms_spec (ws := wsX4_door) B.pre
  have hown : s.vm.findClass RX4 = some m.cls := findClass_of_methodNamed B.named
  have hlocks := B.notSynchronized
  subst hsz
  have hD := hD0.self (sz := s.heap.size)
  generalize hAe : va_A [(am, .inr (4, [.int th, .int 0, .ref m1, .ref m2, .ref m3, .ref m4, .ref m5, .ref m6]))] s.heap.size = A at hD ⊢
  have hA : ∀ q : Nat, s.heap.size ≤ q → A q := fun q h => by rw [← hAe]; exact Or.inr h
  have hS : va_S A s.heap s.heap [] := va_S.rf
  have hP : va_P (dC, dI) vwCl [(am, .inr (4, [.int th, .int 0, .ref m1, .ref m2, .ref m3, .ref m4, .ref m5, .ref m6]))] s.heap := hP
  have hl := lv_entry ([.ref am, .int za, .int zb]) (n := 3) (Nat.le_of_ble_eq_true rfl)
  rw [lg_entry_eq]
  generalize (lg_sl ([.ref am, .int za, .int zb]) ++ List.replicate (3 - (lg_sl ([.ref am, .int za, .int zb])).length) Slot.unset).toArray = ls at hl ⊢
  have hl : lv_has ls 3 [(0, .ref am), (1, .int za), (2, .int zb)] := hl
  refine lv_aload_n hx hb dX4_door_0 rfl (lv_at hl 0 rfl) ?_
  refine lv_iconst (v := 0) hx hb dX4_door_1 (by decide) ?_
  refine va_put (D := (dC, dI)) (ci := 4) (v := .int 0) (ty := .int) (C := RX4) (T := TX4) (N := 8) hx hb hts in_X4_door_X4 tyX4 tyX4_ok nmX4 hown hK hP hD hS 0 rfl rfl 0 (by decide) (hts (.fieldLink RX4 28 "VaultDoorsModel" "thrown" "I") (List.mem_of_getElem? (i := 1) rfl)) (fun _ h9 => h9) rfl (by decide +kernel) rfl rfl (Nat.le_of_ble_eq_true rfl) dX4_door_2 (fun H locs hP hD hS => ?_)
  have hP : va_P (dC, dI) vwCl [(am, .inr (4, [.int 0, .int 0, .ref m1, .ref m2, .ref m3, .ref m4, .ref m5, .ref m6]))] H := hP
  have hD : va_D A [(am, .inr (4, [.int 0, .int 0, .ref m1, .ref m2, .ref m3, .ref m4, .ref m5, .ref m6]))] := hD
  refine lv_aload_n hx hb dX4_door_5 rfl (lv_at hl 0 rfl) ?_
  refine lv_iload_n hx hb dX4_door_6 rfl (lv_at hl 1 rfl) ?_
  have hPc := hP.sub (ws' := [(am, .inr (4, [.int 0, .int 0, .ref m1, .ref m2, .ref m3, .ref m4, .ref m5, .ref m6]))]) [0] rfl
  have hKc := hK.sub (tys' := []) [] rfl
  refine va_calli (va_runV (As := [.int za]) (rest := []) ⟨hx, hb, hml, hown, hts⟩ (ct_X4_isDoor l dC dI 0 za am m1 m2 m3 m4 m5 m6) (cwV 1 hts gX4_door_X4_isDoor rfl rfl rfl (by decide +kernel) ⟨(Nat.le_of_ble_eq_true rfl), (Nat.le_of_ble_eq_true rfl)⟩) ⟨pR_blind, va_recv hKc hPc (ci := 4) (q0 := 0) rfl rfl, pR_pre hPc hKc⟩ rfl rfl hl.1 rfl (lv_room (Nat.le_of_ble_eq_true rfl)) dX4_door_7 ⟨(Nat.le_of_ble_eq_true rfl), (Nat.le_of_ble_eq_true rfl)⟩) hS (fun q _ h => h.elim) (fun q h => h.elim) (fun r_1 u_2 t H1 locs ht hvm hw hB hz1 hk1 hS => ?_)
  have hP := hP.kept (fun k q hk => hk1 q.1 (hP k q hk).lt (fun h => h))
  generalize H1 = H at hP hS ⊢
  have hw : r_1 = 0 := hw
  subst hw
  refine lv_if_eq (tgt := 32) hx hb dX4_door_10 (by decide) (fun _ => ?_) (fun h => absurd h (by decide))
  refine lv_aload_n hx hb dX4_door_32 rfl (lv_at hl 0 rfl) ?_
  refine lv_iconst (v := 1) hx hb dX4_door_33 (by decide) ?_
  have hPc := hP.sub (ws' := [(am, .inr (4, [.int 0, .int 0, .ref m1, .ref m2, .ref m3, .ref m4, .ref m5, .ref m6]))]) [0] rfl
  have hKc := hK.sub (tys' := []) [] rfl
  have hDc := hD.sub (ws' := [(am, .inr (4, [.int 0, .int 0, .ref m1, .ref m2, .ref m3, .ref m4, .ref m5, .ref m6]))]) [0] (by decide) rfl
  have hFc := va_free (wc := [(am, .inr (4, [.int 0, .int 0, .ref m1, .ref m2, .ref m3, .ref m4, .ref m5, .ref m6]))]) hD hS hA [0] rfl
  refine va_calli (va_runV (As := [.int 1]) (rest := []) ⟨hx, hb, hml, hown, hts⟩ (ct_X4_fail l dC dI 0 1 am m1 m2 m3 m4 m5 m6 H.size) (cwV 1 hts gX4_door_X4_fail rfl rfl rfl (by decide +kernel) ⟨(Nat.le_of_ble_eq_true rfl), (Nat.le_of_ble_eq_true rfl)⟩) ⟨pZ_blind, va_recv hKc hPc (ci := 4) (q0 := 0) rfl rfl, pZ_pre hPc hDc hKc⟩ rfl rfl hl.1 rfl (lv_room (Nat.le_of_ble_eq_true rfl)) dX4_door_34 ⟨(Nat.le_of_ble_eq_true rfl), (Nat.le_of_ble_eq_true rfl)⟩) hS (fun q _ h => hFc q h) hFc (fun r_3 u_4 t H1 locs ht hvm hw hB hz1 hk1 hS => ?_)
  obtain ⟨hP1, hK1, hD1⟩ := hB
  rw [ht] at hP1
  have hK1 := va_K.moved hvm.symm hK1
  obtain ⟨hP, hD⟩ := va_join (wr := []) (w1 := [(am, .inr (4, [.int 1, .int 0, .ref m1, .ref m2, .ref m3, .ref m4, .ref m5, .ref m6]))]) hP hD [0] [] rfl rfl (by decide) (by decide) hk1 hFc hP1 hD1
  generalize H1 = H at hP hS ⊢
  have hP : va_P (dC, dI) vwCl [(am, .inr (4, [.int 1, .int 0, .ref m1, .ref m2, .ref m3, .ref m4, .ref m5, .ref m6]))] H := hP
  have hD : va_D A [(am, .inr (4, [.int 1, .int 0, .ref m1, .ref m2, .ref m3, .ref m4, .ref m5, .ref m6]))] := hD
  have hK : va_K (dC, dI) vwCl [] _ := hK
  have hw : r_3 = 0 := hw
  subst hw
  have hP9 := hP.sub (ws' := [(am, .inr (4, [.int 1, .int 0, .ref m1, .ref m2, .ref m3, .ref m4, .ref m5, .ref m6]))]) [0] rfl
  have hD9 := hD.sub (ws' := [(am, .inr (4, [.int 1, .int 0, .ref m1, .ref m2, .ref m3, .ref m4, .ref m5, .ref m6]))]) [0] (by decide) rfl
  have hK9 := hK.sub (tys' := []) [] rfl
  exact W.iret (v := 0) hx hb hr (fun t ht hW => ⟨⟨_, (), rfl, rfl, by rw [ht]; exact hP9, va_K.moved hW.alike hK9, hD9⟩, hS.F ht⟩) hS.2.2 dX4_door_37

theorem in_X4_asks_X4 : ∀ w ∈ wsX40, w ∈ wsX4_asks := by decide +kernel
set_option maxHeartbeats 4000000 in
set_option maxRecDepth 100000 in
theorem ct_X4_asks (l : Launch) (dC : Nat → ClassId) (dI : Nat → Nat → Nat) (th : Int32) (za : Int32) (zb : Int32) (zc : Int32) (am : Nat) (m1 : Nat) (m2 : Nat) (m3 : Nat) (m4 : Nat) (m5 : Nat) (m6 : Nat) (sz : Nat) : Met l yX4_asks wsX4_asks ({ frames := 2, cells := 0, slots := 0, locals := 43 }) (va_Pc [.ref am, .int za, .int zb, .int zc] (pZ (dC, dI) [(am, .inr (4, [.int th, .int 0, .ref m1, .ref m2, .ref m3, .ref m4, .ref m5, .ref m6]))] [] sz)) (va_Qi (fun (r : Int32) (_ : Unit) => r = 0) (fun _ t => pB (dC, dI) (va_A [(am, .inr (4, [.int th, .int 0, .ref m1, .ref m2, .ref m3, .ref m4, .ref m5, .ref m6]))] sz) [(am, .inr (4, [.int 1, .int 0, .ref m1, .ref m2, .ref m3, .ref m4, .ref m5, .ref m6]))] [] t) (va_A [(am, .inr (4, [.int th, .int 0, .ref m1, .ref m2, .ref m3, .ref m4, .ref m5, .ref m6]))] sz)) 0 0 (va_A [(am, .inr (4, [.int th, .int 0, .ref m1, .ref m2, .ref m3, .ref m4, .ref m5, .ref m6]))] sz) := by
  refine Met.ofW (cc := cX4_asks) (maxL := 4) (ret := (some .int)) (by decide) rfl ?_
  intro p e s m args below meth c s₁ B hml hv
  obtain ⟨rfl, hsz, hP, hK, hD0⟩ := hv
  have hx := B.exec
  have hb := B.bytes
  have hr := B.returns
  have hts := atoms_spec (ws := wsX4_asks) B.pre
  have hown : s.vm.findClass RX4 = some m.cls := findClass_of_methodNamed B.named
  have hlocks := B.notSynchronized
  subst hsz
  have hD := hD0.self (sz := s.heap.size)
  generalize hAe : va_A [(am, .inr (4, [.int th, .int 0, .ref m1, .ref m2, .ref m3, .ref m4, .ref m5, .ref m6]))] s.heap.size = A at hD ⊢
  have hA : ∀ q : Nat, s.heap.size ≤ q → A q := fun q h => by rw [← hAe]; exact Or.inr h
  have hS : va_S A s.heap s.heap [] := va_S.rf
  have hP : va_P (dC, dI) vwCl [(am, .inr (4, [.int th, .int 0, .ref m1, .ref m2, .ref m3, .ref m4, .ref m5, .ref m6]))] s.heap := hP
  have hl := lv_entry ([.ref am, .int za, .int zb, .int zc]) (n := 4) (Nat.le_of_ble_eq_true rfl)
  rw [lg_entry_eq]
  generalize (lg_sl ([.ref am, .int za, .int zb, .int zc]) ++ List.replicate (4 - (lg_sl ([.ref am, .int za, .int zb, .int zc])).length) Slot.unset).toArray = ls at hl ⊢
  have hl : lv_has ls 4 [(0, .ref am), (1, .int za), (2, .int zb), (3, .int zc)] := hl
  refine lv_aload_n hx hb dX4_asks_0 rfl (lv_at hl 0 rfl) ?_
  refine lv_iconst (v := 0) hx hb dX4_asks_1 (by decide) ?_
  refine va_put (D := (dC, dI)) (ci := 4) (v := .int 0) (ty := .int) (C := RX4) (T := TX4) (N := 8) hx hb hts in_X4_asks_X4 tyX4 tyX4_ok nmX4 hown hK hP hD hS 0 rfl rfl 0 (by decide) (hts (.fieldLink RX4 28 "VaultDoorsModel" "thrown" "I") (List.mem_of_getElem? (i := 1) rfl)) (fun _ h9 => h9) rfl (by decide +kernel) rfl rfl (Nat.le_of_ble_eq_true rfl) dX4_asks_2 (fun H locs hP hD hS => ?_)
  have hP : va_P (dC, dI) vwCl [(am, .inr (4, [.int 0, .int 0, .ref m1, .ref m2, .ref m3, .ref m4, .ref m5, .ref m6]))] H := hP
  have hD : va_D A [(am, .inr (4, [.int 0, .int 0, .ref m1, .ref m2, .ref m3, .ref m4, .ref m5, .ref m6]))] := hD
  refine lv_aload_n hx hb dX4_asks_5 rfl (lv_at hl 0 rfl) ?_
  refine lv_iload_n hx hb dX4_asks_6 rfl (lv_at hl 1 rfl) ?_
  have hPc := hP.sub (ws' := [(am, .inr (4, [.int 0, .int 0, .ref m1, .ref m2, .ref m3, .ref m4, .ref m5, .ref m6]))]) [0] rfl
  have hKc := hK.sub (tys' := []) [] rfl
  refine va_calli (va_runV (As := [.int za]) (rest := []) ⟨hx, hb, hml, hown, hts⟩ (ct_X4_isDoor l dC dI 0 za am m1 m2 m3 m4 m5 m6) (cwV 1 hts gX4_asks_X4_isDoor rfl rfl rfl (by decide +kernel) ⟨(Nat.le_of_ble_eq_true rfl), (Nat.le_of_ble_eq_true rfl)⟩) ⟨pR_blind, va_recv hKc hPc (ci := 4) (q0 := 0) rfl rfl, pR_pre hPc hKc⟩ rfl rfl hl.1 rfl (lv_room (Nat.le_of_ble_eq_true rfl)) dX4_asks_7 ⟨(Nat.le_of_ble_eq_true rfl), (Nat.le_of_ble_eq_true rfl)⟩) hS (fun q _ h => h.elim) (fun q h => h.elim) (fun r_1 u_2 t H1 locs ht hvm hw hB hz1 hk1 hS => ?_)
  have hP := hP.kept (fun k q hk => hk1 q.1 (hP k q hk).lt (fun h => h))
  generalize H1 = H at hP hS ⊢
  have hw : r_1 = 0 := hw
  subst hw
  refine lv_if_eq (tgt := 48) hx hb dX4_asks_10 (by decide) (fun _ => ?_) (fun h => absurd h (by decide))
  refine lv_aload_n hx hb dX4_asks_48 rfl (lv_at hl 0 rfl) ?_
  refine lv_iconst (v := 1) hx hb dX4_asks_49 (by decide) ?_
  have hPc := hP.sub (ws' := [(am, .inr (4, [.int 0, .int 0, .ref m1, .ref m2, .ref m3, .ref m4, .ref m5, .ref m6]))]) [0] rfl
  have hKc := hK.sub (tys' := []) [] rfl
  have hDc := hD.sub (ws' := [(am, .inr (4, [.int 0, .int 0, .ref m1, .ref m2, .ref m3, .ref m4, .ref m5, .ref m6]))]) [0] (by decide) rfl
  have hFc := va_free (wc := [(am, .inr (4, [.int 0, .int 0, .ref m1, .ref m2, .ref m3, .ref m4, .ref m5, .ref m6]))]) hD hS hA [0] rfl
  refine va_calli (va_runV (As := [.int 1]) (rest := []) ⟨hx, hb, hml, hown, hts⟩ (ct_X4_fail l dC dI 0 1 am m1 m2 m3 m4 m5 m6 H.size) (cwV 1 hts gX4_asks_X4_fail rfl rfl rfl (by decide +kernel) ⟨(Nat.le_of_ble_eq_true rfl), (Nat.le_of_ble_eq_true rfl)⟩) ⟨pZ_blind, va_recv hKc hPc (ci := 4) (q0 := 0) rfl rfl, pZ_pre hPc hDc hKc⟩ rfl rfl hl.1 rfl (lv_room (Nat.le_of_ble_eq_true rfl)) dX4_asks_50 ⟨(Nat.le_of_ble_eq_true rfl), (Nat.le_of_ble_eq_true rfl)⟩) hS (fun q _ h => hFc q h) hFc (fun r_3 u_4 t H1 locs ht hvm hw hB hz1 hk1 hS => ?_)
  obtain ⟨hP1, hK1, hD1⟩ := hB
  rw [ht] at hP1
  have hK1 := va_K.moved hvm.symm hK1
  obtain ⟨hP, hD⟩ := va_join (wr := []) (w1 := [(am, .inr (4, [.int 1, .int 0, .ref m1, .ref m2, .ref m3, .ref m4, .ref m5, .ref m6]))]) hP hD [0] [] rfl rfl (by decide) (by decide) hk1 hFc hP1 hD1
  generalize H1 = H at hP hS ⊢
  have hP : va_P (dC, dI) vwCl [(am, .inr (4, [.int 1, .int 0, .ref m1, .ref m2, .ref m3, .ref m4, .ref m5, .ref m6]))] H := hP
  have hD : va_D A [(am, .inr (4, [.int 1, .int 0, .ref m1, .ref m2, .ref m3, .ref m4, .ref m5, .ref m6]))] := hD
  have hK : va_K (dC, dI) vwCl [] _ := hK
  have hw : r_3 = 0 := hw
  subst hw
  have hP9 := hP.sub (ws' := [(am, .inr (4, [.int 1, .int 0, .ref m1, .ref m2, .ref m3, .ref m4, .ref m5, .ref m6]))]) [0] rfl
  have hD9 := hD.sub (ws' := [(am, .inr (4, [.int 1, .int 0, .ref m1, .ref m2, .ref m3, .ref m4, .ref m5, .ref m6]))]) [0] (by decide) rfl
  have hK9 := hK.sub (tys' := []) [] rfl
  exact W.iret (v := 0) hx hb hr (fun t ht hW => ⟨⟨_, (), rfl, rfl, by rw [ht]; exact hP9, va_K.moved hW.alike hK9, hD9⟩, hS.F ht⟩) hS.2.2 dX4_asks_53

theorem in_X4_reach_X4 : ∀ w ∈ wsX40, w ∈ wsX4_reach := by decide +kernel
set_option maxHeartbeats 4000000 in
set_option maxRecDepth 100000 in
theorem ct_X4_reach (l : Launch) (dC : Nat → ClassId) (dI : Nat → Nat → Nat) (th : Int32) (za : Int32) (am : Nat) (m1 : Nat) (m2 : Nat) (m3 : Nat) (m4 : Nat) (m5 : Nat) (m6 : Nat) (sz : Nat) : Met l yX4_reach wsX4_reach ({ frames := 2, cells := 0, slots := 0, locals := 43 }) (va_Pc [.ref am, .int za] (pZ (dC, dI) [(am, .inr (4, [.int th, .int 0, .ref m1, .ref m2, .ref m3, .ref m4, .ref m5, .ref m6]))] [] sz)) (va_Qi (fun (r : Int32) (_ : Unit) => r = 0) (fun _ t => pB (dC, dI) (va_A [(am, .inr (4, [.int th, .int 0, .ref m1, .ref m2, .ref m3, .ref m4, .ref m5, .ref m6]))] sz) [(am, .inr (4, [.int 1, .int 0, .ref m1, .ref m2, .ref m3, .ref m4, .ref m5, .ref m6]))] [] t) (va_A [(am, .inr (4, [.int th, .int 0, .ref m1, .ref m2, .ref m3, .ref m4, .ref m5, .ref m6]))] sz)) 0 0 (va_A [(am, .inr (4, [.int th, .int 0, .ref m1, .ref m2, .ref m3, .ref m4, .ref m5, .ref m6]))] sz) := by
  refine Met.ofW (cc := cX4_reach) (maxL := 6) (ret := (some .int)) (by decide) rfl ?_
  intro p e s m args below meth c s₁ B hml hv
  obtain ⟨rfl, hsz, hP, hK, hD0⟩ := hv
  have hx := B.exec
  have hb := B.bytes
  have hr := B.returns
  have hts := atoms_spec (ws := wsX4_reach) B.pre
  have hown : s.vm.findClass RX4 = some m.cls := findClass_of_methodNamed B.named
  have hlocks := B.notSynchronized
  subst hsz
  have hD := hD0.self (sz := s.heap.size)
  generalize hAe : va_A [(am, .inr (4, [.int th, .int 0, .ref m1, .ref m2, .ref m3, .ref m4, .ref m5, .ref m6]))] s.heap.size = A at hD ⊢
  have hA : ∀ q : Nat, s.heap.size ≤ q → A q := fun q h => by rw [← hAe]; exact Or.inr h
  have hS : va_S A s.heap s.heap [] := va_S.rf
  have hP : va_P (dC, dI) vwCl [(am, .inr (4, [.int th, .int 0, .ref m1, .ref m2, .ref m3, .ref m4, .ref m5, .ref m6]))] s.heap := hP
  have hl := lv_entry ([.ref am, .int za]) (n := 6) (Nat.le_of_ble_eq_true rfl)
  rw [lg_entry_eq]
  generalize (lg_sl ([.ref am, .int za]) ++ List.replicate (6 - (lg_sl ([.ref am, .int za])).length) Slot.unset).toArray = ls at hl ⊢
  have hl : lv_has ls 6 [(0, .ref am), (1, .int za)] := hl
  refine lv_aload_n hx hb dX4_reach_0 rfl (lv_at hl 0 rfl) ?_
  refine lv_iconst (v := 0) hx hb dX4_reach_1 (by decide) ?_
  refine va_put (D := (dC, dI)) (ci := 4) (v := .int 0) (ty := .int) (C := RX4) (T := TX4) (N := 8) hx hb hts in_X4_reach_X4 tyX4 tyX4_ok nmX4 hown hK hP hD hS 0 rfl rfl 0 (by decide) (hts (.fieldLink RX4 28 "VaultDoorsModel" "thrown" "I") (List.mem_of_getElem? (i := 1) rfl)) (fun _ h9 => h9) rfl (by decide +kernel) rfl rfl (Nat.le_of_ble_eq_true rfl) dX4_reach_2 (fun H locs hP hD hS => ?_)
  have hP : va_P (dC, dI) vwCl [(am, .inr (4, [.int 0, .int 0, .ref m1, .ref m2, .ref m3, .ref m4, .ref m5, .ref m6]))] H := hP
  have hD : va_D A [(am, .inr (4, [.int 0, .int 0, .ref m1, .ref m2, .ref m3, .ref m4, .ref m5, .ref m6]))] := hD
  refine lv_aload_n hx hb dX4_reach_5 rfl (lv_at hl 0 rfl) ?_
  refine lv_iload_n hx hb dX4_reach_6 rfl (lv_at hl 1 rfl) ?_
  have hPc := hP.sub (ws' := [(am, .inr (4, [.int 0, .int 0, .ref m1, .ref m2, .ref m3, .ref m4, .ref m5, .ref m6]))]) [0] rfl
  have hKc := hK.sub (tys' := []) [] rfl
  refine va_calli (va_runV (As := [.int za]) (rest := []) ⟨hx, hb, hml, hown, hts⟩ (ct_X4_isDoor l dC dI 0 za am m1 m2 m3 m4 m5 m6) (cwV 1 hts gX4_reach_X4_isDoor rfl rfl rfl (by decide +kernel) ⟨(Nat.le_of_ble_eq_true rfl), (Nat.le_of_ble_eq_true rfl)⟩) ⟨pR_blind, va_recv hKc hPc (ci := 4) (q0 := 0) rfl rfl, pR_pre hPc hKc⟩ rfl rfl hl.1 rfl (lv_room (Nat.le_of_ble_eq_true rfl)) dX4_reach_7 ⟨(Nat.le_of_ble_eq_true rfl), (Nat.le_of_ble_eq_true rfl)⟩) hS (fun q _ h => h.elim) (fun q h => h.elim) (fun r_1 u_2 t H1 locs ht hvm hw hB hz1 hk1 hS => ?_)
  have hP := hP.kept (fun k q hk => hk1 q.1 (hP k q hk).lt (fun h => h))
  generalize H1 = H at hP hS ⊢
  have hw : r_1 = 0 := hw
  subst hw
  refine lv_if_ne (tgt := 19) hx hb dX4_reach_10 (by decide) (fun h => absurd h (by decide)) (fun _ => ?_)
  refine lv_aload_n hx hb dX4_reach_13 rfl (lv_at hl 0 rfl) ?_
  refine lv_iconst (v := 1) hx hb dX4_reach_14 (by decide) ?_
  have hPc := hP.sub (ws' := [(am, .inr (4, [.int 0, .int 0, .ref m1, .ref m2, .ref m3, .ref m4, .ref m5, .ref m6]))]) [0] rfl
  have hKc := hK.sub (tys' := []) [] rfl
  have hDc := hD.sub (ws' := [(am, .inr (4, [.int 0, .int 0, .ref m1, .ref m2, .ref m3, .ref m4, .ref m5, .ref m6]))]) [0] (by decide) rfl
  have hFc := va_free (wc := [(am, .inr (4, [.int 0, .int 0, .ref m1, .ref m2, .ref m3, .ref m4, .ref m5, .ref m6]))]) hD hS hA [0] rfl
  refine va_calli (va_runV (As := [.int 1]) (rest := []) ⟨hx, hb, hml, hown, hts⟩ (ct_X4_fail l dC dI 0 1 am m1 m2 m3 m4 m5 m6 H.size) (cwV 1 hts gX4_reach_X4_fail rfl rfl rfl (by decide +kernel) ⟨(Nat.le_of_ble_eq_true rfl), (Nat.le_of_ble_eq_true rfl)⟩) ⟨pZ_blind, va_recv hKc hPc (ci := 4) (q0 := 0) rfl rfl, pZ_pre hPc hDc hKc⟩ rfl rfl hl.1 rfl (lv_room (Nat.le_of_ble_eq_true rfl)) dX4_reach_15 ⟨(Nat.le_of_ble_eq_true rfl), (Nat.le_of_ble_eq_true rfl)⟩) hS (fun q _ h => hFc q h) hFc (fun r_3 u_4 t H1 locs ht hvm hw hB hz1 hk1 hS => ?_)
  obtain ⟨hP1, hK1, hD1⟩ := hB
  rw [ht] at hP1
  have hK1 := va_K.moved hvm.symm hK1
  obtain ⟨hP, hD⟩ := va_join (wr := []) (w1 := [(am, .inr (4, [.int 1, .int 0, .ref m1, .ref m2, .ref m3, .ref m4, .ref m5, .ref m6]))]) hP hD [0] [] rfl rfl (by decide) (by decide) hk1 hFc hP1 hD1
  generalize H1 = H at hP hS ⊢
  have hP : va_P (dC, dI) vwCl [(am, .inr (4, [.int 1, .int 0, .ref m1, .ref m2, .ref m3, .ref m4, .ref m5, .ref m6]))] H := hP
  have hD : va_D A [(am, .inr (4, [.int 1, .int 0, .ref m1, .ref m2, .ref m3, .ref m4, .ref m5, .ref m6]))] := hD
  have hK : va_K (dC, dI) vwCl [] _ := hK
  have hw : r_3 = 0 := hw
  subst hw
  have hP9 := hP.sub (ws' := [(am, .inr (4, [.int 1, .int 0, .ref m1, .ref m2, .ref m3, .ref m4, .ref m5, .ref m6]))]) [0] rfl
  have hD9 := hD.sub (ws' := [(am, .inr (4, [.int 1, .int 0, .ref m1, .ref m2, .ref m3, .ref m4, .ref m5, .ref m6]))]) [0] (by decide) rfl
  have hK9 := hK.sub (tys' := []) [] rfl
  exact W.iret (v := 0) hx hb hr (fun t ht hW => ⟨⟨_, (), rfl, rfl, by rw [ht]; exact hP9, va_K.moved hW.alike hK9, hD9⟩, hS.F ht⟩) hS.2.2 dX4_reach_18

theorem in_X4_opens_X4 : ∀ w ∈ wsX40, w ∈ wsX4_opens := by decide +kernel
set_option maxHeartbeats 4000000 in
set_option maxRecDepth 100000 in
theorem ct_X4_opens (l : Launch) (dC : Nat → ClassId) (dI : Nat → Nat → Nat) (th : Int32) (za : Int32) (am : Nat) (m1 : Nat) (m2 : Nat) (m3 : Nat) (m4 : Nat) (m5 : Nat) (m6 : Nat) (sz : Nat) : Met l yX4_opens wsX4_opens ({ frames := 2, cells := 0, slots := 0, locals := 43 }) (va_Pc [.ref am, .int za] (pZ (dC, dI) [(am, .inr (4, [.int th, .int 0, .ref m1, .ref m2, .ref m3, .ref m4, .ref m5, .ref m6]))] [] sz)) (va_Qi (fun (r : Int32) (_ : Unit) => r = 0) (fun _ t => pB (dC, dI) (va_A [(am, .inr (4, [.int th, .int 0, .ref m1, .ref m2, .ref m3, .ref m4, .ref m5, .ref m6]))] sz) [(am, .inr (4, [.int 1, .int 0, .ref m1, .ref m2, .ref m3, .ref m4, .ref m5, .ref m6]))] [] t) (va_A [(am, .inr (4, [.int th, .int 0, .ref m1, .ref m2, .ref m3, .ref m4, .ref m5, .ref m6]))] sz)) 0 0 (va_A [(am, .inr (4, [.int th, .int 0, .ref m1, .ref m2, .ref m3, .ref m4, .ref m5, .ref m6]))] sz) := by
  refine Met.ofW (cc := cX4_opens) (maxL := 4) (ret := (some .int)) (by decide) rfl ?_
  intro p e s m args below meth c s₁ B hml hv
  obtain ⟨rfl, hsz, hP, hK, hD0⟩ := hv
  have hx := B.exec
  have hb := B.bytes
  have hr := B.returns
  have hts := atoms_spec (ws := wsX4_opens) B.pre
  have hown : s.vm.findClass RX4 = some m.cls := findClass_of_methodNamed B.named
  have hlocks := B.notSynchronized
  subst hsz
  have hD := hD0.self (sz := s.heap.size)
  generalize hAe : va_A [(am, .inr (4, [.int th, .int 0, .ref m1, .ref m2, .ref m3, .ref m4, .ref m5, .ref m6]))] s.heap.size = A at hD ⊢
  have hA : ∀ q : Nat, s.heap.size ≤ q → A q := fun q h => by rw [← hAe]; exact Or.inr h
  have hS : va_S A s.heap s.heap [] := va_S.rf
  have hP : va_P (dC, dI) vwCl [(am, .inr (4, [.int th, .int 0, .ref m1, .ref m2, .ref m3, .ref m4, .ref m5, .ref m6]))] s.heap := hP
  have hl := lv_entry ([.ref am, .int za]) (n := 4) (Nat.le_of_ble_eq_true rfl)
  rw [lg_entry_eq]
  generalize (lg_sl ([.ref am, .int za]) ++ List.replicate (4 - (lg_sl ([.ref am, .int za])).length) Slot.unset).toArray = ls at hl ⊢
  have hl : lv_has ls 4 [(0, .ref am), (1, .int za)] := hl
  refine lv_aload_n hx hb dX4_opens_0 rfl (lv_at hl 0 rfl) ?_
  refine lv_iconst (v := 0) hx hb dX4_opens_1 (by decide) ?_
  refine va_put (D := (dC, dI)) (ci := 4) (v := .int 0) (ty := .int) (C := RX4) (T := TX4) (N := 8) hx hb hts in_X4_opens_X4 tyX4 tyX4_ok nmX4 hown hK hP hD hS 0 rfl rfl 0 (by decide) (hts (.fieldLink RX4 28 "VaultDoorsModel" "thrown" "I") (List.mem_of_getElem? (i := 1) rfl)) (fun _ h9 => h9) rfl (by decide +kernel) rfl rfl (Nat.le_of_ble_eq_true rfl) dX4_opens_2 (fun H locs hP hD hS => ?_)
  have hP : va_P (dC, dI) vwCl [(am, .inr (4, [.int 0, .int 0, .ref m1, .ref m2, .ref m3, .ref m4, .ref m5, .ref m6]))] H := hP
  have hD : va_D A [(am, .inr (4, [.int 0, .int 0, .ref m1, .ref m2, .ref m3, .ref m4, .ref m5, .ref m6]))] := hD
  refine lv_aload_n hx hb dX4_opens_5 rfl (lv_at hl 0 rfl) ?_
  refine lv_iload_n hx hb dX4_opens_6 rfl (lv_at hl 1 rfl) ?_
  have hPc := hP.sub (ws' := [(am, .inr (4, [.int 0, .int 0, .ref m1, .ref m2, .ref m3, .ref m4, .ref m5, .ref m6]))]) [0] rfl
  have hKc := hK.sub (tys' := []) [] rfl
  refine va_calli (va_runV (As := [.int za]) (rest := []) ⟨hx, hb, hml, hown, hts⟩ (ct_X4_isDoor l dC dI 0 za am m1 m2 m3 m4 m5 m6) (cwV 1 hts gX4_opens_X4_isDoor rfl rfl rfl (by decide +kernel) ⟨(Nat.le_of_ble_eq_true rfl), (Nat.le_of_ble_eq_true rfl)⟩) ⟨pR_blind, va_recv hKc hPc (ci := 4) (q0 := 0) rfl rfl, pR_pre hPc hKc⟩ rfl rfl hl.1 rfl (lv_room (Nat.le_of_ble_eq_true rfl)) dX4_opens_7 ⟨(Nat.le_of_ble_eq_true rfl), (Nat.le_of_ble_eq_true rfl)⟩) hS (fun q _ h => h.elim) (fun q h => h.elim) (fun r_1 u_2 t H1 locs ht hvm hw hB hz1 hk1 hS => ?_)
  have hP := hP.kept (fun k q hk => hk1 q.1 (hP k q hk).lt (fun h => h))
  generalize H1 = H at hP hS ⊢
  have hw : r_1 = 0 := hw
  subst hw
  refine lv_if_ne (tgt := 19) hx hb dX4_opens_10 (by decide) (fun h => absurd h (by decide)) (fun _ => ?_)
  refine lv_aload_n hx hb dX4_opens_13 rfl (lv_at hl 0 rfl) ?_
  refine lv_iconst (v := 1) hx hb dX4_opens_14 (by decide) ?_
  have hPc := hP.sub (ws' := [(am, .inr (4, [.int 0, .int 0, .ref m1, .ref m2, .ref m3, .ref m4, .ref m5, .ref m6]))]) [0] rfl
  have hKc := hK.sub (tys' := []) [] rfl
  have hDc := hD.sub (ws' := [(am, .inr (4, [.int 0, .int 0, .ref m1, .ref m2, .ref m3, .ref m4, .ref m5, .ref m6]))]) [0] (by decide) rfl
  have hFc := va_free (wc := [(am, .inr (4, [.int 0, .int 0, .ref m1, .ref m2, .ref m3, .ref m4, .ref m5, .ref m6]))]) hD hS hA [0] rfl
  refine va_calli (va_runV (As := [.int 1]) (rest := []) ⟨hx, hb, hml, hown, hts⟩ (ct_X4_fail l dC dI 0 1 am m1 m2 m3 m4 m5 m6 H.size) (cwV 1 hts gX4_opens_X4_fail rfl rfl rfl (by decide +kernel) ⟨(Nat.le_of_ble_eq_true rfl), (Nat.le_of_ble_eq_true rfl)⟩) ⟨pZ_blind, va_recv hKc hPc (ci := 4) (q0 := 0) rfl rfl, pZ_pre hPc hDc hKc⟩ rfl rfl hl.1 rfl (lv_room (Nat.le_of_ble_eq_true rfl)) dX4_opens_15 ⟨(Nat.le_of_ble_eq_true rfl), (Nat.le_of_ble_eq_true rfl)⟩) hS (fun q _ h => hFc q h) hFc (fun r_3 u_4 t H1 locs ht hvm hw hB hz1 hk1 hS => ?_)
  obtain ⟨hP1, hK1, hD1⟩ := hB
  rw [ht] at hP1
  have hK1 := va_K.moved hvm.symm hK1
  obtain ⟨hP, hD⟩ := va_join (wr := []) (w1 := [(am, .inr (4, [.int 1, .int 0, .ref m1, .ref m2, .ref m3, .ref m4, .ref m5, .ref m6]))]) hP hD [0] [] rfl rfl (by decide) (by decide) hk1 hFc hP1 hD1
  generalize H1 = H at hP hS ⊢
  have hP : va_P (dC, dI) vwCl [(am, .inr (4, [.int 1, .int 0, .ref m1, .ref m2, .ref m3, .ref m4, .ref m5, .ref m6]))] H := hP
  have hD : va_D A [(am, .inr (4, [.int 1, .int 0, .ref m1, .ref m2, .ref m3, .ref m4, .ref m5, .ref m6]))] := hD
  have hK : va_K (dC, dI) vwCl [] _ := hK
  have hw : r_3 = 0 := hw
  subst hw
  have hP9 := hP.sub (ws' := [(am, .inr (4, [.int 1, .int 0, .ref m1, .ref m2, .ref m3, .ref m4, .ref m5, .ref m6]))]) [0] rfl
  have hD9 := hD.sub (ws' := [(am, .inr (4, [.int 1, .int 0, .ref m1, .ref m2, .ref m3, .ref m4, .ref m5, .ref m6]))]) [0] (by decide) rfl
  have hK9 := hK.sub (tys' := []) [] rfl
  exact W.iret (v := 0) hx hb hr (fun t ht hW => ⟨⟨_, (), rfl, rfl, by rw [ht]; exact hP9, va_K.moved hW.alike hK9, hD9⟩, hS.F ht⟩) hS.2.2 dX4_opens_18

theorem in_X4_would_X4 : ∀ w ∈ wsX40, w ∈ wsX4_would := by decide +kernel
set_option maxHeartbeats 4000000 in
set_option maxRecDepth 100000 in
theorem ct_X4_would (l : Launch) (dC : Nat → ClassId) (dI : Nat → Nat → Nat) (th : Int32) (za : Int32) (zb : Int32) (am : Nat) (m1 : Nat) (m2 : Nat) (m3 : Nat) (m4 : Nat) (m5 : Nat) (m6 : Nat) (sz : Nat) : Met l yX4_would wsX4_would ({ frames := 2, cells := 0, slots := 0, locals := 43 }) (va_Pc [.ref am, .int za, .int zb] (pZ (dC, dI) [(am, .inr (4, [.int th, .int 0, .ref m1, .ref m2, .ref m3, .ref m4, .ref m5, .ref m6]))] [] sz)) (va_Qi (fun (r : Int32) (_ : Unit) => r = 0) (fun _ t => pB (dC, dI) (va_A [(am, .inr (4, [.int th, .int 0, .ref m1, .ref m2, .ref m3, .ref m4, .ref m5, .ref m6]))] sz) [(am, .inr (4, [.int 1, .int 0, .ref m1, .ref m2, .ref m3, .ref m4, .ref m5, .ref m6]))] [] t) (va_A [(am, .inr (4, [.int th, .int 0, .ref m1, .ref m2, .ref m3, .ref m4, .ref m5, .ref m6]))] sz)) 0 0 (va_A [(am, .inr (4, [.int th, .int 0, .ref m1, .ref m2, .ref m3, .ref m4, .ref m5, .ref m6]))] sz) := by
  refine Met.ofW (cc := cX4_would) (maxL := 3) (ret := (some .int)) (by decide) rfl ?_
  intro p e s m args below meth c s₁ B hml hv
  obtain ⟨rfl, hsz, hP, hK, hD0⟩ := hv
  have hx := B.exec
  have hb := B.bytes
  have hr := B.returns
  have hts := atoms_spec (ws := wsX4_would) B.pre
  have hown : s.vm.findClass RX4 = some m.cls := findClass_of_methodNamed B.named
  have hlocks := B.notSynchronized
  subst hsz
  have hD := hD0.self (sz := s.heap.size)
  generalize hAe : va_A [(am, .inr (4, [.int th, .int 0, .ref m1, .ref m2, .ref m3, .ref m4, .ref m5, .ref m6]))] s.heap.size = A at hD ⊢
  have hA : ∀ q : Nat, s.heap.size ≤ q → A q := fun q h => by rw [← hAe]; exact Or.inr h
  have hS : va_S A s.heap s.heap [] := va_S.rf
  have hP : va_P (dC, dI) vwCl [(am, .inr (4, [.int th, .int 0, .ref m1, .ref m2, .ref m3, .ref m4, .ref m5, .ref m6]))] s.heap := hP
  have hl := lv_entry ([.ref am, .int za, .int zb]) (n := 3) (Nat.le_of_ble_eq_true rfl)
  rw [lg_entry_eq]
  generalize (lg_sl ([.ref am, .int za, .int zb]) ++ List.replicate (3 - (lg_sl ([.ref am, .int za, .int zb])).length) Slot.unset).toArray = ls at hl ⊢
  have hl : lv_has ls 3 [(0, .ref am), (1, .int za), (2, .int zb)] := hl
  refine lv_aload_n hx hb dX4_would_0 rfl (lv_at hl 0 rfl) ?_
  refine lv_iconst (v := 0) hx hb dX4_would_1 (by decide) ?_
  refine va_put (D := (dC, dI)) (ci := 4) (v := .int 0) (ty := .int) (C := RX4) (T := TX4) (N := 8) hx hb hts in_X4_would_X4 tyX4 tyX4_ok nmX4 hown hK hP hD hS 0 rfl rfl 0 (by decide) (hts (.fieldLink RX4 28 "VaultDoorsModel" "thrown" "I") (List.mem_of_getElem? (i := 1) rfl)) (fun _ h9 => h9) rfl (by decide +kernel) rfl rfl (Nat.le_of_ble_eq_true rfl) dX4_would_2 (fun H locs hP hD hS => ?_)
  have hP : va_P (dC, dI) vwCl [(am, .inr (4, [.int 0, .int 0, .ref m1, .ref m2, .ref m3, .ref m4, .ref m5, .ref m6]))] H := hP
  have hD : va_D A [(am, .inr (4, [.int 0, .int 0, .ref m1, .ref m2, .ref m3, .ref m4, .ref m5, .ref m6]))] := hD
  refine lv_aload_n hx hb dX4_would_5 rfl (lv_at hl 0 rfl) ?_
  refine lv_iload_n hx hb dX4_would_6 rfl (lv_at hl 1 rfl) ?_
  have hPc := hP.sub (ws' := [(am, .inr (4, [.int 0, .int 0, .ref m1, .ref m2, .ref m3, .ref m4, .ref m5, .ref m6]))]) [0] rfl
  have hKc := hK.sub (tys' := []) [] rfl
  refine va_calli (va_runV (As := [.int za]) (rest := []) ⟨hx, hb, hml, hown, hts⟩ (ct_X4_isDoor l dC dI 0 za am m1 m2 m3 m4 m5 m6) (cwV 1 hts gX4_would_X4_isDoor rfl rfl rfl (by decide +kernel) ⟨(Nat.le_of_ble_eq_true rfl), (Nat.le_of_ble_eq_true rfl)⟩) ⟨pR_blind, va_recv hKc hPc (ci := 4) (q0 := 0) rfl rfl, pR_pre hPc hKc⟩ rfl rfl hl.1 rfl (lv_room (Nat.le_of_ble_eq_true rfl)) dX4_would_7 ⟨(Nat.le_of_ble_eq_true rfl), (Nat.le_of_ble_eq_true rfl)⟩) hS (fun q _ h => h.elim) (fun q h => h.elim) (fun r_1 u_2 t H1 locs ht hvm hw hB hz1 hk1 hS => ?_)
  have hP := hP.kept (fun k q hk => hk1 q.1 (hP k q hk).lt (fun h => h))
  generalize H1 = H at hP hS ⊢
  have hw : r_1 = 0 := hw
  subst hw
  refine lv_if_ne (tgt := 19) hx hb dX4_would_10 (by decide) (fun h => absurd h (by decide)) (fun _ => ?_)
  refine lv_aload_n hx hb dX4_would_13 rfl (lv_at hl 0 rfl) ?_
  refine lv_iconst (v := 1) hx hb dX4_would_14 (by decide) ?_
  have hPc := hP.sub (ws' := [(am, .inr (4, [.int 0, .int 0, .ref m1, .ref m2, .ref m3, .ref m4, .ref m5, .ref m6]))]) [0] rfl
  have hKc := hK.sub (tys' := []) [] rfl
  have hDc := hD.sub (ws' := [(am, .inr (4, [.int 0, .int 0, .ref m1, .ref m2, .ref m3, .ref m4, .ref m5, .ref m6]))]) [0] (by decide) rfl
  have hFc := va_free (wc := [(am, .inr (4, [.int 0, .int 0, .ref m1, .ref m2, .ref m3, .ref m4, .ref m5, .ref m6]))]) hD hS hA [0] rfl
  refine va_calli (va_runV (As := [.int 1]) (rest := []) ⟨hx, hb, hml, hown, hts⟩ (ct_X4_fail l dC dI 0 1 am m1 m2 m3 m4 m5 m6 H.size) (cwV 1 hts gX4_would_X4_fail rfl rfl rfl (by decide +kernel) ⟨(Nat.le_of_ble_eq_true rfl), (Nat.le_of_ble_eq_true rfl)⟩) ⟨pZ_blind, va_recv hKc hPc (ci := 4) (q0 := 0) rfl rfl, pZ_pre hPc hDc hKc⟩ rfl rfl hl.1 rfl (lv_room (Nat.le_of_ble_eq_true rfl)) dX4_would_15 ⟨(Nat.le_of_ble_eq_true rfl), (Nat.le_of_ble_eq_true rfl)⟩) hS (fun q _ h => hFc q h) hFc (fun r_3 u_4 t H1 locs ht hvm hw hB hz1 hk1 hS => ?_)
  obtain ⟨hP1, hK1, hD1⟩ := hB
  rw [ht] at hP1
  have hK1 := va_K.moved hvm.symm hK1
  obtain ⟨hP, hD⟩ := va_join (wr := []) (w1 := [(am, .inr (4, [.int 1, .int 0, .ref m1, .ref m2, .ref m3, .ref m4, .ref m5, .ref m6]))]) hP hD [0] [] rfl rfl (by decide) (by decide) hk1 hFc hP1 hD1
  generalize H1 = H at hP hS ⊢
  have hP : va_P (dC, dI) vwCl [(am, .inr (4, [.int 1, .int 0, .ref m1, .ref m2, .ref m3, .ref m4, .ref m5, .ref m6]))] H := hP
  have hD : va_D A [(am, .inr (4, [.int 1, .int 0, .ref m1, .ref m2, .ref m3, .ref m4, .ref m5, .ref m6]))] := hD
  have hK : va_K (dC, dI) vwCl [] _ := hK
  have hw : r_3 = 0 := hw
  subst hw
  have hP9 := hP.sub (ws' := [(am, .inr (4, [.int 1, .int 0, .ref m1, .ref m2, .ref m3, .ref m4, .ref m5, .ref m6]))]) [0] rfl
  have hD9 := hD.sub (ws' := [(am, .inr (4, [.int 1, .int 0, .ref m1, .ref m2, .ref m3, .ref m4, .ref m5, .ref m6]))]) [0] (by decide) rfl
  have hK9 := hK.sub (tys' := []) [] rfl
  exact W.iret (v := 0) hx hb hr (fun t ht hW => ⟨⟨_, (), rfl, rfl, by rw [ht]; exact hP9, va_K.moved hW.alike hK9, hD9⟩, hS.F ht⟩) hS.2.2 dX4_would_18
