theorem in_X4_voice_X4 : ∀ w ∈ wsX40, w ∈ wsX4_voice := by decide +kernel
set_option maxHeartbeats 4000000 in
set_option maxRecDepth 100000 in
theorem ct_X4_voice (l : Launch) (dC : Nat → ClassId) (dI : Nat → Nat → Nat) (th : Int32) (za : Int32) (zb : Int32) (am : Nat) (m1 : Nat) (m2 : Nat) (m3 : Nat) (m4 : Nat) (m5 : Nat) (m6 : Nat) (cN : ClassId) (sz : Nat) : Met l yX4_voice wsX4_voice ({ frames := 1, cells := 0, slots := 0, locals := 22 }) (va_Pc [.ref am, .int za, .int zb] (pZ (dC, dI) [(am, .inr (4, [.int th, .int 0, .ref m1, .ref m2, .ref m3, .ref m4, .ref m5, .ref m6])), (m5, .inl (cN, 3, .inl (fun _ => 0)))] [(cN, .int)] sz)) (va_Qi (fun (r : Int32) (_ : Unit) => r = 0) (fun _ t => pB (dC, dI) (va_A [(am, .inr (4, [.int th, .int 0, .ref m1, .ref m2, .ref m3, .ref m4, .ref m5, .ref m6])), (m5, .inl (cN, 3, .inl (fun _ => 0)))] sz) [(am, .inr (4, [.int 1, .int 0, .ref m1, .ref m2, .ref m3, .ref m4, .ref m5, .ref m6]))] [] t) (va_A [(am, .inr (4, [.int th, .int 0, .ref m1, .ref m2, .ref m3, .ref m4, .ref m5, .ref m6])), (m5, .inl (cN, 3, .inl (fun _ => 0)))] sz)) 0 0 (va_A [(am, .inr (4, [.int th, .int 0, .ref m1, .ref m2, .ref m3, .ref m4, .ref m5, .ref m6])), (m5, .inl (cN, 3, .inl (fun _ => 0)))] sz) := by
  refine Met.ofW (cc := cX4_voice) (maxL := 3) (ret := (some .int)) (by decide) rfl ?_
  intro p e s m args below meth c s₁ B hml hv
  obtain ⟨rfl, hsz, hP, hK, hD0⟩ := hv
  have hx := B.exec
  have hb := B.bytes
  have hr := B.returns
  have hts := atoms_spec (ws := wsX4_voice) B.pre
  have hown : s.vm.findClass RX4 = some m.cls := findClass_of_methodNamed B.named
  have hlocks := B.notSynchronized
  subst hsz
  have hD := hD0.self (sz := s.heap.size)
  generalize hAe : va_A [(am, .inr (4, [.int th, .int 0, .ref m1, .ref m2, .ref m3, .ref m4, .ref m5, .ref m6])), (m5, .inl (cN, 3, .inl (fun _ => 0)))] s.heap.size = A at hD ⊢
  have hA : ∀ q : Nat, s.heap.size ≤ q → A q := fun q h => by rw [← hAe]; exact Or.inr h
  have hS : va_S A s.heap s.heap [] := va_S.rf
  have hP : va_P (dC, dI) vwCl [(am, .inr (4, [.int th, .int 0, .ref m1, .ref m2, .ref m3, .ref m4, .ref m5, .ref m6])), (m5, .inl (cN, 3, .inl (fun _ => 0)))] s.heap := hP
  have hl := lv_entry ([.ref am, .int za, .int zb]) (n := 3) (Nat.le_of_ble_eq_true rfl)
  rw [lg_entry_eq]
  generalize (lg_sl ([.ref am, .int za, .int zb]) ++ List.replicate (3 - (lg_sl ([.ref am, .int za, .int zb])).length) Slot.unset).toArray = ls at hl ⊢
  have hl : lv_has ls 3 [(0, .ref am), (1, .int za), (2, .int zb)] := hl
  refine lv_aload_n hx hb dX4_voice_0 rfl (lv_at hl 0 rfl) ?_
  refine lv_iconst (v := 0) hx hb dX4_voice_1 (by decide) ?_
  refine va_put (D := (dC, dI)) (ci := 4) (v := .int 0) (ty := .int) (C := RX4) (T := TX4) (N := 8) hx hb hts in_X4_voice_X4 tyX4 tyX4_ok nmX4 hown hK hP hD hS 0 rfl rfl 0 (by decide) (hts (.fieldLink RX4 28 "VaultDoorsModel" "thrown" "I") (List.mem_of_getElem? (i := 1) rfl)) (fun _ h9 => h9) rfl (by decide +kernel) rfl rfl (Nat.le_of_ble_eq_true rfl) dX4_voice_2 (fun H locs hP hD hS => ?_)
  have hP : va_P (dC, dI) vwCl [(am, .inr (4, [.int 0, .int 0, .ref m1, .ref m2, .ref m3, .ref m4, .ref m5, .ref m6])), (m5, .inl (cN, 3, .inl (fun _ => 0)))] H := hP
  have hD : va_D A [(am, .inr (4, [.int 0, .int 0, .ref m1, .ref m2, .ref m3, .ref m4, .ref m5, .ref m6])), (m5, .inl (cN, 3, .inl (fun _ => 0)))] := hD
  refine lv_iload_n hx hb dX4_voice_5 rfl (lv_at hl 1 rfl) ?_
  refine lv_iconst (v := 0) hx hb dX4_voice_6 (by decide) ?_
  refine lv_aload_n hx hb dX4_voice_7 rfl (lv_at hl 0 rfl) ?_
  refine va_get (D := (dC, dI)) (ci := 4) (v := .ref m5) (C := RX4) (T := TX4) (N := 8) hx hb hts in_X4_voice_X4 hown hK hP 0 rfl rfl 6 (by decide) (hts (.fieldLink RX4 22 "VaultDoorsModel" "numbers" "[I") (List.mem_of_getElem? (i := 2) rfl)) (fun _ h9 => h9) rfl dX4_voice_8 ?_
  refine lv_iconst (v := 1) hx hb dX4_voice_11 (by decide) ?_
  refine va_iald (D := (dC, dI)) hx hb hK hP 1 0 rfl rfl (i := 1) (vs_vi (by decide)) dX4_voice_12 ?_
  refine W.eq (g2 := F0 m 13 ls [.int 0, .int 0, .int za]) rfl ?_
  refine lv_iconst (v := 1) hx hb dX4_voice_13 (by decide) ?_
  refine lv_isub hx hb dX4_voice_14 ?_
  refine lv_topi (nm_r (e' := (-1)) (by decide) ?_)
  have hPc := hP.sub (ws' := []) [] rfl
  have hKc := hK.sub (tys' := []) [] rfl
  refine va_calli (va_runS (As := [.int za, .int 0, .int (-1)]) (rest := []) ⟨hx, hb, hml, hown, hts⟩ (ct_X4_isIn l dC dI za 0 ((-1))) (va_cwS 3 hts gX4_voice_X4_isIn rfl rfl rfl (by decide +kernel) ⟨(Nat.le_of_ble_eq_true rfl), (Nat.le_of_ble_eq_true rfl)⟩) ⟨pR_blind, pR_pre hPc hKc⟩ rfl rfl hl.1 rfl (lv_room (Nat.le_of_ble_eq_true rfl)) dX4_voice_15 ⟨(Nat.le_of_ble_eq_true rfl), (Nat.le_of_ble_eq_true rfl)⟩) hS (fun q _ h => h.elim) (fun q h => h.elim) (fun r_1 u_2 t H1 locs ht hvm hw hB hz1 hk1 hS => ?_)
  have hP := hP.kept (fun k q hk => hk1 q.1 (hP k q hk).lt (fun h => h))
  generalize H1 = H at hP hS ⊢
  have hw : r_1 = vs_in za 0 (-1) := hw
  subst hw
  rw [vs_in_neg]
  refine lv_if_eq (tgt := 43) hx hb dX4_voice_18 (by decide) (fun _ => ?_) (fun h => absurd h (by decide))
  refine lv_aload_n hx hb dX4_voice_43 rfl (lv_at hl 0 rfl) ?_
  refine lv_iconst (v := 1) hx hb dX4_voice_44 (by decide) ?_
  have hPc := hP.sub (ws' := [(am, .inr (4, [.int 0, .int 0, .ref m1, .ref m2, .ref m3, .ref m4, .ref m5, .ref m6]))]) [0] rfl
  have hKc := hK.sub (tys' := []) [] rfl
  have hDc := hD.sub (ws' := [(am, .inr (4, [.int 0, .int 0, .ref m1, .ref m2, .ref m3, .ref m4, .ref m5, .ref m6]))]) [0] (by decide) rfl
  have hFc := va_free (wc := [(am, .inr (4, [.int 0, .int 0, .ref m1, .ref m2, .ref m3, .ref m4, .ref m5, .ref m6]))]) hD hS hA [0] rfl
  refine va_calli (va_runV (As := [.int 1]) (rest := []) ⟨hx, hb, hml, hown, hts⟩ (ct_X4_fail l dC dI 0 1 am m1 m2 m3 m4 m5 m6 H.size) (cwV 1 hts gX4_voice_X4_fail rfl rfl rfl (by decide +kernel) ⟨(Nat.le_of_ble_eq_true rfl), (Nat.le_of_ble_eq_true rfl)⟩) ⟨pZ_blind, va_recv hKc hPc (ci := 4) (q0 := 0) rfl rfl, pZ_pre hPc hDc hKc⟩ rfl rfl hl.1 rfl (lv_room (Nat.le_of_ble_eq_true rfl)) dX4_voice_45 ⟨(Nat.le_of_ble_eq_true rfl), (Nat.le_of_ble_eq_true rfl)⟩) hS (fun q _ h => hFc q h) hFc (fun r_3 u_4 t H1 locs ht hvm hw hB hz1 hk1 hS => ?_)
  obtain ⟨hP1, hK1, hD1⟩ := hB
  rw [ht] at hP1
  have hK1 := va_K.moved hvm.symm hK1
  obtain ⟨hP, hD⟩ := va_join (wr := [(m5, .inl (cN, 3, .inl (fun _ => 0)))]) (w1 := [(am, .inr (4, [.int 1, .int 0, .ref m1, .ref m2, .ref m3, .ref m4, .ref m5, .ref m6]))]) hP hD [0] [1] rfl rfl (by decide) (by decide) hk1 hFc hP1 hD1
  generalize H1 = H at hP hS ⊢
  have hP : va_P (dC, dI) vwCl [(m5, .inl (cN, 3, .inl (fun _ => 0))), (am, .inr (4, [.int 1, .int 0, .ref m1, .ref m2, .ref m3, .ref m4, .ref m5, .ref m6]))] H := hP
  have hD : va_D A [(m5, .inl (cN, 3, .inl (fun _ => 0))), (am, .inr (4, [.int 1, .int 0, .ref m1, .ref m2, .ref m3, .ref m4, .ref m5, .ref m6]))] := hD
  have hK : va_K (dC, dI) vwCl [(cN, .int)] _ := hK
  have hw : r_3 = 0 := hw
  subst hw
  have hP9 := hP.sub (ws' := [(am, .inr (4, [.int 1, .int 0, .ref m1, .ref m2, .ref m3, .ref m4, .ref m5, .ref m6]))]) [1] rfl
  have hD9 := hD.sub (ws' := [(am, .inr (4, [.int 1, .int 0, .ref m1, .ref m2, .ref m3, .ref m4, .ref m5, .ref m6]))]) [1] (by decide) rfl
  have hK9 := hK.sub (tys' := []) [] rfl
  exact W.iret (v := 0) hx hb hr (fun t ht hW => ⟨⟨_, (), rfl, rfl, by rw [ht]; exact hP9, va_K.moved hW.alike hK9, hD9⟩, hS.F ht⟩) hS.2.2 dX4_voice_48

theorem in_X4_openOnes_X4 : ∀ w ∈ wsX40, w ∈ wsX4_openOnes := by decide +kernel
set_option maxHeartbeats 4000000 in
set_option maxRecDepth 100000 in
theorem ct_X4_openOnes (l : Launch) (dC : Nat → ClassId) (dI : Nat → Nat → Nat) (th : Int32) (am : Nat) (m1 : Nat) (m2 : Nat) (m3 : Nat) (m4 : Nat) (m5 : Nat) (m6 : Nat) : Met l yX4_openOnes wsX4_openOnes ({ frames := 0, cells := 0, slots := 0, locals := 0 }) (va_Pc [.ref am] (pR (dC, dI) [(am, .inr (4, [.int th, .int 0, .ref m1, .ref m2, .ref m3, .ref m4, .ref m5, .ref m6]))] [])) (va_Qi (fun (r : Int32) (_ : Unit) => r = 0) (fun _ _ => True) (fun _ => False)) 0 0 (fun _ => False) := by
  refine Met.ofW (cc := cX4_openOnes) (maxL := 3) (ret := (some .int)) (by decide) rfl ?_
  intro p e s m args below meth c s₁ B hml hv
  obtain ⟨rfl, hP, hK⟩ := hv
  have hx := B.exec
  have hb := B.bytes
  have hr := B.returns
  have hts := atoms_spec (ws := wsX4_openOnes) B.pre
  have hown : s.vm.findClass RX4 = some m.cls := findClass_of_methodNamed B.named
  have hlocks := B.notSynchronized
  have hS : va_S (fun _ => False) s.heap s.heap [] := va_S.rf
  have hP : va_P (dC, dI) vwCl [(am, .inr (4, [.int th, .int 0, .ref m1, .ref m2, .ref m3, .ref m4, .ref m5, .ref m6]))] s.heap := hP
  have hl := lv_entry ([.ref am]) (n := 3) (Nat.le_of_ble_eq_true rfl)
  rw [lg_entry_eq]
  generalize (lg_sl ([.ref am]) ++ List.replicate (3 - (lg_sl ([.ref am])).length) Slot.unset).toArray = ls at hl ⊢
  have hl : lv_has ls 3 [(0, .ref am)] := hl
  refine lv_iconst (v := 0) hx hb dX4_openOnes_0 (by decide) ?_
  refine lv_istore_n (lv' := [(1, .int 0), (0, .ref am)]) hx hb dX4_openOnes_1 rfl hl (by decide) rfl (fun ls hl => ?_)
  refine lv_iconst (v := 0) hx hb dX4_openOnes_2 (by decide) ?_
  refine lv_istore_n (lv' := [(2, .int 0), (1, .int 0), (0, .ref am)]) hx hb dX4_openOnes_3 rfl hl (by decide) rfl (fun ls hl => ?_)
  refine lv_iload_n hx hb dX4_openOnes_4 rfl (lv_at hl 0 rfl) ?_
  refine lv_aload_n hx hb dX4_openOnes_5 rfl (lv_at hl 2 rfl) ?_
  refine va_get (D := (dC, dI)) (ci := 4) (v := .int 0) (C := RX4) (T := TX4) (N := 8) hx hb hts in_X4_openOnes_X4 hown hK hP 0 rfl rfl 1 (by decide) (hts (.fieldLink RX4 32 "VaultDoorsModel" "doors" "I") (List.mem_of_getElem? (i := 1) rfl)) (fun _ h9 => h9) rfl dX4_openOnes_6 ?_
  refine lv_icmp_ge (tgt := 38) hx hb dX4_openOnes_9 (by decide) (fun _ => ?_) (fun h => absurd h (by decide))
  refine lv_iload_n hx hb dX4_openOnes_38 rfl (lv_at hl 1 rfl) ?_
  exact W.iret (v := 0) hx hb hr (fun t ht hW => ⟨⟨_, (), rfl, rfl, trivial⟩, hS.F ht⟩) hS.2.2 dX4_openOnes_39

theorem in_X4_counted_X4 : ∀ w ∈ wsX40, w ∈ wsX4_counted := by decide +kernel
set_option maxHeartbeats 4000000 in
set_option maxRecDepth 100000 in
theorem ct_X4_counted (l : Launch) (dC : Nat → ClassId) (dI : Nat → Nat → Nat) (th : Int32) (zn : Int32) (am : Nat) (m1 : Nat) (m2 : Nat) (m3 : Nat) (m4 : Nat) (m5 : Nat) (m6 : Nat) (cN : ClassId) : Met l yX4_counted wsX4_counted ({ frames := 1, cells := 0, slots := 0, locals := 22 }) (va_Pc [.ref am, .int zn] (pR (dC, dI) [(am, .inr (4, [.int th, .int 0, .ref m1, .ref m2, .ref m3, .ref m4, .ref m5, .ref m6])), (m5, .inl (cN, 3, .inl (fun _ => 0)))] [(cN, .int)])) (va_Qi (fun (r : Int32) (_ : Unit) => r = 0) (fun _ _ => True) (fun _ => False)) 0 0 (fun _ => False) := by
  refine Met.ofW (cc := cX4_counted) (maxL := 4) (ret := (some .int)) (by decide) rfl ?_
  intro p e s m args below meth c s₁ B hml hv
  obtain ⟨rfl, hP, hK⟩ := hv
  have hx := B.exec
  have hb := B.bytes
  have hr := B.returns
  have hts := atoms_spec (ws := wsX4_counted) B.pre
  have hown : s.vm.findClass RX4 = some m.cls := findClass_of_methodNamed B.named
  have hlocks := B.notSynchronized
  have hS : va_S (fun _ => False) s.heap s.heap [] := va_S.rf
  have hP : va_P (dC, dI) vwCl [(am, .inr (4, [.int th, .int 0, .ref m1, .ref m2, .ref m3, .ref m4, .ref m5, .ref m6])), (m5, .inl (cN, 3, .inl (fun _ => 0)))] s.heap := hP
  have hl := lv_entry ([.ref am, .int zn]) (n := 4) (Nat.le_of_ble_eq_true rfl)
  rw [lg_entry_eq]
  generalize (lg_sl ([.ref am, .int zn]) ++ List.replicate (4 - (lg_sl ([.ref am, .int zn])).length) Slot.unset).toArray = ls at hl ⊢
  have hl : lv_has ls 4 [(0, .ref am), (1, .int zn)] := hl
  refine lv_iconst (v := 0) hx hb dX4_counted_0 (by decide) ?_
  refine lv_istore_n (lv' := [(2, .int 0), (0, .ref am), (1, .int zn)]) hx hb dX4_counted_1 rfl hl (by decide) rfl (fun ls hl => ?_)
  refine lv_iload_n hx hb dX4_counted_2 rfl (lv_at hl 2 rfl) ?_
  rcases vs_sw8 zn with sw_1 | rfl | rfl | rfl | rfl | rfl | rfl | rfl | rfl
  · refine lv_tableOut (tgt := 112) hx hb dX4_counted_3 sw_1 (by decide) ?_
    refine lv_aload_n hx hb dX4_counted_112 rfl (lv_at hl 1 rfl) ?_
    have hPc := hP.sub (ws' := [(am, .inr (4, [.int th, .int 0, .ref m1, .ref m2, .ref m3, .ref m4, .ref m5, .ref m6]))]) [0] rfl
    have hKc := hK.sub (tys' := []) [] rfl
    refine va_calli (va_runV (As := []) (rest := []) ⟨hx, hb, hml, hown, hts⟩ (ct_X4_openOnes l dC dI th am m1 m2 m3 m4 m5 m6) (cwV 0 hts gX4_counted_X4_openOnes rfl rfl rfl (by decide +kernel) ⟨(Nat.le_of_ble_eq_true rfl), (Nat.le_of_ble_eq_true rfl)⟩) ⟨pR_blind, va_recv hKc hPc (ci := 4) (q0 := 0) rfl rfl, pR_pre hPc hKc⟩ rfl rfl hl.1 rfl (lv_room (Nat.le_of_ble_eq_true rfl)) dX4_counted_113 ⟨(Nat.le_of_ble_eq_true rfl), (Nat.le_of_ble_eq_true rfl)⟩) hS (fun q _ h => h.elim) (fun q h => h.elim) (fun r_2 u_3 t H1 locs ht hvm hw hB hz1 hk1 hS => ?_)
    have hP := hP.kept (fun k q hk => hk1 q.1 (hP k q hk).lt (fun h => h))
    generalize H1 = H at hP hS ⊢
    have hw : r_2 = 0 := hw
    subst hw
    exact W.iret (v := 0) hx hb hr (fun t ht hW => ⟨⟨_, (), rfl, rfl, trivial⟩, hS.F ht⟩) hS.2.2 dX4_counted_116
  · refine lv_tableIn (off := 45) (tgt := 48) hx hb dX4_counted_3 (by decide) (by decide) (by decide) (by decide) ?_
    refine lv_aload_n hx hb dX4_counted_48 rfl (lv_at hl 1 rfl) ?_
    refine va_get (D := (dC, dI)) (ci := 4) (v := .ref m5) (C := RX4) (T := TX4) (N := 8) hx hb hts in_X4_counted_X4 hown hK hP 0 rfl rfl 6 (by decide) (hts (.fieldLink RX4 22 "VaultDoorsModel" "numbers" "[I") (List.mem_of_getElem? (i := 1) rfl)) (fun _ h9 => h9) rfl dX4_counted_49 ?_
    refine lv_iconst (v := 0) hx hb dX4_counted_52 (by decide) ?_
    refine va_iald (D := (dC, dI)) hx hb hK hP 1 0 rfl rfl (i := 0) (vs_vi (by decide)) dX4_counted_53 ?_
    refine W.eq (g2 := F0 m 54 ls [.int 0]) rfl ?_
    exact W.iret (v := 0) hx hb hr (fun t ht hW => ⟨⟨_, (), rfl, rfl, trivial⟩, hS.F ht⟩) hS.2.2 dX4_counted_54
  · refine lv_tableIn (off := 52) (tgt := 55) hx hb dX4_counted_3 (by decide) (by decide) (by decide) (by decide) ?_
    refine lv_aload_n hx hb dX4_counted_55 rfl (lv_at hl 1 rfl) ?_
    refine va_get (D := (dC, dI)) (ci := 4) (v := .int 0) (C := RX4) (T := TX4) (N := 8) hx hb hts in_X4_counted_X4 hown hK hP 0 rfl rfl 1 (by decide) (hts (.fieldLink RX4 32 "VaultDoorsModel" "doors" "I") (List.mem_of_getElem? (i := 2) rfl)) (fun _ h9 => h9) rfl dX4_counted_56 ?_
    exact W.iret (v := 0) hx hb hr (fun t ht hW => ⟨⟨_, (), rfl, rfl, trivial⟩, hS.F ht⟩) hS.2.2 dX4_counted_59
  · refine lv_tableIn (off := 57) (tgt := 60) hx hb dX4_counted_3 (by decide) (by decide) (by decide) (by decide) ?_
    refine lv_iconst (v := 0) hx hb dX4_counted_60 (by decide) ?_
    refine lv_istore_n (lv' := [(3, .int 0), (2, .int 0), (0, .ref am), (1, .int 2)]) hx hb dX4_counted_61 rfl hl (by decide) rfl (fun ls hl => ?_)
    refine lv_iload_n hx hb dX4_counted_62 rfl (lv_at hl 0 rfl) ?_
    refine lv_aload_n hx hb dX4_counted_63 rfl (lv_at hl 2 rfl) ?_
    refine va_get (D := (dC, dI)) (ci := 4) (v := .int 0) (C := RX4) (T := TX4) (N := 8) hx hb hts in_X4_counted_X4 hown hK hP 0 rfl rfl 1 (by decide) (hts (.fieldLink RX4 32 "VaultDoorsModel" "doors" "I") (List.mem_of_getElem? (i := 2) rfl)) (fun _ h9 => h9) rfl dX4_counted_64 ?_
    refine lv_icmp_ge (tgt := 96) hx hb dX4_counted_67 (by decide) (fun _ => ?_) (fun h => absurd h (by decide))
    refine lv_iload_n hx hb dX4_counted_96 rfl (lv_at hl 1 rfl) ?_
    exact W.iret (v := 0) hx hb hr (fun t ht hW => ⟨⟨_, (), rfl, rfl, trivial⟩, hS.F ht⟩) hS.2.2 dX4_counted_97
  · refine lv_tableIn (off := 57) (tgt := 60) hx hb dX4_counted_3 (by decide) (by decide) (by decide) (by decide) ?_
    refine lv_iconst (v := 0) hx hb dX4_counted_60 (by decide) ?_
    refine lv_istore_n (lv' := [(3, .int 0), (2, .int 0), (0, .ref am), (1, .int 3)]) hx hb dX4_counted_61 rfl hl (by decide) rfl (fun ls hl => ?_)
    refine lv_iload_n hx hb dX4_counted_62 rfl (lv_at hl 0 rfl) ?_
    refine lv_aload_n hx hb dX4_counted_63 rfl (lv_at hl 2 rfl) ?_
    refine va_get (D := (dC, dI)) (ci := 4) (v := .int 0) (C := RX4) (T := TX4) (N := 8) hx hb hts in_X4_counted_X4 hown hK hP 0 rfl rfl 1 (by decide) (hts (.fieldLink RX4 32 "VaultDoorsModel" "doors" "I") (List.mem_of_getElem? (i := 2) rfl)) (fun _ h9 => h9) rfl dX4_counted_64 ?_
    refine lv_icmp_ge (tgt := 96) hx hb dX4_counted_67 (by decide) (fun _ => ?_) (fun h => absurd h (by decide))
    refine lv_iload_n hx hb dX4_counted_96 rfl (lv_at hl 1 rfl) ?_
    exact W.iret (v := 0) hx hb hr (fun t ht hW => ⟨⟨_, (), rfl, rfl, trivial⟩, hS.F ht⟩) hS.2.2 dX4_counted_97
  · refine lv_tableIn (off := 57) (tgt := 60) hx hb dX4_counted_3 (by decide) (by decide) (by decide) (by decide) ?_
    refine lv_iconst (v := 0) hx hb dX4_counted_60 (by decide) ?_
    refine lv_istore_n (lv' := [(3, .int 0), (2, .int 0), (0, .ref am), (1, .int 4)]) hx hb dX4_counted_61 rfl hl (by decide) rfl (fun ls hl => ?_)
    refine lv_iload_n hx hb dX4_counted_62 rfl (lv_at hl 0 rfl) ?_
    refine lv_aload_n hx hb dX4_counted_63 rfl (lv_at hl 2 rfl) ?_
    refine va_get (D := (dC, dI)) (ci := 4) (v := .int 0) (C := RX4) (T := TX4) (N := 8) hx hb hts in_X4_counted_X4 hown hK hP 0 rfl rfl 1 (by decide) (hts (.fieldLink RX4 32 "VaultDoorsModel" "doors" "I") (List.mem_of_getElem? (i := 2) rfl)) (fun _ h9 => h9) rfl dX4_counted_64 ?_
    refine lv_icmp_ge (tgt := 96) hx hb dX4_counted_67 (by decide) (fun _ => ?_) (fun h => absurd h (by decide))
    refine lv_iload_n hx hb dX4_counted_96 rfl (lv_at hl 1 rfl) ?_
    exact W.iret (v := 0) hx hb hr (fun t ht hW => ⟨⟨_, (), rfl, rfl, trivial⟩, hS.F ht⟩) hS.2.2 dX4_counted_97
  · refine lv_tableIn (off := 57) (tgt := 60) hx hb dX4_counted_3 (by decide) (by decide) (by decide) (by decide) ?_
    refine lv_iconst (v := 0) hx hb dX4_counted_60 (by decide) ?_
    refine lv_istore_n (lv' := [(3, .int 0), (2, .int 0), (0, .ref am), (1, .int 5)]) hx hb dX4_counted_61 rfl hl (by decide) rfl (fun ls hl => ?_)
    refine lv_iload_n hx hb dX4_counted_62 rfl (lv_at hl 0 rfl) ?_
    refine lv_aload_n hx hb dX4_counted_63 rfl (lv_at hl 2 rfl) ?_
    refine va_get (D := (dC, dI)) (ci := 4) (v := .int 0) (C := RX4) (T := TX4) (N := 8) hx hb hts in_X4_counted_X4 hown hK hP 0 rfl rfl 1 (by decide) (hts (.fieldLink RX4 32 "VaultDoorsModel" "doors" "I") (List.mem_of_getElem? (i := 2) rfl)) (fun _ h9 => h9) rfl dX4_counted_64 ?_
    refine lv_icmp_ge (tgt := 96) hx hb dX4_counted_67 (by decide) (fun _ => ?_) (fun h => absurd h (by decide))
    refine lv_iload_n hx hb dX4_counted_96 rfl (lv_at hl 1 rfl) ?_
    exact W.iret (v := 0) hx hb hr (fun t ht hW => ⟨⟨_, (), rfl, rfl, trivial⟩, hS.F ht⟩) hS.2.2 dX4_counted_97
  · refine lv_tableIn (off := 95) (tgt := 98) hx hb dX4_counted_3 (by decide) (by decide) (by decide) (by decide) ?_
    refine lv_aload_n hx hb dX4_counted_98 rfl (lv_at hl 1 rfl) ?_
    refine va_get (D := (dC, dI)) (ci := 4) (v := .ref m5) (C := RX4) (T := TX4) (N := 8) hx hb hts in_X4_counted_X4 hown hK hP 0 rfl rfl 6 (by decide) (hts (.fieldLink RX4 22 "VaultDoorsModel" "numbers" "[I") (List.mem_of_getElem? (i := 1) rfl)) (fun _ h9 => h9) rfl dX4_counted_99 ?_
    refine lv_iconst (v := 1) hx hb dX4_counted_102 (by decide) ?_
    refine va_iald (D := (dC, dI)) hx hb hK hP 1 0 rfl rfl (i := 1) (vs_vi (by decide)) dX4_counted_103 ?_
    refine W.eq (g2 := F0 m 104 ls [.int 0]) rfl ?_
    exact W.iret (v := 0) hx hb hr (fun t ht hW => ⟨⟨_, (), rfl, rfl, trivial⟩, hS.F ht⟩) hS.2.2 dX4_counted_104
  · refine lv_tableIn (off := 102) (tgt := 105) hx hb dX4_counted_3 (by decide) (by decide) (by decide) (by decide) ?_
    refine lv_aload_n hx hb dX4_counted_105 rfl (lv_at hl 1 rfl) ?_
    refine va_get (D := (dC, dI)) (ci := 4) (v := .ref m5) (C := RX4) (T := TX4) (N := 8) hx hb hts in_X4_counted_X4 hown hK hP 0 rfl rfl 6 (by decide) (hts (.fieldLink RX4 22 "VaultDoorsModel" "numbers" "[I") (List.mem_of_getElem? (i := 1) rfl)) (fun _ h9 => h9) rfl dX4_counted_106 ?_
    refine lv_iconst (v := 2) hx hb dX4_counted_109 (by decide) ?_
    refine va_iald (D := (dC, dI)) hx hb hK hP 1 0 rfl rfl (i := 2) (vs_vi (by decide)) dX4_counted_110 ?_
    refine W.eq (g2 := F0 m 111 ls [.int 0]) rfl ?_
    exact W.iret (v := 0) hx hb hr (fun t ht hW => ⟨⟨_, (), rfl, rfl, trivial⟩, hS.F ht⟩) hS.2.2 dX4_counted_111

theorem in_X4_count_X4 : ∀ w ∈ wsX40, w ∈ wsX4_count := by decide +kernel
set_option maxHeartbeats 4000000 in
set_option maxRecDepth 100000 in
theorem ct_X4_count (l : Launch) (dC : Nat → ClassId) (dI : Nat → Nat → Nat) (th : Int32) (za : Int32) (am : Nat) (m1 : Nat) (m2 : Nat) (m3 : Nat) (m4 : Nat) (m5 : Nat) (m6 : Nat) (cN : ClassId) (sz : Nat) : Met l yX4_count wsX4_count ({ frames := 2, cells := 0, slots := 0, locals := 45 }) (va_Pc [.ref am, .int za] (pZ (dC, dI) [(am, .inr (4, [.int th, .int 0, .ref m1, .ref m2, .ref m3, .ref m4, .ref m5, .ref m6])), (m5, .inl (cN, 3, .inl (fun _ => 0)))] [(cN, .int)] sz)) (va_Qi (fun (r : Int32) (u : Int32) => r = 0 ∧ ((vs_in za 0 8 = 0 ∧ u = 1) ∨ (¬ vs_in za 0 8 = 0 ∧ u = 0))) (fun u t => pB (dC, dI) (va_A [(am, .inr (4, [.int th, .int 0, .ref m1, .ref m2, .ref m3, .ref m4, .ref m5, .ref m6])), (m5, .inl (cN, 3, .inl (fun _ => 0)))] sz) [(am, .inr (4, [.int u, .int 0, .ref m1, .ref m2, .ref m3, .ref m4, .ref m5, .ref m6]))] [] t) (va_A [(am, .inr (4, [.int th, .int 0, .ref m1, .ref m2, .ref m3, .ref m4, .ref m5, .ref m6])), (m5, .inl (cN, 3, .inl (fun _ => 0)))] sz)) 0 0 (va_A [(am, .inr (4, [.int th, .int 0, .ref m1, .ref m2, .ref m3, .ref m4, .ref m5, .ref m6])), (m5, .inl (cN, 3, .inl (fun _ => 0)))] sz) := by
  refine Met.ofW (cc := cX4_count) (maxL := 2) (ret := (some .int)) (by decide) rfl ?_
  intro p e s m args below meth c s₁ B hml hv
  obtain ⟨rfl, hsz, hP, hK, hD0⟩ := hv
  have hx := B.exec
  have hb := B.bytes
  have hr := B.returns
  have hts := atoms_spec (ws := wsX4_count) B.pre
  have hown : s.vm.findClass RX4 = some m.cls := findClass_of_methodNamed B.named
  have hlocks := B.notSynchronized
  subst hsz
  have hD := hD0.self (sz := s.heap.size)
  generalize hAe : va_A [(am, .inr (4, [.int th, .int 0, .ref m1, .ref m2, .ref m3, .ref m4, .ref m5, .ref m6])), (m5, .inl (cN, 3, .inl (fun _ => 0)))] s.heap.size = A at hD ⊢
  have hA : ∀ q : Nat, s.heap.size ≤ q → A q := fun q h => by rw [← hAe]; exact Or.inr h
  have hS : va_S A s.heap s.heap [] := va_S.rf
  have hP : va_P (dC, dI) vwCl [(am, .inr (4, [.int th, .int 0, .ref m1, .ref m2, .ref m3, .ref m4, .ref m5, .ref m6])), (m5, .inl (cN, 3, .inl (fun _ => 0)))] s.heap := hP
  have hl := lv_entry ([.ref am, .int za]) (n := 2) (Nat.le_of_ble_eq_true rfl)
  rw [lg_entry_eq]
  generalize (lg_sl ([.ref am, .int za]) ++ List.replicate (2 - (lg_sl ([.ref am, .int za])).length) Slot.unset).toArray = ls at hl ⊢
  have hl : lv_has ls 2 [(0, .ref am), (1, .int za)] := hl
  refine lv_aload_n hx hb dX4_count_0 rfl (lv_at hl 0 rfl) ?_
  refine lv_iconst (v := 0) hx hb dX4_count_1 (by decide) ?_
  refine va_put (D := (dC, dI)) (ci := 4) (v := .int 0) (ty := .int) (C := RX4) (T := TX4) (N := 8) hx hb hts in_X4_count_X4 tyX4 tyX4_ok nmX4 hown hK hP hD hS 0 rfl rfl 0 (by decide) (hts (.fieldLink RX4 28 "VaultDoorsModel" "thrown" "I") (List.mem_of_getElem? (i := 1) rfl)) (fun _ h9 => h9) rfl (by decide +kernel) rfl rfl (Nat.le_of_ble_eq_true rfl) dX4_count_2 (fun H locs hP hD hS => ?_)
  have hP : va_P (dC, dI) vwCl [(am, .inr (4, [.int 0, .int 0, .ref m1, .ref m2, .ref m3, .ref m4, .ref m5, .ref m6])), (m5, .inl (cN, 3, .inl (fun _ => 0)))] H := hP
  have hD : va_D A [(am, .inr (4, [.int 0, .int 0, .ref m1, .ref m2, .ref m3, .ref m4, .ref m5, .ref m6])), (m5, .inl (cN, 3, .inl (fun _ => 0)))] := hD
  refine lv_iload_n hx hb dX4_count_5 rfl (lv_at hl 1 rfl) ?_
  refine lv_iconst (v := 0) hx hb dX4_count_6 (by decide) ?_
  refine lv_bipush (v := 8) hx hb dX4_count_7 (by decide) ?_
  have hPc := hP.sub (ws' := []) [] rfl
  have hKc := hK.sub (tys' := []) [] rfl
  refine va_calli (va_runS (As := [.int za, .int 0, .int 8]) (rest := []) ⟨hx, hb, hml, hown, hts⟩ (ct_X4_isIn l dC dI za 0 8) (va_cwS 3 hts gX4_count_X4_isIn rfl rfl rfl (by decide +kernel) ⟨(Nat.le_of_ble_eq_true rfl), (Nat.le_of_ble_eq_true rfl)⟩) ⟨pR_blind, pR_pre hPc hKc⟩ rfl rfl hl.1 rfl (lv_room (Nat.le_of_ble_eq_true rfl)) dX4_count_9 ⟨(Nat.le_of_ble_eq_true rfl), (Nat.le_of_ble_eq_true rfl)⟩) hS (fun q _ h => h.elim) (fun q h => h.elim) (fun r_1 u_2 t H1 locs ht hvm hw hB hz1 hk1 hS => ?_)
  have hP := hP.kept (fun k q hk => hk1 q.1 (hP k q hk).lt (fun h => h))
  generalize H1 = H at hP hS ⊢
  have hw : r_1 = vs_in za 0 8 := hw
  subst hw
  refine lv_if_eq (tgt := 23) hx hb dX4_count_12 (by decide) (fun c_3 => ?_) (fun c_3 => ?_)
  · refine lv_aload_n hx hb dX4_count_23 rfl (lv_at hl 0 rfl) ?_
    refine lv_iconst (v := 1) hx hb dX4_count_24 (by decide) ?_
    have hPc := hP.sub (ws' := [(am, .inr (4, [.int 0, .int 0, .ref m1, .ref m2, .ref m3, .ref m4, .ref m5, .ref m6]))]) [0] rfl
    have hKc := hK.sub (tys' := []) [] rfl
    have hDc := hD.sub (ws' := [(am, .inr (4, [.int 0, .int 0, .ref m1, .ref m2, .ref m3, .ref m4, .ref m5, .ref m6]))]) [0] (by decide) rfl
    have hFc := va_free (wc := [(am, .inr (4, [.int 0, .int 0, .ref m1, .ref m2, .ref m3, .ref m4, .ref m5, .ref m6]))]) hD hS hA [0] rfl
    refine va_calli (va_runV (As := [.int 1]) (rest := []) ⟨hx, hb, hml, hown, hts⟩ (ct_X4_fail l dC dI 0 1 am m1 m2 m3 m4 m5 m6 H.size) (cwV 1 hts gX4_count_X4_fail rfl rfl rfl (by decide +kernel) ⟨(Nat.le_of_ble_eq_true rfl), (Nat.le_of_ble_eq_true rfl)⟩) ⟨pZ_blind, va_recv hKc hPc (ci := 4) (q0 := 0) rfl rfl, pZ_pre hPc hDc hKc⟩ rfl rfl hl.1 rfl (lv_room (Nat.le_of_ble_eq_true rfl)) dX4_count_25 ⟨(Nat.le_of_ble_eq_true rfl), (Nat.le_of_ble_eq_true rfl)⟩) hS (fun q _ h => hFc q h) hFc (fun r_4 u_5 t H1 locs ht hvm hw hB hz1 hk1 hS => ?_)
    obtain ⟨hP1, hK1, hD1⟩ := hB
    rw [ht] at hP1
    have hK1 := va_K.moved hvm.symm hK1
    obtain ⟨hP, hD⟩ := va_join (wr := [(m5, .inl (cN, 3, .inl (fun _ => 0)))]) (w1 := [(am, .inr (4, [.int 1, .int 0, .ref m1, .ref m2, .ref m3, .ref m4, .ref m5, .ref m6]))]) hP hD [0] [1] rfl rfl (by decide) (by decide) hk1 hFc hP1 hD1
    generalize H1 = H at hP hS ⊢
    have hP : va_P (dC, dI) vwCl [(m5, .inl (cN, 3, .inl (fun _ => 0))), (am, .inr (4, [.int 1, .int 0, .ref m1, .ref m2, .ref m3, .ref m4, .ref m5, .ref m6]))] H := hP
    have hD : va_D A [(m5, .inl (cN, 3, .inl (fun _ => 0))), (am, .inr (4, [.int 1, .int 0, .ref m1, .ref m2, .ref m3, .ref m4, .ref m5, .ref m6]))] := hD
    have hK : va_K (dC, dI) vwCl [(cN, .int)] _ := hK
    have hw : r_4 = 0 := hw
    subst hw
    have hP9 := hP.sub (ws' := [(am, .inr (4, [.int 1, .int 0, .ref m1, .ref m2, .ref m3, .ref m4, .ref m5, .ref m6]))]) [1] rfl
    have hD9 := hD.sub (ws' := [(am, .inr (4, [.int 1, .int 0, .ref m1, .ref m2, .ref m3, .ref m4, .ref m5, .ref m6]))]) [1] (by decide) rfl
    have hK9 := hK.sub (tys' := []) [] rfl
    exact W.iret (v := 0) hx hb hr (fun t ht hW => ⟨⟨_, 1, rfl, ⟨rfl, Or.inl ⟨c_3, rfl⟩⟩, by rw [ht]; exact hP9, va_K.moved hW.alike hK9, hD9⟩, hS.F ht⟩) hS.2.2 dX4_count_28
  · refine lv_aload_n hx hb dX4_count_15 rfl (lv_at hl 0 rfl) ?_
    refine lv_iload_n hx hb dX4_count_16 rfl (lv_at hl 1 rfl) ?_
    have hPc := hP.sub (ws' := [(am, .inr (4, [.int 0, .int 0, .ref m1, .ref m2, .ref m3, .ref m4, .ref m5, .ref m6])), (m5, .inl (cN, 3, .inl (fun _ => 0)))]) [0, 1] rfl
    have hKc := hK.sub (tys' := [(cN, .int)]) [0] rfl
    refine va_calli (va_runV (As := [.int za]) (rest := []) ⟨hx, hb, hml, hown, hts⟩ (ct_X4_counted l dC dI 0 za am m1 m2 m3 m4 m5 m6 cN) (cwV 1 hts gX4_count_X4_counted rfl rfl rfl (by decide +kernel) ⟨(Nat.le_of_ble_eq_true rfl), (Nat.le_of_ble_eq_true rfl)⟩) ⟨pR_blind, va_recv hKc hPc (ci := 4) (q0 := 0) rfl rfl, pR_pre hPc hKc⟩ rfl rfl hl.1 rfl (lv_room (Nat.le_of_ble_eq_true rfl)) dX4_count_17 ⟨(Nat.le_of_ble_eq_true rfl), (Nat.le_of_ble_eq_true rfl)⟩) hS (fun q _ h => h.elim) (fun q h => h.elim) (fun r_6 u_7 t H1 locs ht hvm hw hB hz1 hk1 hS => ?_)
    have hP := hP.kept (fun k q hk => hk1 q.1 (hP k q hk).lt (fun h => h))
    generalize H1 = H at hP hS ⊢
    have hw : r_6 = 0 := hw
    subst hw
    refine lv_goto (tgt := 28) hx hb dX4_count_20 (by decide) ?_
    have hP9 := hP.sub (ws' := [(am, .inr (4, [.int 0, .int 0, .ref m1, .ref m2, .ref m3, .ref m4, .ref m5, .ref m6]))]) [0] rfl
    have hD9 := hD.sub (ws' := [(am, .inr (4, [.int 0, .int 0, .ref m1, .ref m2, .ref m3, .ref m4, .ref m5, .ref m6]))]) [0] (by decide) rfl
    have hK9 := hK.sub (tys' := []) [] rfl
    exact W.iret (v := 0) hx hb hr (fun t ht hW => ⟨⟨_, 0, rfl, ⟨rfl, Or.inr ⟨c_3, rfl⟩⟩, by rw [ht]; exact hP9, va_K.moved hW.alike hK9, hD9⟩, hS.F ht⟩) hS.2.2 dX4_count_28
