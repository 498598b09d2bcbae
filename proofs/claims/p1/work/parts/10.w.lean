theorem in_X4_build_X4 : ∀ w ∈ wsX40, w ∈ wsX4_build := by decide +kernel
set_option maxHeartbeats 4000000 in
set_option maxRecDepth 100000 in
theorem ct_X4_build (l : Launch) (dC : Nat → ClassId) (dI : Nat → Nat → Nat) (th : Int32) (za : Int32) (zb : Int32) (zc : Int32) (am : Nat) (m1 : Nat) (m2 : Nat) (m3 : Nat) (m4 : Nat) (m5 : Nat) (m6 : Nat) (cM : ClassId) (g1 : Nat → Int32) (sz : Nat) : Met l yX4_build wsX4_build ({ frames := 1, cells := 1, slots := 9, locals := 60 }) (va_Pc [.ref am, .int za, .int zb, .int zc] (pZ (dC, dI) [(am, .inr (4, [.int th, .int 0, .ref m1, .ref m2, .ref m3, .ref m4, .ref m5, .ref m6])), (m1, .inl (cM, 90, .inl g1))] [(cM, .int)] sz)) (va_Qi (fun (r : Int32) (u : Int32) => r = 0 ∧ ((¬ vs_ok za zb zc ∧ u = 1) ∨ (vs_ok za zb zc ∧ u = 0))) (fun u t => ∃ (dn : Int32), pB (dC, dI) (va_A [(am, .inr (4, [.int th, .int 0, .ref m1, .ref m2, .ref m3, .ref m4, .ref m5, .ref m6])), (m1, .inl (cM, 90, .inl g1))] sz) [(am, .inr (4, [.int u, .int dn, .ref m1, .ref m2, .ref m3, .ref m4, .ref m5, .ref m6]))] [] t) (va_A [(am, .inr (4, [.int th, .int 0, .ref m1, .ref m2, .ref m3, .ref m4, .ref m5, .ref m6])), (m1, .inl (cM, 90, .inl g1))] sz)) 1 9 (va_A [(am, .inr (4, [.int th, .int 0, .ref m1, .ref m2, .ref m3, .ref m4, .ref m5, .ref m6])), (m1, .inl (cM, 90, .inl g1))] sz) := by
  refine Met.ofW (cc := cX4_build) (maxL := 5) (ret := (some .int)) (by decide) rfl ?_
  intro p e s m args below meth c s₁ B hml hv
  obtain ⟨rfl, hsz, hP, hK, hD0⟩ := hv
  have hx := B.exec
  have hb := B.bytes
  have hr := B.returns
  have hts := atoms_spec (ws := wsX4_build) B.pre
  have hown : s.vm.findClass RX4 = some m.cls := findClass_of_methodNamed B.named
  have hlocks := B.notSynchronized
  subst hsz
  have hD := hD0.self (sz := s.heap.size)
  generalize hAe : va_A [(am, .inr (4, [.int th, .int 0, .ref m1, .ref m2, .ref m3, .ref m4, .ref m5, .ref m6])), (m1, .inl (cM, 90, .inl g1))] s.heap.size = A at hD ⊢
  have hA : ∀ q : Nat, s.heap.size ≤ q → A q := fun q h => by rw [← hAe]; exact Or.inr h
  have hS : va_S A s.heap s.heap [] := va_S.rf
  have hP : va_P (dC, dI) vwCl [(am, .inr (4, [.int th, .int 0, .ref m1, .ref m2, .ref m3, .ref m4, .ref m5, .ref m6])), (m1, .inl (cM, 90, .inl g1))] s.heap := hP
  have hl := lv_entry ([.ref am, .int za, .int zb, .int zc]) (n := 5) (Nat.le_of_ble_eq_true rfl)
  rw [lg_entry_eq]
  generalize (lg_sl ([.ref am, .int za, .int zb, .int zc]) ++ List.replicate (5 - (lg_sl ([.ref am, .int za, .int zb, .int zc])).length) Slot.unset).toArray = ls at hl ⊢
  have hl : lv_has ls 5 [(0, .ref am), (1, .int za), (2, .int zb), (3, .int zc)] := hl
  refine lv_aload_n hx hb dX4_build_0 rfl (lv_at hl 0 rfl) ?_
  refine lv_iconst (v := 0) hx hb dX4_build_1 (by decide) ?_
  refine va_put (D := (dC, dI)) (ci := 4) (v := .int 0) (ty := .int) (C := RX4) (T := TX4) (N := 8) hx hb hts in_X4_build_X4 tyX4 tyX4_ok nmX4 hown hK hP hD hS 0 rfl rfl 0 (by decide) (hts (.fieldLink RX4 28 "VaultDoorsModel" "thrown" "I") (List.mem_of_getElem? (i := 1) rfl)) (fun _ h9 => h9) rfl (by decide +kernel) rfl rfl (Nat.le_of_ble_eq_true rfl) dX4_build_2 (fun H locs hP hD hS => ?_)
  have hP : va_P (dC, dI) vwCl [(am, .inr (4, [.int 0, .int 0, .ref m1, .ref m2, .ref m3, .ref m4, .ref m5, .ref m6])), (m1, .inl (cM, 90, .inl g1))] H := hP
  have hD : va_D A [(am, .inr (4, [.int 0, .int 0, .ref m1, .ref m2, .ref m3, .ref m4, .ref m5, .ref m6])), (m1, .inl (cM, 90, .inl g1))] := hD
  refine lv_iload_n hx hb dX4_build_5 rfl (lv_at hl 1 rfl) ?_
  refine lv_iconst (v := 0) hx hb dX4_build_6 (by decide) ?_
  refine lv_bipush (v := 99) hx hb dX4_build_7 (by decide) ?_
  have hPc := hP.sub (ws' := []) [] rfl
  have hKc := hK.sub (tys' := []) [] rfl
  refine va_calli (va_runS (As := [.int za, .int 0, .int 99]) (rest := []) ⟨hx, hb, hml, hown, hts⟩ (ct_X4_isIn l dC dI za 0 99) (va_cwS 3 hts gX4_build_X4_isIn rfl rfl rfl (by decide +kernel) ⟨(Nat.le_of_ble_eq_true rfl), (Nat.le_of_ble_eq_true rfl)⟩) ⟨pR_blind, pR_pre hPc hKc⟩ rfl rfl hl.1 rfl (lv_room (Nat.le_of_ble_eq_true rfl)) dX4_build_9 ⟨(Nat.le_of_ble_eq_true rfl), (Nat.le_of_ble_eq_true rfl)⟩) hS (fun q _ h => h.elim) (fun q h => h.elim) (fun r_1 u_2 t H1 locs ht hvm hw hB hz1 hk1 hS => ?_)
  have hP := hP.kept (fun k q hk => hk1 q.1 (hP k q hk).lt (fun h => h))
  generalize H1 = H at hP hS ⊢
  have hw : r_1 = vs_in za 0 99 := hw
  subst hw
  refine lv_if_eq (tgt := 34) hx hb dX4_build_12 (by decide) (fun c_3 => ?_) (fun c_3 => ?_)
  · refine lv_aload_n hx hb dX4_build_34 rfl (lv_at hl 0 rfl) ?_
    refine lv_iconst (v := 1) hx hb dX4_build_35 (by decide) ?_
    have hPc := hP.sub (ws' := [(am, .inr (4, [.int 0, .int 0, .ref m1, .ref m2, .ref m3, .ref m4, .ref m5, .ref m6]))]) [0] rfl
    have hKc := hK.sub (tys' := []) [] rfl
    have hDc := hD.sub (ws' := [(am, .inr (4, [.int 0, .int 0, .ref m1, .ref m2, .ref m3, .ref m4, .ref m5, .ref m6]))]) [0] (by decide) rfl
    have hFc := va_free (wc := [(am, .inr (4, [.int 0, .int 0, .ref m1, .ref m2, .ref m3, .ref m4, .ref m5, .ref m6]))]) hD hS hA [0] rfl
    refine va_calli (va_runV (As := [.int 1]) (rest := []) ⟨hx, hb, hml, hown, hts⟩ (ct_X4_fail l dC dI 0 1 am m1 m2 m3 m4 m5 m6 H.size) (cwV 1 hts gX4_build_X4_fail rfl rfl rfl (by decide +kernel) ⟨(Nat.le_of_ble_eq_true rfl), (Nat.le_of_ble_eq_true rfl)⟩) ⟨pZ_blind, va_recv hKc hPc (ci := 4) (q0 := 0) rfl rfl, pZ_pre hPc hDc hKc⟩ rfl rfl hl.1 rfl (lv_room (Nat.le_of_ble_eq_true rfl)) dX4_build_36 ⟨(Nat.le_of_ble_eq_true rfl), (Nat.le_of_ble_eq_true rfl)⟩) hS (fun q _ h => hFc q h) hFc (fun r_4 u_5 t H1 locs ht hvm hw hB hz1 hk1 hS => ?_)
    obtain ⟨hP1, hK1, hD1⟩ := hB
    rw [ht] at hP1
    have hK1 := va_K.moved hvm.symm hK1
    obtain ⟨hP, hD⟩ := va_join (wr := [(m1, .inl (cM, 90, .inl g1))]) (w1 := [(am, .inr (4, [.int 1, .int 0, .ref m1, .ref m2, .ref m3, .ref m4, .ref m5, .ref m6]))]) hP hD [0] [1] rfl rfl (by decide) (by decide) hk1 hFc hP1 hD1
    generalize H1 = H at hP hS ⊢
    have hP : va_P (dC, dI) vwCl [(m1, .inl (cM, 90, .inl g1)), (am, .inr (4, [.int 1, .int 0, .ref m1, .ref m2, .ref m3, .ref m4, .ref m5, .ref m6]))] H := hP
    have hD : va_D A [(m1, .inl (cM, 90, .inl g1)), (am, .inr (4, [.int 1, .int 0, .ref m1, .ref m2, .ref m3, .ref m4, .ref m5, .ref m6]))] := hD
    have hK : va_K (dC, dI) vwCl [(cM, .int)] _ := hK
    have hw : r_4 = 0 := hw
    subst hw
    refine W.widen (k := 1) (n := 9) (by omega) (by omega) ?_
    have hP9 := hP.sub (ws' := [(am, .inr (4, [.int 1, .int 0, .ref m1, .ref m2, .ref m3, .ref m4, .ref m5, .ref m6]))]) [1] rfl
    have hD9 := hD.sub (ws' := [(am, .inr (4, [.int 1, .int 0, .ref m1, .ref m2, .ref m3, .ref m4, .ref m5, .ref m6]))]) [1] (by decide) rfl
    have hK9 := hK.sub (tys' := []) [] rfl
    exact W.iret (v := 0) hx hb hr (fun t ht hW => ⟨⟨_, 1, rfl, ⟨rfl, (by simp [vs_ok, c_3])⟩, 0, by rw [ht]; exact hP9, va_K.moved hW.alike hK9, hD9⟩, hS.F ht⟩) hS.2.2 dX4_build_39
  · refine lv_iload_n hx hb dX4_build_15 rfl (lv_at hl 2 rfl) ?_
    refine lv_iconst (v := 1) hx hb dX4_build_16 (by decide) ?_
    refine lv_bipush (v := 20) hx hb dX4_build_17 (by decide) ?_
    have hPc := hP.sub (ws' := []) [] rfl
    have hKc := hK.sub (tys' := []) [] rfl
    refine va_calli (va_runS (As := [.int zb, .int 1, .int 20]) (rest := []) ⟨hx, hb, hml, hown, hts⟩ (ct_X4_isIn l dC dI zb 1 20) (va_cwS 3 hts gX4_build_X4_isIn rfl rfl rfl (by decide +kernel) ⟨(Nat.le_of_ble_eq_true rfl), (Nat.le_of_ble_eq_true rfl)⟩) ⟨pR_blind, pR_pre hPc hKc⟩ rfl rfl hl.1 rfl (lv_room (Nat.le_of_ble_eq_true rfl)) dX4_build_19 ⟨(Nat.le_of_ble_eq_true rfl), (Nat.le_of_ble_eq_true rfl)⟩) hS (fun q _ h => h.elim) (fun q h => h.elim) (fun r_6 u_7 t H1 locs ht hvm hw hB hz1 hk1 hS => ?_)
    have hP := hP.kept (fun k q hk => hk1 q.1 (hP k q hk).lt (fun h => h))
    generalize H1 = H at hP hS ⊢
    have hw : r_6 = vs_in zb 1 20 := hw
    subst hw
    refine lv_if_eq (tgt := 34) hx hb dX4_build_22 (by decide) (fun c_8 => ?_) (fun c_8 => ?_)
    · refine lv_aload_n hx hb dX4_build_34 rfl (lv_at hl 0 rfl) ?_
      refine lv_iconst (v := 1) hx hb dX4_build_35 (by decide) ?_
      have hPc := hP.sub (ws' := [(am, .inr (4, [.int 0, .int 0, .ref m1, .ref m2, .ref m3, .ref m4, .ref m5, .ref m6]))]) [0] rfl
      have hKc := hK.sub (tys' := []) [] rfl
      have hDc := hD.sub (ws' := [(am, .inr (4, [.int 0, .int 0, .ref m1, .ref m2, .ref m3, .ref m4, .ref m5, .ref m6]))]) [0] (by decide) rfl
      have hFc := va_free (wc := [(am, .inr (4, [.int 0, .int 0, .ref m1, .ref m2, .ref m3, .ref m4, .ref m5, .ref m6]))]) hD hS hA [0] rfl
      refine va_calli (va_runV (As := [.int 1]) (rest := []) ⟨hx, hb, hml, hown, hts⟩ (ct_X4_fail l dC dI 0 1 am m1 m2 m3 m4 m5 m6 H.size) (cwV 1 hts gX4_build_X4_fail rfl rfl rfl (by decide +kernel) ⟨(Nat.le_of_ble_eq_true rfl), (Nat.le_of_ble_eq_true rfl)⟩) ⟨pZ_blind, va_recv hKc hPc (ci := 4) (q0 := 0) rfl rfl, pZ_pre hPc hDc hKc⟩ rfl rfl hl.1 rfl (lv_room (Nat.le_of_ble_eq_true rfl)) dX4_build_36 ⟨(Nat.le_of_ble_eq_true rfl), (Nat.le_of_ble_eq_true rfl)⟩) hS (fun q _ h => hFc q h) hFc (fun r_9 u_10 t H1 locs ht hvm hw hB hz1 hk1 hS => ?_)
      obtain ⟨hP1, hK1, hD1⟩ := hB
      rw [ht] at hP1
      have hK1 := va_K.moved hvm.symm hK1
      obtain ⟨hP, hD⟩ := va_join (wr := [(m1, .inl (cM, 90, .inl g1))]) (w1 := [(am, .inr (4, [.int 1, .int 0, .ref m1, .ref m2, .ref m3, .ref m4, .ref m5, .ref m6]))]) hP hD [0] [1] rfl rfl (by decide) (by decide) hk1 hFc hP1 hD1
      generalize H1 = H at hP hS ⊢
      have hP : va_P (dC, dI) vwCl [(m1, .inl (cM, 90, .inl g1)), (am, .inr (4, [.int 1, .int 0, .ref m1, .ref m2, .ref m3, .ref m4, .ref m5, .ref m6]))] H := hP
      have hD : va_D A [(m1, .inl (cM, 90, .inl g1)), (am, .inr (4, [.int 1, .int 0, .ref m1, .ref m2, .ref m3, .ref m4, .ref m5, .ref m6]))] := hD
      have hK : va_K (dC, dI) vwCl [(cM, .int)] _ := hK
      have hw : r_9 = 0 := hw
      subst hw
      refine W.widen (k := 1) (n := 9) (by omega) (by omega) ?_
      have hP9 := hP.sub (ws' := [(am, .inr (4, [.int 1, .int 0, .ref m1, .ref m2, .ref m3, .ref m4, .ref m5, .ref m6]))]) [1] rfl
      have hD9 := hD.sub (ws' := [(am, .inr (4, [.int 1, .int 0, .ref m1, .ref m2, .ref m3, .ref m4, .ref m5, .ref m6]))]) [1] (by decide) rfl
      have hK9 := hK.sub (tys' := []) [] rfl
      exact W.iret (v := 0) hx hb hr (fun t ht hW => ⟨⟨_, 1, rfl, ⟨rfl, (by simp [vs_ok, c_3, c_8])⟩, 0, by rw [ht]; exact hP9, va_K.moved hW.alike hK9, hD9⟩, hS.F ht⟩) hS.2.2 dX4_build_39
    · refine lv_iload_n hx hb dX4_build_25 rfl (lv_at hl 3 rfl) ?_
      refine lv_iconst (v := 0) hx hb dX4_build_26 (by decide) ?_
      refine lv_iconst (v := 3) hx hb dX4_build_27 (by decide) ?_
      have hPc := hP.sub (ws' := []) [] rfl
      have hKc := hK.sub (tys' := []) [] rfl
      refine va_calli (va_runS (As := [.int zc, .int 0, .int 3]) (rest := []) ⟨hx, hb, hml, hown, hts⟩ (ct_X4_isIn l dC dI zc 0 3) (va_cwS 3 hts gX4_build_X4_isIn rfl rfl rfl (by decide +kernel) ⟨(Nat.le_of_ble_eq_true rfl), (Nat.le_of_ble_eq_true rfl)⟩) ⟨pR_blind, pR_pre hPc hKc⟩ rfl rfl hl.1 rfl (lv_room (Nat.le_of_ble_eq_true rfl)) dX4_build_28 ⟨(Nat.le_of_ble_eq_true rfl), (Nat.le_of_ble_eq_true rfl)⟩) hS (fun q _ h => h.elim) (fun q h => h.elim) (fun r_11 u_12 t H1 locs ht hvm hw hB hz1 hk1 hS => ?_)
      have hP := hP.kept (fun k q hk => hk1 q.1 (hP k q hk).lt (fun h => h))
      generalize H1 = H at hP hS ⊢
      have hw : r_11 = vs_in zc 0 3 := hw
      subst hw
      refine lv_if_ne (tgt := 40) hx hb dX4_build_31 (by decide) (fun c_13 => ?_) (fun c_13 => ?_)
      · refine lv_aload_n hx hb dX4_build_40 rfl (lv_at hl 0 rfl) ?_
        refine va_get (D := (dC, dI)) (ci := 4) (v := .int 0) (C := RX4) (T := TX4) (N := 8) hx hb hts in_X4_build_X4 hown hK hP 0 rfl rfl 1 (by decide) (hts (.fieldLink RX4 32 "VaultDoorsModel" "doors" "I") (List.mem_of_getElem? (i := 2) rfl)) (fun _ h9 => h9) rfl dX4_build_41 ?_
        refine lv_bipush (v := 10) hx hb dX4_build_44 (by decide) ?_
        refine lv_icmp_ne (tgt := 55) hx hb dX4_build_46 (by decide) (fun _ => ?_) (fun h => absurd h (by decide))
        refine lv_bipush (v := 9) hx hb dX4_build_55 (by decide) ?_
        refine va_newa (D := (dC, dI)) (atype := .int) (ty := .int) (a0 := (9, .inl (fun _ => 0))) (N' := 9) hx hb (hts (.arrayClass .int) (List.mem_of_getElem? (i := 3) rfl)) rfl hK hP hD hS hA (fun _ => rfl) (by decide) (by decide) (by decide) (Nat.le_of_ble_eq_true rfl) (Nat.le_of_ble_eq_true rfl) dX4_build_57 (fun q_14 cA_15 H hK hP hD hS => ?_)
        have hP : va_P (dC, dI) vwCl [(am, .inr (4, [.int 0, .int 0, .ref m1, .ref m2, .ref m3, .ref m4, .ref m5, .ref m6])), (m1, .inl (cM, 90, .inl g1)), (q_14, .inl (cA_15, 9, .inl (fun _ => 0)))] H := hP
        have hD : va_D A [(am, .inr (4, [.int 0, .int 0, .ref m1, .ref m2, .ref m3, .ref m4, .ref m5, .ref m6])), (m1, .inl (cM, 90, .inl g1)), (q_14, .inl (cA_15, 9, .inl (fun _ => 0)))] := hD
        have hK : va_K (dC, dI) vwCl [(cM, .int), (cA_15, .int)] _ := hK
        refine W.widen (k := 1) (n := 9) (by omega) (by omega) ?_
        refine lv_dup hx hb dX4_build_59 rfl ?_
        refine lv_iconst (v := 0) hx hb dX4_build_60 (by decide) ?_
        refine lv_iload_n hx hb dX4_build_61 rfl (lv_at hl 1 rfl) ?_
        refine va_iast (D := (dC, dI)) hx hb hK hP hD hS 2 1 rfl rfl (i := 0) (x := za) (vs_vi (by decide)) dX4_build_62 (fun H locs hP hD hS => ?_)
        have hP : va_P (dC, dI) vwCl [(am, .inr (4, [.int 0, .int 0, .ref m1, .ref m2, .ref m3, .ref m4, .ref m5, .ref m6])), (m1, .inl (cM, 90, .inl g1)), (q_14, .inl (cA_15, 9, .inl (upd (fun _ => 0) 0 za)))] H := hP
        have hD : va_D A [(am, .inr (4, [.int 0, .int 0, .ref m1, .ref m2, .ref m3, .ref m4, .ref m5, .ref m6])), (m1, .inl (cM, 90, .inl g1)), (q_14, .inl (cA_15, 9, .inl (upd (fun _ => 0) 0 za)))] := hD
        refine lv_dup hx hb dX4_build_63 rfl ?_
        refine lv_iconst (v := 1) hx hb dX4_build_64 (by decide) ?_
        refine lv_iload_n hx hb dX4_build_65 rfl (lv_at hl 2 rfl) ?_
        refine va_iast (D := (dC, dI)) hx hb hK hP hD hS 2 1 rfl rfl (i := 1) (x := zb) (vs_vi (by decide)) dX4_build_66 (fun H locs hP hD hS => ?_)
        have hP : va_P (dC, dI) vwCl [(am, .inr (4, [.int 0, .int 0, .ref m1, .ref m2, .ref m3, .ref m4, .ref m5, .ref m6])), (m1, .inl (cM, 90, .inl g1)), (q_14, .inl (cA_15, 9, .inl (upd (upd (fun _ => 0) 0 za) 1 zb)))] H := hP
        have hD : va_D A [(am, .inr (4, [.int 0, .int 0, .ref m1, .ref m2, .ref m3, .ref m4, .ref m5, .ref m6])), (m1, .inl (cM, 90, .inl g1)), (q_14, .inl (cA_15, 9, .inl (upd (upd (fun _ => 0) 0 za) 1 zb)))] := hD
        refine lv_dup hx hb dX4_build_67 rfl ?_
        refine lv_iconst (v := 2) hx hb dX4_build_68 (by decide) ?_
        refine lv_iload_n hx hb dX4_build_69 rfl (lv_at hl 3 rfl) ?_
        refine va_iast (D := (dC, dI)) hx hb hK hP hD hS 2 1 rfl rfl (i := 2) (x := zc) (vs_vi (by decide)) dX4_build_70 (fun H locs hP hD hS => ?_)
        have hP : va_P (dC, dI) vwCl [(am, .inr (4, [.int 0, .int 0, .ref m1, .ref m2, .ref m3, .ref m4, .ref m5, .ref m6])), (m1, .inl (cM, 90, .inl g1)), (q_14, .inl (cA_15, 9, .inl (upd (upd (upd (fun _ => 0) 0 za) 1 zb) 2 zc)))] H := hP
        have hD : va_D A [(am, .inr (4, [.int 0, .int 0, .ref m1, .ref m2, .ref m3, .ref m4, .ref m5, .ref m6])), (m1, .inl (cM, 90, .inl g1)), (q_14, .inl (cA_15, 9, .inl (upd (upd (upd (fun _ => 0) 0 za) 1 zb) 2 zc)))] := hD
        refine lv_dup hx hb dX4_build_71 rfl ?_
        refine lv_iconst (v := 3) hx hb dX4_build_72 (by decide) ?_
        refine lv_iconst (v := 0) hx hb dX4_build_73 (by decide) ?_
        refine va_iast (D := (dC, dI)) hx hb hK hP hD hS 2 1 rfl rfl (i := 3) (x := 0) (vs_vi (by decide)) dX4_build_74 (fun H locs hP hD hS => ?_)
        have hP : va_P (dC, dI) vwCl [(am, .inr (4, [.int 0, .int 0, .ref m1, .ref m2, .ref m3, .ref m4, .ref m5, .ref m6])), (m1, .inl (cM, 90, .inl g1)), (q_14, .inl (cA_15, 9, .inl (upd (upd (upd (upd (fun _ => 0) 0 za) 1 zb) 2 zc) 3 0)))] H := hP
        have hD : va_D A [(am, .inr (4, [.int 0, .int 0, .ref m1, .ref m2, .ref m3, .ref m4, .ref m5, .ref m6])), (m1, .inl (cM, 90, .inl g1)), (q_14, .inl (cA_15, 9, .inl (upd (upd (upd (upd (fun _ => 0) 0 za) 1 zb) 2 zc) 3 0)))] := hD
        refine lv_dup hx hb dX4_build_75 rfl ?_
        refine lv_iconst (v := 4) hx hb dX4_build_76 (by decide) ?_
        refine lv_iconst (v := 0) hx hb dX4_build_77 (by decide) ?_
        refine va_iast (D := (dC, dI)) hx hb hK hP hD hS 2 1 rfl rfl (i := 4) (x := 0) (vs_vi (by decide)) dX4_build_78 (fun H locs hP hD hS => ?_)
        have hP : va_P (dC, dI) vwCl [(am, .inr (4, [.int 0, .int 0, .ref m1, .ref m2, .ref m3, .ref m4, .ref m5, .ref m6])), (m1, .inl (cM, 90, .inl g1)), (q_14, .inl (cA_15, 9, .inl (upd (upd (upd (upd (upd (fun _ => 0) 0 za) 1 zb) 2 zc) 3 0) 4 0)))] H := hP
        have hD : va_D A [(am, .inr (4, [.int 0, .int 0, .ref m1, .ref m2, .ref m3, .ref m4, .ref m5, .ref m6])), (m1, .inl (cM, 90, .inl g1)), (q_14, .inl (cA_15, 9, .inl (upd (upd (upd (upd (upd (fun _ => 0) 0 za) 1 zb) 2 zc) 3 0) 4 0)))] := hD
        refine lv_dup hx hb dX4_build_79 rfl ?_
        refine lv_iconst (v := 5) hx hb dX4_build_80 (by decide) ?_
        refine lv_iconst (v := 0) hx hb dX4_build_81 (by decide) ?_
        refine va_iast (D := (dC, dI)) hx hb hK hP hD hS 2 1 rfl rfl (i := 5) (x := 0) (vs_vi (by decide)) dX4_build_82 (fun H locs hP hD hS => ?_)
        have hP : va_P (dC, dI) vwCl [(am, .inr (4, [.int 0, .int 0, .ref m1, .ref m2, .ref m3, .ref m4, .ref m5, .ref m6])), (m1, .inl (cM, 90, .inl g1)), (q_14, .inl (cA_15, 9, .inl (upd (upd (upd (upd (upd (upd (fun _ => 0) 0 za) 1 zb) 2 zc) 3 0) 4 0) 5 0)))] H := hP
        have hD : va_D A [(am, .inr (4, [.int 0, .int 0, .ref m1, .ref m2, .ref m3, .ref m4, .ref m5, .ref m6])), (m1, .inl (cM, 90, .inl g1)), (q_14, .inl (cA_15, 9, .inl (upd (upd (upd (upd (upd (upd (fun _ => 0) 0 za) 1 zb) 2 zc) 3 0) 4 0) 5 0)))] := hD
        refine lv_dup hx hb dX4_build_83 rfl ?_
        refine lv_bipush (v := 6) hx hb dX4_build_84 (by decide) ?_
        refine lv_iconst (v := 0) hx hb dX4_build_86 (by decide) ?_
        refine va_iast (D := (dC, dI)) hx hb hK hP hD hS 2 1 rfl rfl (i := 6) (x := 0) (vs_vi (by decide)) dX4_build_87 (fun H locs hP hD hS => ?_)
        have hP : va_P (dC, dI) vwCl [(am, .inr (4, [.int 0, .int 0, .ref m1, .ref m2, .ref m3, .ref m4, .ref m5, .ref m6])), (m1, .inl (cM, 90, .inl g1)), (q_14, .inl (cA_15, 9, .inl (upd (upd (upd (upd (upd (upd (upd (fun _ => 0) 0 za) 1 zb) 2 zc) 3 0) 4 0) 5 0) 6 0)))] H := hP
        have hD : va_D A [(am, .inr (4, [.int 0, .int 0, .ref m1, .ref m2, .ref m3, .ref m4, .ref m5, .ref m6])), (m1, .inl (cM, 90, .inl g1)), (q_14, .inl (cA_15, 9, .inl (upd (upd (upd (upd (upd (upd (upd (fun _ => 0) 0 za) 1 zb) 2 zc) 3 0) 4 0) 5 0) 6 0)))] := hD
        refine lv_dup hx hb dX4_build_88 rfl ?_
        refine lv_bipush (v := 7) hx hb dX4_build_89 (by decide) ?_
        refine lv_iconst (v := 0) hx hb dX4_build_91 (by decide) ?_
        refine va_iast (D := (dC, dI)) hx hb hK hP hD hS 2 1 rfl rfl (i := 7) (x := 0) (vs_vi (by decide)) dX4_build_92 (fun H locs hP hD hS => ?_)
        have hP : va_P (dC, dI) vwCl [(am, .inr (4, [.int 0, .int 0, .ref m1, .ref m2, .ref m3, .ref m4, .ref m5, .ref m6])), (m1, .inl (cM, 90, .inl g1)), (q_14, .inl (cA_15, 9, .inl (upd (upd (upd (upd (upd (upd (upd (upd (fun _ => 0) 0 za) 1 zb) 2 zc) 3 0) 4 0) 5 0) 6 0) 7 0)))] H := hP
        have hD : va_D A [(am, .inr (4, [.int 0, .int 0, .ref m1, .ref m2, .ref m3, .ref m4, .ref m5, .ref m6])), (m1, .inl (cM, 90, .inl g1)), (q_14, .inl (cA_15, 9, .inl (upd (upd (upd (upd (upd (upd (upd (upd (fun _ => 0) 0 za) 1 zb) 2 zc) 3 0) 4 0) 5 0) 6 0) 7 0)))] := hD
        refine lv_dup hx hb dX4_build_93 rfl ?_
        refine lv_bipush (v := 8) hx hb dX4_build_94 (by decide) ?_
        refine lv_iconst (v := 0) hx hb dX4_build_96 (by decide) ?_
        refine va_iast (D := (dC, dI)) hx hb hK hP hD hS 2 1 rfl rfl (i := 8) (x := 0) (vs_vi (by decide)) dX4_build_97 (fun H locs hP hD hS => ?_)
        have hP : va_P (dC, dI) vwCl [(am, .inr (4, [.int 0, .int 0, .ref m1, .ref m2, .ref m3, .ref m4, .ref m5, .ref m6])), (m1, .inl (cM, 90, .inl g1)), (q_14, .inl (cA_15, 9, .inl (upd (upd (upd (upd (upd (upd (upd (upd (upd (fun _ => 0) 0 za) 1 zb) 2 zc) 3 0) 4 0) 5 0) 6 0) 7 0) 8 0)))] H := hP
        have hD : va_D A [(am, .inr (4, [.int 0, .int 0, .ref m1, .ref m2, .ref m3, .ref m4, .ref m5, .ref m6])), (m1, .inl (cM, 90, .inl g1)), (q_14, .inl (cA_15, 9, .inl (upd (upd (upd (upd (upd (upd (upd (upd (upd (fun _ => 0) 0 za) 1 zb) 2 zc) 3 0) 4 0) 5 0) 6 0) 7 0) 8 0)))] := hD
        refine lv_astore (lv' := [(4, .ref q_14), (0, .ref am), (1, .int za), (2, .int zb), (3, .int zc)]) hx hb dX4_build_98 hl (by decide) rfl (fun ls hl => ?_)
        refine lv_aload hx hb dX4_build_100 (lv_at hl 0 rfl) ?_
        refine lv_iconst (v := 0) hx hb dX4_build_102 (by decide) ?_
        refine lv_aload_n hx hb dX4_build_103 rfl (lv_at hl 1 rfl) ?_
        refine va_get (D := (dC, dI)) (ci := 4) (v := .ref m1) (C := RX4) (T := TX4) (N := 8) hx hb hts in_X4_build_X4 hown hK hP 0 rfl rfl 2 (by decide) (hts (.fieldLink RX4 9 "VaultDoorsModel" "vault" "[I") (List.mem_of_getElem? (i := 4) rfl)) (fun _ h9 => h9) rfl dX4_build_104 ?_
        refine lv_bipush (v := 9) hx hb dX4_build_107 (by decide) ?_
        refine lv_aload_n hx hb dX4_build_109 rfl (lv_at hl 1 rfl) ?_
        refine va_get (D := (dC, dI)) (ci := 4) (v := .int 0) (C := RX4) (T := TX4) (N := 8) hx hb hts in_X4_build_X4 hown hK hP 0 rfl rfl 1 (by decide) (hts (.fieldLink RX4 32 "VaultDoorsModel" "doors" "I") (List.mem_of_getElem? (i := 2) rfl)) (fun _ h9 => h9) rfl dX4_build_110 ?_
        refine lv_imul hx hb dX4_build_113 ?_
        refine lv_topi (nm_r (e' := 0) (by decide) ?_)
        refine lv_bipush (v := 9) hx hb dX4_build_114 (by decide) ?_
        refine va_copyi (D := (dC, dI)) hx hb (hml.trans hl.1.symm) hown (hts (.methodLink RX4 43 arraycopyName) (List.mem_of_getElem? (i := 5) rfl)) (hts (.native arraycopyName) (List.mem_of_getElem? (i := 6) rfl)) (hts (.static arraycopyName) (List.mem_of_getElem? (i := 7) rfl)) (hts (.initialized "java/lang/System") (List.mem_of_getElem? (i := 8) rfl)) hK hP hD hS 2 1 1 0 rfl rfl rfl rfl rfl (sp := 0) (dp := 0) (n := 9) (by decide) (by decide) (by decide) (by decide) (by decide) (fun _ _ => rfl) (Nat.le_of_ble_eq_true rfl) (by decide +kernel) dX4_build_116 (fun H locs hP hD hS => ?_)
        have hP : va_P (dC, dI) vwCl [(am, .inr (4, [.int 0, .int 0, .ref m1, .ref m2, .ref m3, .ref m4, .ref m5, .ref m6])), (m1, .inl (cM, 90, .inl (va_cpy (upd (upd (upd (upd (upd (upd (upd (upd (upd (fun _ => 0) 0 za) 1 zb) 2 zc) 3 0) 4 0) 5 0) 6 0) 7 0) 8 0) g1 0 0 9))), (q_14, .inl (cA_15, 9, .inl (upd (upd (upd (upd (upd (upd (upd (upd (upd (fun _ => 0) 0 za) 1 zb) 2 zc) 3 0) 4 0) 5 0) 6 0) 7 0) 8 0)))] H := hP
        have hD : va_D A [(am, .inr (4, [.int 0, .int 0, .ref m1, .ref m2, .ref m3, .ref m4, .ref m5, .ref m6])), (m1, .inl (cM, 90, .inl (va_cpy (upd (upd (upd (upd (upd (upd (upd (upd (upd (fun _ => 0) 0 za) 1 zb) 2 zc) 3 0) 4 0) 5 0) 6 0) 7 0) 8 0) g1 0 0 9))), (q_14, .inl (cA_15, 9, .inl (upd (upd (upd (upd (upd (upd (upd (upd (upd (fun _ => 0) 0 za) 1 zb) 2 zc) 3 0) 4 0) 5 0) 6 0) 7 0) 8 0)))] := hD
        refine lv_aload_n hx hb dX4_build_119 rfl (lv_at hl 1 rfl) ?_
        refine lv_dup hx hb dX4_build_120 rfl ?_
        refine va_get (D := (dC, dI)) (ci := 4) (v := .int 0) (C := RX4) (T := TX4) (N := 8) hx hb hts in_X4_build_X4 hown hK hP 0 rfl rfl 1 (by decide) (hts (.fieldLink RX4 32 "VaultDoorsModel" "doors" "I") (List.mem_of_getElem? (i := 2) rfl)) (fun _ h9 => h9) rfl dX4_build_121 ?_
        refine lv_iconst (v := 1) hx hb dX4_build_124 (by decide) ?_
        refine lv_iadd hx hb dX4_build_125 ?_
        refine lv_topi (nm_r (e' := 1) (by decide) ?_)
        refine va_put (D := (dC, dI)) (ci := 4) (v := .int 1) (ty := .int) (C := RX4) (T := TX4) (N := 8) hx hb hts in_X4_build_X4 tyX4 tyX4_ok nmX4 hown hK hP hD hS 0 rfl rfl 1 (by decide) (hts (.fieldLink RX4 32 "VaultDoorsModel" "doors" "I") (List.mem_of_getElem? (i := 2) rfl)) (fun _ h9 => h9) rfl (by decide +kernel) rfl rfl (Nat.le_of_ble_eq_true rfl) dX4_build_126 (fun H locs hP hD hS => ?_)
        have hP : va_P (dC, dI) vwCl [(am, .inr (4, [.int 0, .int 1, .ref m1, .ref m2, .ref m3, .ref m4, .ref m5, .ref m6])), (m1, .inl (cM, 90, .inl (va_cpy (upd (upd (upd (upd (upd (upd (upd (upd (upd (fun _ => 0) 0 za) 1 zb) 2 zc) 3 0) 4 0) 5 0) 6 0) 7 0) 8 0) g1 0 0 9))), (q_14, .inl (cA_15, 9, .inl (upd (upd (upd (upd (upd (upd (upd (upd (upd (fun _ => 0) 0 za) 1 zb) 2 zc) 3 0) 4 0) 5 0) 6 0) 7 0) 8 0)))] H := hP
        have hD : va_D A [(am, .inr (4, [.int 0, .int 1, .ref m1, .ref m2, .ref m3, .ref m4, .ref m5, .ref m6])), (m1, .inl (cM, 90, .inl (va_cpy (upd (upd (upd (upd (upd (upd (upd (upd (upd (fun _ => 0) 0 za) 1 zb) 2 zc) 3 0) 4 0) 5 0) 6 0) 7 0) 8 0) g1 0 0 9))), (q_14, .inl (cA_15, 9, .inl (upd (upd (upd (upd (upd (upd (upd (upd (upd (fun _ => 0) 0 za) 1 zb) 2 zc) 3 0) 4 0) 5 0) 6 0) 7 0) 8 0)))] := hD
        refine lv_aload_n hx hb dX4_build_129 rfl (lv_at hl 1 rfl) ?_
        refine va_get (D := (dC, dI)) (ci := 4) (v := .int 1) (C := RX4) (T := TX4) (N := 8) hx hb hts in_X4_build_X4 hown hK hP 0 rfl rfl 1 (by decide) (hts (.fieldLink RX4 32 "VaultDoorsModel" "doors" "I") (List.mem_of_getElem? (i := 2) rfl)) (fun _ h9 => h9) rfl dX4_build_130 ?_
        refine lv_iconst (v := 1) hx hb dX4_build_133 (by decide) ?_
        refine lv_isub hx hb dX4_build_134 ?_
        refine lv_topi (nm_r (e' := 0) (by decide) ?_)
        have hP9 := hP.sub (ws' := [(am, .inr (4, [.int 0, .int 1, .ref m1, .ref m2, .ref m3, .ref m4, .ref m5, .ref m6]))]) [0] rfl
        have hD9 := hD.sub (ws' := [(am, .inr (4, [.int 0, .int 1, .ref m1, .ref m2, .ref m3, .ref m4, .ref m5, .ref m6]))]) [0] (by decide) rfl
        have hK9 := hK.sub (tys' := []) [] rfl
        exact W.iret (v := 0) hx hb hr (fun t ht hW => ⟨⟨_, 0, rfl, ⟨rfl, (by simp [vs_ok, c_3, c_8, c_13])⟩, 1, by rw [ht]; exact hP9, va_K.moved hW.alike hK9, hD9⟩, hS.F ht⟩) hS.2.2 dX4_build_135
      · refine lv_aload_n hx hb dX4_build_34 rfl (lv_at hl 0 rfl) ?_
        refine lv_iconst (v := 1) hx hb dX4_build_35 (by decide) ?_
        have hPc := hP.sub (ws' := [(am, .inr (4, [.int 0, .int 0, .ref m1, .ref m2, .ref m3, .ref m4, .ref m5, .ref m6]))]) [0] rfl
        have hKc := hK.sub (tys' := []) [] rfl
        have hDc := hD.sub (ws' := [(am, .inr (4, [.int 0, .int 0, .ref m1, .ref m2, .ref m3, .ref m4, .ref m5, .ref m6]))]) [0] (by decide) rfl
        have hFc := va_free (wc := [(am, .inr (4, [.int 0, .int 0, .ref m1, .ref m2, .ref m3, .ref m4, .ref m5, .ref m6]))]) hD hS hA [0] rfl
        refine va_calli (va_runV (As := [.int 1]) (rest := []) ⟨hx, hb, hml, hown, hts⟩ (ct_X4_fail l dC dI 0 1 am m1 m2 m3 m4 m5 m6 H.size) (cwV 1 hts gX4_build_X4_fail rfl rfl rfl (by decide +kernel) ⟨(Nat.le_of_ble_eq_true rfl), (Nat.le_of_ble_eq_true rfl)⟩) ⟨pZ_blind, va_recv hKc hPc (ci := 4) (q0 := 0) rfl rfl, pZ_pre hPc hDc hKc⟩ rfl rfl hl.1 rfl (lv_room (Nat.le_of_ble_eq_true rfl)) dX4_build_36 ⟨(Nat.le_of_ble_eq_true rfl), (Nat.le_of_ble_eq_true rfl)⟩) hS (fun q _ h => hFc q h) hFc (fun r_16 u_17 t H1 locs ht hvm hw hB hz1 hk1 hS => ?_)
        obtain ⟨hP1, hK1, hD1⟩ := hB
        rw [ht] at hP1
        have hK1 := va_K.moved hvm.symm hK1
        obtain ⟨hP, hD⟩ := va_join (wr := [(m1, .inl (cM, 90, .inl g1))]) (w1 := [(am, .inr (4, [.int 1, .int 0, .ref m1, .ref m2, .ref m3, .ref m4, .ref m5, .ref m6]))]) hP hD [0] [1] rfl rfl (by decide) (by decide) hk1 hFc hP1 hD1
        generalize H1 = H at hP hS ⊢
        have hP : va_P (dC, dI) vwCl [(m1, .inl (cM, 90, .inl g1)), (am, .inr (4, [.int 1, .int 0, .ref m1, .ref m2, .ref m3, .ref m4, .ref m5, .ref m6]))] H := hP
        have hD : va_D A [(m1, .inl (cM, 90, .inl g1)), (am, .inr (4, [.int 1, .int 0, .ref m1, .ref m2, .ref m3, .ref m4, .ref m5, .ref m6]))] := hD
        have hK : va_K (dC, dI) vwCl [(cM, .int)] _ := hK
        have hw : r_16 = 0 := hw
        subst hw
        refine W.widen (k := 1) (n := 9) (by omega) (by omega) ?_
        have hP9 := hP.sub (ws' := [(am, .inr (4, [.int 1, .int 0, .ref m1, .ref m2, .ref m3, .ref m4, .ref m5, .ref m6]))]) [1] rfl
        have hD9 := hD.sub (ws' := [(am, .inr (4, [.int 1, .int 0, .ref m1, .ref m2, .ref m3, .ref m4, .ref m5, .ref m6]))]) [1] (by decide) rfl
        have hK9 := hK.sub (tys' := []) [] rfl
        exact W.iret (v := 0) hx hb hr (fun t ht hW => ⟨⟨_, 1, rfl, ⟨rfl, (by simp [vs_ok, c_3, c_8, c_13])⟩, 0, by rw [ht]; exact hP9, va_K.moved hW.alike hK9, hD9⟩, hS.F ht⟩) hS.2.2 dX4_build_39
