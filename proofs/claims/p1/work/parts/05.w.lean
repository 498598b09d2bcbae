theorem in_X1_doorsThat_X1 : ∀ w ∈ wsX10, w ∈ wsX1_doorsThat := by decide +kernel
set_option maxHeartbeats 4000000 in
set_option maxRecDepth 100000 in
theorem ct_X1_doorsThat (l : Launch) (dC : Nat → ClassId) (dI : Nat → Nat → Nat) (zn : Int32) (tk : Int32) (av : Nat) (adr : Nat) (ao : Nat) (aar : Nat) : Met l yX1_doorsThat wsX1_doorsThat ({ frames := 0, cells := 0, slots := 0, locals := 0 }) (va_Pc [.ref av, .int zn] (pR (dC, dI) [(av, .inr (1, [.int tk, .int 0, .ref adr, .ref ao, .ref aar]))] [])) (va_Qi (fun (r : Int32) (_ : Unit) => r = 0) (fun _ _ => True) (fun _ => False)) 0 0 (fun _ => False) := by
  refine Met.ofW (cc := cX1_doorsThat) (maxL := 4) (ret := (some .int)) (by decide) rfl ?_
  intro p e s m args below meth c s₁ B hml hv
  obtain ⟨rfl, hP, hK⟩ := hv
  have hx := B.exec
  have hb := B.bytes
  have hr := B.returns
  have hts := atoms_spec (ws := wsX1_doorsThat) B.pre
  have hown : s.vm.findClass RX1 = some m.cls := findClass_of_methodNamed B.named
  have hlocks := B.notSynchronized
  have hS : va_S (fun _ => False) s.heap s.heap [] := va_S.rf
  have hP : va_P (dC, dI) vwCl [(av, .inr (1, [.int tk, .int 0, .ref adr, .ref ao, .ref aar]))] s.heap := hP
  have hl := lv_entry ([.ref av, .int zn]) (n := 4) (Nat.le_of_ble_eq_true rfl)
  rw [lg_entry_eq]
  generalize (lg_sl ([.ref av, .int zn]) ++ List.replicate (4 - (lg_sl ([.ref av, .int zn])).length) Slot.unset).toArray = ls at hl ⊢
  have hl : lv_has ls 4 [(0, .ref av), (1, .int zn)] := hl
  refine lv_iconst (v := 0) hx hb dX1_doorsThat_0 (by decide) ?_
  refine lv_istore_n (lv' := [(2, .int 0), (0, .ref av), (1, .int zn)]) hx hb dX1_doorsThat_1 rfl hl (by decide) rfl (fun ls hl => ?_)
  refine lv_iconst (v := 0) hx hb dX1_doorsThat_2 (by decide) ?_
  refine lv_istore_n (lv' := [(3, .int 0), (2, .int 0), (0, .ref av), (1, .int zn)]) hx hb dX1_doorsThat_3 rfl hl (by decide) rfl (fun ls hl => ?_)
  refine lv_iload_n hx hb dX1_doorsThat_4 rfl (lv_at hl 0 rfl) ?_
  refine lv_aload_n hx hb dX1_doorsThat_5 rfl (lv_at hl 2 rfl) ?_
  refine va_get (D := (dC, dI)) (ci := 1) (v := .int 0) (C := RX1) (T := TX1) (N := 5) hx hb hts in_X1_doorsThat_X1 hown hK hP 0 rfl rfl 1 (by decide) (hts (.fieldLink RX1 32 "VaultDoors$Vault" "doorCount" "I") (List.mem_of_getElem? (i := 1) rfl)) (fun _ h9 => h9) rfl dX1_doorsThat_6 ?_
  refine lv_icmp_ge (tgt := 34) hx hb dX1_doorsThat_9 (by decide) (fun _ => ?_) (fun h => absurd h (by decide))
  refine lv_iload_n hx hb dX1_doorsThat_34 rfl (lv_at hl 1 rfl) ?_
  exact W.iret (v := 0) hx hb hr (fun t ht hW => ⟨⟨_, (), rfl, rfl, trivial⟩, hS.F ht⟩) hS.2.2 dX1_doorsThat_35

theorem in_X1_openDoors_X1 : ∀ w ∈ wsX10, w ∈ wsX1_openDoors := by decide +kernel
set_option maxHeartbeats 4000000 in
set_option maxRecDepth 100000 in
theorem ct_X1_openDoors (l : Launch) (dC : Nat → ClassId) (dI : Nat → Nat → Nat) (tk : Int32) (av : Nat) (adr : Nat) (ao : Nat) (aar : Nat) : Met l yX1_openDoors wsX1_openDoors ({ frames := 0, cells := 0, slots := 0, locals := 0 }) (va_Pc [.ref av] (pR (dC, dI) [(av, .inr (1, [.int tk, .int 0, .ref adr, .ref ao, .ref aar]))] [])) (va_Qi (fun (r : Int32) (_ : Unit) => r = 0) (fun _ _ => True) (fun _ => False)) 0 0 (fun _ => False) := by
  refine Met.ofW (cc := cX1_openDoors) (maxL := 3) (ret := (some .int)) (by decide) rfl ?_
  intro p e s m args below meth c s₁ B hml hv
  obtain ⟨rfl, hP, hK⟩ := hv
  have hx := B.exec
  have hb := B.bytes
  have hr := B.returns
  have hts := atoms_spec (ws := wsX1_openDoors) B.pre
  have hown : s.vm.findClass RX1 = some m.cls := findClass_of_methodNamed B.named
  have hlocks := B.notSynchronized
  have hS : va_S (fun _ => False) s.heap s.heap [] := va_S.rf
  have hP : va_P (dC, dI) vwCl [(av, .inr (1, [.int tk, .int 0, .ref adr, .ref ao, .ref aar]))] s.heap := hP
  have hl := lv_entry ([.ref av]) (n := 3) (Nat.le_of_ble_eq_true rfl)
  rw [lg_entry_eq]
  generalize (lg_sl ([.ref av]) ++ List.replicate (3 - (lg_sl ([.ref av])).length) Slot.unset).toArray = ls at hl ⊢
  have hl : lv_has ls 3 [(0, .ref av)] := hl
  refine lv_iconst (v := 0) hx hb dX1_openDoors_0 (by decide) ?_
  refine lv_istore_n (lv' := [(1, .int 0), (0, .ref av)]) hx hb dX1_openDoors_1 rfl hl (by decide) rfl (fun ls hl => ?_)
  refine lv_iconst (v := 0) hx hb dX1_openDoors_2 (by decide) ?_
  refine lv_istore_n (lv' := [(2, .int 0), (1, .int 0), (0, .ref av)]) hx hb dX1_openDoors_3 rfl hl (by decide) rfl (fun ls hl => ?_)
  refine lv_iload_n hx hb dX1_openDoors_4 rfl (lv_at hl 0 rfl) ?_
  refine lv_aload_n hx hb dX1_openDoors_5 rfl (lv_at hl 2 rfl) ?_
  refine va_get (D := (dC, dI)) (ci := 1) (v := .int 0) (C := RX1) (T := TX1) (N := 5) hx hb hts in_X1_openDoors_X1 hown hK hP 0 rfl rfl 1 (by decide) (hts (.fieldLink RX1 32 "VaultDoors$Vault" "doorCount" "I") (List.mem_of_getElem? (i := 1) rfl)) (fun _ h9 => h9) rfl dX1_openDoors_6 ?_
  refine lv_icmp_ge (tgt := 37) hx hb dX1_openDoors_9 (by decide) (fun _ => ?_) (fun h => absurd h (by decide))
  refine lv_iload_n hx hb dX1_openDoors_37 rfl (lv_at hl 1 rfl) ?_
  exact W.iret (v := 0) hx hb hr (fun t ht hW => ⟨⟨_, (), rfl, rfl, trivial⟩, hS.F ht⟩) hS.2.2 dX1_openDoors_38

theorem in_X1_fact_X1 : ∀ w ∈ wsX10, w ∈ wsX1_fact := by decide +kernel
theorem in_X1_fact_X2 : ∀ w ∈ wsX20, w ∈ wsX1_fact := by decide +kernel
set_option maxHeartbeats 4000000 in
set_option maxRecDepth 100000 in
theorem ct_X1_fact (l : Launch) (dC : Nat → ClassId) (dI : Nat → Nat → Nat) (zn : Int32) (av : Nat) (adr : Nat) (ao : Nat) (aar : Nat) (o1 : Nat) (o2 : Nat) (o3 : Nat) (o4 : Nat) (o5 : Nat) : Met l yX1_fact wsX1_fact ({ frames := 1, cells := 0, slots := 0, locals := 23 }) (va_Pc [.ref av, .int zn] (pR (dC, dI) [(av, .inr (1, [.int 0, .int 0, .ref adr, .ref ao, .ref aar])), (ao, .inr (2, [.int 0, .int 0, .ref o1, .ref o2, .ref o3, .ref o4, .ref o5]))] [])) (va_Qi (fun (r : Int32) (_ : Unit) => r = 0) (fun _ _ => True) (fun _ => False)) 0 0 (fun _ => False) := by
  refine Met.ofW (cc := cX1_fact) (maxL := 2) (ret := (some .int)) (by decide) rfl ?_
  intro p e s m args below meth c s₁ B hml hv
  obtain ⟨rfl, hP, hK⟩ := hv
  have hx := B.exec
  have hb := B.bytes
  have hr := B.returns
  have hts := atoms_spec (ws := wsX1_fact) B.pre
  have hown : s.vm.findClass RX1 = some m.cls := findClass_of_methodNamed B.named
  have hlocks := B.notSynchronized
  have hS : va_S (fun _ => False) s.heap s.heap [] := va_S.rf
  have hP : va_P (dC, dI) vwCl [(av, .inr (1, [.int 0, .int 0, .ref adr, .ref ao, .ref aar])), (ao, .inr (2, [.int 0, .int 0, .ref o1, .ref o2, .ref o3, .ref o4, .ref o5]))] s.heap := hP
  have hl := lv_entry ([.ref av, .int zn]) (n := 2) (Nat.le_of_ble_eq_true rfl)
  rw [lg_entry_eq]
  generalize (lg_sl ([.ref av, .int zn]) ++ List.replicate (2 - (lg_sl ([.ref av, .int zn])).length) Slot.unset).toArray = ls at hl ⊢
  have hl : lv_has ls 2 [(0, .ref av), (1, .int zn)] := hl
  refine lv_iload_n hx hb dX1_fact_0 rfl (lv_at hl 1 rfl) ?_
  rcases vs_sw8 zn with sw_1 | rfl | rfl | rfl | rfl | rfl | rfl | rfl | rfl
  · refine lv_tableOut (tgt := 98) hx hb dX1_fact_1 sw_1 (by decide) ?_
    refine lv_aload_n hx hb dX1_fact_98 rfl (lv_at hl 0 rfl) ?_
    have hPc := hP.sub (ws' := [(av, .inr (1, [.int 0, .int 0, .ref adr, .ref ao, .ref aar]))]) [0] rfl
    have hKc := hK.sub (tys' := []) [] rfl
    refine va_calli (va_runV (As := []) (rest := []) ⟨hx, hb, hml, hown, hts⟩ (ct_X1_openDoors l dC dI 0 av adr ao aar) (cwV 0 hts gX1_fact_X1_openDoors rfl rfl rfl (by decide +kernel) ⟨(Nat.le_of_ble_eq_true rfl), (Nat.le_of_ble_eq_true rfl)⟩) ⟨pR_blind, va_recv hKc hPc (ci := 1) (q0 := 0) rfl rfl, pR_pre hPc hKc⟩ rfl rfl hl.1 rfl (lv_room (Nat.le_of_ble_eq_true rfl)) dX1_fact_99 ⟨(Nat.le_of_ble_eq_true rfl), (Nat.le_of_ble_eq_true rfl)⟩) hS (fun q _ h => h.elim) (fun q h => h.elim) (fun r_2 u_3 t H1 locs ht hvm hw hB hz1 hk1 hS => ?_)
    have hP := hP.kept (fun k q hk => hk1 q.1 (hP k q hk).lt (fun h => h))
    generalize H1 = H at hP hS ⊢
    have hw : r_2 = 0 := hw
    subst hw
    exact W.iret (v := 0) hx hb hr (fun t ht hW => ⟨⟨_, (), rfl, rfl, trivial⟩, hS.F ht⟩) hS.2.2 dX1_fact_102
  · refine lv_tableIn (off := 47) (tgt := 48) hx hb dX1_fact_1 (by decide) (by decide) (by decide) (by decide) ?_
    refine lv_aload_n hx hb dX1_fact_48 rfl (lv_at hl 0 rfl) ?_
    refine va_get (D := (dC, dI)) (ci := 1) (v := .int 0) (C := RX1) (T := TX1) (N := 5) hx hb hts in_X1_fact_X1 hown hK hP 0 rfl rfl 0 (by decide) (hts (.fieldLink RX1 28 "VaultDoors$Vault" "tick" "I") (List.mem_of_getElem? (i := 1) rfl)) (fun _ h9 => h9) rfl dX1_fact_49 ?_
    exact W.iret (v := 0) hx hb hr (fun t ht hW => ⟨⟨_, (), rfl, rfl, trivial⟩, hS.F ht⟩) hS.2.2 dX1_fact_52
  · refine lv_tableIn (off := 52) (tgt := 53) hx hb dX1_fact_1 (by decide) (by decide) (by decide) (by decide) ?_
    refine lv_aload_n hx hb dX1_fact_53 rfl (lv_at hl 0 rfl) ?_
    refine va_get (D := (dC, dI)) (ci := 1) (v := .int 0) (C := RX1) (T := TX1) (N := 5) hx hb hts in_X1_fact_X1 hown hK hP 0 rfl rfl 1 (by decide) (hts (.fieldLink RX1 32 "VaultDoors$Vault" "doorCount" "I") (List.mem_of_getElem? (i := 2) rfl)) (fun _ h9 => h9) rfl dX1_fact_54 ?_
    exact W.iret (v := 0) hx hb hr (fun t ht hW => ⟨⟨_, (), rfl, rfl, trivial⟩, hS.F ht⟩) hS.2.2 dX1_fact_57
  · refine lv_tableIn (off := 57) (tgt := 58) hx hb dX1_fact_1 (by decide) (by decide) (by decide) (by decide) ?_
    refine lv_aload_n hx hb dX1_fact_58 rfl (lv_at hl 0 rfl) ?_
    refine lv_iconst (v := 0) hx hb dX1_fact_59 (by decide) ?_
    have hPc := hP.sub (ws' := [(av, .inr (1, [.int 0, .int 0, .ref adr, .ref ao, .ref aar]))]) [0] rfl
    have hKc := hK.sub (tys' := []) [] rfl
    refine va_calli (va_runV (As := [.int 0]) (rest := []) ⟨hx, hb, hml, hown, hts⟩ (ct_X1_doorsThat l dC dI 0 0 av adr ao aar) (cwV 1 hts gX1_fact_X1_doorsThat rfl rfl rfl (by decide +kernel) ⟨(Nat.le_of_ble_eq_true rfl), (Nat.le_of_ble_eq_true rfl)⟩) ⟨pR_blind, va_recv hKc hPc (ci := 1) (q0 := 0) rfl rfl, pR_pre hPc hKc⟩ rfl rfl hl.1 rfl (lv_room (Nat.le_of_ble_eq_true rfl)) dX1_fact_60 ⟨(Nat.le_of_ble_eq_true rfl), (Nat.le_of_ble_eq_true rfl)⟩) hS (fun q _ h => h.elim) (fun q h => h.elim) (fun r_4 u_5 t H1 locs ht hvm hw hB hz1 hk1 hS => ?_)
    have hP := hP.kept (fun k q hk => hk1 q.1 (hP k q hk).lt (fun h => h))
    generalize H1 = H at hP hS ⊢
    have hw : r_4 = 0 := hw
    subst hw
    exact W.iret (v := 0) hx hb hr (fun t ht hW => ⟨⟨_, (), rfl, rfl, trivial⟩, hS.F ht⟩) hS.2.2 dX1_fact_63
  · refine lv_tableIn (off := 63) (tgt := 64) hx hb dX1_fact_1 (by decide) (by decide) (by decide) (by decide) ?_
    refine lv_aload_n hx hb dX1_fact_64 rfl (lv_at hl 0 rfl) ?_
    refine lv_iconst (v := 1) hx hb dX1_fact_65 (by decide) ?_
    have hPc := hP.sub (ws' := [(av, .inr (1, [.int 0, .int 0, .ref adr, .ref ao, .ref aar]))]) [0] rfl
    have hKc := hK.sub (tys' := []) [] rfl
    refine va_calli (va_runV (As := [.int 1]) (rest := []) ⟨hx, hb, hml, hown, hts⟩ (ct_X1_doorsThat l dC dI 1 0 av adr ao aar) (cwV 1 hts gX1_fact_X1_doorsThat rfl rfl rfl (by decide +kernel) ⟨(Nat.le_of_ble_eq_true rfl), (Nat.le_of_ble_eq_true rfl)⟩) ⟨pR_blind, va_recv hKc hPc (ci := 1) (q0 := 0) rfl rfl, pR_pre hPc hKc⟩ rfl rfl hl.1 rfl (lv_room (Nat.le_of_ble_eq_true rfl)) dX1_fact_66 ⟨(Nat.le_of_ble_eq_true rfl), (Nat.le_of_ble_eq_true rfl)⟩) hS (fun q _ h => h.elim) (fun q h => h.elim) (fun r_6 u_7 t H1 locs ht hvm hw hB hz1 hk1 hS => ?_)
    have hP := hP.kept (fun k q hk => hk1 q.1 (hP k q hk).lt (fun h => h))
    generalize H1 = H at hP hS ⊢
    have hw : r_6 = 0 := hw
    subst hw
    exact W.iret (v := 0) hx hb hr (fun t ht hW => ⟨⟨_, (), rfl, rfl, trivial⟩, hS.F ht⟩) hS.2.2 dX1_fact_69
  · refine lv_tableIn (off := 69) (tgt := 70) hx hb dX1_fact_1 (by decide) (by decide) (by decide) (by decide) ?_
    refine lv_aload_n hx hb dX1_fact_70 rfl (lv_at hl 0 rfl) ?_
    refine lv_iconst (v := 2) hx hb dX1_fact_71 (by decide) ?_
    have hPc := hP.sub (ws' := [(av, .inr (1, [.int 0, .int 0, .ref adr, .ref ao, .ref aar]))]) [0] rfl
    have hKc := hK.sub (tys' := []) [] rfl
    refine va_calli (va_runV (As := [.int 2]) (rest := []) ⟨hx, hb, hml, hown, hts⟩ (ct_X1_doorsThat l dC dI 2 0 av adr ao aar) (cwV 1 hts gX1_fact_X1_doorsThat rfl rfl rfl (by decide +kernel) ⟨(Nat.le_of_ble_eq_true rfl), (Nat.le_of_ble_eq_true rfl)⟩) ⟨pR_blind, va_recv hKc hPc (ci := 1) (q0 := 0) rfl rfl, pR_pre hPc hKc⟩ rfl rfl hl.1 rfl (lv_room (Nat.le_of_ble_eq_true rfl)) dX1_fact_72 ⟨(Nat.le_of_ble_eq_true rfl), (Nat.le_of_ble_eq_true rfl)⟩) hS (fun q _ h => h.elim) (fun q h => h.elim) (fun r_8 u_9 t H1 locs ht hvm hw hB hz1 hk1 hS => ?_)
    have hP := hP.kept (fun k q hk => hk1 q.1 (hP k q hk).lt (fun h => h))
    generalize H1 = H at hP hS ⊢
    have hw : r_8 = 0 := hw
    subst hw
    exact W.iret (v := 0) hx hb hr (fun t ht hW => ⟨⟨_, (), rfl, rfl, trivial⟩, hS.F ht⟩) hS.2.2 dX1_fact_75
  · refine lv_tableIn (off := 75) (tgt := 76) hx hb dX1_fact_1 (by decide) (by decide) (by decide) (by decide) ?_
    refine lv_aload_n hx hb dX1_fact_76 rfl (lv_at hl 0 rfl) ?_
    refine lv_iconst (v := 3) hx hb dX1_fact_77 (by decide) ?_
    have hPc := hP.sub (ws' := [(av, .inr (1, [.int 0, .int 0, .ref adr, .ref ao, .ref aar]))]) [0] rfl
    have hKc := hK.sub (tys' := []) [] rfl
    refine va_calli (va_runV (As := [.int 3]) (rest := []) ⟨hx, hb, hml, hown, hts⟩ (ct_X1_doorsThat l dC dI 3 0 av adr ao aar) (cwV 1 hts gX1_fact_X1_doorsThat rfl rfl rfl (by decide +kernel) ⟨(Nat.le_of_ble_eq_true rfl), (Nat.le_of_ble_eq_true rfl)⟩) ⟨pR_blind, va_recv hKc hPc (ci := 1) (q0 := 0) rfl rfl, pR_pre hPc hKc⟩ rfl rfl hl.1 rfl (lv_room (Nat.le_of_ble_eq_true rfl)) dX1_fact_78 ⟨(Nat.le_of_ble_eq_true rfl), (Nat.le_of_ble_eq_true rfl)⟩) hS (fun q _ h => h.elim) (fun q h => h.elim) (fun r_10 u_11 t H1 locs ht hvm hw hB hz1 hk1 hS => ?_)
    have hP := hP.kept (fun k q hk => hk1 q.1 (hP k q hk).lt (fun h => h))
    generalize H1 = H at hP hS ⊢
    have hw : r_10 = 0 := hw
    subst hw
    exact W.iret (v := 0) hx hb hr (fun t ht hW => ⟨⟨_, (), rfl, rfl, trivial⟩, hS.F ht⟩) hS.2.2 dX1_fact_81
  · refine lv_tableIn (off := 81) (tgt := 82) hx hb dX1_fact_1 (by decide) (by decide) (by decide) (by decide) ?_
    refine lv_aload_n hx hb dX1_fact_82 rfl (lv_at hl 0 rfl) ?_
    refine va_get (D := (dC, dI)) (ci := 1) (v := .ref ao) (C := RX1) (T := TX1) (N := 5) hx hb hts in_X1_fact_X1 hown hK hP 0 rfl rfl 3 (by decide) (hts (.fieldLink RX1 20 "VaultDoors$Vault" "voices" "LVaultDoors$Voices;") (List.mem_of_getElem? (i := 3) rfl)) (fun _ h9 => h9) rfl dX1_fact_83 ?_
    refine va_get (D := (dC, dI)) (ci := 2) (v := .int 0) (C := RX2) (T := TX2) (N := 7) hx hb hts in_X1_fact_X2 hown hK hP 1 rfl rfl 0 (by decide) (hts (.fieldLink RX1 71 "VaultDoors$Voices" "size" "I") (List.mem_of_getElem? (i := 4) rfl)) (fun _ h9 => h9) rfl dX1_fact_86 ?_
    exact W.iret (v := 0) hx hb hr (fun t ht hW => ⟨⟨_, (), rfl, rfl, trivial⟩, hS.F ht⟩) hS.2.2 dX1_fact_89
  · refine lv_tableIn (off := 89) (tgt := 90) hx hb dX1_fact_1 (by decide) (by decide) (by decide) (by decide) ?_
    refine lv_aload_n hx hb dX1_fact_90 rfl (lv_at hl 0 rfl) ?_
    refine va_get (D := (dC, dI)) (ci := 1) (v := .ref ao) (C := RX1) (T := TX1) (N := 5) hx hb hts in_X1_fact_X1 hown hK hP 0 rfl rfl 3 (by decide) (hts (.fieldLink RX1 20 "VaultDoors$Vault" "voices" "LVaultDoors$Voices;") (List.mem_of_getElem? (i := 3) rfl)) (fun _ h9 => h9) rfl dX1_fact_91 ?_
    refine va_get (D := (dC, dI)) (ci := 2) (v := .int 0) (C := RX2) (T := TX2) (N := 7) hx hb hts in_X1_fact_X2 hown hK hP 1 rfl rfl 1 (by decide) (hts (.fieldLink RX1 140 "VaultDoors$Voices" "lost" "I") (List.mem_of_getElem? (i := 5) rfl)) (fun _ h9 => h9) rfl dX1_fact_94 ?_
    exact W.iret (v := 0) hx hb hr (fun t ht hW => ⟨⟨_, (), rfl, rfl, trivial⟩, hS.F ht⟩) hS.2.2 dX1_fact_97

theorem in_X3_count_X3 : ∀ w ∈ wsX30, w ∈ wsX3_count := by decide +kernel
set_option maxHeartbeats 4000000 in
set_option maxRecDepth 100000 in
theorem ct_X3_count (l : Launch) (hnt : l.stackTraces = false) (dC : Nat → ClassId) (dI : Nat → Nat → Nat) (za : Int32) (ax : Nat) (av : Nat) (at_ : Nat) (adr : Nat) (ao : Nat) (aar : Nat) (o1 : Nat) (o2 : Nat) (o3 : Nat) (o4 : Nat) (o5 : Nat) : vx_Met l yX3_count wsX3_count ({ frames := 6, cells := 1, slots := 6, locals := 90 }) (va_Pc [.ref ax, .int za] (pX (dC, dI) [(ax, .inr (3, [.ref av, .ref at_])), (av, .inr (1, [.int 0, .int 0, .ref adr, .ref ao, .ref aar])), (ao, .inr (2, [.int 0, .int 0, .ref o1, .ref o2, .ref o3, .ref o4, .ref o5]))] [])) (va_Qi (fun (r : Int32) (_ : Unit) => r = 0 ∧ ¬ vs_in za 0 8 = 0) (fun _ _ => True) (fun _ => False)) (vx_X (fun (_ : Unit) => True) (fun E _ _ => E = vs_B ∧ vs_in za 0 8 = 0) (fun _ => False)) 1 6 (fun _ => False) := by
  refine vx_ofW (cc := cX3_count) (maxL := 2) (ret := (some .int)) (by decide) rfl ?_
  intro p e s m args below meth c s₁ B hml htab hv
  obtain ⟨rfl, ⟨hP, hK⟩, hT⟩ := hv
  have hx := B.exec
  have hb := B.bytes
  have hr := B.returns
  have hts := atoms_spec (ws := wsX3_count) B.pre
  have hown : s.vm.findClass RX3 = some m.cls := findClass_of_methodNamed B.named
  have hlocks := B.notSynchronized
  have hS : va_S (fun _ => False) s.heap s.heap [] := va_S.rf
  have hP : va_P (dC, dI) vwCl [(ax, .inr (3, [.ref av, .ref at_])), (av, .inr (1, [.int 0, .int 0, .ref adr, .ref ao, .ref aar])), (ao, .inr (2, [.int 0, .int 0, .ref o1, .ref o2, .ref o3, .ref o4, .ref o5]))] s.heap := hP
  have hl := lv_entry ([.ref ax, .int za]) (n := 2) (Nat.le_of_ble_eq_true rfl)
  rw [lg_entry_eq]
  generalize (lg_sl ([.ref ax, .int za]) ++ List.replicate (2 - (lg_sl ([.ref ax, .int za])).length) Slot.unset).toArray = ls at hl ⊢
  have hl : lv_has ls 2 [(0, .ref ax), (1, .int za)] := hl
  refine lv_iload_n hx hb dX3_count_0 rfl (lv_at hl 1 rfl) ?_
  refine lv_iconst (v := 0) hx hb dX3_count_1 (by decide) ?_
  refine lv_bipush (v := 8) hx hb dX3_count_2 (by decide) ?_
  have hPc := hP.sub (ws' := []) [] rfl
  have hKc := hK.sub (tys' := []) [] rfl
  refine va_calli (va_runS (As := [.int za, .int 0, .int 8]) (rest := []) ⟨hx, hb, hml, hown, hts⟩ (ct_X3_isIn l dC dI za 0 8) (va_cwS 3 hts gX3_count_X3_isIn rfl rfl rfl (by decide +kernel) ⟨(Nat.le_of_ble_eq_true rfl), (Nat.le_of_ble_eq_true rfl)⟩) ⟨pR_blind, pR_pre hPc hKc⟩ rfl rfl hl.1 rfl (lv_room (Nat.le_of_ble_eq_true rfl)) dX3_count_4 ⟨(Nat.le_of_ble_eq_true rfl), (Nat.le_of_ble_eq_true rfl)⟩) hS (fun q _ h => h.elim) (fun q h => h.elim) (fun r_1 u_2 t H1 locs ht hvm hw hB hz1 hk1 hS => ?_)
  have hP := hP.kept (fun k q hk => hk1 q.1 (hP k q hk).lt (fun h => h))
  generalize H1 = H at hP hS ⊢
  have hw : r_1 = vs_in za 0 8 := hw
  subst hw
  refine lv_if_ne (tgt := 20) hx hb dX3_count_7 (by decide) (fun c_3 => ?_) (fun c_3 => ?_)
  · refine lv_aload_n hx hb dX3_count_20 rfl (lv_at hl 0 rfl) ?_
    refine va_get (D := (dC, dI)) (ci := 3) (v := .ref av) (C := RX3) (T := TX3) (N := 2) hx hb hts in_X3_count_X3 hown hK hP 0 rfl rfl 0 (by decide) (hts (.fieldLink RX3 10 "VaultDoors" "vault" "LVaultDoors$Vault;") (List.mem_of_getElem? (i := 3) rfl)) (fun _ h9 => h9) rfl dX3_count_21 ?_
    refine lv_iload_n hx hb dX3_count_24 rfl (lv_at hl 1 rfl) ?_
    have hPc := hP.sub (ws' := [(av, .inr (1, [.int 0, .int 0, .ref adr, .ref ao, .ref aar])), (ao, .inr (2, [.int 0, .int 0, .ref o1, .ref o2, .ref o3, .ref o4, .ref o5]))]) [1, 2] rfl
    have hKc := hK.sub (tys' := []) [] rfl
    refine va_calli (va_runV (As := [.int za]) (rest := []) ⟨hx, hb, hml, hown, hts⟩ (ct_X1_fact l dC dI za av adr ao aar o1 o2 o3 o4 o5) (cwV 1 hts gX3_count_X1_fact rfl rfl rfl (by decide +kernel) ⟨(Nat.le_of_ble_eq_true rfl), (Nat.le_of_ble_eq_true rfl)⟩) ⟨pR_blind, va_recv hKc hPc (ci := 1) (q0 := 0) rfl rfl, pR_pre hPc hKc⟩ rfl rfl hl.1 rfl (lv_room (Nat.le_of_ble_eq_true rfl)) dX3_count_25 ⟨(Nat.le_of_ble_eq_true rfl), (Nat.le_of_ble_eq_true rfl)⟩) hS (fun q _ h => h.elim) (fun q h => h.elim) (fun r_4 u_5 t H1 locs ht hvm hw hB hz1 hk1 hS => ?_)
    have hP := hP.kept (fun k q hk => hk1 q.1 (hP k q hk).lt (fun h => h))
    generalize H1 = H at hP hS ⊢
    have hw : r_4 = 0 := hw
    subst hw
    refine W.widen (k := 1) (n := 6) (by omega) (by omega) ?_
    refine vx_ret ?_
    exact W.iret (v := 0) hx hb hr (fun t ht hW => ⟨⟨_, (), rfl, (by simp [c_3]), trivial⟩, hS.F ht⟩) hS.2.2 dX3_count_28
  · obtain ⟨sa, hstr⟩ := hT.2.2 (124, "what is not 0 to 8") (by decide +kernel)
    exact vx_throwS (own := RX3) (cls := vs_B) (text := "what is not 0 to 8") (names := vs_N) (ik := 55) (is := 124) (ic := 59) (sa := sa) hx hb hnt hown (by decide +kernel) (by decide +kernel) (hts (.classLink RX3 55 vs_B) (List.mem_of_getElem? (i := 1) rfl)) (hts (.initialized vs_B) (List.mem_of_getElem? (i := 2) rfl)) hstr (vx_hat (fun w h => hts w (List.mem_cons_of_mem _ (List.mem_append_right _ h))) vs_c59 (vs_Wo hT.2.1.1.2.2 hT.2.1.2.2.2.2.2.2.2)) vs_g59 hT.1.1 hT.1.2 hS (hl.1.trans hml.symm) dX3_count_10 dX3_count_13 dX3_count_14 dX3_count_16 dX3_count_19 (fun x h9 => (htab x h9).elim) (Nat.le_of_ble_eq_true rfl) (Nat.le_of_ble_eq_true rfl) (Nat.le_of_ble_eq_true rfl) (Nat.le_of_ble_eq_true rfl) hlocks (fun t _ h1 h2 => ⟨(), trivial, ⟨rfl, (by simp [c_3])⟩, vs_F hS h1 h2⟩) hS.2.2 (Nat.le_of_ble_eq_true rfl) (Nat.le_of_ble_eq_true rfl)

theorem in_X2_moveOn_X2 : ∀ w ∈ wsX20, w ∈ wsX2_moveOn := by decide +kernel
set_option maxHeartbeats 4000000 in
set_option maxRecDepth 100000 in
theorem ct_X2_moveOn (l : Launch) (dC : Nat → ClassId) (dI : Nat → Nat → Nat) (ao : Nat) (aar : Nat) (o1 : Nat) (o2 : Nat) (o3 : Nat) (o4 : Nat) (o5 : Nat) (r1 : Nat) (r2 : Nat) (r3 : Nat) (r4 : Nat) (r5 : Nat) (sz : Nat) : Met l yX2_moveOn wsX2_moveOn ({ frames := 0, cells := 0, slots := 0, locals := 0 }) (va_Pc [.ref ao, .ref aar] (pZ (dC, dI) [(ao, .inr (2, [.int 0, .int 0, .ref o1, .ref o2, .ref o3, .ref o4, .ref o5])), (aar, .inr (2, [.int 0, .int 0, .ref r1, .ref r2, .ref r3, .ref r4, .ref r5]))] [] sz)) (va_Qv (fun (_ : Unit) => True) (fun _ t => pB (dC, dI) (va_A [(ao, .inr (2, [.int 0, .int 0, .ref o1, .ref o2, .ref o3, .ref o4, .ref o5])), (aar, .inr (2, [.int 0, .int 0, .ref r1, .ref r2, .ref r3, .ref r4, .ref r5]))] sz) [(ao, .inr (2, [.int 0, .int 0, .ref o1, .ref o2, .ref o3, .ref o4, .ref o5])), (aar, .inr (2, [.int 0, .int 0, .ref r1, .ref r2, .ref r3, .ref r4, .ref r5]))] [] t) (va_A [(ao, .inr (2, [.int 0, .int 0, .ref o1, .ref o2, .ref o3, .ref o4, .ref o5])), (aar, .inr (2, [.int 0, .int 0, .ref r1, .ref r2, .ref r3, .ref r4, .ref r5]))] sz)) 0 0 (va_A [(ao, .inr (2, [.int 0, .int 0, .ref o1, .ref o2, .ref o3, .ref o4, .ref o5])), (aar, .inr (2, [.int 0, .int 0, .ref r1, .ref r2, .ref r3, .ref r4, .ref r5]))] sz) := by
  refine Met.ofW (cc := cX2_moveOn) (maxL := 4) (ret := none) (by decide) rfl ?_
  intro p e s m args below meth c s₁ B hml hv
  obtain ⟨rfl, hsz, hP, hK, hD0⟩ := hv
  have hx := B.exec
  have hb := B.bytes
  have hr := B.returns
  have hts := atoms_spec (ws := wsX2_moveOn) B.pre
  have hown : s.vm.findClass RX2 = some m.cls := findClass_of_methodNamed B.named
  have hlocks := B.notSynchronized
  subst hsz
  have hD := hD0.self (sz := s.heap.size)
  generalize hAe : va_A [(ao, .inr (2, [.int 0, .int 0, .ref o1, .ref o2, .ref o3, .ref o4, .ref o5])), (aar, .inr (2, [.int 0, .int 0, .ref r1, .ref r2, .ref r3, .ref r4, .ref r5]))] s.heap.size = A at hD ⊢
  have hA : ∀ q : Nat, s.heap.size ≤ q → A q := fun q h => by rw [← hAe]; exact Or.inr h
  have hS : va_S A s.heap s.heap [] := va_S.rf
  have hP : va_P (dC, dI) vwCl [(ao, .inr (2, [.int 0, .int 0, .ref o1, .ref o2, .ref o3, .ref o4, .ref o5])), (aar, .inr (2, [.int 0, .int 0, .ref r1, .ref r2, .ref r3, .ref r4, .ref r5]))] s.heap := hP
  have hl := lv_entry ([.ref ao, .ref aar]) (n := 4) (Nat.le_of_ble_eq_true rfl)
  rw [lg_entry_eq]
  generalize (lg_sl ([.ref ao, .ref aar]) ++ List.replicate (4 - (lg_sl ([.ref ao, .ref aar])).length) Slot.unset).toArray = ls at hl ⊢
  have hl : lv_has ls 4 [(0, .ref ao), (1, .ref aar)] := hl
  refine lv_aload_n hx hb dX2_moveOn_0 rfl (lv_at hl 1 rfl) ?_
  refine lv_iconst (v := 0) hx hb dX2_moveOn_1 (by decide) ?_
  refine va_put (D := (dC, dI)) (ci := 2) (v := .int 0) (ty := .int) (C := RX2) (T := TX2) (N := 7) hx hb hts in_X2_moveOn_X2 tyX2 tyX2_ok nmX2 hown hK hP hD hS 1 rfl rfl 0 (by decide) (hts (.fieldLink RX2 27 "VaultDoors$Voices" "size" "I") (List.mem_of_getElem? (i := 1) rfl)) (fun _ h9 => h9) rfl (by decide +kernel) rfl rfl (Nat.le_of_ble_eq_true rfl) dX2_moveOn_2 (fun H locs hP hD hS => ?_)
  have hP : va_P (dC, dI) vwCl [(ao, .inr (2, [.int 0, .int 0, .ref o1, .ref o2, .ref o3, .ref o4, .ref o5])), (aar, .inr (2, [.int 0, .int 0, .ref r1, .ref r2, .ref r3, .ref r4, .ref r5]))] H := hP
  have hD : va_D A [(ao, .inr (2, [.int 0, .int 0, .ref o1, .ref o2, .ref o3, .ref o4, .ref o5])), (aar, .inr (2, [.int 0, .int 0, .ref r1, .ref r2, .ref r3, .ref r4, .ref r5]))] := hD
  refine lv_iconst (v := 0) hx hb dX2_moveOn_5 (by decide) ?_
  refine lv_istore_n (lv' := [(2, .int 0), (0, .ref ao), (1, .ref aar)]) hx hb dX2_moveOn_6 rfl hl (by decide) rfl (fun ls hl => ?_)
  refine lv_iconst (v := 0) hx hb dX2_moveOn_7 (by decide) ?_
  refine lv_istore_n (lv' := [(3, .int 0), (2, .int 0), (0, .ref ao), (1, .ref aar)]) hx hb dX2_moveOn_8 rfl hl (by decide) rfl (fun ls hl => ?_)
  refine lv_iload_n hx hb dX2_moveOn_9 rfl (lv_at hl 0 rfl) ?_
  refine lv_aload_n hx hb dX2_moveOn_10 rfl (lv_at hl 2 rfl) ?_
  refine va_get (D := (dC, dI)) (ci := 2) (v := .int 0) (C := RX2) (T := TX2) (N := 7) hx hb hts in_X2_moveOn_X2 hown hK hP 0 rfl rfl 0 (by decide) (hts (.fieldLink RX2 27 "VaultDoors$Voices" "size" "I") (List.mem_of_getElem? (i := 1) rfl)) (fun _ h9 => h9) rfl dX2_moveOn_11 ?_
  refine lv_icmp_ge (tgt := 82) hx hb dX2_moveOn_14 (by decide) (fun _ => ?_) (fun h => absurd h (by decide))
  refine lv_aload_n hx hb dX2_moveOn_82 rfl (lv_at hl 2 rfl) ?_
  refine lv_iload_n hx hb dX2_moveOn_83 rfl (lv_at hl 1 rfl) ?_
  refine va_put (D := (dC, dI)) (ci := 2) (v := .int 0) (ty := .int) (C := RX2) (T := TX2) (N := 7) hx hb hts in_X2_moveOn_X2 tyX2 tyX2_ok nmX2 hown hK hP hD hS 0 rfl rfl 0 (by decide) (hts (.fieldLink RX2 27 "VaultDoors$Voices" "size" "I") (List.mem_of_getElem? (i := 1) rfl)) (fun _ h9 => h9) rfl (by decide +kernel) rfl rfl (Nat.le_of_ble_eq_true rfl) dX2_moveOn_84 (fun H locs hP hD hS => ?_)
  have hP : va_P (dC, dI) vwCl [(ao, .inr (2, [.int 0, .int 0, .ref o1, .ref o2, .ref o3, .ref o4, .ref o5])), (aar, .inr (2, [.int 0, .int 0, .ref r1, .ref r2, .ref r3, .ref r4, .ref r5]))] H := hP
  have hD : va_D A [(ao, .inr (2, [.int 0, .int 0, .ref o1, .ref o2, .ref o3, .ref o4, .ref o5])), (aar, .inr (2, [.int 0, .int 0, .ref r1, .ref r2, .ref r3, .ref r4, .ref r5]))] := hD
  have hP9 := hP.sub (ws' := [(ao, .inr (2, [.int 0, .int 0, .ref o1, .ref o2, .ref o3, .ref o4, .ref o5])), (aar, .inr (2, [.int 0, .int 0, .ref r1, .ref r2, .ref r3, .ref r4, .ref r5]))]) [0, 1] rfl
  have hD9 := hD.sub (ws' := [(ao, .inr (2, [.int 0, .int 0, .ref o1, .ref o2, .ref o3, .ref o4, .ref o5])), (aar, .inr (2, [.int 0, .int 0, .ref r1, .ref r2, .ref r3, .ref r4, .ref r5]))]) [0, 1] (by decide) rfl
  have hK9 := hK.sub (tys' := []) [] rfl
  exact W.vret hx hb hr (fun t ht hW => ⟨⟨(), rfl, trivial, by rw [ht]; exact hP9, va_K.moved hW.alike hK9, hD9⟩, hS.F ht⟩) hS.2.2 dX2_moveOn_87

theorem in_X1_tickOn_X1 : ∀ w ∈ wsX10, w ∈ wsX1_tickOn := by decide +kernel
theorem in_X1_tickOn_X2 : ∀ w ∈ wsX20, w ∈ wsX1_tickOn := by decide +kernel
set_option maxHeartbeats 4000000 in
set_option maxRecDepth 100000 in
theorem ct_X1_tickOn (l : Launch) (dC : Nat → ClassId) (dI : Nat → Nat → Nat) (tk : Int32) (av : Nat) (adr : Nat) (ao : Nat) (aar : Nat) (o1 : Nat) (o2 : Nat) (o3 : Nat) (o4 : Nat) (o5 : Nat) (r1 : Nat) (r2 : Nat) (r3 : Nat) (r4 : Nat) (r5 : Nat) (sz : Nat) : Met l yX1_tickOn wsX1_tickOn ({ frames := 1, cells := 0, slots := 0, locals := 23 }) (va_Pc [.ref av] (pZ (dC, dI) [(av, .inr (1, [.int tk, .int 0, .ref adr, .ref ao, .ref aar])), (ao, .inr (2, [.int 0, .int 0, .ref o1, .ref o2, .ref o3, .ref o4, .ref o5])), (aar, .inr (2, [.int 0, .int 0, .ref r1, .ref r2, .ref r3, .ref r4, .ref r5]))] [] sz)) (va_Qi (fun (r : Int32) (_ : Unit) => r = 0) (fun _ t => pB (dC, dI) (va_A [(av, .inr (1, [.int tk, .int 0, .ref adr, .ref ao, .ref aar])), (ao, .inr (2, [.int 0, .int 0, .ref o1, .ref o2, .ref o3, .ref o4, .ref o5])), (aar, .inr (2, [.int 0, .int 0, .ref r1, .ref r2, .ref r3, .ref r4, .ref r5]))] sz) [(av, .inr (1, [.int (tk + 1), .int 0, .ref adr, .ref ao, .ref aar])), (ao, .inr (2, [.int 0, .int 0, .ref o1, .ref o2, .ref o3, .ref o4, .ref o5])), (aar, .inr (2, [.int 0, .int 0, .ref r1, .ref r2, .ref r3, .ref r4, .ref r5]))] [] t) (va_A [(av, .inr (1, [.int tk, .int 0, .ref adr, .ref ao, .ref aar])), (ao, .inr (2, [.int 0, .int 0, .ref o1, .ref o2, .ref o3, .ref o4, .ref o5])), (aar, .inr (2, [.int 0, .int 0, .ref r1, .ref r2, .ref r3, .ref r4, .ref r5]))] sz)) 0 0 (va_A [(av, .inr (1, [.int tk, .int 0, .ref adr, .ref ao, .ref aar])), (ao, .inr (2, [.int 0, .int 0, .ref o1, .ref o2, .ref o3, .ref o4, .ref o5])), (aar, .inr (2, [.int 0, .int 0, .ref r1, .ref r2, .ref r3, .ref r4, .ref r5]))] sz) := by
  refine Met.ofW (cc := cX1_tickOn) (maxL := 3) (ret := (some .int)) (by decide) rfl ?_
  intro p e s m args below meth c s₁ B hml hv
  obtain ⟨rfl, hsz, hP, hK, hD0⟩ := hv
  have hx := B.exec
  have hb := B.bytes
  have hr := B.returns
  have hts := atoms_spec (ws := wsX1_tickOn) B.pre
  have hown : s.vm.findClass RX1 = some m.cls := findClass_of_methodNamed B.named
  have hlocks := B.notSynchronized
  subst hsz
  have hD := hD0.self (sz := s.heap.size)
  generalize hAe : va_A [(av, .inr (1, [.int tk, .int 0, .ref adr, .ref ao, .ref aar])), (ao, .inr (2, [.int 0, .int 0, .ref o1, .ref o2, .ref o3, .ref o4, .ref o5])), (aar, .inr (2, [.int 0, .int 0, .ref r1, .ref r2, .ref r3, .ref r4, .ref r5]))] s.heap.size = A at hD ⊢
  have hA : ∀ q : Nat, s.heap.size ≤ q → A q := fun q h => by rw [← hAe]; exact Or.inr h
  have hS : va_S A s.heap s.heap [] := va_S.rf
  have hP : va_P (dC, dI) vwCl [(av, .inr (1, [.int tk, .int 0, .ref adr, .ref ao, .ref aar])), (ao, .inr (2, [.int 0, .int 0, .ref o1, .ref o2, .ref o3, .ref o4, .ref o5])), (aar, .inr (2, [.int 0, .int 0, .ref r1, .ref r2, .ref r3, .ref r4, .ref r5]))] s.heap := hP
  have hl := lv_entry ([.ref av]) (n := 3) (Nat.le_of_ble_eq_true rfl)
  rw [lg_entry_eq]
  generalize (lg_sl ([.ref av]) ++ List.replicate (3 - (lg_sl ([.ref av])).length) Slot.unset).toArray = ls at hl ⊢
  have hl : lv_has ls 3 [(0, .ref av)] := hl
  refine lv_iconst (v := 0) hx hb dX1_tickOn_0 (by decide) ?_
  refine lv_istore_n (lv' := [(1, .int 0), (0, .ref av)]) hx hb dX1_tickOn_1 rfl hl (by decide) rfl (fun ls hl => ?_)
  refine lv_iload_n hx hb dX1_tickOn_2 rfl (lv_at hl 0 rfl) ?_
  refine lv_aload_n hx hb dX1_tickOn_3 rfl (lv_at hl 1 rfl) ?_
  refine va_get (D := (dC, dI)) (ci := 1) (v := .int 0) (C := RX1) (T := TX1) (N := 5) hx hb hts in_X1_tickOn_X1 hown hK hP 0 rfl rfl 1 (by decide) (hts (.fieldLink RX1 32 "VaultDoors$Vault" "doorCount" "I") (List.mem_of_getElem? (i := 1) rfl)) (fun _ h9 => h9) rfl dX1_tickOn_4 ?_
  refine lv_icmp_ge (tgt := 25) hx hb dX1_tickOn_7 (by decide) (fun _ => ?_) (fun h => absurd h (by decide))
  refine lv_aload_n hx hb dX1_tickOn_25 rfl (lv_at hl 1 rfl) ?_
  refine va_get (D := (dC, dI)) (ci := 1) (v := .ref ao) (C := RX1) (T := TX1) (N := 5) hx hb hts in_X1_tickOn_X1 hown hK hP 0 rfl rfl 3 (by decide) (hts (.fieldLink RX1 20 "VaultDoors$Vault" "voices" "LVaultDoors$Voices;") (List.mem_of_getElem? (i := 3) rfl)) (fun _ h9 => h9) rfl dX1_tickOn_26 ?_
  refine lv_aload_n hx hb dX1_tickOn_29 rfl (lv_at hl 1 rfl) ?_
  refine va_get (D := (dC, dI)) (ci := 1) (v := .ref aar) (C := RX1) (T := TX1) (N := 5) hx hb hts in_X1_tickOn_X1 hown hK hP 0 rfl rfl 4 (by decide) (hts (.fieldLink RX1 24 "VaultDoors$Vault" "arrived" "LVaultDoors$Voices;") (List.mem_of_getElem? (i := 4) rfl)) (fun _ h9 => h9) rfl dX1_tickOn_30 ?_
  have hPc := hP.sub (ws' := [(ao, .inr (2, [.int 0, .int 0, .ref o1, .ref o2, .ref o3, .ref o4, .ref o5])), (aar, .inr (2, [.int 0, .int 0, .ref r1, .ref r2, .ref r3, .ref r4, .ref r5]))]) [1, 2] rfl
  have hKc := hK.sub (tys' := []) [] rfl
  have hDc := hD.sub (ws' := [(ao, .inr (2, [.int 0, .int 0, .ref o1, .ref o2, .ref o3, .ref o4, .ref o5])), (aar, .inr (2, [.int 0, .int 0, .ref r1, .ref r2, .ref r3, .ref r4, .ref r5]))]) [1, 2] (by decide) rfl
  have hFc := va_free (wc := [(ao, .inr (2, [.int 0, .int 0, .ref o1, .ref o2, .ref o3, .ref o4, .ref o5])), (aar, .inr (2, [.int 0, .int 0, .ref r1, .ref r2, .ref r3, .ref r4, .ref r5]))]) hD hS hA [1, 2] rfl
  refine va_callv (va_runV (As := [.ref aar]) (rest := []) ⟨hx, hb, hml, hown, hts⟩ (ct_X2_moveOn l dC dI ao aar o1 o2 o3 o4 o5 r1 r2 r3 r4 r5 s.heap.size) (cwV 1 hts gX1_tickOn_X2_moveOn rfl rfl rfl (by decide +kernel) ⟨(Nat.le_of_ble_eq_true rfl), (Nat.le_of_ble_eq_true rfl)⟩) ⟨pZ_blind, va_recv hKc hPc (ci := 2) (q0 := 0) rfl rfl, pZ_pre hPc hDc hKc⟩ rfl rfl hl.1 rfl (lv_room (Nat.le_of_ble_eq_true rfl)) dX1_tickOn_33 ⟨(Nat.le_of_ble_eq_true rfl), (Nat.le_of_ble_eq_true rfl)⟩) hS (fun q _ h => hFc q h) hFc (fun u_2 t H1 locs ht hvm hw hB hz1 hk1 hS => ?_)
  obtain ⟨hP1, hK1, hD1⟩ := hB
  rw [ht] at hP1
  have hK1 := va_K.moved hvm.symm hK1
  obtain ⟨hP, hD⟩ := va_join (wr := [(av, .inr (1, [.int tk, .int 0, .ref adr, .ref ao, .ref aar]))]) (w1 := [(ao, .inr (2, [.int 0, .int 0, .ref o1, .ref o2, .ref o3, .ref o4, .ref o5])), (aar, .inr (2, [.int 0, .int 0, .ref r1, .ref r2, .ref r3, .ref r4, .ref r5]))]) hP hD [1, 2] [0] rfl rfl (by decide) (by decide) hk1 hFc hP1 hD1
  generalize H1 = H at hP hS ⊢
  have hP : va_P (dC, dI) vwCl [(av, .inr (1, [.int tk, .int 0, .ref adr, .ref ao, .ref aar])), (ao, .inr (2, [.int 0, .int 0, .ref o1, .ref o2, .ref o3, .ref o4, .ref o5])), (aar, .inr (2, [.int 0, .int 0, .ref r1, .ref r2, .ref r3, .ref r4, .ref r5]))] H := hP
  have hD : va_D A [(av, .inr (1, [.int tk, .int 0, .ref adr, .ref ao, .ref aar])), (ao, .inr (2, [.int 0, .int 0, .ref o1, .ref o2, .ref o3, .ref o4, .ref o5])), (aar, .inr (2, [.int 0, .int 0, .ref r1, .ref r2, .ref r3, .ref r4, .ref r5]))] := hD
  have hK : va_K (dC, dI) vwCl [] _ := hK
  refine lv_iconst (v := 0) hx hb dX1_tickOn_36 (by decide) ?_
  refine lv_istore_n (lv' := [(1, .int 0), (0, .ref av)]) hx hb dX1_tickOn_37 rfl hl (by decide) rfl (fun ls hl => ?_)
  refine lv_iload_n hx hb dX1_tickOn_38 rfl (lv_at hl 0 rfl) ?_
  refine lv_aload_n hx hb dX1_tickOn_39 rfl (lv_at hl 1 rfl) ?_
  refine va_get (D := (dC, dI)) (ci := 1) (v := .ref aar) (C := RX1) (T := TX1) (N := 5) hx hb hts in_X1_tickOn_X1 hown hK hP 0 rfl rfl 4 (by decide) (hts (.fieldLink RX1 24 "VaultDoors$Vault" "arrived" "LVaultDoors$Voices;") (List.mem_of_getElem? (i := 4) rfl)) (fun _ h9 => h9) rfl dX1_tickOn_40 ?_
  refine va_get (D := (dC, dI)) (ci := 2) (v := .int 0) (C := RX2) (T := TX2) (N := 7) hx hb hts in_X1_tickOn_X2 hown hK hP 2 rfl rfl 0 (by decide) (hts (.fieldLink RX1 71 "VaultDoors$Voices" "size" "I") (List.mem_of_getElem? (i := 5) rfl)) (fun _ h9 => h9) rfl dX1_tickOn_43 ?_
  refine lv_icmp_ge (tgt := 95) hx hb dX1_tickOn_46 (by decide) (fun _ => ?_) (fun h => absurd h (by decide))
  refine lv_iconst (v := 0) hx hb dX1_tickOn_95 (by decide) ?_
  refine lv_istore_n (lv' := [(1, .int 0), (0, .ref av)]) hx hb dX1_tickOn_96 rfl hl (by decide) rfl (fun ls hl => ?_)
  refine lv_iconst (v := 0) hx hb dX1_tickOn_97 (by decide) ?_
  refine lv_istore_n (lv' := [(2, .int 0), (1, .int 0), (0, .ref av)]) hx hb dX1_tickOn_98 rfl hl (by decide) rfl (fun ls hl => ?_)
  refine lv_iload_n hx hb dX1_tickOn_99 rfl (lv_at hl 0 rfl) ?_
  refine lv_aload_n hx hb dX1_tickOn_100 rfl (lv_at hl 2 rfl) ?_
  refine va_get (D := (dC, dI)) (ci := 1) (v := .int 0) (C := RX1) (T := TX1) (N := 5) hx hb hts in_X1_tickOn_X1 hown hK hP 0 rfl rfl 1 (by decide) (hts (.fieldLink RX1 32 "VaultDoors$Vault" "doorCount" "I") (List.mem_of_getElem? (i := 1) rfl)) (fun _ h9 => h9) rfl dX1_tickOn_101 ?_
  refine lv_icmp_ge (tgt := 137) hx hb dX1_tickOn_104 (by decide) (fun _ => ?_) (fun h => absurd h (by decide))
  refine lv_aload_n hx hb dX1_tickOn_137 rfl (lv_at hl 2 rfl) ?_
  refine lv_dup hx hb dX1_tickOn_138 rfl ?_
  refine va_get (D := (dC, dI)) (ci := 1) (v := .int tk) (C := RX1) (T := TX1) (N := 5) hx hb hts in_X1_tickOn_X1 hown hK hP 0 rfl rfl 0 (by decide) (hts (.fieldLink RX1 28 "VaultDoors$Vault" "tick" "I") (List.mem_of_getElem? (i := 11) rfl)) (fun _ h9 => h9) rfl dX1_tickOn_139 ?_
  refine lv_iconst (v := 1) hx hb dX1_tickOn_142 (by decide) ?_
  refine lv_iadd hx hb dX1_tickOn_143 ?_
  refine va_put (D := (dC, dI)) (ci := 1) (v := .int (tk + 1)) (ty := .int) (C := RX1) (T := TX1) (N := 5) hx hb hts in_X1_tickOn_X1 tyX1 tyX1_ok nmX1 hown hK hP hD hS 0 rfl rfl 0 (by decide) (hts (.fieldLink RX1 28 "VaultDoors$Vault" "tick" "I") (List.mem_of_getElem? (i := 11) rfl)) (fun _ h9 => h9) rfl (by decide +kernel) rfl rfl (Nat.le_of_ble_eq_true rfl) dX1_tickOn_144 (fun H locs hP hD hS => ?_)
  have hP : va_P (dC, dI) vwCl [(av, .inr (1, [.int (tk + 1), .int 0, .ref adr, .ref ao, .ref aar])), (ao, .inr (2, [.int 0, .int 0, .ref o1, .ref o2, .ref o3, .ref o4, .ref o5])), (aar, .inr (2, [.int 0, .int 0, .ref r1, .ref r2, .ref r3, .ref r4, .ref r5]))] H := hP
  have hD : va_D A [(av, .inr (1, [.int (tk + 1), .int 0, .ref adr, .ref ao, .ref aar])), (ao, .inr (2, [.int 0, .int 0, .ref o1, .ref o2, .ref o3, .ref o4, .ref o5])), (aar, .inr (2, [.int 0, .int 0, .ref r1, .ref r2, .ref r3, .ref r4, .ref r5]))] := hD
  refine lv_iload_n hx hb dX1_tickOn_147 rfl (lv_at hl 1 rfl) ?_
  have hP9 := hP.sub (ws' := [(av, .inr (1, [.int (tk + 1), .int 0, .ref adr, .ref ao, .ref aar])), (ao, .inr (2, [.int 0, .int 0, .ref o1, .ref o2, .ref o3, .ref o4, .ref o5])), (aar, .inr (2, [.int 0, .int 0, .ref r1, .ref r2, .ref r3, .ref r4, .ref r5]))]) [0, 1, 2] rfl
  have hD9 := hD.sub (ws' := [(av, .inr (1, [.int (tk + 1), .int 0, .ref adr, .ref ao, .ref aar])), (ao, .inr (2, [.int 0, .int 0, .ref o1, .ref o2, .ref o3, .ref o4, .ref o5])), (aar, .inr (2, [.int 0, .int 0, .ref r1, .ref r2, .ref r3, .ref r4, .ref r5]))]) [0, 1, 2] (by decide) rfl
  have hK9 := hK.sub (tys' := []) [] rfl
  exact W.iret (v := 0) hx hb hr (fun t ht hW => ⟨⟨_, (), rfl, rfl, by rw [ht]; exact hP9, va_K.moved hW.alike hK9, hD9⟩, hS.F ht⟩) hS.2.2 dX1_tickOn_148

theorem in_X3_pass_X3 : ∀ w ∈ wsX30, w ∈ wsX3_pass := by decide +kernel
set_option maxHeartbeats 4000000 in
set_option maxRecDepth 100000 in
theorem ct_X3_pass (l : Launch) (hnt : l.stackTraces = false) (dC : Nat → ClassId) (dI : Nat → Nat → Nat) (za : Int32) (ax : Nat) (av : Nat) (at_ : Nat) (adr : Nat) (ao : Nat) (aar : Nat) (o1 : Nat) (o2 : Nat) (o3 : Nat) (o4 : Nat) (o5 : Nat) (r1 : Nat) (r2 : Nat) (r3 : Nat) (r4 : Nat) (r5 : Nat) (sz : Nat) : vx_Met l yX3_pass wsX3_pass ({ frames := 6, cells := 1, slots := 6, locals := 90 }) (va_Pc [.ref ax, .int za] (pY (dC, dI) [(ax, .inr (3, [.ref av, .ref at_])), (av, .inr (1, [.int 0, .int 0, .ref adr, .ref ao, .ref aar])), (ao, .inr (2, [.int 0, .int 0, .ref o1, .ref o2, .ref o3, .ref o4, .ref o5])), (aar, .inr (2, [.int 0, .int 0, .ref r1, .ref r2, .ref r3, .ref r4, .ref r5]))] [] sz)) (va_Qi (fun (r : Int32) (_ : Unit) => r = 0 ∧ ¬ vs_in za 1 200 = 0) (fun _ t => pB (dC, dI) (va_A [(ax, .inr (3, [.ref av, .ref at_])), (av, .inr (1, [.int 0, .int 0, .ref adr, .ref ao, .ref aar])), (ao, .inr (2, [.int 0, .int 0, .ref o1, .ref o2, .ref o3, .ref o4, .ref o5])), (aar, .inr (2, [.int 0, .int 0, .ref r1, .ref r2, .ref r3, .ref r4, .ref r5]))] sz) [] [] t) (va_A [(ax, .inr (3, [.ref av, .ref at_])), (av, .inr (1, [.int 0, .int 0, .ref adr, .ref ao, .ref aar])), (ao, .inr (2, [.int 0, .int 0, .ref o1, .ref o2, .ref o3, .ref o4, .ref o5])), (aar, .inr (2, [.int 0, .int 0, .ref r1, .ref r2, .ref r3, .ref r4, .ref r5]))] sz)) (vx_X (fun (_ : Unit) => True) (fun E _ _ => E = vs_I ∧ vs_in za 1 200 = 0) (va_A [(ax, .inr (3, [.ref av, .ref at_])), (av, .inr (1, [.int 0, .int 0, .ref adr, .ref ao, .ref aar])), (ao, .inr (2, [.int 0, .int 0, .ref o1, .ref o2, .ref o3, .ref o4, .ref o5])), (aar, .inr (2, [.int 0, .int 0, .ref r1, .ref r2, .ref r3, .ref r4, .ref r5]))] sz)) 1 6 (va_A [(ax, .inr (3, [.ref av, .ref at_])), (av, .inr (1, [.int 0, .int 0, .ref adr, .ref ao, .ref aar])), (ao, .inr (2, [.int 0, .int 0, .ref o1, .ref o2, .ref o3, .ref o4, .ref o5])), (aar, .inr (2, [.int 0, .int 0, .ref r1, .ref r2, .ref r3, .ref r4, .ref r5]))] sz) := by
  refine vx_ofW (cc := cX3_pass) (maxL := 4) (ret := (some .int)) (by decide) rfl ?_
  intro p e s m args below meth c s₁ B hml htab hv
  obtain ⟨rfl, ⟨hsz, hP, hK, hD0⟩, hT⟩ := hv
  have hx := B.exec
  have hb := B.bytes
  have hr := B.returns
  have hts := atoms_spec (ws := wsX3_pass) B.pre
  have hown : s.vm.findClass RX3 = some m.cls := findClass_of_methodNamed B.named
  have hlocks := B.notSynchronized
  subst hsz
  have hD := hD0.self (sz := s.heap.size)
  generalize hAe : va_A [(ax, .inr (3, [.ref av, .ref at_])), (av, .inr (1, [.int 0, .int 0, .ref adr, .ref ao, .ref aar])), (ao, .inr (2, [.int 0, .int 0, .ref o1, .ref o2, .ref o3, .ref o4, .ref o5])), (aar, .inr (2, [.int 0, .int 0, .ref r1, .ref r2, .ref r3, .ref r4, .ref r5]))] s.heap.size = A at hD hT ⊢
  have hA : ∀ q : Nat, s.heap.size ≤ q → A q := fun q h => by rw [← hAe]; exact Or.inr h
  have hS : va_S A s.heap s.heap [] := va_S.rf
  have hP : va_P (dC, dI) vwCl [(ax, .inr (3, [.ref av, .ref at_])), (av, .inr (1, [.int 0, .int 0, .ref adr, .ref ao, .ref aar])), (ao, .inr (2, [.int 0, .int 0, .ref o1, .ref o2, .ref o3, .ref o4, .ref o5])), (aar, .inr (2, [.int 0, .int 0, .ref r1, .ref r2, .ref r3, .ref r4, .ref r5]))] s.heap := hP
  have hl := lv_entry ([.ref ax, .int za]) (n := 4) (Nat.le_of_ble_eq_true rfl)
  rw [lg_entry_eq]
  generalize (lg_sl ([.ref ax, .int za]) ++ List.replicate (4 - (lg_sl ([.ref ax, .int za])).length) Slot.unset).toArray = ls at hl ⊢
  have hl : lv_has ls 4 [(0, .ref ax), (1, .int za)] := hl
  refine lv_iload_n hx hb dX3_pass_0 rfl (lv_at hl 1 rfl) ?_
  refine lv_iconst (v := 1) hx hb dX3_pass_1 (by decide) ?_
  refine lv_sipush (v := 200) hx hb dX3_pass_2 (by decide) ?_
  have hPc := hP.sub (ws' := []) [] rfl
  have hKc := hK.sub (tys' := []) [] rfl
  refine va_calli (va_runS (As := [.int za, .int 1, .int 200]) (rest := []) ⟨hx, hb, hml, hown, hts⟩ (ct_X3_isIn l dC dI za 1 200) (va_cwS 3 hts gX3_pass_X3_isIn rfl rfl rfl (by decide +kernel) ⟨(Nat.le_of_ble_eq_true rfl), (Nat.le_of_ble_eq_true rfl)⟩) ⟨pR_blind, pR_pre hPc hKc⟩ rfl rfl hl.1 rfl (lv_room (Nat.le_of_ble_eq_true rfl)) dX3_pass_5 ⟨(Nat.le_of_ble_eq_true rfl), (Nat.le_of_ble_eq_true rfl)⟩) hS (fun q _ h => h.elim) (fun q h => h.elim) (fun r_1 u_2 t H1 locs ht hvm hw hB hz1 hk1 hS => ?_)
  have hP := hP.kept (fun k q hk => hk1 q.1 (hP k q hk).lt (fun h => h))
  generalize H1 = H at hP hS ⊢
  have hw : r_1 = vs_in za 1 200 := hw
  subst hw
  refine lv_if_ne (tgt := 21) hx hb dX3_pass_8 (by decide) (fun c_3 => ?_) (fun c_3 => ?_)
  · refine lv_iconst (v := 0) hx hb dX3_pass_21 (by decide) ?_
    refine lv_istore_n (lv' := [(2, .int 0), (0, .ref ax), (1, .int za)]) hx hb dX3_pass_22 rfl hl (by decide) rfl (fun ls hl => ?_)
    refine lv_iconst (v := 0) hx hb dX3_pass_23 (by decide) ?_
    refine lv_istore_n (lv' := [(3, .int 0), (2, .int 0), (0, .ref ax), (1, .int za)]) hx hb dX3_pass_24 rfl hl (by decide) rfl (fun ls hl => ?_)
    have hloop : ∀ (n : Nat) (tk : Int32) (i0 : Int32) (H : Heap) (locs : List Loc) (ls : Array Slot), ((za.toInt - i0.toInt).toNat < n) → va_P (dC, dI) vwCl [(ax, .inr (3, [.ref av, .ref at_])), (av, .inr (1, [.int tk, .int 0, .ref adr, .ref ao, .ref aar])), (ao, .inr (2, [.int 0, .int 0, .ref o1, .ref o2, .ref o3, .ref o4, .ref o5])), (aar, .inr (2, [.int 0, .int 0, .ref r1, .ref r2, .ref r3, .ref r4, .ref r5]))] H → va_D A [(ax, .inr (3, [.ref av, .ref at_])), (av, .inr (1, [.int tk, .int 0, .ref adr, .ref ao, .ref aar])), (ao, .inr (2, [.int 0, .int 0, .ref o1, .ref o2, .ref o3, .ref o4, .ref o5])), (aar, .inr (2, [.int 0, .int 0, .ref r1, .ref r2, .ref r3, .ref r4, .ref r5]))] → va_S A s.heap H locs → lv_has ls 4 [(0, .ref ax), (1, .int za), (2, .int 0), (3, .int i0)] → W p l e (headSpec wsX3_pass ({ frames := 6, cells := 1, slots := 6, locals := 90 } : Room)).room s m ([.ref ax, .int za] : List Value).toArray below meth c H locs 0 0 (vx_MQ below (va_Qi (fun (r : Int32) (_ : Unit) => r = 0 ∧ ¬ vs_in za 1 200 = 0) (fun _ t => pB (dC, dI) A [] [] t) A) (vx_X (fun (_ : Unit) => True) (fun E _ _ => E = vs_I ∧ vs_in za 1 200 = 0) A) ([.ref ax, .int za] : List Value).toArray s 1 6 A) (F0 m 25 ls []) := by
      intro n
      induction n with
      | zero => intro tk i0 H locs ls hn; exact absurd hn (Nat.not_lt_zero _)
      | succ n ih =>
        intro tk i0 H locs ls hn hP hD hS hl
        refine lv_iload_n hx hb dX3_pass_25 rfl (lv_at hl 3 rfl) ?_
        refine lv_iload_n hx hb dX3_pass_26 rfl (lv_at hl 1 rfl) ?_
        refine lv_icmp_ge (tgt := 46) hx hb dX3_pass_27 (by decide) (fun c_4 => ?_) (fun c_4 => ?_)
        · refine lv_iload_n hx hb dX3_pass_46 rfl (lv_at hl 2 rfl) ?_
          refine W.widen (k := 1) (n := 6) (by omega) (by omega) ?_
          have hP9 := hP.sub (ws' := []) [] rfl
          have hD9 := hD.sub (ws' := []) [] (by decide) rfl
          have hK9 := hK.sub (tys' := []) [] rfl
          refine vx_ret ?_
          exact W.iret (v := 0) hx hb hr (fun t ht hW => ⟨⟨_, (), rfl, (by simp [c_3, c_4]), by rw [ht]; exact hP9, va_K.moved hW.alike hK9, hD9⟩, hS.F ht⟩) hS.2.2 dX3_pass_47
        · refine lv_iload_n hx hb dX3_pass_30 rfl (lv_at hl 2 rfl) ?_
          refine lv_aload_n hx hb dX3_pass_31 rfl (lv_at hl 0 rfl) ?_
          refine va_get (D := (dC, dI)) (ci := 3) (v := .ref av) (C := RX3) (T := TX3) (N := 2) hx hb hts in_X3_pass_X3 hown hK hP 0 rfl rfl 0 (by decide) (hts (.fieldLink RX3 10 "VaultDoors" "vault" "LVaultDoors$Vault;") (List.mem_of_getElem? (i := 3) rfl)) (fun _ h9 => h9) rfl dX3_pass_32 ?_
          have hPc := hP.sub (ws' := [(av, .inr (1, [.int tk, .int 0, .ref adr, .ref ao, .ref aar])), (ao, .inr (2, [.int 0, .int 0, .ref o1, .ref o2, .ref o3, .ref o4, .ref o5])), (aar, .inr (2, [.int 0, .int 0, .ref r1, .ref r2, .ref r3, .ref r4, .ref r5]))]) [1, 2, 3] rfl
          have hKc := hK.sub (tys' := []) [] rfl
          have hDc := hD.sub (ws' := [(av, .inr (1, [.int tk, .int 0, .ref adr, .ref ao, .ref aar])), (ao, .inr (2, [.int 0, .int 0, .ref o1, .ref o2, .ref o3, .ref o4, .ref o5])), (aar, .inr (2, [.int 0, .int 0, .ref r1, .ref r2, .ref r3, .ref r4, .ref r5]))]) [1, 2, 3] (by decide) rfl
          have hFc := va_free (wc := [(av, .inr (1, [.int tk, .int 0, .ref adr, .ref ao, .ref aar])), (ao, .inr (2, [.int 0, .int 0, .ref o1, .ref o2, .ref o3, .ref o4, .ref o5])), (aar, .inr (2, [.int 0, .int 0, .ref r1, .ref r2, .ref r3, .ref r4, .ref r5]))]) hD hS hA [1, 2, 3] rfl
          refine va_calli (va_runV (As := []) (rest := [.int 0]) ⟨hx, hb, hml, hown, hts⟩ (ct_X1_tickOn l dC dI tk av adr ao aar o1 o2 o3 o4 o5 r1 r2 r3 r4 r5 H.size) (cwV 0 hts gX3_pass_X1_tickOn rfl rfl rfl (by decide +kernel) ⟨(Nat.le_of_ble_eq_true rfl), (Nat.le_of_ble_eq_true rfl)⟩) ⟨pZ_blind, va_recv hKc hPc (ci := 1) (q0 := 0) rfl rfl, pZ_pre hPc hDc hKc⟩ rfl rfl hl.1 rfl (lv_room (Nat.le_of_ble_eq_true rfl)) dX3_pass_35 ⟨(Nat.le_of_ble_eq_true rfl), (Nat.le_of_ble_eq_true rfl)⟩) hS (fun q _ h => hFc q h) hFc (fun r_5 u_6 t H1 locs ht hvm hw hB hz1 hk1 hS => ?_)
          obtain ⟨hP1, hK1, hD1⟩ := hB
          rw [ht] at hP1
          have hK1 := va_K.moved hvm.symm hK1
          obtain ⟨hP, hD⟩ := va_join (wr := [(ax, .inr (3, [.ref av, .ref at_]))]) (w1 := [(av, .inr (1, [.int (tk + 1), .int 0, .ref adr, .ref ao, .ref aar])), (ao, .inr (2, [.int 0, .int 0, .ref o1, .ref o2, .ref o3, .ref o4, .ref o5])), (aar, .inr (2, [.int 0, .int 0, .ref r1, .ref r2, .ref r3, .ref r4, .ref r5]))]) hP hD [1, 2, 3] [0] rfl rfl (by decide) (by decide) hk1 hFc hP1 hD1
          generalize H1 = H at hP hS ⊢
          have hP : va_P (dC, dI) vwCl [(ax, .inr (3, [.ref av, .ref at_])), (av, .inr (1, [.int (tk + 1), .int 0, .ref adr, .ref ao, .ref aar])), (ao, .inr (2, [.int 0, .int 0, .ref o1, .ref o2, .ref o3, .ref o4, .ref o5])), (aar, .inr (2, [.int 0, .int 0, .ref r1, .ref r2, .ref r3, .ref r4, .ref r5]))] H := hP
          have hD : va_D A [(ax, .inr (3, [.ref av, .ref at_])), (av, .inr (1, [.int (tk + 1), .int 0, .ref adr, .ref ao, .ref aar])), (ao, .inr (2, [.int 0, .int 0, .ref o1, .ref o2, .ref o3, .ref o4, .ref o5])), (aar, .inr (2, [.int 0, .int 0, .ref r1, .ref r2, .ref r3, .ref r4, .ref r5]))] := hD
          have hK : va_K (dC, dI) vwCl [] _ := hK
          have hw : r_5 = 0 := hw
          subst hw
          refine lv_iadd hx hb dX3_pass_38 ?_
          refine lv_topi (nm_r (e' := 0) (by decide) ?_)
          refine lv_istore_n (lv' := [(2, .int 0), (0, .ref ax), (1, .int za), (3, .int i0)]) hx hb dX3_pass_39 rfl hl (by decide) rfl (fun ls hl => ?_)
          obtain ⟨x_7, ex_7⟩ : ∃ y : Int32, y = i0 + 1 := ⟨_, rfl⟩
          refine lv_iinc (v := x_7) (lv' := [(3, .int x_7), (2, .int 0), (0, .ref ax), (1, .int za)]) hx hb dX3_pass_40 hl (k := 3) rfl (by rw [ex_7]; rfl) (by decide) rfl (fun ls hl => ?_)
          refine lv_goto (tgt := 25) hx hb dX3_pass_43 (by decide) ?_
          exact ih (tk + 1) x_7 _ _ _ ((by rw [ex_7]; exact vs_step c_4 hn)) (hP.sub (ws' := [(ax, .inr (3, [.ref av, .ref at_])), (av, .inr (1, [.int (tk + 1), .int 0, .ref adr, .ref ao, .ref aar])), (ao, .inr (2, [.int 0, .int 0, .ref o1, .ref o2, .ref o3, .ref o4, .ref o5])), (aar, .inr (2, [.int 0, .int 0, .ref r1, .ref r2, .ref r3, .ref r4, .ref r5]))]) [0, 1, 2, 3] rfl) (hD.sub (ws' := [(ax, .inr (3, [.ref av, .ref at_])), (av, .inr (1, [.int (tk + 1), .int 0, .ref adr, .ref ao, .ref aar])), (ao, .inr (2, [.int 0, .int 0, .ref o1, .ref o2, .ref o3, .ref o4, .ref o5])), (aar, .inr (2, [.int 0, .int 0, .ref r1, .ref r2, .ref r3, .ref r4, .ref r5]))]) [0, 1, 2, 3] (by decide) rfl) hS (lv_sub hl (l' := [(0, .ref ax), (1, .int za), (2, .int 0), (3, .int x_7)]) [2, 3, 1, 0] rfl)
    exact hloop _ 0 0 _ _ _ (Nat.lt_succ_self _) (hP.sub (ws' := [(ax, .inr (3, [.ref av, .ref at_])), (av, .inr (1, [.int 0, .int 0, .ref adr, .ref ao, .ref aar])), (ao, .inr (2, [.int 0, .int 0, .ref o1, .ref o2, .ref o3, .ref o4, .ref o5])), (aar, .inr (2, [.int 0, .int 0, .ref r1, .ref r2, .ref r3, .ref r4, .ref r5]))]) [0, 1, 2, 3] rfl) (hD.sub (ws' := [(ax, .inr (3, [.ref av, .ref at_])), (av, .inr (1, [.int 0, .int 0, .ref adr, .ref ao, .ref aar])), (ao, .inr (2, [.int 0, .int 0, .ref o1, .ref o2, .ref o3, .ref o4, .ref o5])), (aar, .inr (2, [.int 0, .int 0, .ref r1, .ref r2, .ref r3, .ref r4, .ref r5]))]) [0, 1, 2, 3] (by decide) rfl) hS (lv_sub hl (l' := [(0, .ref ax), (1, .int za), (2, .int 0), (3, .int 0)]) [2, 3, 1, 0] rfl)
  · obtain ⟨sa, hstr⟩ := hT.2.2 (130, "ticks is not 1 to 200") (by decide +kernel)
    exact vx_throwS (own := RX3) (cls := vs_I) (text := "ticks is not 1 to 200") (names := vs_N) (ik := 23) (is := 130) (ic := 27) (sa := sa) hx hb hnt hown (by decide +kernel) (by decide +kernel) (hts (.classLink RX3 23 vs_I) (List.mem_of_getElem? (i := 1) rfl)) (hts (.initialized vs_I) (List.mem_of_getElem? (i := 2) rfl)) hstr (vx_hat (fun w h => hts w (List.mem_cons_of_mem _ (List.mem_append_right _ h))) vs_c27 (vs_Wo hT.2.1.1.1 hT.2.1.2.2.2.2.2.2.2)) vs_g27 hT.1.1 hT.1.2 hS (hl.1.trans hml.symm) dX3_pass_11 dX3_pass_14 dX3_pass_15 dX3_pass_17 dX3_pass_20 (fun x h9 => (htab x h9).elim) (Nat.le_of_ble_eq_true rfl) (Nat.le_of_ble_eq_true rfl) (Nat.le_of_ble_eq_true rfl) (Nat.le_of_ble_eq_true rfl) hlocks (fun t _ h1 h2 => ⟨(), trivial, ⟨rfl, (by simp [c_3])⟩, vs_F hS h1 h2⟩) hS.2.2 (Nat.le_of_ble_eq_true rfl) (Nat.le_of_ble_eq_true rfl)

theorem in_X3_best_X1 : ∀ w ∈ wsX10, w ∈ wsX3_best := by decide +kernel
theorem in_X3_best_X3 : ∀ w ∈ wsX30, w ∈ wsX3_best := by decide +kernel
set_option maxHeartbeats 4000000 in
set_option maxRecDepth 100000 in
theorem ct_X3_best (l : Launch) (hnt : l.stackTraces = false) (dC : Nat → ClassId) (dI : Nat → Nat → Nat) (za : Int32) (ax : Nat) (av : Nat) (at_ : Nat) (adr : Nat) (ao : Nat) (aar : Nat) : vx_Met l yX3_best wsX3_best ({ frames := 6, cells := 1, slots := 6, locals := 90 }) (va_Pc [.ref ax, .int za] (pX (dC, dI) [(ax, .inr (3, [.ref av, .ref at_])), (av, .inr (1, [.int 0, .int 0, .ref adr, .ref ao, .ref aar]))] [])) (va_Qi (fun (r : Int32) (_ : Unit) => r = -1 ∧ ¬ vs_in za 1 30 = 0) (fun _ _ => True) (fun _ => False)) (vx_X (fun (_ : Unit) => True) (fun E _ _ => E = vs_I ∧ vs_in za 1 30 = 0) (fun _ => False)) 1 6 (fun _ => False) := by
  refine vx_ofW (cc := cX3_best) (maxL := 6) (ret := (some .int)) (by decide) rfl ?_
  intro p e s m args below meth c s₁ B hml htab hv
  obtain ⟨rfl, ⟨hP, hK⟩, hT⟩ := hv
  have hx := B.exec
  have hb := B.bytes
  have hr := B.returns
  have hts := atoms_spec (ws := wsX3_best) B.pre
  have hown : s.vm.findClass RX3 = some m.cls := findClass_of_methodNamed B.named
  have hlocks := B.notSynchronized
  have hS : va_S (fun _ => False) s.heap s.heap [] := va_S.rf
  have hP : va_P (dC, dI) vwCl [(ax, .inr (3, [.ref av, .ref at_])), (av, .inr (1, [.int 0, .int 0, .ref adr, .ref ao, .ref aar]))] s.heap := hP
  have hl := lv_entry ([.ref ax, .int za]) (n := 6) (Nat.le_of_ble_eq_true rfl)
  rw [lg_entry_eq]
  generalize (lg_sl ([.ref ax, .int za]) ++ List.replicate (6 - (lg_sl ([.ref ax, .int za])).length) Slot.unset).toArray = ls at hl ⊢
  have hl : lv_has ls 6 [(0, .ref ax), (1, .int za)] := hl
  refine lv_iload_n hx hb dX3_best_0 rfl (lv_at hl 1 rfl) ?_
  refine lv_iconst (v := 1) hx hb dX3_best_1 (by decide) ?_
  refine lv_bipush (v := 30) hx hb dX3_best_2 (by decide) ?_
  have hPc := hP.sub (ws' := []) [] rfl
  have hKc := hK.sub (tys' := []) [] rfl
  refine va_calli (va_runS (As := [.int za, .int 1, .int 30]) (rest := []) ⟨hx, hb, hml, hown, hts⟩ (ct_X3_isIn l dC dI za 1 30) (va_cwS 3 hts gX3_best_X3_isIn rfl rfl rfl (by decide +kernel) ⟨(Nat.le_of_ble_eq_true rfl), (Nat.le_of_ble_eq_true rfl)⟩) ⟨pR_blind, pR_pre hPc hKc⟩ rfl rfl hl.1 rfl (lv_room (Nat.le_of_ble_eq_true rfl)) dX3_best_4 ⟨(Nat.le_of_ble_eq_true rfl), (Nat.le_of_ble_eq_true rfl)⟩) hS (fun q _ h => h.elim) (fun q h => h.elim) (fun r_1 u_2 t H1 locs ht hvm hw hB hz1 hk1 hS => ?_)
  have hP := hP.kept (fun k q hk => hk1 q.1 (hP k q hk).lt (fun h => h))
  generalize H1 = H at hP hS ⊢
  have hw : r_1 = vs_in za 1 30 := hw
  subst hw
  refine lv_if_ne (tgt := 20) hx hb dX3_best_7 (by decide) (fun c_3 => ?_) (fun c_3 => ?_)
  · refine lv_iconst (v := (-1)) hx hb dX3_best_20 (by decide) ?_
    refine lv_istore_n (lv' := [(2, .int (-1)), (0, .ref ax), (1, .int za)]) hx hb dX3_best_21 rfl hl (by decide) rfl (fun ls hl => ?_)
    refine lv_iconst (v := (-1)) hx hb dX3_best_22 (by decide) ?_
    refine lv_istore_n (lv' := [(3, .int (-1)), (2, .int (-1)), (0, .ref ax), (1, .int za)]) hx hb dX3_best_23 rfl hl (by decide) rfl (fun ls hl => ?_)
    refine lv_iconst (v := 0) hx hb dX3_best_24 (by decide) ?_
    refine lv_istore (lv' := [(4, .int 0), (3, .int (-1)), (2, .int (-1)), (0, .ref ax), (1, .int za)]) hx hb dX3_best_25 hl (by decide) rfl (fun ls hl => ?_)
    refine lv_iload hx hb dX3_best_27 (lv_at hl 0 rfl) ?_
    refine lv_aload_n hx hb dX3_best_29 rfl (lv_at hl 3 rfl) ?_
    refine va_get (D := (dC, dI)) (ci := 3) (v := .ref av) (C := RX3) (T := TX3) (N := 2) hx hb hts in_X3_best_X3 hown hK hP 0 rfl rfl 0 (by decide) (hts (.fieldLink RX3 10 "VaultDoors" "vault" "LVaultDoors$Vault;") (List.mem_of_getElem? (i := 3) rfl)) (fun _ h9 => h9) rfl dX3_best_30 ?_
    refine va_get (D := (dC, dI)) (ci := 1) (v := .int 0) (C := RX1) (T := TX1) (N := 5) hx hb hts in_X3_best_X1 hown hK hP 1 rfl rfl 1 (by decide) (hts (.fieldLink RX3 39 "VaultDoors$Vault" "doorCount" "I") (List.mem_of_getElem? (i := 4) rfl)) (fun _ h9 => h9) rfl dX3_best_33 ?_
    refine lv_icmp_ge (tgt := 69) hx hb dX3_best_36 (by decide) (fun _ => ?_) (fun h => absurd h (by decide))
    refine lv_iload_n hx hb dX3_best_69 rfl (lv_at hl 2 rfl) ?_
    refine W.widen (k := 1) (n := 6) (by omega) (by omega) ?_
    refine vx_ret ?_
    exact W.iret (v := (-1)) hx hb hr (fun t ht hW => ⟨⟨_, (), rfl, (by simp [c_3]), trivial⟩, hS.F ht⟩) hS.2.2 dX3_best_70
  · obtain ⟨sa, hstr⟩ := hT.2.2 (145, "ticks is not 1 to 30") (by decide +kernel)
    exact vx_throwS (own := RX3) (cls := vs_I) (text := "ticks is not 1 to 30") (names := vs_N) (ik := 23) (is := 145) (ic := 27) (sa := sa) hx hb hnt hown (by decide +kernel) (by decide +kernel) (hts (.classLink RX3 23 vs_I) (List.mem_of_getElem? (i := 1) rfl)) (hts (.initialized vs_I) (List.mem_of_getElem? (i := 2) rfl)) hstr (vx_hat (fun w h => hts w (List.mem_cons_of_mem _ (List.mem_append_right _ h))) vs_c27 (vs_Wo hT.2.1.1.1 hT.2.1.2.2.2.2.2.2.2)) vs_g27 hT.1.1 hT.1.2 hS (hl.1.trans hml.symm) dX3_best_10 dX3_best_13 dX3_best_14 dX3_best_16 dX3_best_19 (fun x h9 => (htab x h9).elim) (Nat.le_of_ble_eq_true rfl) (Nat.le_of_ble_eq_true rfl) (Nat.le_of_ble_eq_true rfl) (Nat.le_of_ble_eq_true rfl) hlocks (fun t _ h1 h2 => ⟨(), trivial, ⟨rfl, (by simp [c_3])⟩, vs_F hS h1 h2⟩) hS.2.2 (Nat.le_of_ble_eq_true rfl) (Nat.le_of_ble_eq_true rfl)

theorem in_X3_mean_X1 : ∀ w ∈ wsX10, w ∈ wsX3_mean := by decide +kernel
theorem in_X3_mean_X3 : ∀ w ∈ wsX30, w ∈ wsX3_mean := by decide +kernel
set_option maxHeartbeats 4000000 in
set_option maxRecDepth 100000 in
theorem ct_X3_mean (l : Launch) (dC : Nat → ClassId) (dI : Nat → Nat → Nat) (ax : Nat) (av : Nat) (at_ : Nat) (adr : Nat) (ao : Nat) (aar : Nat) : Met l yX3_mean wsX3_mean ({ frames := 0, cells := 0, slots := 0, locals := 0 }) (va_Pc [.ref ax] (pR (dC, dI) [(ax, .inr (3, [.ref av, .ref at_])), (av, .inr (1, [.int 0, .int 0, .ref adr, .ref ao, .ref aar]))] [])) (va_Qd (fun (r : UInt64) (_ : Unit) => r = FP.dconst0) (fun _ _ => True) (fun _ => False)) 0 0 (fun _ => False) := by
  refine Met.ofW (cc := cX3_mean) (maxL := 4) (ret := (some .double)) (by decide) rfl ?_
  intro p e s m args below meth c s₁ B hml hv
  obtain ⟨rfl, hP, hK⟩ := hv
  have hx := B.exec
  have hb := B.bytes
  have hr := B.returns
  have hts := atoms_spec (ws := wsX3_mean) B.pre
  have hown : s.vm.findClass RX3 = some m.cls := findClass_of_methodNamed B.named
  have hlocks := B.notSynchronized
  have hS : va_S (fun _ => False) s.heap s.heap [] := va_S.rf
  have hP : va_P (dC, dI) vwCl [(ax, .inr (3, [.ref av, .ref at_])), (av, .inr (1, [.int 0, .int 0, .ref adr, .ref ao, .ref aar]))] s.heap := hP
  have hl := lv_entry ([.ref ax]) (n := 4) (Nat.le_of_ble_eq_true rfl)
  rw [lg_entry_eq]
  generalize (lg_sl ([.ref ax]) ++ List.replicate (4 - (lg_sl ([.ref ax])).length) Slot.unset).toArray = ls at hl ⊢
  have hl : lv_has ls 4 [(0, .ref ax)] := hl
  refine lv_iconst (v := 0) hx hb dX3_mean_0 (by decide) ?_
  refine lv_istore_n (lv' := [(1, .int 0), (0, .ref ax)]) hx hb dX3_mean_1 rfl hl (by decide) rfl (fun ls hl => ?_)
  refine lv_iconst (v := 0) hx hb dX3_mean_2 (by decide) ?_
  refine lv_istore_n (lv' := [(2, .int 0), (1, .int 0), (0, .ref ax)]) hx hb dX3_mean_3 rfl hl (by decide) rfl (fun ls hl => ?_)
  refine lv_iconst (v := 0) hx hb dX3_mean_4 (by decide) ?_
  refine lv_istore_n (lv' := [(3, .int 0), (2, .int 0), (1, .int 0), (0, .ref ax)]) hx hb dX3_mean_5 rfl hl (by decide) rfl (fun ls hl => ?_)
  refine lv_iload_n hx hb dX3_mean_6 rfl (lv_at hl 0 rfl) ?_
  refine lv_aload_n hx hb dX3_mean_7 rfl (lv_at hl 3 rfl) ?_
  refine va_get (D := (dC, dI)) (ci := 3) (v := .ref av) (C := RX3) (T := TX3) (N := 2) hx hb hts in_X3_mean_X3 hown hK hP 0 rfl rfl 0 (by decide) (hts (.fieldLink RX3 10 "VaultDoors" "vault" "LVaultDoors$Vault;") (List.mem_of_getElem? (i := 1) rfl)) (fun _ h9 => h9) rfl dX3_mean_8 ?_
  refine va_get (D := (dC, dI)) (ci := 1) (v := .int 0) (C := RX1) (T := TX1) (N := 5) hx hb hts in_X3_mean_X1 hown hK hP 1 rfl rfl 1 (by decide) (hts (.fieldLink RX3 39 "VaultDoors$Vault" "doorCount" "I") (List.mem_of_getElem? (i := 2) rfl)) (fun _ h9 => h9) rfl dX3_mean_11 ?_
  refine lv_icmp_ge (tgt := 53) hx hb dX3_mean_14 (by decide) (fun _ => ?_) (fun h => absurd h (by decide))
  refine lv_iload_n hx hb dX3_mean_53 rfl (lv_at hl 2 rfl) ?_
  refine lv_iload_n hx hb dX3_mean_54 rfl (lv_at hl 1 rfl) ?_
  refine lv_iadd hx hb dX3_mean_55 ?_
  refine lv_topi (nm_r (e' := 0) (by decide) ?_)
  refine lv_istore_n (lv' := [(3, .int 0), (2, .int 0), (1, .int 0), (0, .ref ax)]) hx hb dX3_mean_56 rfl hl (by decide) rfl (fun ls hl => ?_)
  refine lv_iload_n hx hb dX3_mean_57 rfl (lv_at hl 0 rfl) ?_
  refine lv_if_le (tgt := 69) hx hb dX3_mean_58 (by decide) (fun _ => ?_) (fun h => absurd h (by decide))
  refine lv_dconst0 hx hb dX3_mean_69 ?_
  exact W.dret (v := FP.dconst0) hx hb hr (fun t ht hW => ⟨⟨_, (), rfl, rfl, trivial⟩, hS.F ht⟩) hS.2.2 dX3_mean_70

theorem in_X3_digest_X1 : ∀ w ∈ wsX10, w ∈ wsX3_digest := by decide +kernel
theorem in_X3_digest_X2 : ∀ w ∈ wsX20, w ∈ wsX3_digest := by decide +kernel
theorem in_X3_digest_X3 : ∀ w ∈ wsX30, w ∈ wsX3_digest := by decide +kernel
set_option maxHeartbeats 4000000 in
set_option maxRecDepth 100000 in
theorem ct_X3_digest (l : Launch) (dC : Nat → ClassId) (dI : Nat → Nat → Nat) (ax : Nat) (av : Nat) (at_ : Nat) (adr : Nat) (ao : Nat) (aar : Nat) (o1 : Nat) (o2 : Nat) (o3 : Nat) (o4 : Nat) (o5 : Nat) : Met l yX3_digest wsX3_digest ({ frames := 2, cells := 0, slots := 0, locals := 44 }) (va_Pc [.ref ax] (pR (dC, dI) [(ax, .inr (3, [.ref av, .ref at_])), (av, .inr (1, [.int 0, .int 0, .ref adr, .ref ao, .ref aar])), (ao, .inr (2, [.int 0, .int 0, .ref o1, .ref o2, .ref o3, .ref o4, .ref o5]))] [])) (va_Ql (fun (r : Int64) (_ : Unit) => r = 23980737299728597) (fun _ _ => True) (fun _ => False)) 0 0 (fun _ => False) := by
  refine Met.ofW (cc := cX3_digest) (maxL := 5) (ret := (some .long)) (by decide) rfl ?_
  intro p e s m args below meth c s₁ B hml hv
  obtain ⟨rfl, hP, hK⟩ := hv
  have hx := B.exec
  have hb := B.bytes
  have hr := B.returns
  have hts := atoms_spec (ws := wsX3_digest) B.pre
  have hown : s.vm.findClass RX3 = some m.cls := findClass_of_methodNamed B.named
  have hlocks := B.notSynchronized
  have hS : va_S (fun _ => False) s.heap s.heap [] := va_S.rf
  have hP : va_P (dC, dI) vwCl [(ax, .inr (3, [.ref av, .ref at_])), (av, .inr (1, [.int 0, .int 0, .ref adr, .ref ao, .ref aar])), (ao, .inr (2, [.int 0, .int 0, .ref o1, .ref o2, .ref o3, .ref o4, .ref o5]))] s.heap := hP
  have hl := lv_entry ([.ref ax]) (n := 5) (Nat.le_of_ble_eq_true rfl)
  rw [lg_entry_eq]
  generalize (lg_sl ([.ref ax]) ++ List.replicate (5 - (lg_sl ([.ref ax])).length) Slot.unset).toArray = ls at hl ⊢
  have hl : lv_has ls 5 [(0, .ref ax)] := hl
  refine lv_ldc2 (v := 907) hx hb hown (hts (.constantLong RX3 158 907) (by decide +kernel)) dX3_digest_0 ?_
  refine lv_lstore_n (lv' := [(1, .long 907), (0, .ref ax)]) hx hb dX3_digest_3 rfl hl (by decide) rfl (fun ls hl => ?_)
  refine lv_iconst (v := 0) hx hb dX3_digest_4 (by decide) ?_
  refine lv_istore_n (lv' := [(3, .int 0), (1, .long 907), (0, .ref ax)]) hx hb dX3_digest_5 rfl hl (by decide) rfl (fun ls hl => ?_)
  refine lv_iload_n hx hb dX3_digest_6 rfl (lv_at hl 0 rfl) ?_
  refine lv_bipush (v := 9) hx hb dX3_digest_7 (by decide) ?_
  refine lv_icmp_ge (tgt := 34) hx hb dX3_digest_9 (by decide) (fun h => absurd h (by decide)) (fun _ => ?_)
  refine lv_lload_n hx hb dX3_digest_12 rfl (lv_at hl 1 rfl) ?_
  refine lv_ldc2 (v := 31) hx hb hown (hts (.constantLong RX3 160 31) (by decide +kernel)) dX3_digest_13 ?_
  refine lv_lmul hx hb dX3_digest_16 ?_
  refine lv_topl (nm_r (e' := 28117) (by decide) ?_)
  refine lv_aload_n hx hb dX3_digest_17 rfl (lv_at hl 2 rfl) ?_
  refine va_get (D := (dC, dI)) (ci := 3) (v := .ref av) (C := RX3) (T := TX3) (N := 2) hx hb hts in_X3_digest_X3 hown hK hP 0 rfl rfl 0 (by decide) (hts (.fieldLink RX3 10 "VaultDoors" "vault" "LVaultDoors$Vault;") (List.mem_of_getElem? (i := 3) rfl)) (fun _ h9 => h9) rfl dX3_digest_18 ?_
  refine lv_iload_n hx hb dX3_digest_21 rfl (lv_at hl 0 rfl) ?_
  have hPc := hP.sub (ws' := [(av, .inr (1, [.int 0, .int 0, .ref adr, .ref ao, .ref aar])), (ao, .inr (2, [.int 0, .int 0, .ref o1, .ref o2, .ref o3, .ref o4, .ref o5]))]) [1, 2] rfl
  have hKc := hK.sub (tys' := []) [] rfl
  refine va_calli (va_runV (As := [.int 0]) (rest := [.long 28117]) ⟨hx, hb, hml, hown, hts⟩ (ct_X1_fact l dC dI 0 av adr ao aar o1 o2 o3 o4 o5) (cwV 1 hts gX3_digest_X1_fact rfl rfl rfl (by decide +kernel) ⟨(Nat.le_of_ble_eq_true rfl), (Nat.le_of_ble_eq_true rfl)⟩) ⟨pR_blind, va_recv hKc hPc (ci := 1) (q0 := 0) rfl rfl, pR_pre hPc hKc⟩ rfl rfl hl.1 rfl (lv_room (Nat.le_of_ble_eq_true rfl)) dX3_digest_22 ⟨(Nat.le_of_ble_eq_true rfl), (Nat.le_of_ble_eq_true rfl)⟩) hS (fun q _ h => h.elim) (fun q h => h.elim) (fun r_1 u_2 t H1 locs ht hvm hw hB hz1 hk1 hS => ?_)
  have hP := hP.kept (fun k q hk => hk1 q.1 (hP k q hk).lt (fun h => h))
  generalize H1 = H at hP hS ⊢
  have hw : r_1 = 0 := hw
  subst hw
  refine lv_i2l (v := 0) hx hb dX3_digest_25 (by decide) ?_
  refine lv_ladd hx hb dX3_digest_26 ?_
  refine lv_topl (nm_r (e' := 28117) (by decide) ?_)
  refine lv_lstore_n (lv' := [(1, .long 28117), (3, .int 0), (0, .ref ax)]) hx hb dX3_digest_27 rfl hl (by decide) rfl (fun ls hl => ?_)
  refine lv_iinc (v := 1) (lv' := [(3, .int 1), (1, .long 28117), (0, .ref ax)]) hx hb dX3_digest_28 hl (k := 1) rfl (by decide) (by decide) rfl (fun ls hl => ?_)
  refine lv_goto (tgt := 6) hx hb dX3_digest_31 (by decide) ?_
  refine lv_iload_n hx hb dX3_digest_6 rfl (lv_at hl 0 rfl) ?_
  refine lv_bipush (v := 9) hx hb dX3_digest_7 (by decide) ?_
  refine lv_icmp_ge (tgt := 34) hx hb dX3_digest_9 (by decide) (fun h => absurd h (by decide)) (fun _ => ?_)
  refine lv_lload_n hx hb dX3_digest_12 rfl (lv_at hl 1 rfl) ?_
  refine lv_ldc2 (v := 31) hx hb hown (hts (.constantLong RX3 160 31) (by decide +kernel)) dX3_digest_13 ?_
  refine lv_lmul hx hb dX3_digest_16 ?_
  refine lv_topl (nm_r (e' := 871627) (by decide) ?_)
  refine lv_aload_n hx hb dX3_digest_17 rfl (lv_at hl 2 rfl) ?_
  refine va_get (D := (dC, dI)) (ci := 3) (v := .ref av) (C := RX3) (T := TX3) (N := 2) hx hb hts in_X3_digest_X3 hown hK hP 0 rfl rfl 0 (by decide) (hts (.fieldLink RX3 10 "VaultDoors" "vault" "LVaultDoors$Vault;") (List.mem_of_getElem? (i := 3) rfl)) (fun _ h9 => h9) rfl dX3_digest_18 ?_
  refine lv_iload_n hx hb dX3_digest_21 rfl (lv_at hl 0 rfl) ?_
  have hPc := hP.sub (ws' := [(av, .inr (1, [.int 0, .int 0, .ref adr, .ref ao, .ref aar])), (ao, .inr (2, [.int 0, .int 0, .ref o1, .ref o2, .ref o3, .ref o4, .ref o5]))]) [1, 2] rfl
  have hKc := hK.sub (tys' := []) [] rfl
  refine va_calli (va_runV (As := [.int 1]) (rest := [.long 871627]) ⟨hx, hb, hml, hown, hts⟩ (ct_X1_fact l dC dI 1 av adr ao aar o1 o2 o3 o4 o5) (cwV 1 hts gX3_digest_X1_fact rfl rfl rfl (by decide +kernel) ⟨(Nat.le_of_ble_eq_true rfl), (Nat.le_of_ble_eq_true rfl)⟩) ⟨pR_blind, va_recv hKc hPc (ci := 1) (q0 := 0) rfl rfl, pR_pre hPc hKc⟩ rfl rfl hl.1 rfl (lv_room (Nat.le_of_ble_eq_true rfl)) dX3_digest_22 ⟨(Nat.le_of_ble_eq_true rfl), (Nat.le_of_ble_eq_true rfl)⟩) hS (fun q _ h => h.elim) (fun q h => h.elim) (fun r_3 u_4 t H1 locs ht hvm hw hB hz1 hk1 hS => ?_)
  have hP := hP.kept (fun k q hk => hk1 q.1 (hP k q hk).lt (fun h => h))
  generalize H1 = H at hP hS ⊢
  have hw : r_3 = 0 := hw
  subst hw
  refine lv_i2l (v := 0) hx hb dX3_digest_25 (by decide) ?_
  refine lv_ladd hx hb dX3_digest_26 ?_
  refine lv_topl (nm_r (e' := 871627) (by decide) ?_)
  refine lv_lstore_n (lv' := [(1, .long 871627), (3, .int 1), (0, .ref ax)]) hx hb dX3_digest_27 rfl hl (by decide) rfl (fun ls hl => ?_)
  refine lv_iinc (v := 2) (lv' := [(3, .int 2), (1, .long 871627), (0, .ref ax)]) hx hb dX3_digest_28 hl (k := 1) rfl (by decide) (by decide) rfl (fun ls hl => ?_)
  refine lv_goto (tgt := 6) hx hb dX3_digest_31 (by decide) ?_
  refine lv_iload_n hx hb dX3_digest_6 rfl (lv_at hl 0 rfl) ?_
  refine lv_bipush (v := 9) hx hb dX3_digest_7 (by decide) ?_
  refine lv_icmp_ge (tgt := 34) hx hb dX3_digest_9 (by decide) (fun h => absurd h (by decide)) (fun _ => ?_)
  refine lv_lload_n hx hb dX3_digest_12 rfl (lv_at hl 1 rfl) ?_
  refine lv_ldc2 (v := 31) hx hb hown (hts (.constantLong RX3 160 31) (by decide +kernel)) dX3_digest_13 ?_
  refine lv_lmul hx hb dX3_digest_16 ?_
  refine lv_topl (nm_r (e' := 27020437) (by decide) ?_)
  refine lv_aload_n hx hb dX3_digest_17 rfl (lv_at hl 2 rfl) ?_
  refine va_get (D := (dC, dI)) (ci := 3) (v := .ref av) (C := RX3) (T := TX3) (N := 2) hx hb hts in_X3_digest_X3 hown hK hP 0 rfl rfl 0 (by decide) (hts (.fieldLink RX3 10 "VaultDoors" "vault" "LVaultDoors$Vault;") (List.mem_of_getElem? (i := 3) rfl)) (fun _ h9 => h9) rfl dX3_digest_18 ?_
  refine lv_iload_n hx hb dX3_digest_21 rfl (lv_at hl 0 rfl) ?_
  have hPc := hP.sub (ws' := [(av, .inr (1, [.int 0, .int 0, .ref adr, .ref ao, .ref aar])), (ao, .inr (2, [.int 0, .int 0, .ref o1, .ref o2, .ref o3, .ref o4, .ref o5]))]) [1, 2] rfl
  have hKc := hK.sub (tys' := []) [] rfl
  refine va_calli (va_runV (As := [.int 2]) (rest := [.long 27020437]) ⟨hx, hb, hml, hown, hts⟩ (ct_X1_fact l dC dI 2 av adr ao aar o1 o2 o3 o4 o5) (cwV 1 hts gX3_digest_X1_fact rfl rfl rfl (by decide +kernel) ⟨(Nat.le_of_ble_eq_true rfl), (Nat.le_of_ble_eq_true rfl)⟩) ⟨pR_blind, va_recv hKc hPc (ci := 1) (q0 := 0) rfl rfl, pR_pre hPc hKc⟩ rfl rfl hl.1 rfl (lv_room (Nat.le_of_ble_eq_true rfl)) dX3_digest_22 ⟨(Nat.le_of_ble_eq_true rfl), (Nat.le_of_ble_eq_true rfl)⟩) hS (fun q _ h => h.elim) (fun q h => h.elim) (fun r_5 u_6 t H1 locs ht hvm hw hB hz1 hk1 hS => ?_)
  have hP := hP.kept (fun k q hk => hk1 q.1 (hP k q hk).lt (fun h => h))
  generalize H1 = H at hP hS ⊢
  have hw : r_5 = 0 := hw
  subst hw
  refine lv_i2l (v := 0) hx hb dX3_digest_25 (by decide) ?_
  refine lv_ladd hx hb dX3_digest_26 ?_
  refine lv_topl (nm_r (e' := 27020437) (by decide) ?_)
  refine lv_lstore_n (lv' := [(1, .long 27020437), (3, .int 2), (0, .ref ax)]) hx hb dX3_digest_27 rfl hl (by decide) rfl (fun ls hl => ?_)
  refine lv_iinc (v := 3) (lv' := [(3, .int 3), (1, .long 27020437), (0, .ref ax)]) hx hb dX3_digest_28 hl (k := 1) rfl (by decide) (by decide) rfl (fun ls hl => ?_)
  refine lv_goto (tgt := 6) hx hb dX3_digest_31 (by decide) ?_
  refine lv_iload_n hx hb dX3_digest_6 rfl (lv_at hl 0 rfl) ?_
  refine lv_bipush (v := 9) hx hb dX3_digest_7 (by decide) ?_
  refine lv_icmp_ge (tgt := 34) hx hb dX3_digest_9 (by decide) (fun h => absurd h (by decide)) (fun _ => ?_)
  refine lv_lload_n hx hb dX3_digest_12 rfl (lv_at hl 1 rfl) ?_
  refine lv_ldc2 (v := 31) hx hb hown (hts (.constantLong RX3 160 31) (by decide +kernel)) dX3_digest_13 ?_
  refine lv_lmul hx hb dX3_digest_16 ?_
  refine lv_topl (nm_r (e' := 837633547) (by decide) ?_)
  refine lv_aload_n hx hb dX3_digest_17 rfl (lv_at hl 2 rfl) ?_
  refine va_get (D := (dC, dI)) (ci := 3) (v := .ref av) (C := RX3) (T := TX3) (N := 2) hx hb hts in_X3_digest_X3 hown hK hP 0 rfl rfl 0 (by decide) (hts (.fieldLink RX3 10 "VaultDoors" "vault" "LVaultDoors$Vault;") (List.mem_of_getElem? (i := 3) rfl)) (fun _ h9 => h9) rfl dX3_digest_18 ?_
  refine lv_iload_n hx hb dX3_digest_21 rfl (lv_at hl 0 rfl) ?_
  have hPc := hP.sub (ws' := [(av, .inr (1, [.int 0, .int 0, .ref adr, .ref ao, .ref aar])), (ao, .inr (2, [.int 0, .int 0, .ref o1, .ref o2, .ref o3, .ref o4, .ref o5]))]) [1, 2] rfl
  have hKc := hK.sub (tys' := []) [] rfl
  refine va_calli (va_runV (As := [.int 3]) (rest := [.long 837633547]) ⟨hx, hb, hml, hown, hts⟩ (ct_X1_fact l dC dI 3 av adr ao aar o1 o2 o3 o4 o5) (cwV 1 hts gX3_digest_X1_fact rfl rfl rfl (by decide +kernel) ⟨(Nat.le_of_ble_eq_true rfl), (Nat.le_of_ble_eq_true rfl)⟩) ⟨pR_blind, va_recv hKc hPc (ci := 1) (q0 := 0) rfl rfl, pR_pre hPc hKc⟩ rfl rfl hl.1 rfl (lv_room (Nat.le_of_ble_eq_true rfl)) dX3_digest_22 ⟨(Nat.le_of_ble_eq_true rfl), (Nat.le_of_ble_eq_true rfl)⟩) hS (fun q _ h => h.elim) (fun q h => h.elim) (fun r_7 u_8 t H1 locs ht hvm hw hB hz1 hk1 hS => ?_)
  have hP := hP.kept (fun k q hk => hk1 q.1 (hP k q hk).lt (fun h => h))
  generalize H1 = H at hP hS ⊢
  have hw : r_7 = 0 := hw
  subst hw
  refine lv_i2l (v := 0) hx hb dX3_digest_25 (by decide) ?_
  refine lv_ladd hx hb dX3_digest_26 ?_
  refine lv_topl (nm_r (e' := 837633547) (by decide) ?_)
  refine lv_lstore_n (lv' := [(1, .long 837633547), (3, .int 3), (0, .ref ax)]) hx hb dX3_digest_27 rfl hl (by decide) rfl (fun ls hl => ?_)
  refine lv_iinc (v := 4) (lv' := [(3, .int 4), (1, .long 837633547), (0, .ref ax)]) hx hb dX3_digest_28 hl (k := 1) rfl (by decide) (by decide) rfl (fun ls hl => ?_)
  refine lv_goto (tgt := 6) hx hb dX3_digest_31 (by decide) ?_
  refine lv_iload_n hx hb dX3_digest_6 rfl (lv_at hl 0 rfl) ?_
  refine lv_bipush (v := 9) hx hb dX3_digest_7 (by decide) ?_
  refine lv_icmp_ge (tgt := 34) hx hb dX3_digest_9 (by decide) (fun h => absurd h (by decide)) (fun _ => ?_)
  refine lv_lload_n hx hb dX3_digest_12 rfl (lv_at hl 1 rfl) ?_
  refine lv_ldc2 (v := 31) hx hb hown (hts (.constantLong RX3 160 31) (by decide +kernel)) dX3_digest_13 ?_
  refine lv_lmul hx hb dX3_digest_16 ?_
  refine lv_topl (nm_r (e' := 25966639957) (by decide) ?_)
  refine lv_aload_n hx hb dX3_digest_17 rfl (lv_at hl 2 rfl) ?_
  refine va_get (D := (dC, dI)) (ci := 3) (v := .ref av) (C := RX3) (T := TX3) (N := 2) hx hb hts in_X3_digest_X3 hown hK hP 0 rfl rfl 0 (by decide) (hts (.fieldLink RX3 10 "VaultDoors" "vault" "LVaultDoors$Vault;") (List.mem_of_getElem? (i := 3) rfl)) (fun _ h9 => h9) rfl dX3_digest_18 ?_
  refine lv_iload_n hx hb dX3_digest_21 rfl (lv_at hl 0 rfl) ?_
  have hPc := hP.sub (ws' := [(av, .inr (1, [.int 0, .int 0, .ref adr, .ref ao, .ref aar])), (ao, .inr (2, [.int 0, .int 0, .ref o1, .ref o2, .ref o3, .ref o4, .ref o5]))]) [1, 2] rfl
  have hKc := hK.sub (tys' := []) [] rfl
  refine va_calli (va_runV (As := [.int 4]) (rest := [.long 25966639957]) ⟨hx, hb, hml, hown, hts⟩ (ct_X1_fact l dC dI 4 av adr ao aar o1 o2 o3 o4 o5) (cwV 1 hts gX3_digest_X1_fact rfl rfl rfl (by decide +kernel) ⟨(Nat.le_of_ble_eq_true rfl), (Nat.le_of_ble_eq_true rfl)⟩) ⟨pR_blind, va_recv hKc hPc (ci := 1) (q0 := 0) rfl rfl, pR_pre hPc hKc⟩ rfl rfl hl.1 rfl (lv_room (Nat.le_of_ble_eq_true rfl)) dX3_digest_22 ⟨(Nat.le_of_ble_eq_true rfl), (Nat.le_of_ble_eq_true rfl)⟩) hS (fun q _ h => h.elim) (fun q h => h.elim) (fun r_9 u_10 t H1 locs ht hvm hw hB hz1 hk1 hS => ?_)
  have hP := hP.kept (fun k q hk => hk1 q.1 (hP k q hk).lt (fun h => h))
  generalize H1 = H at hP hS ⊢
  have hw : r_9 = 0 := hw
  subst hw
  refine lv_i2l (v := 0) hx hb dX3_digest_25 (by decide) ?_
  refine lv_ladd hx hb dX3_digest_26 ?_
  refine lv_topl (nm_r (e' := 25966639957) (by decide) ?_)
  refine lv_lstore_n (lv' := [(1, .long 25966639957), (3, .int 4), (0, .ref ax)]) hx hb dX3_digest_27 rfl hl (by decide) rfl (fun ls hl => ?_)
  refine lv_iinc (v := 5) (lv' := [(3, .int 5), (1, .long 25966639957), (0, .ref ax)]) hx hb dX3_digest_28 hl (k := 1) rfl (by decide) (by decide) rfl (fun ls hl => ?_)
  refine lv_goto (tgt := 6) hx hb dX3_digest_31 (by decide) ?_
  refine lv_iload_n hx hb dX3_digest_6 rfl (lv_at hl 0 rfl) ?_
  refine lv_bipush (v := 9) hx hb dX3_digest_7 (by decide) ?_
  refine lv_icmp_ge (tgt := 34) hx hb dX3_digest_9 (by decide) (fun h => absurd h (by decide)) (fun _ => ?_)
  refine lv_lload_n hx hb dX3_digest_12 rfl (lv_at hl 1 rfl) ?_
  refine lv_ldc2 (v := 31) hx hb hown (hts (.constantLong RX3 160 31) (by decide +kernel)) dX3_digest_13 ?_
  refine lv_lmul hx hb dX3_digest_16 ?_
  refine lv_topl (nm_r (e' := 804965838667) (by decide) ?_)
  refine lv_aload_n hx hb dX3_digest_17 rfl (lv_at hl 2 rfl) ?_
  refine va_get (D := (dC, dI)) (ci := 3) (v := .ref av) (C := RX3) (T := TX3) (N := 2) hx hb hts in_X3_digest_X3 hown hK hP 0 rfl rfl 0 (by decide) (hts (.fieldLink RX3 10 "VaultDoors" "vault" "LVaultDoors$Vault;") (List.mem_of_getElem? (i := 3) rfl)) (fun _ h9 => h9) rfl dX3_digest_18 ?_
  refine lv_iload_n hx hb dX3_digest_21 rfl (lv_at hl 0 rfl) ?_
  have hPc := hP.sub (ws' := [(av, .inr (1, [.int 0, .int 0, .ref adr, .ref ao, .ref aar])), (ao, .inr (2, [.int 0, .int 0, .ref o1, .ref o2, .ref o3, .ref o4, .ref o5]))]) [1, 2] rfl
  have hKc := hK.sub (tys' := []) [] rfl
  refine va_calli (va_runV (As := [.int 5]) (rest := [.long 804965838667]) ⟨hx, hb, hml, hown, hts⟩ (ct_X1_fact l dC dI 5 av adr ao aar o1 o2 o3 o4 o5) (cwV 1 hts gX3_digest_X1_fact rfl rfl rfl (by decide +kernel) ⟨(Nat.le_of_ble_eq_true rfl), (Nat.le_of_ble_eq_true rfl)⟩) ⟨pR_blind, va_recv hKc hPc (ci := 1) (q0 := 0) rfl rfl, pR_pre hPc hKc⟩ rfl rfl hl.1 rfl (lv_room (Nat.le_of_ble_eq_true rfl)) dX3_digest_22 ⟨(Nat.le_of_ble_eq_true rfl), (Nat.le_of_ble_eq_true rfl)⟩) hS (fun q _ h => h.elim) (fun q h => h.elim) (fun r_11 u_12 t H1 locs ht hvm hw hB hz1 hk1 hS => ?_)
  have hP := hP.kept (fun k q hk => hk1 q.1 (hP k q hk).lt (fun h => h))
  generalize H1 = H at hP hS ⊢
  have hw : r_11 = 0 := hw
  subst hw
  refine lv_i2l (v := 0) hx hb dX3_digest_25 (by decide) ?_
  refine lv_ladd hx hb dX3_digest_26 ?_
  refine lv_topl (nm_r (e' := 804965838667) (by decide) ?_)
  refine lv_lstore_n (lv' := [(1, .long 804965838667), (3, .int 5), (0, .ref ax)]) hx hb dX3_digest_27 rfl hl (by decide) rfl (fun ls hl => ?_)
  refine lv_iinc (v := 6) (lv' := [(3, .int 6), (1, .long 804965838667), (0, .ref ax)]) hx hb dX3_digest_28 hl (k := 1) rfl (by decide) (by decide) rfl (fun ls hl => ?_)
  refine lv_goto (tgt := 6) hx hb dX3_digest_31 (by decide) ?_
  refine lv_iload_n hx hb dX3_digest_6 rfl (lv_at hl 0 rfl) ?_
  refine lv_bipush (v := 9) hx hb dX3_digest_7 (by decide) ?_
  refine lv_icmp_ge (tgt := 34) hx hb dX3_digest_9 (by decide) (fun h => absurd h (by decide)) (fun _ => ?_)
  refine lv_lload_n hx hb dX3_digest_12 rfl (lv_at hl 1 rfl) ?_
  refine lv_ldc2 (v := 31) hx hb hown (hts (.constantLong RX3 160 31) (by decide +kernel)) dX3_digest_13 ?_
  refine lv_lmul hx hb dX3_digest_16 ?_
  refine lv_topl (nm_r (e' := 24953940998677) (by decide) ?_)
  refine lv_aload_n hx hb dX3_digest_17 rfl (lv_at hl 2 rfl) ?_
  refine va_get (D := (dC, dI)) (ci := 3) (v := .ref av) (C := RX3) (T := TX3) (N := 2) hx hb hts in_X3_digest_X3 hown hK hP 0 rfl rfl 0 (by decide) (hts (.fieldLink RX3 10 "VaultDoors" "vault" "LVaultDoors$Vault;") (List.mem_of_getElem? (i := 3) rfl)) (fun _ h9 => h9) rfl dX3_digest_18 ?_
  refine lv_iload_n hx hb dX3_digest_21 rfl (lv_at hl 0 rfl) ?_
  have hPc := hP.sub (ws' := [(av, .inr (1, [.int 0, .int 0, .ref adr, .ref ao, .ref aar])), (ao, .inr (2, [.int 0, .int 0, .ref o1, .ref o2, .ref o3, .ref o4, .ref o5]))]) [1, 2] rfl
  have hKc := hK.sub (tys' := []) [] rfl
  refine va_calli (va_runV (As := [.int 6]) (rest := [.long 24953940998677]) ⟨hx, hb, hml, hown, hts⟩ (ct_X1_fact l dC dI 6 av adr ao aar o1 o2 o3 o4 o5) (cwV 1 hts gX3_digest_X1_fact rfl rfl rfl (by decide +kernel) ⟨(Nat.le_of_ble_eq_true rfl), (Nat.le_of_ble_eq_true rfl)⟩) ⟨pR_blind, va_recv hKc hPc (ci := 1) (q0 := 0) rfl rfl, pR_pre hPc hKc⟩ rfl rfl hl.1 rfl (lv_room (Nat.le_of_ble_eq_true rfl)) dX3_digest_22 ⟨(Nat.le_of_ble_eq_true rfl), (Nat.le_of_ble_eq_true rfl)⟩) hS (fun q _ h => h.elim) (fun q h => h.elim) (fun r_13 u_14 t H1 locs ht hvm hw hB hz1 hk1 hS => ?_)
  have hP := hP.kept (fun k q hk => hk1 q.1 (hP k q hk).lt (fun h => h))
  generalize H1 = H at hP hS ⊢
  have hw : r_13 = 0 := hw
  subst hw
  refine lv_i2l (v := 0) hx hb dX3_digest_25 (by decide) ?_
  refine lv_ladd hx hb dX3_digest_26 ?_
  refine lv_topl (nm_r (e' := 24953940998677) (by decide) ?_)
  refine lv_lstore_n (lv' := [(1, .long 24953940998677), (3, .int 6), (0, .ref ax)]) hx hb dX3_digest_27 rfl hl (by decide) rfl (fun ls hl => ?_)
  refine lv_iinc (v := 7) (lv' := [(3, .int 7), (1, .long 24953940998677), (0, .ref ax)]) hx hb dX3_digest_28 hl (k := 1) rfl (by decide) (by decide) rfl (fun ls hl => ?_)
  refine lv_goto (tgt := 6) hx hb dX3_digest_31 (by decide) ?_
  refine lv_iload_n hx hb dX3_digest_6 rfl (lv_at hl 0 rfl) ?_
  refine lv_bipush (v := 9) hx hb dX3_digest_7 (by decide) ?_
  refine lv_icmp_ge (tgt := 34) hx hb dX3_digest_9 (by decide) (fun h => absurd h (by decide)) (fun _ => ?_)
  refine lv_lload_n hx hb dX3_digest_12 rfl (lv_at hl 1 rfl) ?_
  refine lv_ldc2 (v := 31) hx hb hown (hts (.constantLong RX3 160 31) (by decide +kernel)) dX3_digest_13 ?_
  refine lv_lmul hx hb dX3_digest_16 ?_
  refine lv_topl (nm_r (e' := 773572170958987) (by decide) ?_)
  refine lv_aload_n hx hb dX3_digest_17 rfl (lv_at hl 2 rfl) ?_
  refine va_get (D := (dC, dI)) (ci := 3) (v := .ref av) (C := RX3) (T := TX3) (N := 2) hx hb hts in_X3_digest_X3 hown hK hP 0 rfl rfl 0 (by decide) (hts (.fieldLink RX3 10 "VaultDoors" "vault" "LVaultDoors$Vault;") (List.mem_of_getElem? (i := 3) rfl)) (fun _ h9 => h9) rfl dX3_digest_18 ?_
  refine lv_iload_n hx hb dX3_digest_21 rfl (lv_at hl 0 rfl) ?_
  have hPc := hP.sub (ws' := [(av, .inr (1, [.int 0, .int 0, .ref adr, .ref ao, .ref aar])), (ao, .inr (2, [.int 0, .int 0, .ref o1, .ref o2, .ref o3, .ref o4, .ref o5]))]) [1, 2] rfl
  have hKc := hK.sub (tys' := []) [] rfl
  refine va_calli (va_runV (As := [.int 7]) (rest := [.long 773572170958987]) ⟨hx, hb, hml, hown, hts⟩ (ct_X1_fact l dC dI 7 av adr ao aar o1 o2 o3 o4 o5) (cwV 1 hts gX3_digest_X1_fact rfl rfl rfl (by decide +kernel) ⟨(Nat.le_of_ble_eq_true rfl), (Nat.le_of_ble_eq_true rfl)⟩) ⟨pR_blind, va_recv hKc hPc (ci := 1) (q0 := 0) rfl rfl, pR_pre hPc hKc⟩ rfl rfl hl.1 rfl (lv_room (Nat.le_of_ble_eq_true rfl)) dX3_digest_22 ⟨(Nat.le_of_ble_eq_true rfl), (Nat.le_of_ble_eq_true rfl)⟩) hS (fun q _ h => h.elim) (fun q h => h.elim) (fun r_15 u_16 t H1 locs ht hvm hw hB hz1 hk1 hS => ?_)
  have hP := hP.kept (fun k q hk => hk1 q.1 (hP k q hk).lt (fun h => h))
  generalize H1 = H at hP hS ⊢
  have hw : r_15 = 0 := hw
  subst hw
  refine lv_i2l (v := 0) hx hb dX3_digest_25 (by decide) ?_
  refine lv_ladd hx hb dX3_digest_26 ?_
  refine lv_topl (nm_r (e' := 773572170958987) (by decide) ?_)
  refine lv_lstore_n (lv' := [(1, .long 773572170958987), (3, .int 7), (0, .ref ax)]) hx hb dX3_digest_27 rfl hl (by decide) rfl (fun ls hl => ?_)
  refine lv_iinc (v := 8) (lv' := [(3, .int 8), (1, .long 773572170958987), (0, .ref ax)]) hx hb dX3_digest_28 hl (k := 1) rfl (by decide) (by decide) rfl (fun ls hl => ?_)
  refine lv_goto (tgt := 6) hx hb dX3_digest_31 (by decide) ?_
  refine lv_iload_n hx hb dX3_digest_6 rfl (lv_at hl 0 rfl) ?_
  refine lv_bipush (v := 9) hx hb dX3_digest_7 (by decide) ?_
  refine lv_icmp_ge (tgt := 34) hx hb dX3_digest_9 (by decide) (fun h => absurd h (by decide)) (fun _ => ?_)
  refine lv_lload_n hx hb dX3_digest_12 rfl (lv_at hl 1 rfl) ?_
  refine lv_ldc2 (v := 31) hx hb hown (hts (.constantLong RX3 160 31) (by decide +kernel)) dX3_digest_13 ?_
  refine lv_lmul hx hb dX3_digest_16 ?_
  refine lv_topl (nm_r (e' := 23980737299728597) (by decide) ?_)
  refine lv_aload_n hx hb dX3_digest_17 rfl (lv_at hl 2 rfl) ?_
  refine va_get (D := (dC, dI)) (ci := 3) (v := .ref av) (C := RX3) (T := TX3) (N := 2) hx hb hts in_X3_digest_X3 hown hK hP 0 rfl rfl 0 (by decide) (hts (.fieldLink RX3 10 "VaultDoors" "vault" "LVaultDoors$Vault;") (List.mem_of_getElem? (i := 3) rfl)) (fun _ h9 => h9) rfl dX3_digest_18 ?_
  refine lv_iload_n hx hb dX3_digest_21 rfl (lv_at hl 0 rfl) ?_
  have hPc := hP.sub (ws' := [(av, .inr (1, [.int 0, .int 0, .ref adr, .ref ao, .ref aar])), (ao, .inr (2, [.int 0, .int 0, .ref o1, .ref o2, .ref o3, .ref o4, .ref o5]))]) [1, 2] rfl
  have hKc := hK.sub (tys' := []) [] rfl
  refine va_calli (va_runV (As := [.int 8]) (rest := [.long 23980737299728597]) ⟨hx, hb, hml, hown, hts⟩ (ct_X1_fact l dC dI 8 av adr ao aar o1 o2 o3 o4 o5) (cwV 1 hts gX3_digest_X1_fact rfl rfl rfl (by decide +kernel) ⟨(Nat.le_of_ble_eq_true rfl), (Nat.le_of_ble_eq_true rfl)⟩) ⟨pR_blind, va_recv hKc hPc (ci := 1) (q0 := 0) rfl rfl, pR_pre hPc hKc⟩ rfl rfl hl.1 rfl (lv_room (Nat.le_of_ble_eq_true rfl)) dX3_digest_22 ⟨(Nat.le_of_ble_eq_true rfl), (Nat.le_of_ble_eq_true rfl)⟩) hS (fun q _ h => h.elim) (fun q h => h.elim) (fun r_17 u_18 t H1 locs ht hvm hw hB hz1 hk1 hS => ?_)
  have hP := hP.kept (fun k q hk => hk1 q.1 (hP k q hk).lt (fun h => h))
  generalize H1 = H at hP hS ⊢
  have hw : r_17 = 0 := hw
  subst hw
  refine lv_i2l (v := 0) hx hb dX3_digest_25 (by decide) ?_
  refine lv_ladd hx hb dX3_digest_26 ?_
  refine lv_topl (nm_r (e' := 23980737299728597) (by decide) ?_)
  refine lv_lstore_n (lv' := [(1, .long 23980737299728597), (3, .int 8), (0, .ref ax)]) hx hb dX3_digest_27 rfl hl (by decide) rfl (fun ls hl => ?_)
  refine lv_iinc (v := 9) (lv' := [(3, .int 9), (1, .long 23980737299728597), (0, .ref ax)]) hx hb dX3_digest_28 hl (k := 1) rfl (by decide) (by decide) rfl (fun ls hl => ?_)
  refine lv_goto (tgt := 6) hx hb dX3_digest_31 (by decide) ?_
  refine lv_iload_n hx hb dX3_digest_6 rfl (lv_at hl 0 rfl) ?_
  refine lv_bipush (v := 9) hx hb dX3_digest_7 (by decide) ?_
  refine lv_icmp_ge (tgt := 34) hx hb dX3_digest_9 (by decide) (fun _ => ?_) (fun h => absurd h (by decide))
  refine lv_iconst (v := 0) hx hb dX3_digest_34 (by decide) ?_
  refine lv_istore_n (lv' := [(3, .int 0), (1, .long 23980737299728597), (0, .ref ax)]) hx hb dX3_digest_35 rfl hl (by decide) rfl (fun ls hl => ?_)
  refine lv_iload_n hx hb dX3_digest_36 rfl (lv_at hl 0 rfl) ?_
  refine lv_aload_n hx hb dX3_digest_37 rfl (lv_at hl 2 rfl) ?_
  refine va_get (D := (dC, dI)) (ci := 3) (v := .ref av) (C := RX3) (T := TX3) (N := 2) hx hb hts in_X3_digest_X3 hown hK hP 0 rfl rfl 0 (by decide) (hts (.fieldLink RX3 10 "VaultDoors" "vault" "LVaultDoors$Vault;") (List.mem_of_getElem? (i := 3) rfl)) (fun _ h9 => h9) rfl dX3_digest_38 ?_
  refine va_get (D := (dC, dI)) (ci := 1) (v := .int 0) (C := RX1) (T := TX1) (N := 5) hx hb hts in_X3_digest_X1 hown hK hP 1 rfl rfl 1 (by decide) (hts (.fieldLink RX3 39 "VaultDoors$Vault" "doorCount" "I") (List.mem_of_getElem? (i := 4) rfl)) (fun _ h9 => h9) rfl dX3_digest_41 ?_
  refine lv_icmp_ge (tgt := 67) hx hb dX3_digest_44 (by decide) (fun _ => ?_) (fun h => absurd h (by decide))
  refine lv_iconst (v := 0) hx hb dX3_digest_67 (by decide) ?_
  refine lv_istore_n (lv' := [(3, .int 0), (1, .long 23980737299728597), (0, .ref ax)]) hx hb dX3_digest_68 rfl hl (by decide) rfl (fun ls hl => ?_)
  refine lv_iload_n hx hb dX3_digest_69 rfl (lv_at hl 0 rfl) ?_
  refine lv_aload_n hx hb dX3_digest_70 rfl (lv_at hl 2 rfl) ?_
  refine va_get (D := (dC, dI)) (ci := 3) (v := .ref av) (C := RX3) (T := TX3) (N := 2) hx hb hts in_X3_digest_X3 hown hK hP 0 rfl rfl 0 (by decide) (hts (.fieldLink RX3 10 "VaultDoors" "vault" "LVaultDoors$Vault;") (List.mem_of_getElem? (i := 3) rfl)) (fun _ h9 => h9) rfl dX3_digest_71 ?_
  refine va_get (D := (dC, dI)) (ci := 1) (v := .ref ao) (C := RX1) (T := TX1) (N := 5) hx hb hts in_X3_digest_X1 hown hK hP 1 rfl rfl 3 (by decide) (hts (.fieldLink RX3 111 "VaultDoors$Vault" "voices" "LVaultDoors$Voices;") (List.mem_of_getElem? (i := 6) rfl)) (fun _ h9 => h9) rfl dX3_digest_74 ?_
  refine va_get (D := (dC, dI)) (ci := 2) (v := .int 0) (C := RX2) (T := TX2) (N := 7) hx hb hts in_X3_digest_X2 hown hK hP 2 rfl rfl 0 (by decide) (hts (.fieldLink RX3 115 "VaultDoors$Voices" "size" "I") (List.mem_of_getElem? (i := 7) rfl)) (fun _ h9 => h9) rfl dX3_digest_77 ?_
  refine lv_icmp_ge (tgt := 125) hx hb dX3_digest_80 (by decide) (fun _ => ?_) (fun h => absurd h (by decide))
  refine lv_lload_n hx hb dX3_digest_125 rfl (lv_at hl 1 rfl) ?_
  exact W.lret (v := 23980737299728597) hx hb hr (fun t ht hW => ⟨⟨_, (), rfl, rfl, trivial⟩, hS.F ht⟩) hS.2.2 dX3_digest_126
