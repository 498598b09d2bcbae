theorem in_X3_ask_X3 : ∀ w ∈ wsX30, w ∈ wsX3_ask := by decide +kernel
set_option maxHeartbeats 4000000 in
set_option maxRecDepth 100000 in
theorem ct_X3_ask (l : Launch) (hnt : l.stackTraces = false) (dC : Nat → ClassId) (dI : Nat → Nat → Nat) (za : Int32) (zb : Int32) (zc : Int32) (ax : Nat) (av : Nat) (at_ : Nat) (adr : Nat) (ao : Nat) (aar : Nat) : vx_Met l yX3_ask wsX3_ask ({ frames := 6, cells := 1, slots := 6, locals := 90 }) (va_Pc [.ref ax, .int za, .int zb, .int zc] (pX (dC, dI) [(ax, .inr (3, [.ref av, .ref at_])), (av, .inr (1, [.int 0, .int 0, .ref adr, .ref ao, .ref aar]))] [])) (va_Qi (fun (r : Int32) (_ : Unit) => False) (fun _ _ => True) (fun _ => False)) (vx_X (fun (_ : Unit) => True) (fun E _ _ => E = vs_B) (fun _ => False)) 1 6 (fun _ => False) := by
  refine vx_ofW (cc := cX3_ask) (maxL := 5) (ret := (some .int)) (by decide) rfl ?_
  intro p e s m args below meth c s₁ B hml htab hv
  obtain ⟨rfl, ⟨hP, hK⟩, hT⟩ := hv
  have hx := B.exec
  have hb := B.bytes
  have hr := B.returns
  have hts := atoms_spec (ws := wsX3_ask) B.pre
  have hown : s.vm.findClass RX3 = some m.cls := findClass_of_methodNamed B.named
  have hlocks := B.notSynchronized
  have hS : va_S (fun _ => False) s.heap s.heap [] := va_S.rf
  have hP : va_P (dC, dI) vwCl [(ax, .inr (3, [.ref av, .ref at_])), (av, .inr (1, [.int 0, .int 0, .ref adr, .ref ao, .ref aar]))] s.heap := hP
  have hl := lv_entry ([.ref ax, .int za, .int zb, .int zc]) (n := 5) (Nat.le_of_ble_eq_true rfl)
  rw [lg_entry_eq]
  generalize (lg_sl ([.ref ax, .int za, .int zb, .int zc]) ++ List.replicate (5 - (lg_sl ([.ref ax, .int za, .int zb, .int zc])).length) Slot.unset).toArray = ls at hl ⊢
  have hl : lv_has ls 5 [(0, .ref ax), (1, .int za), (2, .int zb), (3, .int zc)] := hl
  refine lv_aload_n hx hb dX3_ask_0 rfl (lv_at hl 0 rfl) ?_
  refine va_get (D := (dC, dI)) (ci := 3) (v := .ref av) (C := RX3) (T := TX3) (N := 2) hx hb hts in_X3_ask_X3 hown hK hP 0 rfl rfl 0 (by decide) (hts (.fieldLink RX3 10 "VaultDoors" "vault" "LVaultDoors$Vault;") (List.mem_of_getElem? (i := 7) rfl)) (fun _ h9 => h9) rfl dX3_ask_1 ?_
  refine lv_iload_n hx hb dX3_ask_4 rfl (lv_at hl 1 rfl) ?_
  have hPc := hP.sub (ws' := [(av, .inr (1, [.int 0, .int 0, .ref adr, .ref ao, .ref aar]))]) [1] rfl
  have hKc := hK.sub (tys' := []) [] rfl
  refine va_calli (va_runV (As := [.int za]) (rest := []) ⟨hx, hb, hml, hown, hts⟩ (ct_X1_isDoor l dC dI za 0 av adr ao aar) (cwV 1 hts gX3_ask_X1_isDoor rfl rfl rfl (by decide +kernel) ⟨(Nat.le_of_ble_eq_true rfl), (Nat.le_of_ble_eq_true rfl)⟩) ⟨pR_blind, va_recv hKc hPc (ci := 1) (q0 := 0) rfl rfl, pR_pre hPc hKc⟩ rfl rfl hl.1 rfl (lv_room (Nat.le_of_ble_eq_true rfl)) dX3_ask_5 ⟨(Nat.le_of_ble_eq_true rfl), (Nat.le_of_ble_eq_true rfl)⟩) hS (fun q _ h => h.elim) (fun q h => h.elim) (fun r_1 u_2 t H1 locs ht hvm hw hB hz1 hk1 hS => ?_)
  have hP := hP.kept (fun k q hk => hk1 q.1 (hP k q hk).lt (fun h => h))
  generalize H1 = H at hP hS ⊢
  have hw : r_1 = 0 := hw
  subst hw
  refine lv_if_eq (tgt := 22) hx hb dX3_ask_8 (by decide) (fun _ => ?_) (fun h => absurd h (by decide))
  obtain ⟨sa, hstr⟩ := hT.2.2 (57, "no such door") (by decide +kernel)
  exact vx_throwS (own := RX3) (cls := vs_B) (text := "no such door") (names := vs_N) (ik := 55) (is := 57) (ic := 59) (sa := sa) hx hb hnt hown (by decide +kernel) (by decide +kernel) (hts (.classLink RX3 55 vs_B) (List.mem_of_getElem? (i := 1) rfl)) (hts (.initialized vs_B) (List.mem_of_getElem? (i := 2) rfl)) hstr (vx_hat (fun w h => hts w (List.mem_cons_of_mem _ (List.mem_append_left _ (List.mem_append_left _ (List.mem_append_right _ h))))) vs_c59 (vs_Wo hT.2.1.1.2.2 hT.2.1.2.2.2.2.2.2.2)) vs_g59 hT.1.1 hT.1.2 hS (hl.1.trans hml.symm) dX3_ask_22 dX3_ask_25 dX3_ask_26 dX3_ask_28 dX3_ask_31 (fun x h9 => (htab x h9).elim) (Nat.le_of_ble_eq_true rfl) (Nat.le_of_ble_eq_true rfl) (Nat.le_of_ble_eq_true rfl) (Nat.le_of_ble_eq_true rfl) hlocks (fun t _ h1 h2 => ⟨(), trivial, rfl, vs_F hS h1 h2⟩) hS.2.2 (Nat.le_of_ble_eq_true rfl) (Nat.le_of_ble_eq_true rfl)

theorem in_X3_set_X3 : ∀ w ∈ wsX30, w ∈ wsX3_set := by decide +kernel
set_option maxHeartbeats 4000000 in
set_option maxRecDepth 100000 in
theorem ct_X3_set (l : Launch) (hnt : l.stackTraces = false) (dC : Nat → ClassId) (dI : Nat → Nat → Nat) (za : Int32) (zb : Int32) (zc : Int32) (ax : Nat) (av : Nat) (at_ : Nat) (adr : Nat) (ao : Nat) (aar : Nat) : vx_Met l yX3_set wsX3_set ({ frames := 6, cells := 1, slots := 6, locals := 90 }) (va_Pc [.ref ax, .int za, .int zb, .int zc] (pX (dC, dI) [(ax, .inr (3, [.ref av, .ref at_])), (av, .inr (1, [.int 0, .int 0, .ref adr, .ref ao, .ref aar]))] [])) (va_Qi (fun (r : Int32) (_ : Unit) => False) (fun _ _ => True) (fun _ => False)) (vx_X (fun (_ : Unit) => True) (fun E _ _ => E = vs_B) (fun _ => False)) 1 6 (fun _ => False) := by
  refine vx_ofW (cc := cX3_set) (maxL := 6) (ret := (some .int)) (by decide) rfl ?_
  intro p e s m args below meth c s₁ B hml htab hv
  obtain ⟨rfl, ⟨hP, hK⟩, hT⟩ := hv
  have hx := B.exec
  have hb := B.bytes
  have hr := B.returns
  have hts := atoms_spec (ws := wsX3_set) B.pre
  have hown : s.vm.findClass RX3 = some m.cls := findClass_of_methodNamed B.named
  have hlocks := B.notSynchronized
  have hS : va_S (fun _ => False) s.heap s.heap [] := va_S.rf
  have hP : va_P (dC, dI) vwCl [(ax, .inr (3, [.ref av, .ref at_])), (av, .inr (1, [.int 0, .int 0, .ref adr, .ref ao, .ref aar]))] s.heap := hP
  have hl := lv_entry ([.ref ax, .int za, .int zb, .int zc]) (n := 6) (Nat.le_of_ble_eq_true rfl)
  rw [lg_entry_eq]
  generalize (lg_sl ([.ref ax, .int za, .int zb, .int zc]) ++ List.replicate (6 - (lg_sl ([.ref ax, .int za, .int zb, .int zc])).length) Slot.unset).toArray = ls at hl ⊢
  have hl : lv_has ls 6 [(0, .ref ax), (1, .int za), (2, .int zb), (3, .int zc)] := hl
  refine lv_aload_n hx hb dX3_set_0 rfl (lv_at hl 0 rfl) ?_
  refine va_get (D := (dC, dI)) (ci := 3) (v := .ref av) (C := RX3) (T := TX3) (N := 2) hx hb hts in_X3_set_X3 hown hK hP 0 rfl rfl 0 (by decide) (hts (.fieldLink RX3 10 "VaultDoors" "vault" "LVaultDoors$Vault;") (List.mem_of_getElem? (i := 5) rfl)) (fun _ h9 => h9) rfl dX3_set_1 ?_
  refine lv_iload_n hx hb dX3_set_4 rfl (lv_at hl 1 rfl) ?_
  have hPc := hP.sub (ws' := [(av, .inr (1, [.int 0, .int 0, .ref adr, .ref ao, .ref aar]))]) [1] rfl
  have hKc := hK.sub (tys' := []) [] rfl
  refine va_calli (va_runV (As := [.int za]) (rest := []) ⟨hx, hb, hml, hown, hts⟩ (ct_X1_isDoor l dC dI za 0 av adr ao aar) (cwV 1 hts gX3_set_X1_isDoor rfl rfl rfl (by decide +kernel) ⟨(Nat.le_of_ble_eq_true rfl), (Nat.le_of_ble_eq_true rfl)⟩) ⟨pR_blind, va_recv hKc hPc (ci := 1) (q0 := 0) rfl rfl, pR_pre hPc hKc⟩ rfl rfl hl.1 rfl (lv_room (Nat.le_of_ble_eq_true rfl)) dX3_set_5 ⟨(Nat.le_of_ble_eq_true rfl), (Nat.le_of_ble_eq_true rfl)⟩) hS (fun q _ h => h.elim) (fun q h => h.elim) (fun r_1 u_2 t H1 locs ht hvm hw hB hz1 hk1 hS => ?_)
  have hP := hP.kept (fun k q hk => hk1 q.1 (hP k q hk).lt (fun h => h))
  generalize H1 = H at hP hS ⊢
  have hw : r_1 = 0 := hw
  subst hw
  refine lv_if_ne (tgt := 21) hx hb dX3_set_8 (by decide) (fun h => absurd h (by decide)) (fun _ => ?_)
  obtain ⟨sa, hstr⟩ := hT.2.2 (57, "no such door") (by decide +kernel)
  exact vx_throwS (own := RX3) (cls := vs_B) (text := "no such door") (names := vs_N) (ik := 55) (is := 57) (ic := 59) (sa := sa) hx hb hnt hown (by decide +kernel) (by decide +kernel) (hts (.classLink RX3 55 vs_B) (List.mem_of_getElem? (i := 1) rfl)) (hts (.initialized vs_B) (List.mem_of_getElem? (i := 2) rfl)) hstr (vx_hat (fun w h => hts w (List.mem_cons_of_mem _ (List.mem_append_left _ (List.mem_append_right _ h)))) vs_c59 (vs_Wo hT.2.1.1.2.2 hT.2.1.2.2.2.2.2.2.2)) vs_g59 hT.1.1 hT.1.2 hS (hl.1.trans hml.symm) dX3_set_11 dX3_set_14 dX3_set_15 dX3_set_17 dX3_set_20 (fun x h9 => (htab x h9).elim) (Nat.le_of_ble_eq_true rfl) (Nat.le_of_ble_eq_true rfl) (Nat.le_of_ble_eq_true rfl) (Nat.le_of_ble_eq_true rfl) hlocks (fun t _ h1 h2 => ⟨(), trivial, rfl, vs_F hS h1 h2⟩) hS.2.2 (Nat.le_of_ble_eq_true rfl) (Nat.le_of_ble_eq_true rfl)

theorem in_X3_whisper_X3 : ∀ w ∈ wsX30, w ∈ wsX3_whisper := by decide +kernel
set_option maxHeartbeats 4000000 in
set_option maxRecDepth 100000 in
theorem ct_X3_whisper (l : Launch) (hnt : l.stackTraces = false) (dC : Nat → ClassId) (dI : Nat → Nat → Nat) (za : Int32) (zb : Int32) (ax : Nat) (av : Nat) (at_ : Nat) (adr : Nat) (ao : Nat) (aar : Nat) : vx_Met l yX3_whisper wsX3_whisper ({ frames := 6, cells := 1, slots := 6, locals := 90 }) (va_Pc [.ref ax, .int za, .int zb] (pX (dC, dI) [(ax, .inr (3, [.ref av, .ref at_])), (av, .inr (1, [.int 0, .int 0, .ref adr, .ref ao, .ref aar]))] [])) (va_Qi (fun (r : Int32) (_ : Unit) => False) (fun _ _ => True) (fun _ => False)) (vx_X (fun (_ : Unit) => True) (fun E _ _ => E = vs_B) (fun _ => False)) 1 6 (fun _ => False) := by
  refine vx_ofW (cc := cX3_whisper) (maxL := 3) (ret := (some .boolean)) (by decide) rfl ?_
  intro p e s m args below meth c s₁ B hml htab hv
  obtain ⟨rfl, ⟨hP, hK⟩, hT⟩ := hv
  have hx := B.exec
  have hb := B.bytes
  have hr := B.returns
  have hts := atoms_spec (ws := wsX3_whisper) B.pre
  have hown : s.vm.findClass RX3 = some m.cls := findClass_of_methodNamed B.named
  have hlocks := B.notSynchronized
  have hS : va_S (fun _ => False) s.heap s.heap [] := va_S.rf
  have hP : va_P (dC, dI) vwCl [(ax, .inr (3, [.ref av, .ref at_])), (av, .inr (1, [.int 0, .int 0, .ref adr, .ref ao, .ref aar]))] s.heap := hP
  have hl := lv_entry ([.ref ax, .int za, .int zb]) (n := 3) (Nat.le_of_ble_eq_true rfl)
  rw [lg_entry_eq]
  generalize (lg_sl ([.ref ax, .int za, .int zb]) ++ List.replicate (3 - (lg_sl ([.ref ax, .int za, .int zb])).length) Slot.unset).toArray = ls at hl ⊢
  have hl : lv_has ls 3 [(0, .ref ax), (1, .int za), (2, .int zb)] := hl
  refine lv_aload_n hx hb dX3_whisper_0 rfl (lv_at hl 0 rfl) ?_
  refine va_get (D := (dC, dI)) (ci := 3) (v := .ref av) (C := RX3) (T := TX3) (N := 2) hx hb hts in_X3_whisper_X3 hown hK hP 0 rfl rfl 0 (by decide) (hts (.fieldLink RX3 10 "VaultDoors" "vault" "LVaultDoors$Vault;") (List.mem_of_getElem? (i := 5) rfl)) (fun _ h9 => h9) rfl dX3_whisper_1 ?_
  refine lv_iload_n hx hb dX3_whisper_4 rfl (lv_at hl 1 rfl) ?_
  have hPc := hP.sub (ws' := [(av, .inr (1, [.int 0, .int 0, .ref adr, .ref ao, .ref aar]))]) [1] rfl
  have hKc := hK.sub (tys' := []) [] rfl
  refine va_calli (va_runV (As := [.int za]) (rest := []) ⟨hx, hb, hml, hown, hts⟩ (ct_X1_isDoor l dC dI za 0 av adr ao aar) (cwV 1 hts gX3_whisper_X1_isDoor rfl rfl rfl (by decide +kernel) ⟨(Nat.le_of_ble_eq_true rfl), (Nat.le_of_ble_eq_true rfl)⟩) ⟨pR_blind, va_recv hKc hPc (ci := 1) (q0 := 0) rfl rfl, pR_pre hPc hKc⟩ rfl rfl hl.1 rfl (lv_room (Nat.le_of_ble_eq_true rfl)) dX3_whisper_5 ⟨(Nat.le_of_ble_eq_true rfl), (Nat.le_of_ble_eq_true rfl)⟩) hS (fun q _ h => h.elim) (fun q h => h.elim) (fun r_1 u_2 t H1 locs ht hvm hw hB hz1 hk1 hS => ?_)
  have hP := hP.kept (fun k q hk => hk1 q.1 (hP k q hk).lt (fun h => h))
  generalize H1 = H at hP hS ⊢
  have hw : r_1 = 0 := hw
  subst hw
  refine lv_if_ne (tgt := 21) hx hb dX3_whisper_8 (by decide) (fun h => absurd h (by decide)) (fun _ => ?_)
  obtain ⟨sa, hstr⟩ := hT.2.2 (57, "no such door") (by decide +kernel)
  exact vx_throwS (own := RX3) (cls := vs_B) (text := "no such door") (names := vs_N) (ik := 55) (is := 57) (ic := 59) (sa := sa) hx hb hnt hown (by decide +kernel) (by decide +kernel) (hts (.classLink RX3 55 vs_B) (List.mem_of_getElem? (i := 1) rfl)) (hts (.initialized vs_B) (List.mem_of_getElem? (i := 2) rfl)) hstr (vx_hat (fun w h => hts w (List.mem_cons_of_mem _ (List.mem_append_left _ (List.mem_append_right _ h)))) vs_c59 (vs_Wo hT.2.1.1.2.2 hT.2.1.2.2.2.2.2.2.2)) vs_g59 hT.1.1 hT.1.2 hS (hl.1.trans hml.symm) dX3_whisper_11 dX3_whisper_14 dX3_whisper_15 dX3_whisper_17 dX3_whisper_20 (fun x h9 => (htab x h9).elim) (Nat.le_of_ble_eq_true rfl) (Nat.le_of_ble_eq_true rfl) (Nat.le_of_ble_eq_true rfl) (Nat.le_of_ble_eq_true rfl) hlocks (fun t _ h1 h2 => ⟨(), trivial, rfl, vs_F hS h1 h2⟩) hS.2.2 (Nat.le_of_ble_eq_true rfl) (Nat.le_of_ble_eq_true rfl)

theorem in_X3_door_X3 : ∀ w ∈ wsX30, w ∈ wsX3_door := by decide +kernel
set_option maxHeartbeats 4000000 in
set_option maxRecDepth 100000 in
theorem ct_X3_door (l : Launch) (hnt : l.stackTraces = false) (dC : Nat → ClassId) (dI : Nat → Nat → Nat) (za : Int32) (zb : Int32) (ax : Nat) (av : Nat) (at_ : Nat) (adr : Nat) (ao : Nat) (aar : Nat) : vx_Met l yX3_door wsX3_door ({ frames := 6, cells := 1, slots := 6, locals := 90 }) (va_Pc [.ref ax, .int za, .int zb] (pX (dC, dI) [(ax, .inr (3, [.ref av, .ref at_])), (av, .inr (1, [.int 0, .int 0, .ref adr, .ref ao, .ref aar]))] [])) (va_Qi (fun (r : Int32) (_ : Unit) => False) (fun _ _ => True) (fun _ => False)) (vx_X (fun (_ : Unit) => True) (fun E _ _ => E = vs_B) (fun _ => False)) 1 6 (fun _ => False) := by
  refine vx_ofW (cc := cX3_door) (maxL := 3) (ret := (some .int)) (by decide) rfl ?_
  intro p e s m args below meth c s₁ B hml htab hv
  obtain ⟨rfl, ⟨hP, hK⟩, hT⟩ := hv
  have hx := B.exec
  have hb := B.bytes
  have hr := B.returns
  have hts := atoms_spec (ws := wsX3_door) B.pre
  have hown : s.vm.findClass RX3 = some m.cls := findClass_of_methodNamed B.named
  have hlocks := B.notSynchronized
  have hS : va_S (fun _ => False) s.heap s.heap [] := va_S.rf
  have hP : va_P (dC, dI) vwCl [(ax, .inr (3, [.ref av, .ref at_])), (av, .inr (1, [.int 0, .int 0, .ref adr, .ref ao, .ref aar]))] s.heap := hP
  have hl := lv_entry ([.ref ax, .int za, .int zb]) (n := 3) (Nat.le_of_ble_eq_true rfl)
  rw [lg_entry_eq]
  generalize (lg_sl ([.ref ax, .int za, .int zb]) ++ List.replicate (3 - (lg_sl ([.ref ax, .int za, .int zb])).length) Slot.unset).toArray = ls at hl ⊢
  have hl : lv_has ls 3 [(0, .ref ax), (1, .int za), (2, .int zb)] := hl
  refine lv_aload_n hx hb dX3_door_0 rfl (lv_at hl 0 rfl) ?_
  refine va_get (D := (dC, dI)) (ci := 3) (v := .ref av) (C := RX3) (T := TX3) (N := 2) hx hb hts in_X3_door_X3 hown hK hP 0 rfl rfl 0 (by decide) (hts (.fieldLink RX3 10 "VaultDoors" "vault" "LVaultDoors$Vault;") (List.mem_of_getElem? (i := 3) rfl)) (fun _ h9 => h9) rfl dX3_door_1 ?_
  refine lv_iload_n hx hb dX3_door_4 rfl (lv_at hl 1 rfl) ?_
  have hPc := hP.sub (ws' := [(av, .inr (1, [.int 0, .int 0, .ref adr, .ref ao, .ref aar]))]) [1] rfl
  have hKc := hK.sub (tys' := []) [] rfl
  refine va_calli (va_runV (As := [.int za]) (rest := []) ⟨hx, hb, hml, hown, hts⟩ (ct_X1_isDoor l dC dI za 0 av adr ao aar) (cwV 1 hts gX3_door_X1_isDoor rfl rfl rfl (by decide +kernel) ⟨(Nat.le_of_ble_eq_true rfl), (Nat.le_of_ble_eq_true rfl)⟩) ⟨pR_blind, va_recv hKc hPc (ci := 1) (q0 := 0) rfl rfl, pR_pre hPc hKc⟩ rfl rfl hl.1 rfl (lv_room (Nat.le_of_ble_eq_true rfl)) dX3_door_5 ⟨(Nat.le_of_ble_eq_true rfl), (Nat.le_of_ble_eq_true rfl)⟩) hS (fun q _ h => h.elim) (fun q h => h.elim) (fun r_1 u_2 t H1 locs ht hvm hw hB hz1 hk1 hS => ?_)
  have hP := hP.kept (fun k q hk => hk1 q.1 (hP k q hk).lt (fun h => h))
  generalize H1 = H at hP hS ⊢
  have hw : r_1 = 0 := hw
  subst hw
  refine lv_if_eq (tgt := 21) hx hb dX3_door_8 (by decide) (fun _ => ?_) (fun h => absurd h (by decide))
  obtain ⟨sa, hstr⟩ := hT.2.2 (98, "no such door, or what is not 0 to 8") (by decide +kernel)
  exact vx_throwS (own := RX3) (cls := vs_B) (text := "no such door, or what is not 0 to 8") (names := vs_N) (ik := 55) (is := 98) (ic := 59) (sa := sa) hx hb hnt hown (by decide +kernel) (by decide +kernel) (hts (.classLink RX3 55 vs_B) (List.mem_of_getElem? (i := 1) rfl)) (hts (.initialized vs_B) (List.mem_of_getElem? (i := 2) rfl)) hstr (vx_hat (fun w h => hts w (List.mem_cons_of_mem _ (List.mem_append_right _ h))) vs_c59 (vs_Wo hT.2.1.1.2.2 hT.2.1.2.2.2.2.2.2.2)) vs_g59 hT.1.1 hT.1.2 hS (hl.1.trans hml.symm) dX3_door_21 dX3_door_24 dX3_door_25 dX3_door_27 dX3_door_30 (fun x h9 => (htab x h9).elim) (Nat.le_of_ble_eq_true rfl) (Nat.le_of_ble_eq_true rfl) (Nat.le_of_ble_eq_true rfl) (Nat.le_of_ble_eq_true rfl) hlocks (fun t _ h1 h2 => ⟨(), trivial, rfl, vs_F hS h1 h2⟩) hS.2.2 (Nat.le_of_ble_eq_true rfl) (Nat.le_of_ble_eq_true rfl)

theorem in_X3_asks_X3 : ∀ w ∈ wsX30, w ∈ wsX3_asks := by decide +kernel
set_option maxHeartbeats 4000000 in
set_option maxRecDepth 100000 in
theorem ct_X3_asks (l : Launch) (hnt : l.stackTraces = false) (dC : Nat → ClassId) (dI : Nat → Nat → Nat) (za : Int32) (zb : Int32) (zc : Int32) (ax : Nat) (av : Nat) (at_ : Nat) (adr : Nat) (ao : Nat) (aar : Nat) : vx_Met l yX3_asks wsX3_asks ({ frames := 6, cells := 1, slots := 6, locals := 90 }) (va_Pc [.ref ax, .int za, .int zb, .int zc] (pX (dC, dI) [(ax, .inr (3, [.ref av, .ref at_])), (av, .inr (1, [.int 0, .int 0, .ref adr, .ref ao, .ref aar]))] [])) (va_Qi (fun (r : Int32) (_ : Unit) => False) (fun _ _ => True) (fun _ => False)) (vx_X (fun (_ : Unit) => True) (fun E _ _ => E = vs_B) (fun _ => False)) 1 6 (fun _ => False) := by
  refine vx_ofW (cc := cX3_asks) (maxL := 5) (ret := (some .int)) (by decide) rfl ?_
  intro p e s m args below meth c s₁ B hml htab hv
  obtain ⟨rfl, ⟨hP, hK⟩, hT⟩ := hv
  have hx := B.exec
  have hb := B.bytes
  have hr := B.returns
  have hts := atoms_spec (ws := wsX3_asks) B.pre
  have hown : s.vm.findClass RX3 = some m.cls := findClass_of_methodNamed B.named
  have hlocks := B.notSynchronized
  have hS : va_S (fun _ => False) s.heap s.heap [] := va_S.rf
  have hP : va_P (dC, dI) vwCl [(ax, .inr (3, [.ref av, .ref at_])), (av, .inr (1, [.int 0, .int 0, .ref adr, .ref ao, .ref aar]))] s.heap := hP
  have hl := lv_entry ([.ref ax, .int za, .int zb, .int zc]) (n := 5) (Nat.le_of_ble_eq_true rfl)
  rw [lg_entry_eq]
  generalize (lg_sl ([.ref ax, .int za, .int zb, .int zc]) ++ List.replicate (5 - (lg_sl ([.ref ax, .int za, .int zb, .int zc])).length) Slot.unset).toArray = ls at hl ⊢
  have hl : lv_has ls 5 [(0, .ref ax), (1, .int za), (2, .int zb), (3, .int zc)] := hl
  refine lv_aload_n hx hb dX3_asks_0 rfl (lv_at hl 0 rfl) ?_
  refine va_get (D := (dC, dI)) (ci := 3) (v := .ref av) (C := RX3) (T := TX3) (N := 2) hx hb hts in_X3_asks_X3 hown hK hP 0 rfl rfl 0 (by decide) (hts (.fieldLink RX3 10 "VaultDoors" "vault" "LVaultDoors$Vault;") (List.mem_of_getElem? (i := 3) rfl)) (fun _ h9 => h9) rfl dX3_asks_1 ?_
  refine lv_iload_n hx hb dX3_asks_4 rfl (lv_at hl 1 rfl) ?_
  have hPc := hP.sub (ws' := [(av, .inr (1, [.int 0, .int 0, .ref adr, .ref ao, .ref aar]))]) [1] rfl
  have hKc := hK.sub (tys' := []) [] rfl
  refine va_calli (va_runV (As := [.int za]) (rest := []) ⟨hx, hb, hml, hown, hts⟩ (ct_X1_isDoor l dC dI za 0 av adr ao aar) (cwV 1 hts gX3_asks_X1_isDoor rfl rfl rfl (by decide +kernel) ⟨(Nat.le_of_ble_eq_true rfl), (Nat.le_of_ble_eq_true rfl)⟩) ⟨pR_blind, va_recv hKc hPc (ci := 1) (q0 := 0) rfl rfl, pR_pre hPc hKc⟩ rfl rfl hl.1 rfl (lv_room (Nat.le_of_ble_eq_true rfl)) dX3_asks_5 ⟨(Nat.le_of_ble_eq_true rfl), (Nat.le_of_ble_eq_true rfl)⟩) hS (fun q _ h => h.elim) (fun q h => h.elim) (fun r_1 u_2 t H1 locs ht hvm hw hB hz1 hk1 hS => ?_)
  have hP := hP.kept (fun k q hk => hk1 q.1 (hP k q hk).lt (fun h => h))
  generalize H1 = H at hP hS ⊢
  have hw : r_1 = 0 := hw
  subst hw
  refine lv_if_eq (tgt := 20) hx hb dX3_asks_8 (by decide) (fun _ => ?_) (fun h => absurd h (by decide))
  obtain ⟨sa, hstr⟩ := hT.2.2 (103, "no such door, or what is not 0 to 2") (by decide +kernel)
  exact vx_throwS (own := RX3) (cls := vs_B) (text := "no such door, or what is not 0 to 2") (names := vs_N) (ik := 55) (is := 103) (ic := 59) (sa := sa) hx hb hnt hown (by decide +kernel) (by decide +kernel) (hts (.classLink RX3 55 vs_B) (List.mem_of_getElem? (i := 1) rfl)) (hts (.initialized vs_B) (List.mem_of_getElem? (i := 2) rfl)) hstr (vx_hat (fun w h => hts w (List.mem_cons_of_mem _ (List.mem_append_right _ h))) vs_c59 (vs_Wo hT.2.1.1.2.2 hT.2.1.2.2.2.2.2.2.2)) vs_g59 hT.1.1 hT.1.2 hS (hl.1.trans hml.symm) dX3_asks_20 dX3_asks_23 dX3_asks_24 dX3_asks_26 dX3_asks_29 (fun x h9 => (htab x h9).elim) (Nat.le_of_ble_eq_true rfl) (Nat.le_of_ble_eq_true rfl) (Nat.le_of_ble_eq_true rfl) (Nat.le_of_ble_eq_true rfl) hlocks (fun t _ h1 h2 => ⟨(), trivial, rfl, vs_F hS h1 h2⟩) hS.2.2 (Nat.le_of_ble_eq_true rfl) (Nat.le_of_ble_eq_true rfl)

theorem in_X3_reach_X3 : ∀ w ∈ wsX30, w ∈ wsX3_reach := by decide +kernel
set_option maxHeartbeats 4000000 in
set_option maxRecDepth 100000 in
theorem ct_X3_reach (l : Launch) (hnt : l.stackTraces = false) (dC : Nat → ClassId) (dI : Nat → Nat → Nat) (za : Int32) (ax : Nat) (av : Nat) (at_ : Nat) (adr : Nat) (ao : Nat) (aar : Nat) : vx_Met l yX3_reach wsX3_reach ({ frames := 6, cells := 1, slots := 6, locals := 90 }) (va_Pc [.ref ax, .int za] (pX (dC, dI) [(ax, .inr (3, [.ref av, .ref at_])), (av, .inr (1, [.int 0, .int 0, .ref adr, .ref ao, .ref aar]))] [])) (va_Qi (fun (r : Int32) (_ : Unit) => False) (fun _ _ => True) (fun _ => False)) (vx_X (fun (_ : Unit) => True) (fun E _ _ => E = vs_B) (fun _ => False)) 1 6 (fun _ => False) := by
  refine vx_ofW (cc := cX3_reach) (maxL := 2) (ret := (some .int)) (by decide) rfl ?_
  intro p e s m args below meth c s₁ B hml htab hv
  obtain ⟨rfl, ⟨hP, hK⟩, hT⟩ := hv
  have hx := B.exec
  have hb := B.bytes
  have hr := B.returns
  have hts := atoms_spec (ws := wsX3_reach) B.pre
  have hown : s.vm.findClass RX3 = some m.cls := findClass_of_methodNamed B.named
  have hlocks := B.notSynchronized
  have hS : va_S (fun _ => False) s.heap s.heap [] := va_S.rf
  have hP : va_P (dC, dI) vwCl [(ax, .inr (3, [.ref av, .ref at_])), (av, .inr (1, [.int 0, .int 0, .ref adr, .ref ao, .ref aar]))] s.heap := hP
  have hl := lv_entry ([.ref ax, .int za]) (n := 2) (Nat.le_of_ble_eq_true rfl)
  rw [lg_entry_eq]
  generalize (lg_sl ([.ref ax, .int za]) ++ List.replicate (2 - (lg_sl ([.ref ax, .int za])).length) Slot.unset).toArray = ls at hl ⊢
  have hl : lv_has ls 2 [(0, .ref ax), (1, .int za)] := hl
  refine lv_aload_n hx hb dX3_reach_0 rfl (lv_at hl 0 rfl) ?_
  refine va_get (D := (dC, dI)) (ci := 3) (v := .ref av) (C := RX3) (T := TX3) (N := 2) hx hb hts in_X3_reach_X3 hown hK hP 0 rfl rfl 0 (by decide) (hts (.fieldLink RX3 10 "VaultDoors" "vault" "LVaultDoors$Vault;") (List.mem_of_getElem? (i := 3) rfl)) (fun _ h9 => h9) rfl dX3_reach_1 ?_
  refine lv_iload_n hx hb dX3_reach_4 rfl (lv_at hl 1 rfl) ?_
  have hPc := hP.sub (ws' := [(av, .inr (1, [.int 0, .int 0, .ref adr, .ref ao, .ref aar]))]) [1] rfl
  have hKc := hK.sub (tys' := []) [] rfl
  refine va_calli (va_runV (As := [.int za]) (rest := []) ⟨hx, hb, hml, hown, hts⟩ (ct_X1_isDoor l dC dI za 0 av adr ao aar) (cwV 1 hts gX3_reach_X1_isDoor rfl rfl rfl (by decide +kernel) ⟨(Nat.le_of_ble_eq_true rfl), (Nat.le_of_ble_eq_true rfl)⟩) ⟨pR_blind, va_recv hKc hPc (ci := 1) (q0 := 0) rfl rfl, pR_pre hPc hKc⟩ rfl rfl hl.1 rfl (lv_room (Nat.le_of_ble_eq_true rfl)) dX3_reach_5 ⟨(Nat.le_of_ble_eq_true rfl), (Nat.le_of_ble_eq_true rfl)⟩) hS (fun q _ h => h.elim) (fun q h => h.elim) (fun r_1 u_2 t H1 locs ht hvm hw hB hz1 hk1 hS => ?_)
  have hP := hP.kept (fun k q hk => hk1 q.1 (hP k q hk).lt (fun h => h))
  generalize H1 = H at hP hS ⊢
  have hw : r_1 = 0 := hw
  subst hw
  refine lv_if_ne (tgt := 21) hx hb dX3_reach_8 (by decide) (fun h => absurd h (by decide)) (fun _ => ?_)
  obtain ⟨sa, hstr⟩ := hT.2.2 (57, "no such door") (by decide +kernel)
  exact vx_throwS (own := RX3) (cls := vs_B) (text := "no such door") (names := vs_N) (ik := 55) (is := 57) (ic := 59) (sa := sa) hx hb hnt hown (by decide +kernel) (by decide +kernel) (hts (.classLink RX3 55 vs_B) (List.mem_of_getElem? (i := 1) rfl)) (hts (.initialized vs_B) (List.mem_of_getElem? (i := 2) rfl)) hstr (vx_hat (fun w h => hts w (List.mem_cons_of_mem _ (List.mem_append_right _ h))) vs_c59 (vs_Wo hT.2.1.1.2.2 hT.2.1.2.2.2.2.2.2.2)) vs_g59 hT.1.1 hT.1.2 hS (hl.1.trans hml.symm) dX3_reach_11 dX3_reach_14 dX3_reach_15 dX3_reach_17 dX3_reach_20 (fun x h9 => (htab x h9).elim) (Nat.le_of_ble_eq_true rfl) (Nat.le_of_ble_eq_true rfl) (Nat.le_of_ble_eq_true rfl) (Nat.le_of_ble_eq_true rfl) hlocks (fun t _ h1 h2 => ⟨(), trivial, rfl, vs_F hS h1 h2⟩) hS.2.2 (Nat.le_of_ble_eq_true rfl) (Nat.le_of_ble_eq_true rfl)

theorem in_X3_opens_X3 : ∀ w ∈ wsX30, w ∈ wsX3_opens := by decide +kernel
set_option maxHeartbeats 4000000 in
set_option maxRecDepth 100000 in
theorem ct_X3_opens (l : Launch) (hnt : l.stackTraces = false) (dC : Nat → ClassId) (dI : Nat → Nat → Nat) (za : Int32) (ax : Nat) (av : Nat) (at_ : Nat) (adr : Nat) (ao : Nat) (aar : Nat) : vx_Met l yX3_opens wsX3_opens ({ frames := 6, cells := 1, slots := 6, locals := 90 }) (va_Pc [.ref ax, .int za] (pX (dC, dI) [(ax, .inr (3, [.ref av, .ref at_])), (av, .inr (1, [.int 0, .int 0, .ref adr, .ref ao, .ref aar]))] [])) (va_Qi (fun (r : Int32) (_ : Unit) => False) (fun _ _ => True) (fun _ => False)) (vx_X (fun (_ : Unit) => True) (fun E _ _ => E = vs_B) (fun _ => False)) 1 6 (fun _ => False) := by
  refine vx_ofW (cc := cX3_opens) (maxL := 3) (ret := (some .int)) (by decide) rfl ?_
  intro p e s m args below meth c s₁ B hml htab hv
  obtain ⟨rfl, ⟨hP, hK⟩, hT⟩ := hv
  have hx := B.exec
  have hb := B.bytes
  have hr := B.returns
  have hts := atoms_spec (ws := wsX3_opens) B.pre
  have hown : s.vm.findClass RX3 = some m.cls := findClass_of_methodNamed B.named
  have hlocks := B.notSynchronized
  have hS : va_S (fun _ => False) s.heap s.heap [] := va_S.rf
  have hP : va_P (dC, dI) vwCl [(ax, .inr (3, [.ref av, .ref at_])), (av, .inr (1, [.int 0, .int 0, .ref adr, .ref ao, .ref aar]))] s.heap := hP
  have hl := lv_entry ([.ref ax, .int za]) (n := 3) (Nat.le_of_ble_eq_true rfl)
  rw [lg_entry_eq]
  generalize (lg_sl ([.ref ax, .int za]) ++ List.replicate (3 - (lg_sl ([.ref ax, .int za])).length) Slot.unset).toArray = ls at hl ⊢
  have hl : lv_has ls 3 [(0, .ref ax), (1, .int za)] := hl
  refine lv_aload_n hx hb dX3_opens_0 rfl (lv_at hl 0 rfl) ?_
  refine va_get (D := (dC, dI)) (ci := 3) (v := .ref av) (C := RX3) (T := TX3) (N := 2) hx hb hts in_X3_opens_X3 hown hK hP 0 rfl rfl 0 (by decide) (hts (.fieldLink RX3 10 "VaultDoors" "vault" "LVaultDoors$Vault;") (List.mem_of_getElem? (i := 3) rfl)) (fun _ h9 => h9) rfl dX3_opens_1 ?_
  refine lv_iload_n hx hb dX3_opens_4 rfl (lv_at hl 1 rfl) ?_
  have hPc := hP.sub (ws' := [(av, .inr (1, [.int 0, .int 0, .ref adr, .ref ao, .ref aar]))]) [1] rfl
  have hKc := hK.sub (tys' := []) [] rfl
  refine va_calli (va_runV (As := [.int za]) (rest := []) ⟨hx, hb, hml, hown, hts⟩ (ct_X1_isDoor l dC dI za 0 av adr ao aar) (cwV 1 hts gX3_opens_X1_isDoor rfl rfl rfl (by decide +kernel) ⟨(Nat.le_of_ble_eq_true rfl), (Nat.le_of_ble_eq_true rfl)⟩) ⟨pR_blind, va_recv hKc hPc (ci := 1) (q0 := 0) rfl rfl, pR_pre hPc hKc⟩ rfl rfl hl.1 rfl (lv_room (Nat.le_of_ble_eq_true rfl)) dX3_opens_5 ⟨(Nat.le_of_ble_eq_true rfl), (Nat.le_of_ble_eq_true rfl)⟩) hS (fun q _ h => h.elim) (fun q h => h.elim) (fun r_1 u_2 t H1 locs ht hvm hw hB hz1 hk1 hS => ?_)
  have hP := hP.kept (fun k q hk => hk1 q.1 (hP k q hk).lt (fun h => h))
  generalize H1 = H at hP hS ⊢
  have hw : r_1 = 0 := hw
  subst hw
  refine lv_if_ne (tgt := 21) hx hb dX3_opens_8 (by decide) (fun h => absurd h (by decide)) (fun _ => ?_)
  obtain ⟨sa, hstr⟩ := hT.2.2 (57, "no such door") (by decide +kernel)
  exact vx_throwS (own := RX3) (cls := vs_B) (text := "no such door") (names := vs_N) (ik := 55) (is := 57) (ic := 59) (sa := sa) hx hb hnt hown (by decide +kernel) (by decide +kernel) (hts (.classLink RX3 55 vs_B) (List.mem_of_getElem? (i := 1) rfl)) (hts (.initialized vs_B) (List.mem_of_getElem? (i := 2) rfl)) hstr (vx_hat (fun w h => hts w (List.mem_cons_of_mem _ (List.mem_append_right _ h))) vs_c59 (vs_Wo hT.2.1.1.2.2 hT.2.1.2.2.2.2.2.2.2)) vs_g59 hT.1.1 hT.1.2 hS (hl.1.trans hml.symm) dX3_opens_11 dX3_opens_14 dX3_opens_15 dX3_opens_17 dX3_opens_20 (fun x h9 => (htab x h9).elim) (Nat.le_of_ble_eq_true rfl) (Nat.le_of_ble_eq_true rfl) (Nat.le_of_ble_eq_true rfl) (Nat.le_of_ble_eq_true rfl) hlocks (fun t _ h1 h2 => ⟨(), trivial, rfl, vs_F hS h1 h2⟩) hS.2.2 (Nat.le_of_ble_eq_true rfl) (Nat.le_of_ble_eq_true rfl)

theorem in_X3_would_X3 : ∀ w ∈ wsX30, w ∈ wsX3_would := by decide +kernel
set_option maxHeartbeats 4000000 in
set_option maxRecDepth 100000 in
theorem ct_X3_would (l : Launch) (hnt : l.stackTraces = false) (dC : Nat → ClassId) (dI : Nat → Nat → Nat) (za : Int32) (zb : Int32) (ax : Nat) (av : Nat) (at_ : Nat) (adr : Nat) (ao : Nat) (aar : Nat) : vx_Met l yX3_would wsX3_would ({ frames := 6, cells := 1, slots := 6, locals := 90 }) (va_Pc [.ref ax, .int za, .int zb] (pX (dC, dI) [(ax, .inr (3, [.ref av, .ref at_])), (av, .inr (1, [.int 0, .int 0, .ref adr, .ref ao, .ref aar]))] [])) (va_Qi (fun (r : Int32) (_ : Unit) => False) (fun _ _ => True) (fun _ => False)) (vx_X (fun (_ : Unit) => True) (fun E _ _ => E = vs_B) (fun _ => False)) 1 6 (fun _ => False) := by
  refine vx_ofW (cc := cX3_would) (maxL := 3) (ret := (some .int)) (by decide) rfl ?_
  intro p e s m args below meth c s₁ B hml htab hv
  obtain ⟨rfl, ⟨hP, hK⟩, hT⟩ := hv
  have hx := B.exec
  have hb := B.bytes
  have hr := B.returns
  have hts := atoms_spec (ws := wsX3_would) B.pre
  have hown : s.vm.findClass RX3 = some m.cls := findClass_of_methodNamed B.named
  have hlocks := B.notSynchronized
  have hS : va_S (fun _ => False) s.heap s.heap [] := va_S.rf
  have hP : va_P (dC, dI) vwCl [(ax, .inr (3, [.ref av, .ref at_])), (av, .inr (1, [.int 0, .int 0, .ref adr, .ref ao, .ref aar]))] s.heap := hP
  have hl := lv_entry ([.ref ax, .int za, .int zb]) (n := 3) (Nat.le_of_ble_eq_true rfl)
  rw [lg_entry_eq]
  generalize (lg_sl ([.ref ax, .int za, .int zb]) ++ List.replicate (3 - (lg_sl ([.ref ax, .int za, .int zb])).length) Slot.unset).toArray = ls at hl ⊢
  have hl : lv_has ls 3 [(0, .ref ax), (1, .int za), (2, .int zb)] := hl
  refine lv_aload_n hx hb dX3_would_0 rfl (lv_at hl 0 rfl) ?_
  refine va_get (D := (dC, dI)) (ci := 3) (v := .ref av) (C := RX3) (T := TX3) (N := 2) hx hb hts in_X3_would_X3 hown hK hP 0 rfl rfl 0 (by decide) (hts (.fieldLink RX3 10 "VaultDoors" "vault" "LVaultDoors$Vault;") (List.mem_of_getElem? (i := 5) rfl)) (fun _ h9 => h9) rfl dX3_would_1 ?_
  refine lv_iload_n hx hb dX3_would_4 rfl (lv_at hl 1 rfl) ?_
  have hPc := hP.sub (ws' := [(av, .inr (1, [.int 0, .int 0, .ref adr, .ref ao, .ref aar]))]) [1] rfl
  have hKc := hK.sub (tys' := []) [] rfl
  refine va_calli (va_runV (As := [.int za]) (rest := []) ⟨hx, hb, hml, hown, hts⟩ (ct_X1_isDoor l dC dI za 0 av adr ao aar) (cwV 1 hts gX3_would_X1_isDoor rfl rfl rfl (by decide +kernel) ⟨(Nat.le_of_ble_eq_true rfl), (Nat.le_of_ble_eq_true rfl)⟩) ⟨pR_blind, va_recv hKc hPc (ci := 1) (q0 := 0) rfl rfl, pR_pre hPc hKc⟩ rfl rfl hl.1 rfl (lv_room (Nat.le_of_ble_eq_true rfl)) dX3_would_5 ⟨(Nat.le_of_ble_eq_true rfl), (Nat.le_of_ble_eq_true rfl)⟩) hS (fun q _ h => h.elim) (fun q h => h.elim) (fun r_1 u_2 t H1 locs ht hvm hw hB hz1 hk1 hS => ?_)
  have hP := hP.kept (fun k q hk => hk1 q.1 (hP k q hk).lt (fun h => h))
  generalize H1 = H at hP hS ⊢
  have hw : r_1 = 0 := hw
  subst hw
  refine lv_if_ne (tgt := 21) hx hb dX3_would_8 (by decide) (fun h => absurd h (by decide)) (fun _ => ?_)
  obtain ⟨sa, hstr⟩ := hT.2.2 (57, "no such door") (by decide +kernel)
  exact vx_throwS (own := RX3) (cls := vs_B) (text := "no such door") (names := vs_N) (ik := 55) (is := 57) (ic := 59) (sa := sa) hx hb hnt hown (by decide +kernel) (by decide +kernel) (hts (.classLink RX3 55 vs_B) (List.mem_of_getElem? (i := 1) rfl)) (hts (.initialized vs_B) (List.mem_of_getElem? (i := 2) rfl)) hstr (vx_hat (fun w h => hts w (List.mem_cons_of_mem _ (List.mem_append_left _ (List.mem_append_right _ h)))) vs_c59 (vs_Wo hT.2.1.1.2.2 hT.2.1.2.2.2.2.2.2.2)) vs_g59 hT.1.1 hT.1.2 hS (hl.1.trans hml.symm) dX3_would_11 dX3_would_14 dX3_would_15 dX3_would_17 dX3_would_20 (fun x h9 => (htab x h9).elim) (Nat.le_of_ble_eq_true rfl) (Nat.le_of_ble_eq_true rfl) (Nat.le_of_ble_eq_true rfl) (Nat.le_of_ble_eq_true rfl) hlocks (fun t _ h1 h2 => ⟨(), trivial, rfl, vs_F hS h1 h2⟩) hS.2.2 (Nat.le_of_ble_eq_true rfl) (Nat.le_of_ble_eq_true rfl)

theorem in_X3_voice_X1 : ∀ w ∈ wsX10, w ∈ wsX3_voice := by decide +kernel
theorem in_X3_voice_X2 : ∀ w ∈ wsX20, w ∈ wsX3_voice := by decide +kernel
theorem in_X3_voice_X3 : ∀ w ∈ wsX30, w ∈ wsX3_voice := by decide +kernel
set_option maxHeartbeats 4000000 in
set_option maxRecDepth 100000 in
theorem ct_X3_voice (l : Launch) (hnt : l.stackTraces = false) (dC : Nat → ClassId) (dI : Nat → Nat → Nat) (za : Int32) (zb : Int32) (ax : Nat) (av : Nat) (at_ : Nat) (adr : Nat) (ao : Nat) (aar : Nat) (o1 : Nat) (o2 : Nat) (o3 : Nat) (o4 : Nat) (o5 : Nat) : vx_Met l yX3_voice wsX3_voice ({ frames := 6, cells := 1, slots := 6, locals := 90 }) (va_Pc [.ref ax, .int za, .int zb] (pX (dC, dI) [(ax, .inr (3, [.ref av, .ref at_])), (av, .inr (1, [.int 0, .int 0, .ref adr, .ref ao, .ref aar])), (ao, .inr (2, [.int 0, .int 0, .ref o1, .ref o2, .ref o3, .ref o4, .ref o5]))] [])) (va_Qi (fun (r : Int32) (_ : Unit) => False) (fun _ _ => True) (fun _ => False)) (vx_X (fun (_ : Unit) => True) (fun E _ _ => E = vs_B) (fun _ => False)) 1 6 (fun _ => False) := by
  refine vx_ofW (cc := cX3_voice) (maxL := 3) (ret := (some .int)) (by decide) rfl ?_
  intro p e s m args below meth c s₁ B hml htab hv
  obtain ⟨rfl, ⟨hP, hK⟩, hT⟩ := hv
  have hx := B.exec
  have hb := B.bytes
  have hr := B.returns
  have hts := atoms_spec (ws := wsX3_voice) B.pre
  have hown : s.vm.findClass RX3 = some m.cls := findClass_of_methodNamed B.named
  have hlocks := B.notSynchronized
  have hS : va_S (fun _ => False) s.heap s.heap [] := va_S.rf
  have hP : va_P (dC, dI) vwCl [(ax, .inr (3, [.ref av, .ref at_])), (av, .inr (1, [.int 0, .int 0, .ref adr, .ref ao, .ref aar])), (ao, .inr (2, [.int 0, .int 0, .ref o1, .ref o2, .ref o3, .ref o4, .ref o5]))] s.heap := hP
  have hl := lv_entry ([.ref ax, .int za, .int zb]) (n := 3) (Nat.le_of_ble_eq_true rfl)
  rw [lg_entry_eq]
  generalize (lg_sl ([.ref ax, .int za, .int zb]) ++ List.replicate (3 - (lg_sl ([.ref ax, .int za, .int zb])).length) Slot.unset).toArray = ls at hl ⊢
  have hl : lv_has ls 3 [(0, .ref ax), (1, .int za), (2, .int zb)] := hl
  refine lv_iload_n hx hb dX3_voice_0 rfl (lv_at hl 1 rfl) ?_
  refine lv_iconst (v := 0) hx hb dX3_voice_1 (by decide) ?_
  refine lv_aload_n hx hb dX3_voice_2 rfl (lv_at hl 0 rfl) ?_
  refine va_get (D := (dC, dI)) (ci := 3) (v := .ref av) (C := RX3) (T := TX3) (N := 2) hx hb hts in_X3_voice_X3 hown hK hP 0 rfl rfl 0 (by decide) (hts (.fieldLink RX3 10 "VaultDoors" "vault" "LVaultDoors$Vault;") (List.mem_of_getElem? (i := 3) rfl)) (fun _ h9 => h9) rfl dX3_voice_3 ?_
  refine va_get (D := (dC, dI)) (ci := 1) (v := .ref ao) (C := RX1) (T := TX1) (N := 5) hx hb hts in_X3_voice_X1 hown hK hP 1 rfl rfl 3 (by decide) (hts (.fieldLink RX3 111 "VaultDoors$Vault" "voices" "LVaultDoors$Voices;") (List.mem_of_getElem? (i := 4) rfl)) (fun _ h9 => h9) rfl dX3_voice_6 ?_
  refine va_get (D := (dC, dI)) (ci := 2) (v := .int 0) (C := RX2) (T := TX2) (N := 7) hx hb hts in_X3_voice_X2 hown hK hP 2 rfl rfl 0 (by decide) (hts (.fieldLink RX3 115 "VaultDoors$Voices" "size" "I") (List.mem_of_getElem? (i := 5) rfl)) (fun _ h9 => h9) rfl dX3_voice_9 ?_
  refine lv_iconst (v := 1) hx hb dX3_voice_12 (by decide) ?_
  refine lv_isub hx hb dX3_voice_13 ?_
  refine lv_topi (nm_r (e' := (-1)) (by decide) ?_)
  have hPc := hP.sub (ws' := []) [] rfl
  have hKc := hK.sub (tys' := []) [] rfl
  refine va_calli (va_runS (As := [.int za, .int 0, .int (-1)]) (rest := []) ⟨hx, hb, hml, hown, hts⟩ (ct_X3_isIn l dC dI za 0 ((-1))) (va_cwS 3 hts gX3_voice_X3_isIn rfl rfl rfl (by decide +kernel) ⟨(Nat.le_of_ble_eq_true rfl), (Nat.le_of_ble_eq_true rfl)⟩) ⟨pR_blind, pR_pre hPc hKc⟩ rfl rfl hl.1 rfl (lv_room (Nat.le_of_ble_eq_true rfl)) dX3_voice_14 ⟨(Nat.le_of_ble_eq_true rfl), (Nat.le_of_ble_eq_true rfl)⟩) hS (fun q _ h => h.elim) (fun q h => h.elim) (fun r_1 u_2 t H1 locs ht hvm hw hB hz1 hk1 hS => ?_)
  have hP := hP.kept (fun k q hk => hk1 q.1 (hP k q hk).lt (fun h => h))
  generalize H1 = H at hP hS ⊢
  have hw : r_1 = vs_in za 0 (-1) := hw
  subst hw
  rw [vs_in_neg]
  refine lv_if_eq (tgt := 29) hx hb dX3_voice_17 (by decide) (fun _ => ?_) (fun h => absurd h (by decide))
  obtain ⟨sa, hstr⟩ := hT.2.2 (120, "no such voice, or what is not 0 to 3") (by decide +kernel)
  exact vx_throwS (own := RX3) (cls := vs_B) (text := "no such voice, or what is not 0 to 3") (names := vs_N) (ik := 55) (is := 120) (ic := 59) (sa := sa) hx hb hnt hown (by decide +kernel) (by decide +kernel) (hts (.classLink RX3 55 vs_B) (List.mem_of_getElem? (i := 1) rfl)) (hts (.initialized vs_B) (List.mem_of_getElem? (i := 2) rfl)) hstr (vx_hat (fun w h => hts w (List.mem_cons_of_mem _ (List.mem_append_right _ h))) vs_c59 (vs_Wo hT.2.1.1.2.2 hT.2.1.2.2.2.2.2.2.2)) vs_g59 hT.1.1 hT.1.2 hS (hl.1.trans hml.symm) dX3_voice_29 dX3_voice_32 dX3_voice_33 dX3_voice_35 dX3_voice_38 (fun x h9 => (htab x h9).elim) (Nat.le_of_ble_eq_true rfl) (Nat.le_of_ble_eq_true rfl) (Nat.le_of_ble_eq_true rfl) (Nat.le_of_ble_eq_true rfl) hlocks (fun t _ h1 h2 => ⟨(), trivial, rfl, vs_F hS h1 h2⟩) hS.2.2 (Nat.le_of_ble_eq_true rfl) (Nat.le_of_ble_eq_true rfl)
