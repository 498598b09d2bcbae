set_option maxHeartbeats 4000000 in
set_option maxRecDepth 100000 in
theorem cl_ask (l : Launch) (hnt : l.stackTraces = false) (dC : Nat → ClassId) (dI : Nat → Nat → Nat) (za : Int32) (zb : Int32) (zc : Int32) (ax : Nat) (av : Nat) (at_ : Nat) (adr : Nat) (ao : Nat) (aar : Nat) (zo : Nat) (cL : ClassId) (fo : Nat → Int64) (sz : Nat) : vx_Met l yL_ask wsL_ask ({ frames := 7, cells := 1, slots := 6, locals := 114 }) (va_Pc [.ref ax, .int za, .int zb, .int zc, .ref zo] (pY (dC, dI) [(ax, .inr (3, [.ref av, .ref at_])), (av, .inr (1, [.int 0, .int 0, .ref adr, .ref ao, .ref aar])), (zo, .inl (cL, 1, .inr (.inl fo)))] [(cL, .long)] sz)) (va_Qi (fun (r : Int32) (_ : Unit) => r = 1) (fun _ t => pB (dC, dI) (va_A [(ax, .inr (3, [.ref av, .ref at_])), (av, .inr (1, [.int 0, .int 0, .ref adr, .ref ao, .ref aar])), (zo, .inl (cL, 1, .inr (.inl fo)))] sz) [] [] t) (va_A [(ax, .inr (3, [.ref av, .ref at_])), (av, .inr (1, [.int 0, .int 0, .ref adr, .ref ao, .ref aar])), (zo, .inl (cL, 1, .inr (.inl fo)))] sz)) (vx_X (fun (_ : Unit) => True) (fun E _ _ => False) (va_A [(ax, .inr (3, [.ref av, .ref at_])), (av, .inr (1, [.int 0, .int 0, .ref adr, .ref ao, .ref aar])), (zo, .inl (cL, 1, .inr (.inl fo)))] sz)) 1 6 (va_A [(ax, .inr (3, [.ref av, .ref at_])), (av, .inr (1, [.int 0, .int 0, .ref adr, .ref ao, .ref aar])), (zo, .inl (cL, 1, .inr (.inl fo)))] sz) := by
  refine vx_ofWH (cc := cL_ask) (maxL := 6) (ret := (some .int)) (hh := [(0, 12, 15, 20), (0, 12, 19, 13), (0, 12, 23, 15)]) (by decide) rfl ?_
  intro p e s m args below meth c s₁ B hml hv
  obtain ⟨rfl, ⟨hsz, hP, hK, hD0⟩, hT⟩ := hv
  have hx := B.exec
  have hb := B.bytes
  have hr := B.returns
  have hts := atoms_spec (ws := wsL_ask) B.pre
  have hown : s.vm.findClass RL = some m.cls := findClass_of_methodNamed B.named
  have hlocks := B.notSynchronized
  subst hsz
  have hD := hD0.self (sz := s.heap.size)
  generalize hAe : va_A [(ax, .inr (3, [.ref av, .ref at_])), (av, .inr (1, [.int 0, .int 0, .ref adr, .ref ao, .ref aar])), (zo, .inl (cL, 1, .inr (.inl fo)))] s.heap.size = A at hD hT ⊢
  have hA : ∀ q : Nat, s.heap.size ≤ q → A q := fun q h => by rw [← hAe]; exact Or.inr h
  have hS : va_S A s.heap s.heap [] := va_S.rf
  have hP : va_P (dC, dI) vwCl [(ax, .inr (3, [.ref av, .ref at_])), (av, .inr (1, [.int 0, .int 0, .ref adr, .ref ao, .ref aar])), (zo, .inl (cL, 1, .inr (.inl fo)))] s.heap := hP
  have hl := lv_entry ([.ref ax, .int za, .int zb, .int zc, .ref zo]) (n := 6) (Nat.le_of_ble_eq_true rfl)
  rw [lg_entry_eq]
  generalize (lg_sl ([.ref ax, .int za, .int zb, .int zc, .ref zo]) ++ List.replicate (6 - (lg_sl ([.ref ax, .int za, .int zb, .int zc, .ref zo])).length) Slot.unset).toArray = ls at hl ⊢
  have hl : lv_has ls 6 [(0, .ref ax), (1, .int za), (2, .int zb), (3, .int zc), (4, .ref zo)] := hl
  refine lv_aload hx hb dL_ask_0 (lv_at hl 4 rfl) ?_
  refine lv_iconst (v := 0) hx hb dL_ask_2 (by decide) ?_
  refine lv_aload_n hx hb dL_ask_3 rfl (lv_at hl 0 rfl) ?_
  refine lv_iload_n hx hb dL_ask_4 rfl (lv_at hl 1 rfl) ?_
  refine lv_iload_n hx hb dL_ask_5 rfl (lv_at hl 2 rfl) ?_
  refine lv_iload_n hx hb dL_ask_6 rfl (lv_at hl 3 rfl) ?_
  have htb := vx_table (x := yL_ask) B (hts _ List.mem_cons_self)
  have hPc := hP.sub (ws' := [(ax, .inr (3, [.ref av, .ref at_])), (av, .inr (1, [.int 0, .int 0, .ref adr, .ref ao, .ref aar]))]) [0, 1] rfl
  have hKc := hK.sub (tys' := []) [] rfl
  have hTc := (hT.kept hS).narrow (B := fun _ => False) (fun _ h => h.elim)
  refine vx_calli (vx_runV (As := [.int za, .int zb, .int zc]) (rest := [.int 0, .ref zo]) ⟨hx, hb, hml, hown, hts⟩ (ct_X3_ask l hnt dC dI za zb zc ax av at_ adr ao aar) (cwV 3 hts gL_ask_X3_ask rfl rfl rfl (by decide +kernel) ⟨(Nat.le_of_ble_eq_true rfl), (Nat.le_of_ble_eq_true rfl)⟩) ⟨pX_blind, va_recv hKc hPc (ci := 3) (q0 := 0) rfl rfl, pX_pre hPc hKc hTc⟩ rfl rfl hl.1 rfl (lv_room (Nat.le_of_ble_eq_true rfl)) dL_ask_7 ⟨(Nat.le_of_ble_eq_true rfl), (Nat.le_of_ble_eq_true rfl)⟩) hS (fun q _ h => h.elim) (fun q h => h.elim) (fun q _ h => h.elim) (fun E ce q9 ux t H1 locs ht hvm hp hBX hz1 hk1 hS hce hcv hcl => ?_) (fun r_1 u_2 t H1 locs ht hvm hw hB hz1 hk1 hS => ?_)
  · have hP := hP.kept (fun k q hk => hk1 q.1 (hP k q hk).lt (fun h => h))
    generalize H1 = H at hP hS hce ⊢
    have hP : va_P (dC, dI) vwCl [(ax, .inr (3, [.ref av, .ref at_])), (av, .inr (1, [.int 0, .int 0, .ref adr, .ref ao, .ref aar])), (zo, .inl (cL, 1, .inr (.inl fo)))] H := hP
    have hD : va_D A [(ax, .inr (3, [.ref av, .ref at_])), (av, .inr (1, [.int 0, .int 0, .ref adr, .ref ao, .ref aar])), (zo, .inl (cL, 1, .inr (.inl fo)))] := hD
    refine vx_widen (k := 1) (n := 6) (by omega) (by omega) ?_
    have hBX : E = vs_B := hBX
    subst hBX
    refine vx_catch (own := RL) (name := vs_B) hown [] ⟨0, 12, 15, 20⟩ [⟨0, 12, 19, 13⟩, ⟨0, 12, 23, 15⟩] htb (fun z hz => nomatch hz) rfl (by decide) (hts (.classLink RL 20 vs_B) (List.mem_of_getElem? (i := 1) rfl)) (va_Nw.use rfl hT.2.1.1.2.2) hce hcv hcl ?_
    refine lv_astore (lv' := [(5, .ref q9), (0, .ref ax), (1, .int za), (2, .int zb), (3, .int zc), (4, .ref zo)]) hx hb dL_ask_15 hl (by decide) rfl (fun ls hl => ?_)
    refine lv_iconst (v := 1) hx hb dL_ask_17 (by decide) ?_
    have hP9 := hP.sub (ws' := []) [] rfl
    have hD9 := hD.sub (ws' := []) [] (by decide) rfl
    have hK9 := hK.sub (tys' := []) [] rfl
    refine vx_ret ?_
    exact W.iret (v := 1) hx hb hr (fun t ht hW => ⟨⟨_, (), rfl, rfl, by rw [ht]; exact hP9, va_K.moved hW.alike hK9, hD9⟩, hS.F ht⟩) hS.2.2 dL_ask_18
  have hP := hP.kept (fun k q hk => hk1 q.1 (hP k q hk).lt (fun h => h))
  generalize H1 = H at hP hS ⊢
  refine W.widen (k := 1) (n := 6) (by omega) (by omega) ?_
  exact (show False from hw).elim

set_option maxHeartbeats 4000000 in
set_option maxRecDepth 100000 in
theorem cl_set (l : Launch) (hnt : l.stackTraces = false) (dC : Nat → ClassId) (dI : Nat → Nat → Nat) (za : Int32) (zb : Int32) (zc : Int32) (ax : Nat) (av : Nat) (at_ : Nat) (adr : Nat) (ao : Nat) (aar : Nat) (zo : Nat) (cL : ClassId) (fo : Nat → Int64) (sz : Nat) : vx_Met l yL_set wsL_set ({ frames := 7, cells := 1, slots := 6, locals := 115 }) (va_Pc [.ref ax, .int za, .int zb, .int zc, .ref zo] (pY (dC, dI) [(ax, .inr (3, [.ref av, .ref at_])), (av, .inr (1, [.int 0, .int 0, .ref adr, .ref ao, .ref aar])), (zo, .inl (cL, 1, .inr (.inl fo)))] [(cL, .long)] sz)) (va_Qi (fun (r : Int32) (_ : Unit) => r = 1) (fun _ t => pB (dC, dI) (va_A [(ax, .inr (3, [.ref av, .ref at_])), (av, .inr (1, [.int 0, .int 0, .ref adr, .ref ao, .ref aar])), (zo, .inl (cL, 1, .inr (.inl fo)))] sz) [] [] t) (va_A [(ax, .inr (3, [.ref av, .ref at_])), (av, .inr (1, [.int 0, .int 0, .ref adr, .ref ao, .ref aar])), (zo, .inl (cL, 1, .inr (.inl fo)))] sz)) (vx_X (fun (_ : Unit) => True) (fun E _ _ => False) (va_A [(ax, .inr (3, [.ref av, .ref at_])), (av, .inr (1, [.int 0, .int 0, .ref adr, .ref ao, .ref aar])), (zo, .inl (cL, 1, .inr (.inl fo)))] sz)) 1 6 (va_A [(ax, .inr (3, [.ref av, .ref at_])), (av, .inr (1, [.int 0, .int 0, .ref adr, .ref ao, .ref aar])), (zo, .inl (cL, 1, .inr (.inl fo)))] sz) := by
  refine vx_ofWH (cc := cL_set) (maxL := 6) (ret := (some .int)) (hh := [(0, 12, 15, 20), (0, 12, 19, 13)]) (by decide) rfl ?_
  intro p e s m args below meth c s₁ B hml hv
  obtain ⟨rfl, ⟨hsz, hP, hK, hD0⟩, hT⟩ := hv
  have hx := B.exec
  have hb := B.bytes
  have hr := B.returns
  have hts := atoms_spec (ws := wsL_set) B.pre
  have hown : s.vm.findClass RL = some m.cls := findClass_of_methodNamed B.named
  have hlocks := B.notSynchronized
  subst hsz
  have hD := hD0.self (sz := s.heap.size)
  generalize hAe : va_A [(ax, .inr (3, [.ref av, .ref at_])), (av, .inr (1, [.int 0, .int 0, .ref adr, .ref ao, .ref aar])), (zo, .inl (cL, 1, .inr (.inl fo)))] s.heap.size = A at hD hT ⊢
  have hA : ∀ q : Nat, s.heap.size ≤ q → A q := fun q h => by rw [← hAe]; exact Or.inr h
  have hS : va_S A s.heap s.heap [] := va_S.rf
  have hP : va_P (dC, dI) vwCl [(ax, .inr (3, [.ref av, .ref at_])), (av, .inr (1, [.int 0, .int 0, .ref adr, .ref ao, .ref aar])), (zo, .inl (cL, 1, .inr (.inl fo)))] s.heap := hP
  have hl := lv_entry ([.ref ax, .int za, .int zb, .int zc, .ref zo]) (n := 6) (Nat.le_of_ble_eq_true rfl)
  rw [lg_entry_eq]
  generalize (lg_sl ([.ref ax, .int za, .int zb, .int zc, .ref zo]) ++ List.replicate (6 - (lg_sl ([.ref ax, .int za, .int zb, .int zc, .ref zo])).length) Slot.unset).toArray = ls at hl ⊢
  have hl : lv_has ls 6 [(0, .ref ax), (1, .int za), (2, .int zb), (3, .int zc), (4, .ref zo)] := hl
  refine lv_aload hx hb dL_set_0 (lv_at hl 4 rfl) ?_
  refine lv_iconst (v := 0) hx hb dL_set_2 (by decide) ?_
  refine lv_aload_n hx hb dL_set_3 rfl (lv_at hl 0 rfl) ?_
  refine lv_iload_n hx hb dL_set_4 rfl (lv_at hl 1 rfl) ?_
  refine lv_iload_n hx hb dL_set_5 rfl (lv_at hl 2 rfl) ?_
  refine lv_iload_n hx hb dL_set_6 rfl (lv_at hl 3 rfl) ?_
  have htb := vx_table (x := yL_set) B (hts _ List.mem_cons_self)
  have hPc := hP.sub (ws' := [(ax, .inr (3, [.ref av, .ref at_])), (av, .inr (1, [.int 0, .int 0, .ref adr, .ref ao, .ref aar]))]) [0, 1] rfl
  have hKc := hK.sub (tys' := []) [] rfl
  have hTc := (hT.kept hS).narrow (B := fun _ => False) (fun _ h => h.elim)
  refine vx_calli (vx_runV (As := [.int za, .int zb, .int zc]) (rest := [.int 0, .ref zo]) ⟨hx, hb, hml, hown, hts⟩ (ct_X3_set l hnt dC dI za zb zc ax av at_ adr ao aar) (cwV 3 hts gL_set_X3_set rfl rfl rfl (by decide +kernel) ⟨(Nat.le_of_ble_eq_true rfl), (Nat.le_of_ble_eq_true rfl)⟩) ⟨pX_blind, va_recv hKc hPc (ci := 3) (q0 := 0) rfl rfl, pX_pre hPc hKc hTc⟩ rfl rfl hl.1 rfl (lv_room (Nat.le_of_ble_eq_true rfl)) dL_set_7 ⟨(Nat.le_of_ble_eq_true rfl), (Nat.le_of_ble_eq_true rfl)⟩) hS (fun q _ h => h.elim) (fun q h => h.elim) (fun q _ h => h.elim) (fun E ce q9 ux t H1 locs ht hvm hp hBX hz1 hk1 hS hce hcv hcl => ?_) (fun r_1 u_2 t H1 locs ht hvm hw hB hz1 hk1 hS => ?_)
  · have hP := hP.kept (fun k q hk => hk1 q.1 (hP k q hk).lt (fun h => h))
    generalize H1 = H at hP hS hce ⊢
    have hP : va_P (dC, dI) vwCl [(ax, .inr (3, [.ref av, .ref at_])), (av, .inr (1, [.int 0, .int 0, .ref adr, .ref ao, .ref aar])), (zo, .inl (cL, 1, .inr (.inl fo)))] H := hP
    have hD : va_D A [(ax, .inr (3, [.ref av, .ref at_])), (av, .inr (1, [.int 0, .int 0, .ref adr, .ref ao, .ref aar])), (zo, .inl (cL, 1, .inr (.inl fo)))] := hD
    refine vx_widen (k := 1) (n := 6) (by omega) (by omega) ?_
    have hBX : E = vs_B := hBX
    subst hBX
    refine vx_catch (own := RL) (name := vs_B) hown [] ⟨0, 12, 15, 20⟩ [⟨0, 12, 19, 13⟩] htb (fun z hz => nomatch hz) rfl (by decide) (hts (.classLink RL 20 vs_B) (List.mem_of_getElem? (i := 1) rfl)) (va_Nw.use rfl hT.2.1.1.2.2) hce hcv hcl ?_
    refine lv_astore (lv' := [(5, .ref q9), (0, .ref ax), (1, .int za), (2, .int zb), (3, .int zc), (4, .ref zo)]) hx hb dL_set_15 hl (by decide) rfl (fun ls hl => ?_)
    refine lv_iconst (v := 1) hx hb dL_set_17 (by decide) ?_
    have hP9 := hP.sub (ws' := []) [] rfl
    have hD9 := hD.sub (ws' := []) [] (by decide) rfl
    have hK9 := hK.sub (tys' := []) [] rfl
    refine vx_ret ?_
    exact W.iret (v := 1) hx hb hr (fun t ht hW => ⟨⟨_, (), rfl, rfl, by rw [ht]; exact hP9, va_K.moved hW.alike hK9, hD9⟩, hS.F ht⟩) hS.2.2 dL_set_18
  have hP := hP.kept (fun k q hk => hk1 q.1 (hP k q hk).lt (fun h => h))
  generalize H1 = H at hP hS ⊢
  refine W.widen (k := 1) (n := 6) (by omega) (by omega) ?_
  exact (show False from hw).elim

set_option maxHeartbeats 4000000 in
set_option maxRecDepth 100000 in
theorem cl_whisper (l : Launch) (hnt : l.stackTraces = false) (dC : Nat → ClassId) (dI : Nat → Nat → Nat) (za : Int32) (zb : Int32) (ax : Nat) (av : Nat) (at_ : Nat) (adr : Nat) (ao : Nat) (aar : Nat) (zo : Nat) (cL : ClassId) (fo : Nat → Int64) (sz : Nat) : vx_Met l yL_whisper wsL_whisper ({ frames := 7, cells := 1, slots := 6, locals := 112 }) (va_Pc [.ref ax, .int za, .int zb, .ref zo] (pY (dC, dI) [(ax, .inr (3, [.ref av, .ref at_])), (av, .inr (1, [.int 0, .int 0, .ref adr, .ref ao, .ref aar])), (zo, .inl (cL, 1, .inr (.inl fo)))] [(cL, .long)] sz)) (va_Qi (fun (r : Int32) (_ : Unit) => r = 1) (fun _ t => pB (dC, dI) (va_A [(ax, .inr (3, [.ref av, .ref at_])), (av, .inr (1, [.int 0, .int 0, .ref adr, .ref ao, .ref aar])), (zo, .inl (cL, 1, .inr (.inl fo)))] sz) [] [] t) (va_A [(ax, .inr (3, [.ref av, .ref at_])), (av, .inr (1, [.int 0, .int 0, .ref adr, .ref ao, .ref aar])), (zo, .inl (cL, 1, .inr (.inl fo)))] sz)) (vx_X (fun (_ : Unit) => True) (fun E _ _ => False) (va_A [(ax, .inr (3, [.ref av, .ref at_])), (av, .inr (1, [.int 0, .int 0, .ref adr, .ref ao, .ref aar])), (zo, .inl (cL, 1, .inr (.inl fo)))] sz)) 1 6 (va_A [(ax, .inr (3, [.ref av, .ref at_])), (av, .inr (1, [.int 0, .int 0, .ref adr, .ref ao, .ref aar])), (zo, .inl (cL, 1, .inr (.inl fo)))] sz) := by
  refine vx_ofWH (cc := cL_whisper) (maxL := 5) (ret := (some .int)) (hh := [(0, 17, 20, 20), (0, 17, 24, 13)]) (by decide) rfl ?_
  intro p e s m args below meth c s₁ B hml hv
  obtain ⟨rfl, ⟨hsz, hP, hK, hD0⟩, hT⟩ := hv
  have hx := B.exec
  have hb := B.bytes
  have hr := B.returns
  have hts := atoms_spec (ws := wsL_whisper) B.pre
  have hown : s.vm.findClass RL = some m.cls := findClass_of_methodNamed B.named
  have hlocks := B.notSynchronized
  subst hsz
  have hD := hD0.self (sz := s.heap.size)
  generalize hAe : va_A [(ax, .inr (3, [.ref av, .ref at_])), (av, .inr (1, [.int 0, .int 0, .ref adr, .ref ao, .ref aar])), (zo, .inl (cL, 1, .inr (.inl fo)))] s.heap.size = A at hD hT ⊢
  have hA : ∀ q : Nat, s.heap.size ≤ q → A q := fun q h => by rw [← hAe]; exact Or.inr h
  have hS : va_S A s.heap s.heap [] := va_S.rf
  have hP : va_P (dC, dI) vwCl [(ax, .inr (3, [.ref av, .ref at_])), (av, .inr (1, [.int 0, .int 0, .ref adr, .ref ao, .ref aar])), (zo, .inl (cL, 1, .inr (.inl fo)))] s.heap := hP
  have hl := lv_entry ([.ref ax, .int za, .int zb, .ref zo]) (n := 5) (Nat.le_of_ble_eq_true rfl)
  rw [lg_entry_eq]
  generalize (lg_sl ([.ref ax, .int za, .int zb, .ref zo]) ++ List.replicate (5 - (lg_sl ([.ref ax, .int za, .int zb, .ref zo])).length) Slot.unset).toArray = ls at hl ⊢
  have hl : lv_has ls 5 [(0, .ref ax), (1, .int za), (2, .int zb), (3, .ref zo)] := hl
  refine lv_aload_n hx hb dL_whisper_0 rfl (lv_at hl 3 rfl) ?_
  refine lv_iconst (v := 0) hx hb dL_whisper_1 (by decide) ?_
  refine lv_aload_n hx hb dL_whisper_2 rfl (lv_at hl 0 rfl) ?_
  refine lv_iload_n hx hb dL_whisper_3 rfl (lv_at hl 1 rfl) ?_
  refine lv_iload_n hx hb dL_whisper_4 rfl (lv_at hl 2 rfl) ?_
  have htb := vx_table (x := yL_whisper) B (hts _ List.mem_cons_self)
  have hPc := hP.sub (ws' := [(ax, .inr (3, [.ref av, .ref at_])), (av, .inr (1, [.int 0, .int 0, .ref adr, .ref ao, .ref aar]))]) [0, 1] rfl
  have hKc := hK.sub (tys' := []) [] rfl
  have hTc := (hT.kept hS).narrow (B := fun _ => False) (fun _ h => h.elim)
  refine vx_calli (vx_runV (As := [.int za, .int zb]) (rest := [.int 0, .ref zo]) ⟨hx, hb, hml, hown, hts⟩ (ct_X3_whisper l hnt dC dI za zb ax av at_ adr ao aar) (cwV 2 hts gL_whisper_X3_whisper rfl rfl rfl (by decide +kernel) ⟨(Nat.le_of_ble_eq_true rfl), (Nat.le_of_ble_eq_true rfl)⟩) ⟨pX_blind, va_recv hKc hPc (ci := 3) (q0 := 0) rfl rfl, pX_pre hPc hKc hTc⟩ rfl rfl hl.1 rfl (lv_room (Nat.le_of_ble_eq_true rfl)) dL_whisper_5 ⟨(Nat.le_of_ble_eq_true rfl), (Nat.le_of_ble_eq_true rfl)⟩) hS (fun q _ h => h.elim) (fun q h => h.elim) (fun q _ h => h.elim) (fun E ce q9 ux t H1 locs ht hvm hp hBX hz1 hk1 hS hce hcv hcl => ?_) (fun r_1 u_2 t H1 locs ht hvm hw hB hz1 hk1 hS => ?_)
  · have hP := hP.kept (fun k q hk => hk1 q.1 (hP k q hk).lt (fun h => h))
    generalize H1 = H at hP hS hce ⊢
    have hP : va_P (dC, dI) vwCl [(ax, .inr (3, [.ref av, .ref at_])), (av, .inr (1, [.int 0, .int 0, .ref adr, .ref ao, .ref aar])), (zo, .inl (cL, 1, .inr (.inl fo)))] H := hP
    have hD : va_D A [(ax, .inr (3, [.ref av, .ref at_])), (av, .inr (1, [.int 0, .int 0, .ref adr, .ref ao, .ref aar])), (zo, .inl (cL, 1, .inr (.inl fo)))] := hD
    refine vx_widen (k := 1) (n := 6) (by omega) (by omega) ?_
    have hBX : E = vs_B := hBX
    subst hBX
    refine vx_catch (own := RL) (name := vs_B) hown [] ⟨0, 17, 20, 20⟩ [⟨0, 17, 24, 13⟩] htb (fun z hz => nomatch hz) rfl (by decide) (hts (.classLink RL 20 vs_B) (List.mem_of_getElem? (i := 1) rfl)) (va_Nw.use rfl hT.2.1.1.2.2) hce hcv hcl ?_
    refine lv_astore (lv' := [(4, .ref q9), (0, .ref ax), (1, .int za), (2, .int zb), (3, .ref zo)]) hx hb dL_whisper_20 hl (by decide) rfl (fun ls hl => ?_)
    refine lv_iconst (v := 1) hx hb dL_whisper_22 (by decide) ?_
    have hP9 := hP.sub (ws' := []) [] rfl
    have hD9 := hD.sub (ws' := []) [] (by decide) rfl
    have hK9 := hK.sub (tys' := []) [] rfl
    refine vx_ret ?_
    exact W.iret (v := 1) hx hb hr (fun t ht hW => ⟨⟨_, (), rfl, rfl, by rw [ht]; exact hP9, va_K.moved hW.alike hK9, hD9⟩, hS.F ht⟩) hS.2.2 dL_whisper_23
  have hP := hP.kept (fun k q hk => hk1 q.1 (hP k q hk).lt (fun h => h))
  generalize H1 = H at hP hS ⊢
  refine W.widen (k := 1) (n := 6) (by omega) (by omega) ?_
  exact (show False from hw).elim

set_option maxHeartbeats 4000000 in
set_option maxRecDepth 100000 in
theorem cl_door (l : Launch) (hnt : l.stackTraces = false) (dC : Nat → ClassId) (dI : Nat → Nat → Nat) (za : Int32) (zb : Int32) (ax : Nat) (av : Nat) (at_ : Nat) (adr : Nat) (ao : Nat) (aar : Nat) (zo : Nat) (cL : ClassId) (fo : Nat → Int64) (sz : Nat) : vx_Met l yL_door wsL_door ({ frames := 7, cells := 1, slots := 6, locals := 112 }) (va_Pc [.ref ax, .int za, .int zb, .ref zo] (pY (dC, dI) [(ax, .inr (3, [.ref av, .ref at_])), (av, .inr (1, [.int 0, .int 0, .ref adr, .ref ao, .ref aar])), (zo, .inl (cL, 1, .inr (.inl fo)))] [(cL, .long)] sz)) (va_Qi (fun (r : Int32) (_ : Unit) => r = 1) (fun _ t => pB (dC, dI) (va_A [(ax, .inr (3, [.ref av, .ref at_])), (av, .inr (1, [.int 0, .int 0, .ref adr, .ref ao, .ref aar])), (zo, .inl (cL, 1, .inr (.inl fo)))] sz) [] [] t) (va_A [(ax, .inr (3, [.ref av, .ref at_])), (av, .inr (1, [.int 0, .int 0, .ref adr, .ref ao, .ref aar])), (zo, .inl (cL, 1, .inr (.inl fo)))] sz)) (vx_X (fun (_ : Unit) => True) (fun E _ _ => False) (va_A [(ax, .inr (3, [.ref av, .ref at_])), (av, .inr (1, [.int 0, .int 0, .ref adr, .ref ao, .ref aar])), (zo, .inl (cL, 1, .inr (.inl fo)))] sz)) 1 6 (va_A [(ax, .inr (3, [.ref av, .ref at_])), (av, .inr (1, [.int 0, .int 0, .ref adr, .ref ao, .ref aar])), (zo, .inl (cL, 1, .inr (.inl fo)))] sz) := by
  refine vx_ofWH (cc := cL_door) (maxL := 5) (ret := (some .int)) (hh := [(0, 10, 13, 20)]) (by decide) rfl ?_
  intro p e s m args below meth c s₁ B hml hv
  obtain ⟨rfl, ⟨hsz, hP, hK, hD0⟩, hT⟩ := hv
  have hx := B.exec
  have hb := B.bytes
  have hr := B.returns
  have hts := atoms_spec (ws := wsL_door) B.pre
  have hown : s.vm.findClass RL = some m.cls := findClass_of_methodNamed B.named
  have hlocks := B.notSynchronized
  subst hsz
  have hD := hD0.self (sz := s.heap.size)
  generalize hAe : va_A [(ax, .inr (3, [.ref av, .ref at_])), (av, .inr (1, [.int 0, .int 0, .ref adr, .ref ao, .ref aar])), (zo, .inl (cL, 1, .inr (.inl fo)))] s.heap.size = A at hD hT ⊢
  have hA : ∀ q : Nat, s.heap.size ≤ q → A q := fun q h => by rw [← hAe]; exact Or.inr h
  have hS : va_S A s.heap s.heap [] := va_S.rf
  have hP : va_P (dC, dI) vwCl [(ax, .inr (3, [.ref av, .ref at_])), (av, .inr (1, [.int 0, .int 0, .ref adr, .ref ao, .ref aar])), (zo, .inl (cL, 1, .inr (.inl fo)))] s.heap := hP
  have hl := lv_entry ([.ref ax, .int za, .int zb, .ref zo]) (n := 5) (Nat.le_of_ble_eq_true rfl)
  rw [lg_entry_eq]
  generalize (lg_sl ([.ref ax, .int za, .int zb, .ref zo]) ++ List.replicate (5 - (lg_sl ([.ref ax, .int za, .int zb, .ref zo])).length) Slot.unset).toArray = ls at hl ⊢
  have hl : lv_has ls 5 [(0, .ref ax), (1, .int za), (2, .int zb), (3, .ref zo)] := hl
  refine lv_aload_n hx hb dL_door_0 rfl (lv_at hl 3 rfl) ?_
  refine lv_iconst (v := 0) hx hb dL_door_1 (by decide) ?_
  refine lv_aload_n hx hb dL_door_2 rfl (lv_at hl 0 rfl) ?_
  refine lv_iload_n hx hb dL_door_3 rfl (lv_at hl 1 rfl) ?_
  refine lv_iload_n hx hb dL_door_4 rfl (lv_at hl 2 rfl) ?_
  have htb := vx_table (x := yL_door) B (hts _ List.mem_cons_self)
  have hPc := hP.sub (ws' := [(ax, .inr (3, [.ref av, .ref at_])), (av, .inr (1, [.int 0, .int 0, .ref adr, .ref ao, .ref aar]))]) [0, 1] rfl
  have hKc := hK.sub (tys' := []) [] rfl
  have hTc := (hT.kept hS).narrow (B := fun _ => False) (fun _ h => h.elim)
  refine vx_calli (vx_runV (As := [.int za, .int zb]) (rest := [.int 0, .ref zo]) ⟨hx, hb, hml, hown, hts⟩ (ct_X3_door l hnt dC dI za zb ax av at_ adr ao aar) (cwV 2 hts gL_door_X3_door rfl rfl rfl (by decide +kernel) ⟨(Nat.le_of_ble_eq_true rfl), (Nat.le_of_ble_eq_true rfl)⟩) ⟨pX_blind, va_recv hKc hPc (ci := 3) (q0 := 0) rfl rfl, pX_pre hPc hKc hTc⟩ rfl rfl hl.1 rfl (lv_room (Nat.le_of_ble_eq_true rfl)) dL_door_5 ⟨(Nat.le_of_ble_eq_true rfl), (Nat.le_of_ble_eq_true rfl)⟩) hS (fun q _ h => h.elim) (fun q h => h.elim) (fun q _ h => h.elim) (fun E ce q9 ux t H1 locs ht hvm hp hBX hz1 hk1 hS hce hcv hcl => ?_) (fun r_1 u_2 t H1 locs ht hvm hw hB hz1 hk1 hS => ?_)
  · have hP := hP.kept (fun k q hk => hk1 q.1 (hP k q hk).lt (fun h => h))
    generalize H1 = H at hP hS hce ⊢
    have hP : va_P (dC, dI) vwCl [(ax, .inr (3, [.ref av, .ref at_])), (av, .inr (1, [.int 0, .int 0, .ref adr, .ref ao, .ref aar])), (zo, .inl (cL, 1, .inr (.inl fo)))] H := hP
    have hD : va_D A [(ax, .inr (3, [.ref av, .ref at_])), (av, .inr (1, [.int 0, .int 0, .ref adr, .ref ao, .ref aar])), (zo, .inl (cL, 1, .inr (.inl fo)))] := hD
    refine vx_widen (k := 1) (n := 6) (by omega) (by omega) ?_
    have hBX : E = vs_B := hBX
    subst hBX
    refine vx_catch (own := RL) (name := vs_B) hown [] ⟨0, 10, 13, 20⟩ [] htb (fun z hz => nomatch hz) rfl (by decide) (hts (.classLink RL 20 vs_B) (List.mem_of_getElem? (i := 1) rfl)) (va_Nw.use rfl hT.2.1.1.2.2) hce hcv hcl ?_
    refine lv_astore (lv' := [(4, .ref q9), (0, .ref ax), (1, .int za), (2, .int zb), (3, .ref zo)]) hx hb dL_door_13 hl (by decide) rfl (fun ls hl => ?_)
    refine lv_iconst (v := 1) hx hb dL_door_15 (by decide) ?_
    have hP9 := hP.sub (ws' := []) [] rfl
    have hD9 := hD.sub (ws' := []) [] (by decide) rfl
    have hK9 := hK.sub (tys' := []) [] rfl
    refine vx_ret ?_
    exact W.iret (v := 1) hx hb hr (fun t ht hW => ⟨⟨_, (), rfl, rfl, by rw [ht]; exact hP9, va_K.moved hW.alike hK9, hD9⟩, hS.F ht⟩) hS.2.2 dL_door_16
  have hP := hP.kept (fun k q hk => hk1 q.1 (hP k q hk).lt (fun h => h))
  generalize H1 = H at hP hS ⊢
  refine W.widen (k := 1) (n := 6) (by omega) (by omega) ?_
  exact (show False from hw).elim

set_option maxHeartbeats 4000000 in
set_option maxRecDepth 100000 in
theorem cl_asks (l : Launch) (hnt : l.stackTraces = false) (dC : Nat → ClassId) (dI : Nat → Nat → Nat) (za : Int32) (zb : Int32) (zc : Int32) (ax : Nat) (av : Nat) (at_ : Nat) (adr : Nat) (ao : Nat) (aar : Nat) (zo : Nat) (cL : ClassId) (fo : Nat → Int64) (sz : Nat) : vx_Met l yL_asks wsL_asks ({ frames := 7, cells := 1, slots := 6, locals := 114 }) (va_Pc [.ref ax, .int za, .int zb, .int zc, .ref zo] (pY (dC, dI) [(ax, .inr (3, [.ref av, .ref at_])), (av, .inr (1, [.int 0, .int 0, .ref adr, .ref ao, .ref aar])), (zo, .inl (cL, 1, .inr (.inl fo)))] [(cL, .long)] sz)) (va_Qi (fun (r : Int32) (_ : Unit) => r = 1) (fun _ t => pB (dC, dI) (va_A [(ax, .inr (3, [.ref av, .ref at_])), (av, .inr (1, [.int 0, .int 0, .ref adr, .ref ao, .ref aar])), (zo, .inl (cL, 1, .inr (.inl fo)))] sz) [] [] t) (va_A [(ax, .inr (3, [.ref av, .ref at_])), (av, .inr (1, [.int 0, .int 0, .ref adr, .ref ao, .ref aar])), (zo, .inl (cL, 1, .inr (.inl fo)))] sz)) (vx_X (fun (_ : Unit) => True) (fun E _ _ => False) (va_A [(ax, .inr (3, [.ref av, .ref at_])), (av, .inr (1, [.int 0, .int 0, .ref adr, .ref ao, .ref aar])), (zo, .inl (cL, 1, .inr (.inl fo)))] sz)) 1 6 (va_A [(ax, .inr (3, [.ref av, .ref at_])), (av, .inr (1, [.int 0, .int 0, .ref adr, .ref ao, .ref aar])), (zo, .inl (cL, 1, .inr (.inl fo)))] sz) := by
  refine vx_ofWH (cc := cL_asks) (maxL := 6) (ret := (some .int)) (hh := [(0, 12, 15, 20)]) (by decide) rfl ?_
  intro p e s m args below meth c s₁ B hml hv
  obtain ⟨rfl, ⟨hsz, hP, hK, hD0⟩, hT⟩ := hv
  have hx := B.exec
  have hb := B.bytes
  have hr := B.returns
  have hts := atoms_spec (ws := wsL_asks) B.pre
  have hown : s.vm.findClass RL = some m.cls := findClass_of_methodNamed B.named
  have hlocks := B.notSynchronized
  subst hsz
  have hD := hD0.self (sz := s.heap.size)
  generalize hAe : va_A [(ax, .inr (3, [.ref av, .ref at_])), (av, .inr (1, [.int 0, .int 0, .ref adr, .ref ao, .ref aar])), (zo, .inl (cL, 1, .inr (.inl fo)))] s.heap.size = A at hD hT ⊢
  have hA : ∀ q : Nat, s.heap.size ≤ q → A q := fun q h => by rw [← hAe]; exact Or.inr h
  have hS : va_S A s.heap s.heap [] := va_S.rf
  have hP : va_P (dC, dI) vwCl [(ax, .inr (3, [.ref av, .ref at_])), (av, .inr (1, [.int 0, .int 0, .ref adr, .ref ao, .ref aar])), (zo, .inl (cL, 1, .inr (.inl fo)))] s.heap := hP
  have hl := lv_entry ([.ref ax, .int za, .int zb, .int zc, .ref zo]) (n := 6) (Nat.le_of_ble_eq_true rfl)
  rw [lg_entry_eq]
  generalize (lg_sl ([.ref ax, .int za, .int zb, .int zc, .ref zo]) ++ List.replicate (6 - (lg_sl ([.ref ax, .int za, .int zb, .int zc, .ref zo])).length) Slot.unset).toArray = ls at hl ⊢
  have hl : lv_has ls 6 [(0, .ref ax), (1, .int za), (2, .int zb), (3, .int zc), (4, .ref zo)] := hl
  refine lv_aload hx hb dL_asks_0 (lv_at hl 4 rfl) ?_
  refine lv_iconst (v := 0) hx hb dL_asks_2 (by decide) ?_
  refine lv_aload_n hx hb dL_asks_3 rfl (lv_at hl 0 rfl) ?_
  refine lv_iload_n hx hb dL_asks_4 rfl (lv_at hl 1 rfl) ?_
  refine lv_iload_n hx hb dL_asks_5 rfl (lv_at hl 2 rfl) ?_
  refine lv_iload_n hx hb dL_asks_6 rfl (lv_at hl 3 rfl) ?_
  have htb := vx_table (x := yL_asks) B (hts _ List.mem_cons_self)
  have hPc := hP.sub (ws' := [(ax, .inr (3, [.ref av, .ref at_])), (av, .inr (1, [.int 0, .int 0, .ref adr, .ref ao, .ref aar]))]) [0, 1] rfl
  have hKc := hK.sub (tys' := []) [] rfl
  have hTc := (hT.kept hS).narrow (B := fun _ => False) (fun _ h => h.elim)
  refine vx_calli (vx_runV (As := [.int za, .int zb, .int zc]) (rest := [.int 0, .ref zo]) ⟨hx, hb, hml, hown, hts⟩ (ct_X3_asks l hnt dC dI za zb zc ax av at_ adr ao aar) (cwV 3 hts gL_asks_X3_asks rfl rfl rfl (by decide +kernel) ⟨(Nat.le_of_ble_eq_true rfl), (Nat.le_of_ble_eq_true rfl)⟩) ⟨pX_blind, va_recv hKc hPc (ci := 3) (q0 := 0) rfl rfl, pX_pre hPc hKc hTc⟩ rfl rfl hl.1 rfl (lv_room (Nat.le_of_ble_eq_true rfl)) dL_asks_7 ⟨(Nat.le_of_ble_eq_true rfl), (Nat.le_of_ble_eq_true rfl)⟩) hS (fun q _ h => h.elim) (fun q h => h.elim) (fun q _ h => h.elim) (fun E ce q9 ux t H1 locs ht hvm hp hBX hz1 hk1 hS hce hcv hcl => ?_) (fun r_1 u_2 t H1 locs ht hvm hw hB hz1 hk1 hS => ?_)
  · have hP := hP.kept (fun k q hk => hk1 q.1 (hP k q hk).lt (fun h => h))
    generalize H1 = H at hP hS hce ⊢
    have hP : va_P (dC, dI) vwCl [(ax, .inr (3, [.ref av, .ref at_])), (av, .inr (1, [.int 0, .int 0, .ref adr, .ref ao, .ref aar])), (zo, .inl (cL, 1, .inr (.inl fo)))] H := hP
    have hD : va_D A [(ax, .inr (3, [.ref av, .ref at_])), (av, .inr (1, [.int 0, .int 0, .ref adr, .ref ao, .ref aar])), (zo, .inl (cL, 1, .inr (.inl fo)))] := hD
    refine vx_widen (k := 1) (n := 6) (by omega) (by omega) ?_
    have hBX : E = vs_B := hBX
    subst hBX
    refine vx_catch (own := RL) (name := vs_B) hown [] ⟨0, 12, 15, 20⟩ [] htb (fun z hz => nomatch hz) rfl (by decide) (hts (.classLink RL 20 vs_B) (List.mem_of_getElem? (i := 1) rfl)) (va_Nw.use rfl hT.2.1.1.2.2) hce hcv hcl ?_
    refine lv_astore (lv' := [(5, .ref q9), (0, .ref ax), (1, .int za), (2, .int zb), (3, .int zc), (4, .ref zo)]) hx hb dL_asks_15 hl (by decide) rfl (fun ls hl => ?_)
    refine lv_iconst (v := 1) hx hb dL_asks_17 (by decide) ?_
    have hP9 := hP.sub (ws' := []) [] rfl
    have hD9 := hD.sub (ws' := []) [] (by decide) rfl
    have hK9 := hK.sub (tys' := []) [] rfl
    refine vx_ret ?_
    exact W.iret (v := 1) hx hb hr (fun t ht hW => ⟨⟨_, (), rfl, rfl, by rw [ht]; exact hP9, va_K.moved hW.alike hK9, hD9⟩, hS.F ht⟩) hS.2.2 dL_asks_18
  have hP := hP.kept (fun k q hk => hk1 q.1 (hP k q hk).lt (fun h => h))
  generalize H1 = H at hP hS ⊢
  refine W.widen (k := 1) (n := 6) (by omega) (by omega) ?_
  exact (show False from hw).elim

set_option maxHeartbeats 4000000 in
set_option maxRecDepth 100000 in
theorem cl_reach (l : Launch) (hnt : l.stackTraces = false) (dC : Nat → ClassId) (dI : Nat → Nat → Nat) (za : Int32) (ax : Nat) (av : Nat) (at_ : Nat) (adr : Nat) (ao : Nat) (aar : Nat) (zo : Nat) (cL : ClassId) (fo : Nat → Int64) (sz : Nat) : vx_Met l yL_reach wsL_reach ({ frames := 7, cells := 1, slots := 6, locals := 111 }) (va_Pc [.ref ax, .int za, .ref zo] (pY (dC, dI) [(ax, .inr (3, [.ref av, .ref at_])), (av, .inr (1, [.int 0, .int 0, .ref adr, .ref ao, .ref aar])), (zo, .inl (cL, 1, .inr (.inl fo)))] [(cL, .long)] sz)) (va_Qi (fun (r : Int32) (_ : Unit) => r = 1) (fun _ t => pB (dC, dI) (va_A [(ax, .inr (3, [.ref av, .ref at_])), (av, .inr (1, [.int 0, .int 0, .ref adr, .ref ao, .ref aar])), (zo, .inl (cL, 1, .inr (.inl fo)))] sz) [] [] t) (va_A [(ax, .inr (3, [.ref av, .ref at_])), (av, .inr (1, [.int 0, .int 0, .ref adr, .ref ao, .ref aar])), (zo, .inl (cL, 1, .inr (.inl fo)))] sz)) (vx_X (fun (_ : Unit) => True) (fun E _ _ => False) (va_A [(ax, .inr (3, [.ref av, .ref at_])), (av, .inr (1, [.int 0, .int 0, .ref adr, .ref ao, .ref aar])), (zo, .inl (cL, 1, .inr (.inl fo)))] sz)) 1 6 (va_A [(ax, .inr (3, [.ref av, .ref at_])), (av, .inr (1, [.int 0, .int 0, .ref adr, .ref ao, .ref aar])), (zo, .inl (cL, 1, .inr (.inl fo)))] sz) := by
  refine vx_ofWH (cc := cL_reach) (maxL := 4) (ret := (some .int)) (hh := [(0, 9, 12, 20)]) (by decide) rfl ?_
  intro p e s m args below meth c s₁ B hml hv
  obtain ⟨rfl, ⟨hsz, hP, hK, hD0⟩, hT⟩ := hv
  have hx := B.exec
  have hb := B.bytes
  have hr := B.returns
  have hts := atoms_spec (ws := wsL_reach) B.pre
  have hown : s.vm.findClass RL = some m.cls := findClass_of_methodNamed B.named
  have hlocks := B.notSynchronized
  subst hsz
  have hD := hD0.self (sz := s.heap.size)
  generalize hAe : va_A [(ax, .inr (3, [.ref av, .ref at_])), (av, .inr (1, [.int 0, .int 0, .ref adr, .ref ao, .ref aar])), (zo, .inl (cL, 1, .inr (.inl fo)))] s.heap.size = A at hD hT ⊢
  have hA : ∀ q : Nat, s.heap.size ≤ q → A q := fun q h => by rw [← hAe]; exact Or.inr h
  have hS : va_S A s.heap s.heap [] := va_S.rf
  have hP : va_P (dC, dI) vwCl [(ax, .inr (3, [.ref av, .ref at_])), (av, .inr (1, [.int 0, .int 0, .ref adr, .ref ao, .ref aar])), (zo, .inl (cL, 1, .inr (.inl fo)))] s.heap := hP
  have hl := lv_entry ([.ref ax, .int za, .ref zo]) (n := 4) (Nat.le_of_ble_eq_true rfl)
  rw [lg_entry_eq]
  generalize (lg_sl ([.ref ax, .int za, .ref zo]) ++ List.replicate (4 - (lg_sl ([.ref ax, .int za, .ref zo])).length) Slot.unset).toArray = ls at hl ⊢
  have hl : lv_has ls 4 [(0, .ref ax), (1, .int za), (2, .ref zo)] := hl
  refine lv_aload_n hx hb dL_reach_0 rfl (lv_at hl 2 rfl) ?_
  refine lv_iconst (v := 0) hx hb dL_reach_1 (by decide) ?_
  refine lv_aload_n hx hb dL_reach_2 rfl (lv_at hl 0 rfl) ?_
  refine lv_iload_n hx hb dL_reach_3 rfl (lv_at hl 1 rfl) ?_
  have htb := vx_table (x := yL_reach) B (hts _ List.mem_cons_self)
  have hPc := hP.sub (ws' := [(ax, .inr (3, [.ref av, .ref at_])), (av, .inr (1, [.int 0, .int 0, .ref adr, .ref ao, .ref aar]))]) [0, 1] rfl
  have hKc := hK.sub (tys' := []) [] rfl
  have hTc := (hT.kept hS).narrow (B := fun _ => False) (fun _ h => h.elim)
  refine vx_calli (vx_runV (As := [.int za]) (rest := [.int 0, .ref zo]) ⟨hx, hb, hml, hown, hts⟩ (ct_X3_reach l hnt dC dI za ax av at_ adr ao aar) (cwV 1 hts gL_reach_X3_reach rfl rfl rfl (by decide +kernel) ⟨(Nat.le_of_ble_eq_true rfl), (Nat.le_of_ble_eq_true rfl)⟩) ⟨pX_blind, va_recv hKc hPc (ci := 3) (q0 := 0) rfl rfl, pX_pre hPc hKc hTc⟩ rfl rfl hl.1 rfl (lv_room (Nat.le_of_ble_eq_true rfl)) dL_reach_4 ⟨(Nat.le_of_ble_eq_true rfl), (Nat.le_of_ble_eq_true rfl)⟩) hS (fun q _ h => h.elim) (fun q h => h.elim) (fun q _ h => h.elim) (fun E ce q9 ux t H1 locs ht hvm hp hBX hz1 hk1 hS hce hcv hcl => ?_) (fun r_1 u_2 t H1 locs ht hvm hw hB hz1 hk1 hS => ?_)
  · have hP := hP.kept (fun k q hk => hk1 q.1 (hP k q hk).lt (fun h => h))
    generalize H1 = H at hP hS hce ⊢
    have hP : va_P (dC, dI) vwCl [(ax, .inr (3, [.ref av, .ref at_])), (av, .inr (1, [.int 0, .int 0, .ref adr, .ref ao, .ref aar])), (zo, .inl (cL, 1, .inr (.inl fo)))] H := hP
    have hD : va_D A [(ax, .inr (3, [.ref av, .ref at_])), (av, .inr (1, [.int 0, .int 0, .ref adr, .ref ao, .ref aar])), (zo, .inl (cL, 1, .inr (.inl fo)))] := hD
    refine vx_widen (k := 1) (n := 6) (by omega) (by omega) ?_
    have hBX : E = vs_B := hBX
    subst hBX
    refine vx_catch (own := RL) (name := vs_B) hown [] ⟨0, 9, 12, 20⟩ [] htb (fun z hz => nomatch hz) rfl (by decide) (hts (.classLink RL 20 vs_B) (List.mem_of_getElem? (i := 1) rfl)) (va_Nw.use rfl hT.2.1.1.2.2) hce hcv hcl ?_
    refine lv_astore_n (lv' := [(3, .ref q9), (0, .ref ax), (1, .int za), (2, .ref zo)]) hx hb dL_reach_12 rfl hl (by decide) rfl (fun ls hl => ?_)
    refine lv_iconst (v := 1) hx hb dL_reach_13 (by decide) ?_
    have hP9 := hP.sub (ws' := []) [] rfl
    have hD9 := hD.sub (ws' := []) [] (by decide) rfl
    have hK9 := hK.sub (tys' := []) [] rfl
    refine vx_ret ?_
    exact W.iret (v := 1) hx hb hr (fun t ht hW => ⟨⟨_, (), rfl, rfl, by rw [ht]; exact hP9, va_K.moved hW.alike hK9, hD9⟩, hS.F ht⟩) hS.2.2 dL_reach_14
  have hP := hP.kept (fun k q hk => hk1 q.1 (hP k q hk).lt (fun h => h))
  generalize H1 = H at hP hS ⊢
  refine W.widen (k := 1) (n := 6) (by omega) (by omega) ?_
  exact (show False from hw).elim

set_option maxHeartbeats 4000000 in
set_option maxRecDepth 100000 in
theorem cl_opens (l : Launch) (hnt : l.stackTraces = false) (dC : Nat → ClassId) (dI : Nat → Nat → Nat) (za : Int32) (ax : Nat) (av : Nat) (at_ : Nat) (adr : Nat) (ao : Nat) (aar : Nat) (zo : Nat) (cL : ClassId) (fo : Nat → Int64) (sz : Nat) : vx_Met l yL_opens wsL_opens ({ frames := 7, cells := 1, slots := 6, locals := 112 }) (va_Pc [.ref ax, .int za, .ref zo] (pY (dC, dI) [(ax, .inr (3, [.ref av, .ref at_])), (av, .inr (1, [.int 0, .int 0, .ref adr, .ref ao, .ref aar])), (zo, .inl (cL, 1, .inr (.inl fo)))] [(cL, .long)] sz)) (va_Qi (fun (r : Int32) (_ : Unit) => r = 1) (fun _ t => pB (dC, dI) (va_A [(ax, .inr (3, [.ref av, .ref at_])), (av, .inr (1, [.int 0, .int 0, .ref adr, .ref ao, .ref aar])), (zo, .inl (cL, 1, .inr (.inl fo)))] sz) [] [] t) (va_A [(ax, .inr (3, [.ref av, .ref at_])), (av, .inr (1, [.int 0, .int 0, .ref adr, .ref ao, .ref aar])), (zo, .inl (cL, 1, .inr (.inl fo)))] sz)) (vx_X (fun (_ : Unit) => True) (fun E _ _ => False) (va_A [(ax, .inr (3, [.ref av, .ref at_])), (av, .inr (1, [.int 0, .int 0, .ref adr, .ref ao, .ref aar])), (zo, .inl (cL, 1, .inr (.inl fo)))] sz)) 1 6 (va_A [(ax, .inr (3, [.ref av, .ref at_])), (av, .inr (1, [.int 0, .int 0, .ref adr, .ref ao, .ref aar])), (zo, .inl (cL, 1, .inr (.inl fo)))] sz) := by
  refine vx_ofWH (cc := cL_opens) (maxL := 4) (ret := (some .int)) (hh := [(0, 9, 12, 20)]) (by decide) rfl ?_
  intro p e s m args below meth c s₁ B hml hv
  obtain ⟨rfl, ⟨hsz, hP, hK, hD0⟩, hT⟩ := hv
  have hx := B.exec
  have hb := B.bytes
  have hr := B.returns
  have hts := atoms_spec (ws := wsL_opens) B.pre
  have hown : s.vm.findClass RL = some m.cls := findClass_of_methodNamed B.named
  have hlocks := B.notSynchronized
  subst hsz
  have hD := hD0.self (sz := s.heap.size)
  generalize hAe : va_A [(ax, .inr (3, [.ref av, .ref at_])), (av, .inr (1, [.int 0, .int 0, .ref adr, .ref ao, .ref aar])), (zo, .inl (cL, 1, .inr (.inl fo)))] s.heap.size = A at hD hT ⊢
  have hA : ∀ q : Nat, s.heap.size ≤ q → A q := fun q h => by rw [← hAe]; exact Or.inr h
  have hS : va_S A s.heap s.heap [] := va_S.rf
  have hP : va_P (dC, dI) vwCl [(ax, .inr (3, [.ref av, .ref at_])), (av, .inr (1, [.int 0, .int 0, .ref adr, .ref ao, .ref aar])), (zo, .inl (cL, 1, .inr (.inl fo)))] s.heap := hP
  have hl := lv_entry ([.ref ax, .int za, .ref zo]) (n := 4) (Nat.le_of_ble_eq_true rfl)
  rw [lg_entry_eq]
  generalize (lg_sl ([.ref ax, .int za, .ref zo]) ++ List.replicate (4 - (lg_sl ([.ref ax, .int za, .ref zo])).length) Slot.unset).toArray = ls at hl ⊢
  have hl : lv_has ls 4 [(0, .ref ax), (1, .int za), (2, .ref zo)] := hl
  refine lv_aload_n hx hb dL_opens_0 rfl (lv_at hl 2 rfl) ?_
  refine lv_iconst (v := 0) hx hb dL_opens_1 (by decide) ?_
  refine lv_aload_n hx hb dL_opens_2 rfl (lv_at hl 0 rfl) ?_
  refine lv_iload_n hx hb dL_opens_3 rfl (lv_at hl 1 rfl) ?_
  have htb := vx_table (x := yL_opens) B (hts _ List.mem_cons_self)
  have hPc := hP.sub (ws' := [(ax, .inr (3, [.ref av, .ref at_])), (av, .inr (1, [.int 0, .int 0, .ref adr, .ref ao, .ref aar]))]) [0, 1] rfl
  have hKc := hK.sub (tys' := []) [] rfl
  have hTc := (hT.kept hS).narrow (B := fun _ => False) (fun _ h => h.elim)
  refine vx_calli (vx_runV (As := [.int za]) (rest := [.int 0, .ref zo]) ⟨hx, hb, hml, hown, hts⟩ (ct_X3_opens l hnt dC dI za ax av at_ adr ao aar) (cwV 1 hts gL_opens_X3_opens rfl rfl rfl (by decide +kernel) ⟨(Nat.le_of_ble_eq_true rfl), (Nat.le_of_ble_eq_true rfl)⟩) ⟨pX_blind, va_recv hKc hPc (ci := 3) (q0 := 0) rfl rfl, pX_pre hPc hKc hTc⟩ rfl rfl hl.1 rfl (lv_room (Nat.le_of_ble_eq_true rfl)) dL_opens_4 ⟨(Nat.le_of_ble_eq_true rfl), (Nat.le_of_ble_eq_true rfl)⟩) hS (fun q _ h => h.elim) (fun q h => h.elim) (fun q _ h => h.elim) (fun E ce q9 ux t H1 locs ht hvm hp hBX hz1 hk1 hS hce hcv hcl => ?_) (fun r_1 u_2 t H1 locs ht hvm hw hB hz1 hk1 hS => ?_)
  · have hP := hP.kept (fun k q hk => hk1 q.1 (hP k q hk).lt (fun h => h))
    generalize H1 = H at hP hS hce ⊢
    have hP : va_P (dC, dI) vwCl [(ax, .inr (3, [.ref av, .ref at_])), (av, .inr (1, [.int 0, .int 0, .ref adr, .ref ao, .ref aar])), (zo, .inl (cL, 1, .inr (.inl fo)))] H := hP
    have hD : va_D A [(ax, .inr (3, [.ref av, .ref at_])), (av, .inr (1, [.int 0, .int 0, .ref adr, .ref ao, .ref aar])), (zo, .inl (cL, 1, .inr (.inl fo)))] := hD
    refine vx_widen (k := 1) (n := 6) (by omega) (by omega) ?_
    have hBX : E = vs_B := hBX
    subst hBX
    refine vx_catch (own := RL) (name := vs_B) hown [] ⟨0, 9, 12, 20⟩ [] htb (fun z hz => nomatch hz) rfl (by decide) (hts (.classLink RL 20 vs_B) (List.mem_of_getElem? (i := 1) rfl)) (va_Nw.use rfl hT.2.1.1.2.2) hce hcv hcl ?_
    refine lv_astore_n (lv' := [(3, .ref q9), (0, .ref ax), (1, .int za), (2, .ref zo)]) hx hb dL_opens_12 rfl hl (by decide) rfl (fun ls hl => ?_)
    refine lv_iconst (v := 1) hx hb dL_opens_13 (by decide) ?_
    have hP9 := hP.sub (ws' := []) [] rfl
    have hD9 := hD.sub (ws' := []) [] (by decide) rfl
    have hK9 := hK.sub (tys' := []) [] rfl
    refine vx_ret ?_
    exact W.iret (v := 1) hx hb hr (fun t ht hW => ⟨⟨_, (), rfl, rfl, by rw [ht]; exact hP9, va_K.moved hW.alike hK9, hD9⟩, hS.F ht⟩) hS.2.2 dL_opens_14
  have hP := hP.kept (fun k q hk => hk1 q.1 (hP k q hk).lt (fun h => h))
  generalize H1 = H at hP hS ⊢
  refine W.widen (k := 1) (n := 6) (by omega) (by omega) ?_
  exact (show False from hw).elim

set_option maxHeartbeats 4000000 in
set_option maxRecDepth 100000 in
theorem cl_would (l : Launch) (hnt : l.stackTraces = false) (dC : Nat → ClassId) (dI : Nat → Nat → Nat) (za : Int32) (zb : Int32) (ax : Nat) (av : Nat) (at_ : Nat) (adr : Nat) (ao : Nat) (aar : Nat) (zo : Nat) (cL : ClassId) (fo : Nat → Int64) (sz : Nat) : vx_Met l yL_would wsL_would ({ frames := 7, cells := 1, slots := 6, locals := 112 }) (va_Pc [.ref ax, .int za, .int zb, .ref zo] (pY (dC, dI) [(ax, .inr (3, [.ref av, .ref at_])), (av, .inr (1, [.int 0, .int 0, .ref adr, .ref ao, .ref aar])), (zo, .inl (cL, 1, .inr (.inl fo)))] [(cL, .long)] sz)) (va_Qi (fun (r : Int32) (_ : Unit) => r = 1) (fun _ t => pB (dC, dI) (va_A [(ax, .inr (3, [.ref av, .ref at_])), (av, .inr (1, [.int 0, .int 0, .ref adr, .ref ao, .ref aar])), (zo, .inl (cL, 1, .inr (.inl fo)))] sz) [] [] t) (va_A [(ax, .inr (3, [.ref av, .ref at_])), (av, .inr (1, [.int 0, .int 0, .ref adr, .ref ao, .ref aar])), (zo, .inl (cL, 1, .inr (.inl fo)))] sz)) (vx_X (fun (_ : Unit) => True) (fun E _ _ => False) (va_A [(ax, .inr (3, [.ref av, .ref at_])), (av, .inr (1, [.int 0, .int 0, .ref adr, .ref ao, .ref aar])), (zo, .inl (cL, 1, .inr (.inl fo)))] sz)) 1 6 (va_A [(ax, .inr (3, [.ref av, .ref at_])), (av, .inr (1, [.int 0, .int 0, .ref adr, .ref ao, .ref aar])), (zo, .inl (cL, 1, .inr (.inl fo)))] sz) := by
  refine vx_ofWH (cc := cL_would) (maxL := 5) (ret := (some .int)) (hh := [(0, 10, 13, 20), (0, 10, 17, 13)]) (by decide) rfl ?_
  intro p e s m args below meth c s₁ B hml hv
  obtain ⟨rfl, ⟨hsz, hP, hK, hD0⟩, hT⟩ := hv
  have hx := B.exec
  have hb := B.bytes
  have hr := B.returns
  have hts := atoms_spec (ws := wsL_would) B.pre
  have hown : s.vm.findClass RL = some m.cls := findClass_of_methodNamed B.named
  have hlocks := B.notSynchronized
  subst hsz
  have hD := hD0.self (sz := s.heap.size)
  generalize hAe : va_A [(ax, .inr (3, [.ref av, .ref at_])), (av, .inr (1, [.int 0, .int 0, .ref adr, .ref ao, .ref aar])), (zo, .inl (cL, 1, .inr (.inl fo)))] s.heap.size = A at hD hT ⊢
  have hA : ∀ q : Nat, s.heap.size ≤ q → A q := fun q h => by rw [← hAe]; exact Or.inr h
  have hS : va_S A s.heap s.heap [] := va_S.rf
  have hP : va_P (dC, dI) vwCl [(ax, .inr (3, [.ref av, .ref at_])), (av, .inr (1, [.int 0, .int 0, .ref adr, .ref ao, .ref aar])), (zo, .inl (cL, 1, .inr (.inl fo)))] s.heap := hP
  have hl := lv_entry ([.ref ax, .int za, .int zb, .ref zo]) (n := 5) (Nat.le_of_ble_eq_true rfl)
  rw [lg_entry_eq]
  generalize (lg_sl ([.ref ax, .int za, .int zb, .ref zo]) ++ List.replicate (5 - (lg_sl ([.ref ax, .int za, .int zb, .ref zo])).length) Slot.unset).toArray = ls at hl ⊢
  have hl : lv_has ls 5 [(0, .ref ax), (1, .int za), (2, .int zb), (3, .ref zo)] := hl
  refine lv_aload_n hx hb dL_would_0 rfl (lv_at hl 3 rfl) ?_
  refine lv_iconst (v := 0) hx hb dL_would_1 (by decide) ?_
  refine lv_aload_n hx hb dL_would_2 rfl (lv_at hl 0 rfl) ?_
  refine lv_iload_n hx hb dL_would_3 rfl (lv_at hl 1 rfl) ?_
  refine lv_iload_n hx hb dL_would_4 rfl (lv_at hl 2 rfl) ?_
  have htb := vx_table (x := yL_would) B (hts _ List.mem_cons_self)
  have hPc := hP.sub (ws' := [(ax, .inr (3, [.ref av, .ref at_])), (av, .inr (1, [.int 0, .int 0, .ref adr, .ref ao, .ref aar]))]) [0, 1] rfl
  have hKc := hK.sub (tys' := []) [] rfl
  have hTc := (hT.kept hS).narrow (B := fun _ => False) (fun _ h => h.elim)
  refine vx_calli (vx_runV (As := [.int za, .int zb]) (rest := [.int 0, .ref zo]) ⟨hx, hb, hml, hown, hts⟩ (ct_X3_would l hnt dC dI za zb ax av at_ adr ao aar) (cwV 2 hts gL_would_X3_would rfl rfl rfl (by decide +kernel) ⟨(Nat.le_of_ble_eq_true rfl), (Nat.le_of_ble_eq_true rfl)⟩) ⟨pX_blind, va_recv hKc hPc (ci := 3) (q0 := 0) rfl rfl, pX_pre hPc hKc hTc⟩ rfl rfl hl.1 rfl (lv_room (Nat.le_of_ble_eq_true rfl)) dL_would_5 ⟨(Nat.le_of_ble_eq_true rfl), (Nat.le_of_ble_eq_true rfl)⟩) hS (fun q _ h => h.elim) (fun q h => h.elim) (fun q _ h => h.elim) (fun E ce q9 ux t H1 locs ht hvm hp hBX hz1 hk1 hS hce hcv hcl => ?_) (fun r_1 u_2 t H1 locs ht hvm hw hB hz1 hk1 hS => ?_)
  · have hP := hP.kept (fun k q hk => hk1 q.1 (hP k q hk).lt (fun h => h))
    generalize H1 = H at hP hS hce ⊢
    have hP : va_P (dC, dI) vwCl [(ax, .inr (3, [.ref av, .ref at_])), (av, .inr (1, [.int 0, .int 0, .ref adr, .ref ao, .ref aar])), (zo, .inl (cL, 1, .inr (.inl fo)))] H := hP
    have hD : va_D A [(ax, .inr (3, [.ref av, .ref at_])), (av, .inr (1, [.int 0, .int 0, .ref adr, .ref ao, .ref aar])), (zo, .inl (cL, 1, .inr (.inl fo)))] := hD
    refine vx_widen (k := 1) (n := 6) (by omega) (by omega) ?_
    have hBX : E = vs_B := hBX
    subst hBX
    refine vx_catch (own := RL) (name := vs_B) hown [] ⟨0, 10, 13, 20⟩ [⟨0, 10, 17, 13⟩] htb (fun z hz => nomatch hz) rfl (by decide) (hts (.classLink RL 20 vs_B) (List.mem_of_getElem? (i := 1) rfl)) (va_Nw.use rfl hT.2.1.1.2.2) hce hcv hcl ?_
    refine lv_astore (lv' := [(4, .ref q9), (0, .ref ax), (1, .int za), (2, .int zb), (3, .ref zo)]) hx hb dL_would_13 hl (by decide) rfl (fun ls hl => ?_)
    refine lv_iconst (v := 1) hx hb dL_would_15 (by decide) ?_
    have hP9 := hP.sub (ws' := []) [] rfl
    have hD9 := hD.sub (ws' := []) [] (by decide) rfl
    have hK9 := hK.sub (tys' := []) [] rfl
    refine vx_ret ?_
    exact W.iret (v := 1) hx hb hr (fun t ht hW => ⟨⟨_, (), rfl, rfl, by rw [ht]; exact hP9, va_K.moved hW.alike hK9, hD9⟩, hS.F ht⟩) hS.2.2 dL_would_16
  have hP := hP.kept (fun k q hk => hk1 q.1 (hP k q hk).lt (fun h => h))
  generalize H1 = H at hP hS ⊢
  refine W.widen (k := 1) (n := 6) (by omega) (by omega) ?_
  exact (show False from hw).elim

set_option maxHeartbeats 4000000 in
set_option maxRecDepth 100000 in
theorem cl_voice (l : Launch) (hnt : l.stackTraces = false) (dC : Nat → ClassId) (dI : Nat → Nat → Nat) (za : Int32) (zb : Int32) (ax : Nat) (av : Nat) (at_ : Nat) (adr : Nat) (ao : Nat) (aar : Nat) (o1 : Nat) (o2 : Nat) (o3 : Nat) (o4 : Nat) (o5 : Nat) (zo : Nat) (cL : ClassId) (fo : Nat → Int64) (sz : Nat) : vx_Met l yL_voice wsL_voice ({ frames := 7, cells := 1, slots := 6, locals := 112 }) (va_Pc [.ref ax, .int za, .int zb, .ref zo] (pY (dC, dI) [(ax, .inr (3, [.ref av, .ref at_])), (av, .inr (1, [.int 0, .int 0, .ref adr, .ref ao, .ref aar])), (ao, .inr (2, [.int 0, .int 0, .ref o1, .ref o2, .ref o3, .ref o4, .ref o5])), (zo, .inl (cL, 1, .inr (.inl fo)))] [(cL, .long)] sz)) (va_Qi (fun (r : Int32) (_ : Unit) => r = 1) (fun _ t => pB (dC, dI) (va_A [(ax, .inr (3, [.ref av, .ref at_])), (av, .inr (1, [.int 0, .int 0, .ref adr, .ref ao, .ref aar])), (ao, .inr (2, [.int 0, .int 0, .ref o1, .ref o2, .ref o3, .ref o4, .ref o5])), (zo, .inl (cL, 1, .inr (.inl fo)))] sz) [] [] t) (va_A [(ax, .inr (3, [.ref av, .ref at_])), (av, .inr (1, [.int 0, .int 0, .ref adr, .ref ao, .ref aar])), (ao, .inr (2, [.int 0, .int 0, .ref o1, .ref o2, .ref o3, .ref o4, .ref o5])), (zo, .inl (cL, 1, .inr (.inl fo)))] sz)) (vx_X (fun (_ : Unit) => True) (fun E _ _ => False) (va_A [(ax, .inr (3, [.ref av, .ref at_])), (av, .inr (1, [.int 0, .int 0, .ref adr, .ref ao, .ref aar])), (ao, .inr (2, [.int 0, .int 0, .ref o1, .ref o2, .ref o3, .ref o4, .ref o5])), (zo, .inl (cL, 1, .inr (.inl fo)))] sz)) 1 6 (va_A [(ax, .inr (3, [.ref av, .ref at_])), (av, .inr (1, [.int 0, .int 0, .ref adr, .ref ao, .ref aar])), (ao, .inr (2, [.int 0, .int 0, .ref o1, .ref o2, .ref o3, .ref o4, .ref o5])), (zo, .inl (cL, 1, .inr (.inl fo)))] sz) := by
  refine vx_ofWH (cc := cL_voice) (maxL := 5) (ret := (some .int)) (hh := [(0, 10, 13, 20)]) (by decide) rfl ?_
  intro p e s m args below meth c s₁ B hml hv
  obtain ⟨rfl, ⟨hsz, hP, hK, hD0⟩, hT⟩ := hv
  have hx := B.exec
  have hb := B.bytes
  have hr := B.returns
  have hts := atoms_spec (ws := wsL_voice) B.pre
  have hown : s.vm.findClass RL = some m.cls := findClass_of_methodNamed B.named
  have hlocks := B.notSynchronized
  subst hsz
  have hD := hD0.self (sz := s.heap.size)
  generalize hAe : va_A [(ax, .inr (3, [.ref av, .ref at_])), (av, .inr (1, [.int 0, .int 0, .ref adr, .ref ao, .ref aar])), (ao, .inr (2, [.int 0, .int 0, .ref o1, .ref o2, .ref o3, .ref o4, .ref o5])), (zo, .inl (cL, 1, .inr (.inl fo)))] s.heap.size = A at hD hT ⊢
  have hA : ∀ q : Nat, s.heap.size ≤ q → A q := fun q h => by rw [← hAe]; exact Or.inr h
  have hS : va_S A s.heap s.heap [] := va_S.rf
  have hP : va_P (dC, dI) vwCl [(ax, .inr (3, [.ref av, .ref at_])), (av, .inr (1, [.int 0, .int 0, .ref adr, .ref ao, .ref aar])), (ao, .inr (2, [.int 0, .int 0, .ref o1, .ref o2, .ref o3, .ref o4, .ref o5])), (zo, .inl (cL, 1, .inr (.inl fo)))] s.heap := hP
  have hl := lv_entry ([.ref ax, .int za, .int zb, .ref zo]) (n := 5) (Nat.le_of_ble_eq_true rfl)
  rw [lg_entry_eq]
  generalize (lg_sl ([.ref ax, .int za, .int zb, .ref zo]) ++ List.replicate (5 - (lg_sl ([.ref ax, .int za, .int zb, .ref zo])).length) Slot.unset).toArray = ls at hl ⊢
  have hl : lv_has ls 5 [(0, .ref ax), (1, .int za), (2, .int zb), (3, .ref zo)] := hl
  refine lv_aload_n hx hb dL_voice_0 rfl (lv_at hl 3 rfl) ?_
  refine lv_iconst (v := 0) hx hb dL_voice_1 (by decide) ?_
  refine lv_aload_n hx hb dL_voice_2 rfl (lv_at hl 0 rfl) ?_
  refine lv_iload_n hx hb dL_voice_3 rfl (lv_at hl 1 rfl) ?_
  refine lv_iload_n hx hb dL_voice_4 rfl (lv_at hl 2 rfl) ?_
  have htb := vx_table (x := yL_voice) B (hts _ List.mem_cons_self)
  have hPc := hP.sub (ws' := [(ax, .inr (3, [.ref av, .ref at_])), (av, .inr (1, [.int 0, .int 0, .ref adr, .ref ao, .ref aar])), (ao, .inr (2, [.int 0, .int 0, .ref o1, .ref o2, .ref o3, .ref o4, .ref o5]))]) [0, 1, 2] rfl
  have hKc := hK.sub (tys' := []) [] rfl
  have hTc := (hT.kept hS).narrow (B := fun _ => False) (fun _ h => h.elim)
  refine vx_calli (vx_runV (As := [.int za, .int zb]) (rest := [.int 0, .ref zo]) ⟨hx, hb, hml, hown, hts⟩ (ct_X3_voice l hnt dC dI za zb ax av at_ adr ao aar o1 o2 o3 o4 o5) (cwV 2 hts gL_voice_X3_voice rfl rfl rfl (by decide +kernel) ⟨(Nat.le_of_ble_eq_true rfl), (Nat.le_of_ble_eq_true rfl)⟩) ⟨pX_blind, va_recv hKc hPc (ci := 3) (q0 := 0) rfl rfl, pX_pre hPc hKc hTc⟩ rfl rfl hl.1 rfl (lv_room (Nat.le_of_ble_eq_true rfl)) dL_voice_5 ⟨(Nat.le_of_ble_eq_true rfl), (Nat.le_of_ble_eq_true rfl)⟩) hS (fun q _ h => h.elim) (fun q h => h.elim) (fun q _ h => h.elim) (fun E ce q9 ux t H1 locs ht hvm hp hBX hz1 hk1 hS hce hcv hcl => ?_) (fun r_1 u_2 t H1 locs ht hvm hw hB hz1 hk1 hS => ?_)
  · have hP := hP.kept (fun k q hk => hk1 q.1 (hP k q hk).lt (fun h => h))
    generalize H1 = H at hP hS hce ⊢
    have hP : va_P (dC, dI) vwCl [(ax, .inr (3, [.ref av, .ref at_])), (av, .inr (1, [.int 0, .int 0, .ref adr, .ref ao, .ref aar])), (ao, .inr (2, [.int 0, .int 0, .ref o1, .ref o2, .ref o3, .ref o4, .ref o5])), (zo, .inl (cL, 1, .inr (.inl fo)))] H := hP
    have hD : va_D A [(ax, .inr (3, [.ref av, .ref at_])), (av, .inr (1, [.int 0, .int 0, .ref adr, .ref ao, .ref aar])), (ao, .inr (2, [.int 0, .int 0, .ref o1, .ref o2, .ref o3, .ref o4, .ref o5])), (zo, .inl (cL, 1, .inr (.inl fo)))] := hD
    refine vx_widen (k := 1) (n := 6) (by omega) (by omega) ?_
    have hBX : E = vs_B := hBX
    subst hBX
    refine vx_catch (own := RL) (name := vs_B) hown [] ⟨0, 10, 13, 20⟩ [] htb (fun z hz => nomatch hz) rfl (by decide) (hts (.classLink RL 20 vs_B) (List.mem_of_getElem? (i := 1) rfl)) (va_Nw.use rfl hT.2.1.1.2.2) hce hcv hcl ?_
    refine lv_astore (lv' := [(4, .ref q9), (0, .ref ax), (1, .int za), (2, .int zb), (3, .ref zo)]) hx hb dL_voice_13 hl (by decide) rfl (fun ls hl => ?_)
    refine lv_iconst (v := 1) hx hb dL_voice_15 (by decide) ?_
    have hP9 := hP.sub (ws' := []) [] rfl
    have hD9 := hD.sub (ws' := []) [] (by decide) rfl
    have hK9 := hK.sub (tys' := []) [] rfl
    refine vx_ret ?_
    exact W.iret (v := 1) hx hb hr (fun t ht hW => ⟨⟨_, (), rfl, rfl, by rw [ht]; exact hP9, va_K.moved hW.alike hK9, hD9⟩, hS.F ht⟩) hS.2.2 dL_voice_16
  have hP := hP.kept (fun k q hk => hk1 q.1 (hP k q hk).lt (fun h => h))
  generalize H1 = H at hP hS ⊢
  refine W.widen (k := 1) (n := 6) (by omega) (by omega) ?_
  exact (show False from hw).elim

set_option maxHeartbeats 4000000 in
set_option maxRecDepth 100000 in
theorem cl_count (l : Launch) (hnt : l.stackTraces = false) (dC : Nat → ClassId) (dI : Nat → Nat → Nat) (za : Int32) (ax : Nat) (av : Nat) (at_ : Nat) (adr : Nat) (ao : Nat) (aar : Nat) (o1 : Nat) (o2 : Nat) (o3 : Nat) (o4 : Nat) (o5 : Nat) (zo : Nat) (cL : ClassId) (fo : Nat → Int64) (sz : Nat) : vx_Met l yL_count wsL_count ({ frames := 7, cells := 1, slots := 6, locals := 111 }) (va_Pc [.ref ax, .int za, .ref zo] (pY (dC, dI) [(ax, .inr (3, [.ref av, .ref at_])), (av, .inr (1, [.int 0, .int 0, .ref adr, .ref ao, .ref aar])), (ao, .inr (2, [.int 0, .int 0, .ref o1, .ref o2, .ref o3, .ref o4, .ref o5])), (zo, .inl (cL, 1, .inr (.inl fo)))] [(cL, .long)] sz)) (va_Qi (fun (r : Int32) (u : Nat → Int64) => (¬ vs_in za 0 8 = 0 ∧ r = 0 ∧ u 0 = 0) ∨ (vs_in za 0 8 = 0 ∧ r = 1)) (fun u t => pB (dC, dI) (va_A [(ax, .inr (3, [.ref av, .ref at_])), (av, .inr (1, [.int 0, .int 0, .ref adr, .ref ao, .ref aar])), (ao, .inr (2, [.int 0, .int 0, .ref o1, .ref o2, .ref o3, .ref o4, .ref o5])), (zo, .inl (cL, 1, .inr (.inl fo)))] sz) [(zo, .inl (cL, 1, .inr (.inl u)))] [(cL, .long)] t) (va_A [(ax, .inr (3, [.ref av, .ref at_])), (av, .inr (1, [.int 0, .int 0, .ref adr, .ref ao, .ref aar])), (ao, .inr (2, [.int 0, .int 0, .ref o1, .ref o2, .ref o3, .ref o4, .ref o5])), (zo, .inl (cL, 1, .inr (.inl fo)))] sz)) (vx_X (fun (_ : Unit) => True) (fun E _ _ => False) (va_A [(ax, .inr (3, [.ref av, .ref at_])), (av, .inr (1, [.int 0, .int 0, .ref adr, .ref ao, .ref aar])), (ao, .inr (2, [.int 0, .int 0, .ref o1, .ref o2, .ref o3, .ref o4, .ref o5])), (zo, .inl (cL, 1, .inr (.inl fo)))] sz)) 1 6 (va_A [(ax, .inr (3, [.ref av, .ref at_])), (av, .inr (1, [.int 0, .int 0, .ref adr, .ref ao, .ref aar])), (ao, .inr (2, [.int 0, .int 0, .ref o1, .ref o2, .ref o3, .ref o4, .ref o5])), (zo, .inl (cL, 1, .inr (.inl fo)))] sz) := by
  refine vx_ofWH (cc := cL_count) (maxL := 4) (ret := (some .int)) (hh := [(0, 9, 12, 20)]) (by decide) rfl ?_
  intro p e s m args below meth c s₁ B hml hv
  obtain ⟨rfl, ⟨hsz, hP, hK, hD0⟩, hT⟩ := hv
  have hx := B.exec
  have hb := B.bytes
  have hr := B.returns
  have hts := atoms_spec (ws := wsL_count) B.pre
  have hown : s.vm.findClass RL = some m.cls := findClass_of_methodNamed B.named
  have hlocks := B.notSynchronized
  subst hsz
  have hD := hD0.self (sz := s.heap.size)
  generalize hAe : va_A [(ax, .inr (3, [.ref av, .ref at_])), (av, .inr (1, [.int 0, .int 0, .ref adr, .ref ao, .ref aar])), (ao, .inr (2, [.int 0, .int 0, .ref o1, .ref o2, .ref o3, .ref o4, .ref o5])), (zo, .inl (cL, 1, .inr (.inl fo)))] s.heap.size = A at hD hT ⊢
  have hA : ∀ q : Nat, s.heap.size ≤ q → A q := fun q h => by rw [← hAe]; exact Or.inr h
  have hS : va_S A s.heap s.heap [] := va_S.rf
  have hP : va_P (dC, dI) vwCl [(ax, .inr (3, [.ref av, .ref at_])), (av, .inr (1, [.int 0, .int 0, .ref adr, .ref ao, .ref aar])), (ao, .inr (2, [.int 0, .int 0, .ref o1, .ref o2, .ref o3, .ref o4, .ref o5])), (zo, .inl (cL, 1, .inr (.inl fo)))] s.heap := hP
  have hl := lv_entry ([.ref ax, .int za, .ref zo]) (n := 4) (Nat.le_of_ble_eq_true rfl)
  rw [lg_entry_eq]
  generalize (lg_sl ([.ref ax, .int za, .ref zo]) ++ List.replicate (4 - (lg_sl ([.ref ax, .int za, .ref zo])).length) Slot.unset).toArray = ls at hl ⊢
  have hl : lv_has ls 4 [(0, .ref ax), (1, .int za), (2, .ref zo)] := hl
  refine lv_aload_n hx hb dL_count_0 rfl (lv_at hl 2 rfl) ?_
  refine lv_iconst (v := 0) hx hb dL_count_1 (by decide) ?_
  refine lv_aload_n hx hb dL_count_2 rfl (lv_at hl 0 rfl) ?_
  refine lv_iload_n hx hb dL_count_3 rfl (lv_at hl 1 rfl) ?_
  have htb := vx_table (x := yL_count) B (hts _ List.mem_cons_self)
  have hPc := hP.sub (ws' := [(ax, .inr (3, [.ref av, .ref at_])), (av, .inr (1, [.int 0, .int 0, .ref adr, .ref ao, .ref aar])), (ao, .inr (2, [.int 0, .int 0, .ref o1, .ref o2, .ref o3, .ref o4, .ref o5]))]) [0, 1, 2] rfl
  have hKc := hK.sub (tys' := []) [] rfl
  have hTc := (hT.kept hS).narrow (B := fun _ => False) (fun _ h => h.elim)
  refine vx_calli (vx_runV (As := [.int za]) (rest := [.int 0, .ref zo]) ⟨hx, hb, hml, hown, hts⟩ (ct_X3_count l hnt dC dI za ax av at_ adr ao aar o1 o2 o3 o4 o5) (cwV 1 hts gL_count_X3_count rfl rfl rfl (by decide +kernel) ⟨(Nat.le_of_ble_eq_true rfl), (Nat.le_of_ble_eq_true rfl)⟩) ⟨pX_blind, va_recv hKc hPc (ci := 3) (q0 := 0) rfl rfl, pX_pre hPc hKc hTc⟩ rfl rfl hl.1 rfl (lv_room (Nat.le_of_ble_eq_true rfl)) dL_count_4 ⟨(Nat.le_of_ble_eq_true rfl), (Nat.le_of_ble_eq_true rfl)⟩) hS (fun q _ h => h.elim) (fun q h => h.elim) (fun q _ h => h.elim) (fun E ce q9 ux t H1 locs ht hvm hp hBX hz1 hk1 hS hce hcv hcl => ?_) (fun r_1 u_2 t H1 locs ht hvm hw hB hz1 hk1 hS => ?_)
  · have hP := hP.kept (fun k q hk => hk1 q.1 (hP k q hk).lt (fun h => h))
    generalize H1 = H at hP hS hce ⊢
    have hP : va_P (dC, dI) vwCl [(ax, .inr (3, [.ref av, .ref at_])), (av, .inr (1, [.int 0, .int 0, .ref adr, .ref ao, .ref aar])), (ao, .inr (2, [.int 0, .int 0, .ref o1, .ref o2, .ref o3, .ref o4, .ref o5])), (zo, .inl (cL, 1, .inr (.inl fo)))] H := hP
    have hD : va_D A [(ax, .inr (3, [.ref av, .ref at_])), (av, .inr (1, [.int 0, .int 0, .ref adr, .ref ao, .ref aar])), (ao, .inr (2, [.int 0, .int 0, .ref o1, .ref o2, .ref o3, .ref o4, .ref o5])), (zo, .inl (cL, 1, .inr (.inl fo)))] := hD
    refine vx_widen (k := 1) (n := 6) (by omega) (by omega) ?_
    obtain ⟨rfl, hbad⟩ := hBX
    refine vx_catch (own := RL) (name := vs_B) hown [] ⟨0, 9, 12, 20⟩ [] htb (fun z hz => nomatch hz) rfl (by decide) (hts (.classLink RL 20 vs_B) (List.mem_of_getElem? (i := 1) rfl)) (va_Nw.use rfl hT.2.1.1.2.2) hce hcv hcl ?_
    refine lv_astore_n (lv' := [(3, .ref q9), (0, .ref ax), (1, .int za), (2, .ref zo)]) hx hb dL_count_12 rfl hl (by decide) rfl (fun ls hl => ?_)
    refine lv_iconst (v := 1) hx hb dL_count_13 (by decide) ?_
    have hP9 := hP.sub (ws' := [(zo, .inl (cL, 1, .inr (.inl ((fo)))))]) [3] rfl
    have hD9 := hD.sub (ws' := [(zo, .inl (cL, 1, .inr (.inl ((fo)))))]) [3] (by decide) rfl
    have hK9 := hK.sub (tys' := [(cL, .long)]) [0] rfl
    refine vx_ret ?_
    exact W.iret (v := 1) hx hb hr (fun t ht hW => ⟨⟨_, (fo), rfl, Or.inr ⟨hbad, rfl⟩, by rw [ht]; exact hP9, va_K.moved hW.alike hK9, hD9⟩, hS.F ht⟩) hS.2.2 dL_count_14
  have hP := hP.kept (fun k q hk => hk1 q.1 (hP k q hk).lt (fun h => h))
  generalize H1 = H at hP hS ⊢
  refine W.widen (k := 1) (n := 6) (by omega) (by omega) ?_
  have hw_3 : r_1 = 0 ∧ ¬ vs_in za 0 8 = 0 := hw
  obtain ⟨hrv, hok⟩ := hw_3
  subst hrv
  refine lv_i2l (v := 0) hx hb dL_count_7 (by decide) ?_
  refine va_last (D := (dC, dI)) hx hb hK hP hD hS 3 0 rfl rfl (i := 0) (x := 0) (vs_vi (by decide)) dL_count_8 (fun H locs hP hD hS => ?_)
  have hP : va_P (dC, dI) vwCl [(ax, .inr (3, [.ref av, .ref at_])), (av, .inr (1, [.int 0, .int 0, .ref adr, .ref ao, .ref aar])), (ao, .inr (2, [.int 0, .int 0, .ref o1, .ref o2, .ref o3, .ref o4, .ref o5])), (zo, .inl (cL, 1, .inr (.inl (vp_updL fo 0 0))))] H := hP
  have hD : va_D A [(ax, .inr (3, [.ref av, .ref at_])), (av, .inr (1, [.int 0, .int 0, .ref adr, .ref ao, .ref aar])), (ao, .inr (2, [.int 0, .int 0, .ref o1, .ref o2, .ref o3, .ref o4, .ref o5])), (zo, .inl (cL, 1, .inr (.inl (vp_updL fo 0 0))))] := hD
  refine lv_goto (tgt := 15) hx hb dL_count_9 (by decide) ?_
  refine lv_iconst (v := 0) hx hb dL_count_15 (by decide) ?_
  have hP9 := hP.sub (ws' := [(zo, .inl (cL, 1, .inr (.inl ((vp_updL fo 0 0)))))]) [3] rfl
  have hD9 := hD.sub (ws' := [(zo, .inl (cL, 1, .inr (.inl ((vp_updL fo 0 0)))))]) [3] (by decide) rfl
  have hK9 := hK.sub (tys' := [(cL, .long)]) [0] rfl
  refine vx_ret ?_
  exact W.iret (v := 0) hx hb hr (fun t ht hW => ⟨⟨_, (vp_updL fo 0 0), rfl, Or.inl ⟨hok, rfl, rfl⟩, by rw [ht]; exact hP9, va_K.moved hW.alike hK9, hD9⟩, hS.F ht⟩) hS.2.2 dL_count_16

set_option maxHeartbeats 4000000 in
set_option maxRecDepth 100000 in
theorem cl_pass (l : Launch) (hnt : l.stackTraces = false) (dC : Nat → ClassId) (dI : Nat → Nat → Nat) (za : Int32) (ax : Nat) (av : Nat) (at_ : Nat) (adr : Nat) (ao : Nat) (aar : Nat) (o1 : Nat) (o2 : Nat) (o3 : Nat) (o4 : Nat) (o5 : Nat) (r1 : Nat) (r2 : Nat) (r3 : Nat) (r4 : Nat) (r5 : Nat) (zo : Nat) (cL : ClassId) (fo : Nat → Int64) (sz : Nat) : vx_Met l yL_pass wsL_pass ({ frames := 7, cells := 1, slots := 6, locals := 113 }) (va_Pc [.ref ax, .int za, .ref zo] (pY (dC, dI) [(ax, .inr (3, [.ref av, .ref at_])), (av, .inr (1, [.int 0, .int 0, .ref adr, .ref ao, .ref aar])), (ao, .inr (2, [.int 0, .int 0, .ref o1, .ref o2, .ref o3, .ref o4, .ref o5])), (aar, .inr (2, [.int 0, .int 0, .ref r1, .ref r2, .ref r3, .ref r4, .ref r5])), (zo, .inl (cL, 1, .inr (.inl fo)))] [(cL, .long)] sz)) (va_Qi (fun (r : Int32) (u : Nat → Int64) => (¬ vs_in za 1 200 = 0 ∧ r = 0 ∧ u 0 = 0) ∨ (vs_in za 1 200 = 0 ∧ r = 1)) (fun u t => pB (dC, dI) (va_A [(ax, .inr (3, [.ref av, .ref at_])), (av, .inr (1, [.int 0, .int 0, .ref adr, .ref ao, .ref aar])), (ao, .inr (2, [.int 0, .int 0, .ref o1, .ref o2, .ref o3, .ref o4, .ref o5])), (aar, .inr (2, [.int 0, .int 0, .ref r1, .ref r2, .ref r3, .ref r4, .ref r5])), (zo, .inl (cL, 1, .inr (.inl fo)))] sz) [(zo, .inl (cL, 1, .inr (.inl u)))] [(cL, .long)] t) (va_A [(ax, .inr (3, [.ref av, .ref at_])), (av, .inr (1, [.int 0, .int 0, .ref adr, .ref ao, .ref aar])), (ao, .inr (2, [.int 0, .int 0, .ref o1, .ref o2, .ref o3, .ref o4, .ref o5])), (aar, .inr (2, [.int 0, .int 0, .ref r1, .ref r2, .ref r3, .ref r4, .ref r5])), (zo, .inl (cL, 1, .inr (.inl fo)))] sz)) (vx_X (fun (_ : Unit) => True) (fun E _ _ => False) (va_A [(ax, .inr (3, [.ref av, .ref at_])), (av, .inr (1, [.int 0, .int 0, .ref adr, .ref ao, .ref aar])), (ao, .inr (2, [.int 0, .int 0, .ref o1, .ref o2, .ref o3, .ref o4, .ref o5])), (aar, .inr (2, [.int 0, .int 0, .ref r1, .ref r2, .ref r3, .ref r4, .ref r5])), (zo, .inl (cL, 1, .inr (.inl fo)))] sz)) 1 6 (va_A [(ax, .inr (3, [.ref av, .ref at_])), (av, .inr (1, [.int 0, .int 0, .ref adr, .ref ao, .ref aar])), (ao, .inr (2, [.int 0, .int 0, .ref o1, .ref o2, .ref o3, .ref o4, .ref o5])), (aar, .inr (2, [.int 0, .int 0, .ref r1, .ref r2, .ref r3, .ref r4, .ref r5])), (zo, .inl (cL, 1, .inr (.inl fo)))] sz) := by
  refine vx_ofWH (cc := cL_pass) (maxL := 4) (ret := (some .int)) (hh := [(0, 9, 12, 13)]) (by decide) rfl ?_
  intro p e s m args below meth c s₁ B hml hv
  obtain ⟨rfl, ⟨hsz, hP, hK, hD0⟩, hT⟩ := hv
  have hx := B.exec
  have hb := B.bytes
  have hr := B.returns
  have hts := atoms_spec (ws := wsL_pass) B.pre
  have hown : s.vm.findClass RL = some m.cls := findClass_of_methodNamed B.named
  have hlocks := B.notSynchronized
  subst hsz
  have hD := hD0.self (sz := s.heap.size)
  generalize hAe : va_A [(ax, .inr (3, [.ref av, .ref at_])), (av, .inr (1, [.int 0, .int 0, .ref adr, .ref ao, .ref aar])), (ao, .inr (2, [.int 0, .int 0, .ref o1, .ref o2, .ref o3, .ref o4, .ref o5])), (aar, .inr (2, [.int 0, .int 0, .ref r1, .ref r2, .ref r3, .ref r4, .ref r5])), (zo, .inl (cL, 1, .inr (.inl fo)))] s.heap.size = A at hD hT ⊢
  have hA : ∀ q : Nat, s.heap.size ≤ q → A q := fun q h => by rw [← hAe]; exact Or.inr h
  have hS : va_S A s.heap s.heap [] := va_S.rf
  have hP : va_P (dC, dI) vwCl [(ax, .inr (3, [.ref av, .ref at_])), (av, .inr (1, [.int 0, .int 0, .ref adr, .ref ao, .ref aar])), (ao, .inr (2, [.int 0, .int 0, .ref o1, .ref o2, .ref o3, .ref o4, .ref o5])), (aar, .inr (2, [.int 0, .int 0, .ref r1, .ref r2, .ref r3, .ref r4, .ref r5])), (zo, .inl (cL, 1, .inr (.inl fo)))] s.heap := hP
  have hl := lv_entry ([.ref ax, .int za, .ref zo]) (n := 4) (Nat.le_of_ble_eq_true rfl)
  rw [lg_entry_eq]
  generalize (lg_sl ([.ref ax, .int za, .ref zo]) ++ List.replicate (4 - (lg_sl ([.ref ax, .int za, .ref zo])).length) Slot.unset).toArray = ls at hl ⊢
  have hl : lv_has ls 4 [(0, .ref ax), (1, .int za), (2, .ref zo)] := hl
  refine lv_aload_n hx hb dL_pass_0 rfl (lv_at hl 2 rfl) ?_
  refine lv_iconst (v := 0) hx hb dL_pass_1 (by decide) ?_
  refine lv_aload_n hx hb dL_pass_2 rfl (lv_at hl 0 rfl) ?_
  refine lv_iload_n hx hb dL_pass_3 rfl (lv_at hl 1 rfl) ?_
  have htb := vx_table (x := yL_pass) B (hts _ List.mem_cons_self)
  have hPc := hP.sub (ws' := [(ax, .inr (3, [.ref av, .ref at_])), (av, .inr (1, [.int 0, .int 0, .ref adr, .ref ao, .ref aar])), (ao, .inr (2, [.int 0, .int 0, .ref o1, .ref o2, .ref o3, .ref o4, .ref o5])), (aar, .inr (2, [.int 0, .int 0, .ref r1, .ref r2, .ref r3, .ref r4, .ref r5]))]) [0, 1, 2, 3] rfl
  have hKc := hK.sub (tys' := []) [] rfl
  have hDc := hD.sub (ws' := [(ax, .inr (3, [.ref av, .ref at_])), (av, .inr (1, [.int 0, .int 0, .ref adr, .ref ao, .ref aar])), (ao, .inr (2, [.int 0, .int 0, .ref o1, .ref o2, .ref o3, .ref o4, .ref o5])), (aar, .inr (2, [.int 0, .int 0, .ref r1, .ref r2, .ref r3, .ref r4, .ref r5]))]) [0, 1, 2, 3] (by decide) rfl
  have hFc := va_free (wc := [(ax, .inr (3, [.ref av, .ref at_])), (av, .inr (1, [.int 0, .int 0, .ref adr, .ref ao, .ref aar])), (ao, .inr (2, [.int 0, .int 0, .ref o1, .ref o2, .ref o3, .ref o4, .ref o5])), (aar, .inr (2, [.int 0, .int 0, .ref r1, .ref r2, .ref r3, .ref r4, .ref r5]))]) hD hS hA [0, 1, 2, 3] rfl
  have hTc := (hT.kept hS).narrow hFc
  refine vx_calli (vx_runV (As := [.int za]) (rest := [.int 0, .ref zo]) ⟨hx, hb, hml, hown, hts⟩ (ct_X3_pass l hnt dC dI za ax av at_ adr ao aar o1 o2 o3 o4 o5 r1 r2 r3 r4 r5 s.heap.size) (cwV 1 hts gL_pass_X3_pass rfl rfl rfl (by decide +kernel) ⟨(Nat.le_of_ble_eq_true rfl), (Nat.le_of_ble_eq_true rfl)⟩) ⟨pY_blind, va_recv hKc hPc (ci := 3) (q0 := 0) rfl rfl, pY_pre hPc hDc hKc hTc⟩ rfl rfl hl.1 rfl (lv_room (Nat.le_of_ble_eq_true rfl)) dL_pass_4 ⟨(Nat.le_of_ble_eq_true rfl), (Nat.le_of_ble_eq_true rfl)⟩) hS (fun q _ h => hFc q h) hFc (fun q _ h => hFc q h) (fun E ce q9 ux t H1 locs ht hvm hp hBX hz1 hk1 hS hce hcv hcl => ?_) (fun r_1 u_2 t H1 locs ht hvm hw hB hz1 hk1 hS => ?_)
  · obtain ⟨hP, hD⟩ := va_join (wr := [(zo, .inl (cL, 1, .inr (.inl fo)))]) (w1 := []) hP hD [0, 1, 2, 3] [4] rfl rfl (by decide) (by decide) hk1 hFc (fun k q h => by simp at h) ⟨fun i j p q h => by simp at h, fun k q h => by simp at h⟩
    generalize H1 = H at hP hS hce ⊢
    have hP : va_P (dC, dI) vwCl [(zo, .inl (cL, 1, .inr (.inl fo)))] H := hP
    have hD : va_D A [(zo, .inl (cL, 1, .inr (.inl fo)))] := hD
    refine vx_widen (k := 1) (n := 6) (by omega) (by omega) ?_
    obtain ⟨rfl, hbad⟩ := hBX
    refine vx_catch (own := RL) (name := vs_I) hown [] ⟨0, 9, 12, 13⟩ [] htb (fun z hz => nomatch hz) rfl (by decide) (hts (.classLink RL 13 vs_I) (List.mem_of_getElem? (i := 1) rfl)) (va_Nw.use rfl hT.2.1.1.1) hce hcv hcl ?_
    refine lv_astore_n (lv' := [(3, .ref q9), (0, .ref ax), (1, .int za), (2, .ref zo)]) hx hb dL_pass_12 rfl hl (by decide) rfl (fun ls hl => ?_)
    refine lv_iconst (v := 1) hx hb dL_pass_13 (by decide) ?_
    have hP9 := hP.sub (ws' := [(zo, .inl (cL, 1, .inr (.inl ((fo)))))]) [0] rfl
    have hD9 := hD.sub (ws' := [(zo, .inl (cL, 1, .inr (.inl ((fo)))))]) [0] (by decide) rfl
    have hK9 := hK.sub (tys' := [(cL, .long)]) [0] rfl
    refine vx_ret ?_
    exact W.iret (v := 1) hx hb hr (fun t ht hW => ⟨⟨_, (fo), rfl, Or.inr ⟨hbad, rfl⟩, by rw [ht]; exact hP9, va_K.moved hW.alike hK9, hD9⟩, hS.F ht⟩) hS.2.2 dL_pass_14
  obtain ⟨hP1, hK1, hD1⟩ := hB
  rw [ht] at hP1
  have hK1 := va_K.moved hvm.symm hK1
  obtain ⟨hP, hD⟩ := va_join (wr := [(zo, .inl (cL, 1, .inr (.inl fo)))]) (w1 := []) hP hD [0, 1, 2, 3] [4] rfl rfl (by decide) (by decide) hk1 hFc hP1 hD1
  generalize H1 = H at hP hS ⊢
  have hP : va_P (dC, dI) vwCl [(zo, .inl (cL, 1, .inr (.inl fo)))] H := hP
  have hD : va_D A [(zo, .inl (cL, 1, .inr (.inl fo)))] := hD
  have hK : va_K (dC, dI) vwCl [(cL, .long)] _ := hK
  refine W.widen (k := 1) (n := 6) (by omega) (by omega) ?_
  have hw_3 : r_1 = 0 ∧ ¬ vs_in za 1 200 = 0 := hw
  obtain ⟨hrv, hok⟩ := hw_3
  subst hrv
  refine lv_i2l (v := 0) hx hb dL_pass_7 (by decide) ?_
  refine va_last (D := (dC, dI)) hx hb hK hP hD hS 0 0 rfl rfl (i := 0) (x := 0) (vs_vi (by decide)) dL_pass_8 (fun H locs hP hD hS => ?_)
  have hP : va_P (dC, dI) vwCl [(zo, .inl (cL, 1, .inr (.inl (vp_updL fo 0 0))))] H := hP
  have hD : va_D A [(zo, .inl (cL, 1, .inr (.inl (vp_updL fo 0 0))))] := hD
  refine lv_goto (tgt := 15) hx hb dL_pass_9 (by decide) ?_
  refine lv_iconst (v := 0) hx hb dL_pass_15 (by decide) ?_
  have hP9 := hP.sub (ws' := [(zo, .inl (cL, 1, .inr (.inl ((vp_updL fo 0 0)))))]) [0] rfl
  have hD9 := hD.sub (ws' := [(zo, .inl (cL, 1, .inr (.inl ((vp_updL fo 0 0)))))]) [0] (by decide) rfl
  have hK9 := hK.sub (tys' := [(cL, .long)]) [0] rfl
  refine vx_ret ?_
  exact W.iret (v := 0) hx hb hr (fun t ht hW => ⟨⟨_, (vp_updL fo 0 0), rfl, Or.inl ⟨hok, rfl, rfl⟩, by rw [ht]; exact hP9, va_K.moved hW.alike hK9, hD9⟩, hS.F ht⟩) hS.2.2 dL_pass_16

set_option maxHeartbeats 4000000 in
set_option maxRecDepth 100000 in
theorem cl_best (l : Launch) (hnt : l.stackTraces = false) (dC : Nat → ClassId) (dI : Nat → Nat → Nat) (za : Int32) (ax : Nat) (av : Nat) (at_ : Nat) (adr : Nat) (ao : Nat) (aar : Nat) (zo : Nat) (cL : ClassId) (fo : Nat → Int64) (sz : Nat) : vx_Met l yL_best wsL_best ({ frames := 7, cells := 1, slots := 6, locals := 115 }) (va_Pc [.ref ax, .int za, .ref zo] (pY (dC, dI) [(ax, .inr (3, [.ref av, .ref at_])), (av, .inr (1, [.int 0, .int 0, .ref adr, .ref ao, .ref aar])), (zo, .inl (cL, 1, .inr (.inl fo)))] [(cL, .long)] sz)) (va_Qi (fun (r : Int32) (u : Nat → Int64) => (¬ vs_in za 1 30 = 0 ∧ r = 0 ∧ u 0 = -1) ∨ (vs_in za 1 30 = 0 ∧ r = 1)) (fun u t => pB (dC, dI) (va_A [(ax, .inr (3, [.ref av, .ref at_])), (av, .inr (1, [.int 0, .int 0, .ref adr, .ref ao, .ref aar])), (zo, .inl (cL, 1, .inr (.inl fo)))] sz) [(zo, .inl (cL, 1, .inr (.inl u)))] [(cL, .long)] t) (va_A [(ax, .inr (3, [.ref av, .ref at_])), (av, .inr (1, [.int 0, .int 0, .ref adr, .ref ao, .ref aar])), (zo, .inl (cL, 1, .inr (.inl fo)))] sz)) (vx_X (fun (_ : Unit) => True) (fun E _ _ => False) (va_A [(ax, .inr (3, [.ref av, .ref at_])), (av, .inr (1, [.int 0, .int 0, .ref adr, .ref ao, .ref aar])), (zo, .inl (cL, 1, .inr (.inl fo)))] sz)) 1 6 (va_A [(ax, .inr (3, [.ref av, .ref at_])), (av, .inr (1, [.int 0, .int 0, .ref adr, .ref ao, .ref aar])), (zo, .inl (cL, 1, .inr (.inl fo)))] sz) := by
  refine vx_ofWH (cc := cL_best) (maxL := 4) (ret := (some .int)) (hh := [(0, 9, 12, 13)]) (by decide) rfl ?_
  intro p e s m args below meth c s₁ B hml hv
  obtain ⟨rfl, ⟨hsz, hP, hK, hD0⟩, hT⟩ := hv
  have hx := B.exec
  have hb := B.bytes
  have hr := B.returns
  have hts := atoms_spec (ws := wsL_best) B.pre
  have hown : s.vm.findClass RL = some m.cls := findClass_of_methodNamed B.named
  have hlocks := B.notSynchronized
  subst hsz
  have hD := hD0.self (sz := s.heap.size)
  generalize hAe : va_A [(ax, .inr (3, [.ref av, .ref at_])), (av, .inr (1, [.int 0, .int 0, .ref adr, .ref ao, .ref aar])), (zo, .inl (cL, 1, .inr (.inl fo)))] s.heap.size = A at hD hT ⊢
  have hA : ∀ q : Nat, s.heap.size ≤ q → A q := fun q h => by rw [← hAe]; exact Or.inr h
  have hS : va_S A s.heap s.heap [] := va_S.rf
  have hP : va_P (dC, dI) vwCl [(ax, .inr (3, [.ref av, .ref at_])), (av, .inr (1, [.int 0, .int 0, .ref adr, .ref ao, .ref aar])), (zo, .inl (cL, 1, .inr (.inl fo)))] s.heap := hP
  have hl := lv_entry ([.ref ax, .int za, .ref zo]) (n := 4) (Nat.le_of_ble_eq_true rfl)
  rw [lg_entry_eq]
  generalize (lg_sl ([.ref ax, .int za, .ref zo]) ++ List.replicate (4 - (lg_sl ([.ref ax, .int za, .ref zo])).length) Slot.unset).toArray = ls at hl ⊢
  have hl : lv_has ls 4 [(0, .ref ax), (1, .int za), (2, .ref zo)] := hl
  refine lv_aload_n hx hb dL_best_0 rfl (lv_at hl 2 rfl) ?_
  refine lv_iconst (v := 0) hx hb dL_best_1 (by decide) ?_
  refine lv_aload_n hx hb dL_best_2 rfl (lv_at hl 0 rfl) ?_
  refine lv_iload_n hx hb dL_best_3 rfl (lv_at hl 1 rfl) ?_
  have htb := vx_table (x := yL_best) B (hts _ List.mem_cons_self)
  have hPc := hP.sub (ws' := [(ax, .inr (3, [.ref av, .ref at_])), (av, .inr (1, [.int 0, .int 0, .ref adr, .ref ao, .ref aar]))]) [0, 1] rfl
  have hKc := hK.sub (tys' := []) [] rfl
  have hTc := (hT.kept hS).narrow (B := fun _ => False) (fun _ h => h.elim)
  refine vx_calli (vx_runV (As := [.int za]) (rest := [.int 0, .ref zo]) ⟨hx, hb, hml, hown, hts⟩ (ct_X3_best l hnt dC dI za ax av at_ adr ao aar) (cwV 1 hts gL_best_X3_best rfl rfl rfl (by decide +kernel) ⟨(Nat.le_of_ble_eq_true rfl), (Nat.le_of_ble_eq_true rfl)⟩) ⟨pX_blind, va_recv hKc hPc (ci := 3) (q0 := 0) rfl rfl, pX_pre hPc hKc hTc⟩ rfl rfl hl.1 rfl (lv_room (Nat.le_of_ble_eq_true rfl)) dL_best_4 ⟨(Nat.le_of_ble_eq_true rfl), (Nat.le_of_ble_eq_true rfl)⟩) hS (fun q _ h => h.elim) (fun q h => h.elim) (fun q _ h => h.elim) (fun E ce q9 ux t H1 locs ht hvm hp hBX hz1 hk1 hS hce hcv hcl => ?_) (fun r_1 u_2 t H1 locs ht hvm hw hB hz1 hk1 hS => ?_)
  · have hP := hP.kept (fun k q hk => hk1 q.1 (hP k q hk).lt (fun h => h))
    generalize H1 = H at hP hS hce ⊢
    have hP : va_P (dC, dI) vwCl [(ax, .inr (3, [.ref av, .ref at_])), (av, .inr (1, [.int 0, .int 0, .ref adr, .ref ao, .ref aar])), (zo, .inl (cL, 1, .inr (.inl fo)))] H := hP
    have hD : va_D A [(ax, .inr (3, [.ref av, .ref at_])), (av, .inr (1, [.int 0, .int 0, .ref adr, .ref ao, .ref aar])), (zo, .inl (cL, 1, .inr (.inl fo)))] := hD
    refine vx_widen (k := 1) (n := 6) (by omega) (by omega) ?_
    obtain ⟨rfl, hbad⟩ := hBX
    refine vx_catch (own := RL) (name := vs_I) hown [] ⟨0, 9, 12, 13⟩ [] htb (fun z hz => nomatch hz) rfl (by decide) (hts (.classLink RL 13 vs_I) (List.mem_of_getElem? (i := 1) rfl)) (va_Nw.use rfl hT.2.1.1.1) hce hcv hcl ?_
    refine lv_astore_n (lv' := [(3, .ref q9), (0, .ref ax), (1, .int za), (2, .ref zo)]) hx hb dL_best_12 rfl hl (by decide) rfl (fun ls hl => ?_)
    refine lv_iconst (v := 1) hx hb dL_best_13 (by decide) ?_
    have hP9 := hP.sub (ws' := [(zo, .inl (cL, 1, .inr (.inl ((fo)))))]) [2] rfl
    have hD9 := hD.sub (ws' := [(zo, .inl (cL, 1, .inr (.inl ((fo)))))]) [2] (by decide) rfl
    have hK9 := hK.sub (tys' := [(cL, .long)]) [0] rfl
    refine vx_ret ?_
    exact W.iret (v := 1) hx hb hr (fun t ht hW => ⟨⟨_, (fo), rfl, Or.inr ⟨hbad, rfl⟩, by rw [ht]; exact hP9, va_K.moved hW.alike hK9, hD9⟩, hS.F ht⟩) hS.2.2 dL_best_14
  have hP := hP.kept (fun k q hk => hk1 q.1 (hP k q hk).lt (fun h => h))
  generalize H1 = H at hP hS ⊢
  refine W.widen (k := 1) (n := 6) (by omega) (by omega) ?_
  have hw_3 : r_1 = -1 ∧ ¬ vs_in za 1 30 = 0 := hw
  obtain ⟨hrv, hok⟩ := hw_3
  subst hrv
  refine lv_i2l (v := (-1)) hx hb dL_best_7 (by decide) ?_
  refine va_last (D := (dC, dI)) hx hb hK hP hD hS 2 0 rfl rfl (i := 0) (x := (-1)) (vs_vi (by decide)) dL_best_8 (fun H locs hP hD hS => ?_)
  have hP : va_P (dC, dI) vwCl [(ax, .inr (3, [.ref av, .ref at_])), (av, .inr (1, [.int 0, .int 0, .ref adr, .ref ao, .ref aar])), (zo, .inl (cL, 1, .inr (.inl (vp_updL fo 0 ((-1))))))] H := hP
  have hD : va_D A [(ax, .inr (3, [.ref av, .ref at_])), (av, .inr (1, [.int 0, .int 0, .ref adr, .ref ao, .ref aar])), (zo, .inl (cL, 1, .inr (.inl (vp_updL fo 0 ((-1))))))] := hD
  refine lv_goto (tgt := 15) hx hb dL_best_9 (by decide) ?_
  refine lv_iconst (v := 0) hx hb dL_best_15 (by decide) ?_
  have hP9 := hP.sub (ws' := [(zo, .inl (cL, 1, .inr (.inl ((vp_updL fo 0 ((-1)))))))]) [2] rfl
  have hD9 := hD.sub (ws' := [(zo, .inl (cL, 1, .inr (.inl ((vp_updL fo 0 ((-1)))))))]) [2] (by decide) rfl
  have hK9 := hK.sub (tys' := [(cL, .long)]) [0] rfl
  refine vx_ret ?_
  exact W.iret (v := 0) hx hb hr (fun t ht hW => ⟨⟨_, (vp_updL fo 0 ((-1))), rfl, Or.inl ⟨hok, rfl, rfl⟩, by rw [ht]; exact hP9, va_K.moved hW.alike hK9, hD9⟩, hS.F ht⟩) hS.2.2 dL_best_16

set_option maxHeartbeats 4000000 in
set_option maxRecDepth 100000 in
theorem cl_build (l : Launch) (hnt : l.stackTraces = false) (dC : Nat → ClassId) (dI : Nat → Nat → Nat) (za : Int32) (zb : Int32) (zc : Int32) (ax : Nat) (av : Nat) (at_ : Nat) (adr : Nat) (ao : Nat) (aar : Nat) (ad0 : Nat) (d1 : Nat) (d2 : Nat) (d3 : Nat) (d4 : Nat) (d5 : Nat) (cD : ClassId) (fd : Nat → Option Nat) (zo : Nat) (cL : ClassId) (fo : Nat → Int64) (sz : Nat) : vx_Met l yL_build wsL_build ({ frames := 7, cells := 1, slots := 6, locals := 113 }) (va_Pc [.ref ax, .int za, .int zb, .int zc, .ref zo] (pY (dC, dI) [(ax, .inr (3, [.ref av, .ref at_])), (av, .inr (1, [.int 0, .int 0, .ref adr, .ref ao, .ref aar])), (adr, .inl (cD, 10, .inr (.inr (.inr (.inr (va_up fd 0 (some ad0))))))), (ad0, .inr (0, [.int 0, .int 0, .int 0, .int 0, .int 0, .int 0, .int 0, .int 0, .ref d1, .ref d2, .ref d3, .int 0, .ref d4, .ref d5])), (zo, .inl (cL, 1, .inr (.inl fo)))] [(cD, .object RX0), (cL, .long)] sz)) (va_Qi (fun (r : Int32) (u : Nat → Int64) => (vs_ok za zb zc ∧ r = 0 ∧ u 0 = 0) ∨ (¬ vs_ok za zb zc ∧ r = 1)) (fun u t => pB (dC, dI) (va_A [(ax, .inr (3, [.ref av, .ref at_])), (av, .inr (1, [.int 0, .int 0, .ref adr, .ref ao, .ref aar])), (adr, .inl (cD, 10, .inr (.inr (.inr (.inr (va_up fd 0 (some ad0))))))), (ad0, .inr (0, [.int 0, .int 0, .int 0, .int 0, .int 0, .int 0, .int 0, .int 0, .ref d1, .ref d2, .ref d3, .int 0, .ref d4, .ref d5])), (zo, .inl (cL, 1, .inr (.inl fo)))] sz) [(zo, .inl (cL, 1, .inr (.inl u)))] [(cL, .long)] t) (va_A [(ax, .inr (3, [.ref av, .ref at_])), (av, .inr (1, [.int 0, .int 0, .ref adr, .ref ao, .ref aar])), (adr, .inl (cD, 10, .inr (.inr (.inr (.inr (va_up fd 0 (some ad0))))))), (ad0, .inr (0, [.int 0, .int 0, .int 0, .int 0, .int 0, .int 0, .int 0, .int 0, .ref d1, .ref d2, .ref d3, .int 0, .ref d4, .ref d5])), (zo, .inl (cL, 1, .inr (.inl fo)))] sz)) (vx_X (fun (_ : Unit) => True) (fun E _ _ => False) (va_A [(ax, .inr (3, [.ref av, .ref at_])), (av, .inr (1, [.int 0, .int 0, .ref adr, .ref ao, .ref aar])), (adr, .inl (cD, 10, .inr (.inr (.inr (.inr (va_up fd 0 (some ad0))))))), (ad0, .inr (0, [.int 0, .int 0, .int 0, .int 0, .int 0, .int 0, .int 0, .int 0, .ref d1, .ref d2, .ref d3, .int 0, .ref d4, .ref d5])), (zo, .inl (cL, 1, .inr (.inl fo)))] sz)) 1 6 (va_A [(ax, .inr (3, [.ref av, .ref at_])), (av, .inr (1, [.int 0, .int 0, .ref adr, .ref ao, .ref aar])), (adr, .inl (cD, 10, .inr (.inr (.inr (.inr (va_up fd 0 (some ad0))))))), (ad0, .inr (0, [.int 0, .int 0, .int 0, .int 0, .int 0, .int 0, .int 0, .int 0, .ref d1, .ref d2, .ref d3, .int 0, .ref d4, .ref d5])), (zo, .inl (cL, 1, .inr (.inl fo)))] sz) := by
  refine vx_ofWH (cc := cL_build) (maxL := 6) (ret := (some .int)) (hh := [(0, 12, 15, 13), (0, 12, 19, 15)]) (by decide) rfl ?_
  intro p e s m args below meth c s₁ B hml hv
  obtain ⟨rfl, ⟨hsz, hP, hK, hD0⟩, hT⟩ := hv
  have hx := B.exec
  have hb := B.bytes
  have hr := B.returns
  have hts := atoms_spec (ws := wsL_build) B.pre
  have hown : s.vm.findClass RL = some m.cls := findClass_of_methodNamed B.named
  have hlocks := B.notSynchronized
  subst hsz
  have hD := hD0.self (sz := s.heap.size)
  generalize hAe : va_A [(ax, .inr (3, [.ref av, .ref at_])), (av, .inr (1, [.int 0, .int 0, .ref adr, .ref ao, .ref aar])), (adr, .inl (cD, 10, .inr (.inr (.inr (.inr (va_up fd 0 (some ad0))))))), (ad0, .inr (0, [.int 0, .int 0, .int 0, .int 0, .int 0, .int 0, .int 0, .int 0, .ref d1, .ref d2, .ref d3, .int 0, .ref d4, .ref d5])), (zo, .inl (cL, 1, .inr (.inl fo)))] s.heap.size = A at hD hT ⊢
  have hA : ∀ q : Nat, s.heap.size ≤ q → A q := fun q h => by rw [← hAe]; exact Or.inr h
  have hS : va_S A s.heap s.heap [] := va_S.rf
  have hP : va_P (dC, dI) vwCl [(ax, .inr (3, [.ref av, .ref at_])), (av, .inr (1, [.int 0, .int 0, .ref adr, .ref ao, .ref aar])), (adr, .inl (cD, 10, .inr (.inr (.inr (.inr (va_up fd 0 (some ad0))))))), (ad0, .inr (0, [.int 0, .int 0, .int 0, .int 0, .int 0, .int 0, .int 0, .int 0, .ref d1, .ref d2, .ref d3, .int 0, .ref d4, .ref d5])), (zo, .inl (cL, 1, .inr (.inl fo)))] s.heap := hP
  have hl := lv_entry ([.ref ax, .int za, .int zb, .int zc, .ref zo]) (n := 6) (Nat.le_of_ble_eq_true rfl)
  rw [lg_entry_eq]
  generalize (lg_sl ([.ref ax, .int za, .int zb, .int zc, .ref zo]) ++ List.replicate (6 - (lg_sl ([.ref ax, .int za, .int zb, .int zc, .ref zo])).length) Slot.unset).toArray = ls at hl ⊢
  have hl : lv_has ls 6 [(0, .ref ax), (1, .int za), (2, .int zb), (3, .int zc), (4, .ref zo)] := hl
  refine lv_aload hx hb dL_build_0 (lv_at hl 4 rfl) ?_
  refine lv_iconst (v := 0) hx hb dL_build_2 (by decide) ?_
  refine lv_aload_n hx hb dL_build_3 rfl (lv_at hl 0 rfl) ?_
  refine lv_iload_n hx hb dL_build_4 rfl (lv_at hl 1 rfl) ?_
  refine lv_iload_n hx hb dL_build_5 rfl (lv_at hl 2 rfl) ?_
  refine lv_iload_n hx hb dL_build_6 rfl (lv_at hl 3 rfl) ?_
  have htb := vx_table (x := yL_build) B (hts _ List.mem_cons_self)
  have hPc := hP.sub (ws' := [(ax, .inr (3, [.ref av, .ref at_])), (av, .inr (1, [.int 0, .int 0, .ref adr, .ref ao, .ref aar])), (adr, .inl (cD, 10, .inr (.inr (.inr (.inr (va_up fd 0 (some ad0))))))), (ad0, .inr (0, [.int 0, .int 0, .int 0, .int 0, .int 0, .int 0, .int 0, .int 0, .ref d1, .ref d2, .ref d3, .int 0, .ref d4, .ref d5]))]) [0, 1, 2, 3] rfl
  have hKc := hK.sub (tys' := [(cD, .object RX0)]) [0] rfl
  have hDc := hD.sub (ws' := [(ax, .inr (3, [.ref av, .ref at_])), (av, .inr (1, [.int 0, .int 0, .ref adr, .ref ao, .ref aar])), (adr, .inl (cD, 10, .inr (.inr (.inr (.inr (va_up fd 0 (some ad0))))))), (ad0, .inr (0, [.int 0, .int 0, .int 0, .int 0, .int 0, .int 0, .int 0, .int 0, .ref d1, .ref d2, .ref d3, .int 0, .ref d4, .ref d5]))]) [0, 1, 2, 3] (by decide) rfl
  have hFc := va_free (wc := [(ax, .inr (3, [.ref av, .ref at_])), (av, .inr (1, [.int 0, .int 0, .ref adr, .ref ao, .ref aar])), (adr, .inl (cD, 10, .inr (.inr (.inr (.inr (va_up fd 0 (some ad0))))))), (ad0, .inr (0, [.int 0, .int 0, .int 0, .int 0, .int 0, .int 0, .int 0, .int 0, .ref d1, .ref d2, .ref d3, .int 0, .ref d4, .ref d5]))]) hD hS hA [0, 1, 2, 3] rfl
  have hTc := (hT.kept hS).narrow hFc
  refine vx_calli (vx_runV (As := [.int za, .int zb, .int zc]) (rest := [.int 0, .ref zo]) ⟨hx, hb, hml, hown, hts⟩ (ct_X3_build l hnt dC dI za zb zc ax av at_ adr ao aar ad0 d1 d2 d3 d4 d5 cD fd s.heap.size) (cwV 3 hts gL_build_X3_build rfl rfl rfl (by decide +kernel) ⟨(Nat.le_of_ble_eq_true rfl), (Nat.le_of_ble_eq_true rfl)⟩) ⟨pY_blind, va_recv hKc hPc (ci := 3) (q0 := 0) rfl rfl, pY_pre hPc hDc hKc hTc⟩ rfl rfl hl.1 rfl (lv_room (Nat.le_of_ble_eq_true rfl)) dL_build_7 ⟨(Nat.le_of_ble_eq_true rfl), (Nat.le_of_ble_eq_true rfl)⟩) hS (fun q _ h => hFc q h) hFc (fun q _ h => hFc q h) (fun E ce q9 ux t H1 locs ht hvm hp hBX hz1 hk1 hS hce hcv hcl => ?_) (fun r_1 u_2 t H1 locs ht hvm hw hB hz1 hk1 hS => ?_)
  · obtain ⟨hP, hD⟩ := va_join (wr := [(zo, .inl (cL, 1, .inr (.inl fo)))]) (w1 := []) hP hD [0, 1, 2, 3] [4] rfl rfl (by decide) (by decide) hk1 hFc (fun k q h => by simp at h) ⟨fun i j p q h => by simp at h, fun k q h => by simp at h⟩
    generalize H1 = H at hP hS hce ⊢
    have hP : va_P (dC, dI) vwCl [(zo, .inl (cL, 1, .inr (.inl fo)))] H := hP
    have hD : va_D A [(zo, .inl (cL, 1, .inr (.inl fo)))] := hD
    refine vx_widen (k := 1) (n := 6) (by omega) (by omega) ?_
    obtain ⟨rfl, hbad⟩ := hBX
    refine vx_catch (own := RL) (name := vs_I) hown [] ⟨0, 12, 15, 13⟩ [⟨0, 12, 19, 15⟩] htb (fun z hz => nomatch hz) rfl (by decide) (hts (.classLink RL 13 vs_I) (List.mem_of_getElem? (i := 1) rfl)) (va_Nw.use rfl hT.2.1.1.1) hce hcv hcl ?_
    refine lv_astore (lv' := [(5, .ref q9), (0, .ref ax), (1, .int za), (2, .int zb), (3, .int zc), (4, .ref zo)]) hx hb dL_build_15 hl (by decide) rfl (fun ls hl => ?_)
    refine lv_iconst (v := 1) hx hb dL_build_17 (by decide) ?_
    have hP9 := hP.sub (ws' := [(zo, .inl (cL, 1, .inr (.inl ((fo)))))]) [0] rfl
    have hD9 := hD.sub (ws' := [(zo, .inl (cL, 1, .inr (.inl ((fo)))))]) [0] (by decide) rfl
    have hK9 := hK.sub (tys' := [(cL, .long)]) [1] rfl
    refine vx_ret ?_
    exact W.iret (v := 1) hx hb hr (fun t ht hW => ⟨⟨_, (fo), rfl, Or.inr ⟨hbad, rfl⟩, by rw [ht]; exact hP9, va_K.moved hW.alike hK9, hD9⟩, hS.F ht⟩) hS.2.2 dL_build_18
  obtain ⟨hP1, hK1, hD1⟩ := hB
  rw [ht] at hP1
  have hK1 := va_K.moved hvm.symm hK1
  obtain ⟨hP, hD⟩ := va_join (wr := [(zo, .inl (cL, 1, .inr (.inl fo)))]) (w1 := []) hP hD [0, 1, 2, 3] [4] rfl rfl (by decide) (by decide) hk1 hFc hP1 hD1
  generalize H1 = H at hP hS ⊢
  have hP : va_P (dC, dI) vwCl [(zo, .inl (cL, 1, .inr (.inl fo)))] H := hP
  have hD : va_D A [(zo, .inl (cL, 1, .inr (.inl fo)))] := hD
  have hK : va_K (dC, dI) vwCl [(cD, .object RX0), (cL, .long)] _ := hK
  refine W.widen (k := 1) (n := 6) (by omega) (by omega) ?_
  have hw_3 : r_1 = 0 ∧ vs_ok za zb zc := hw
  obtain ⟨hrv, hok⟩ := hw_3
  subst hrv
  refine lv_i2l (v := 0) hx hb dL_build_10 (by decide) ?_
  refine va_last (D := (dC, dI)) hx hb hK hP hD hS 0 1 rfl rfl (i := 0) (x := 0) (vs_vi (by decide)) dL_build_11 (fun H locs hP hD hS => ?_)
  have hP : va_P (dC, dI) vwCl [(zo, .inl (cL, 1, .inr (.inl (vp_updL fo 0 0))))] H := hP
  have hD : va_D A [(zo, .inl (cL, 1, .inr (.inl (vp_updL fo 0 0))))] := hD
  refine lv_goto (tgt := 23) hx hb dL_build_12 (by decide) ?_
  refine lv_iconst (v := 0) hx hb dL_build_23 (by decide) ?_
  have hP9 := hP.sub (ws' := [(zo, .inl (cL, 1, .inr (.inl ((vp_updL fo 0 0)))))]) [0] rfl
  have hD9 := hD.sub (ws' := [(zo, .inl (cL, 1, .inr (.inl ((vp_updL fo 0 0)))))]) [0] (by decide) rfl
  have hK9 := hK.sub (tys' := [(cL, .long)]) [1] rfl
  refine vx_ret ?_
  exact W.iret (v := 0) hx hb hr (fun t ht hW => ⟨⟨_, (vp_updL fo 0 0), rfl, Or.inl ⟨hok, rfl, rfl⟩, by rw [ht]; exact hP9, va_K.moved hW.alike hK9, hD9⟩, hS.F ht⟩) hS.2.2 dL_build_24
