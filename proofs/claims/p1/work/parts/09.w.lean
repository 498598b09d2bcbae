theorem in_X4_listen_X4 : ∀ w ∈ wsX40, w ∈ wsX4_listen := by decide +kernel
set_option maxHeartbeats 4000000 in
set_option maxRecDepth 100000 in
theorem ct_X4_listen (l : Launch) (dC : Nat → ClassId) (dI : Nat → Nat → Nat) (th : Int32) (am : Nat) (m1 : Nat) (m2 : Nat) (m3 : Nat) (m4 : Nat) (m5 : Nat) (m6 : Nat) (cN : ClassId) (g5 : Nat → Int32) (sz : Nat) : Met l yX4_listen wsX4_listen ({ frames := 0, cells := 0, slots := 0, locals := 0 }) (va_Pc [.ref am] (pZ (dC, dI) [(am, .inr (4, [.int th, .int 0, .ref m1, .ref m2, .ref m3, .ref m4, .ref m5, .ref m6])), (m5, .inl (cN, 3, .inl (upd g5 1 0)))] [(cN, .int)] sz)) (va_Qv (fun (_ : Unit) => True) (fun _ t => ∃ (gg : Nat → Int32), pB (dC, dI) (va_A [(am, .inr (4, [.int th, .int 0, .ref m1, .ref m2, .ref m3, .ref m4, .ref m5, .ref m6])), (m5, .inl (cN, 3, .inl (upd g5 1 0)))] sz) [(am, .inr (4, [.int th, .int 0, .ref m1, .ref m2, .ref m3, .ref m4, .ref m5, .ref m6])), (m5, .inl (cN, 3, .inl (upd gg 1 0)))] [(cN, .int)] t) (va_A [(am, .inr (4, [.int th, .int 0, .ref m1, .ref m2, .ref m3, .ref m4, .ref m5, .ref m6])), (m5, .inl (cN, 3, .inl (upd g5 1 0)))] sz)) 0 0 (va_A [(am, .inr (4, [.int th, .int 0, .ref m1, .ref m2, .ref m3, .ref m4, .ref m5, .ref m6])), (m5, .inl (cN, 3, .inl (upd g5 1 0)))] sz) := by
  refine Met.ofW (cc := cX4_listen) (maxL := 4) (ret := none) (by decide) rfl ?_
  intro p e s m args below meth c s₁ B hml hv
  obtain ⟨rfl, hsz, hP, hK, hD0⟩ := hv
  have hx := B.exec
  have hb := B.bytes
  have hr := B.returns
  have hts := atoms_spec (ws := wsX4_listen) B.pre
  have hown : s.vm.findClass RX4 = some m.cls := findClass_of_methodNamed B.named
  have hlocks := B.notSynchronized
  subst hsz
  have hD := hD0.self (sz := s.heap.size)
  generalize hAe : va_A [(am, .inr (4, [.int th, .int 0, .ref m1, .ref m2, .ref m3, .ref m4, .ref m5, .ref m6])), (m5, .inl (cN, 3, .inl (upd g5 1 0)))] s.heap.size = A at hD ⊢
  have hA : ∀ q : Nat, s.heap.size ≤ q → A q := fun q h => by rw [← hAe]; exact Or.inr h
  have hS : va_S A s.heap s.heap [] := va_S.rf
  have hP : va_P (dC, dI) vwCl [(am, .inr (4, [.int th, .int 0, .ref m1, .ref m2, .ref m3, .ref m4, .ref m5, .ref m6])), (m5, .inl (cN, 3, .inl (upd g5 1 0)))] s.heap := hP
  have hl := lv_entry ([.ref am]) (n := 4) (Nat.le_of_ble_eq_true rfl)
  rw [lg_entry_eq]
  generalize (lg_sl ([.ref am]) ++ List.replicate (4 - (lg_sl ([.ref am])).length) Slot.unset).toArray = ls at hl ⊢
  have hl : lv_has ls 4 [(0, .ref am)] := hl
  refine lv_iconst (v := 0) hx hb dX4_listen_0 (by decide) ?_
  refine lv_istore_n (lv' := [(1, .int 0), (0, .ref am)]) hx hb dX4_listen_1 rfl hl (by decide) rfl (fun ls hl => ?_)
  refine lv_iconst (v := 0) hx hb dX4_listen_2 (by decide) ?_
  refine lv_istore_n (lv' := [(2, .int 0), (1, .int 0), (0, .ref am)]) hx hb dX4_listen_3 rfl hl (by decide) rfl (fun ls hl => ?_)
  refine lv_iconst (v := 0) hx hb dX4_listen_4 (by decide) ?_
  refine lv_istore_n (lv' := [(3, .int 0), (2, .int 0), (1, .int 0), (0, .ref am)]) hx hb dX4_listen_5 rfl hl (by decide) rfl (fun ls hl => ?_)
  refine lv_iload_n hx hb dX4_listen_6 rfl (lv_at hl 0 rfl) ?_
  refine lv_aload_n hx hb dX4_listen_7 rfl (lv_at hl 3 rfl) ?_
  refine va_get (D := (dC, dI)) (ci := 4) (v := .ref m5) (C := RX4) (T := TX4) (N := 8) hx hb hts in_X4_listen_X4 hown hK hP 0 rfl rfl 6 (by decide) (hts (.fieldLink RX4 22 "VaultDoorsModel" "numbers" "[I") (List.mem_of_getElem? (i := 1) rfl)) (fun _ h9 => h9) rfl dX4_listen_8 ?_
  refine lv_iconst (v := 1) hx hb dX4_listen_11 (by decide) ?_
  refine va_iald (D := (dC, dI)) hx hb hK hP 1 0 rfl rfl (i := 1) (vs_vi (by decide)) dX4_listen_12 ?_
  refine W.eq (g2 := F0 m 13 ls [.int 0, .int 0]) rfl ?_
  refine lv_icmp_ge (tgt := 94) hx hb dX4_listen_13 (by decide) (fun _ => ?_) (fun h => absurd h (by decide))
  refine lv_aload_n hx hb dX4_listen_94 rfl (lv_at hl 3 rfl) ?_
  refine va_get (D := (dC, dI)) (ci := 4) (v := .ref m5) (C := RX4) (T := TX4) (N := 8) hx hb hts in_X4_listen_X4 hown hK hP 0 rfl rfl 6 (by decide) (hts (.fieldLink RX4 22 "VaultDoorsModel" "numbers" "[I") (List.mem_of_getElem? (i := 1) rfl)) (fun _ h9 => h9) rfl dX4_listen_95 ?_
  refine lv_iconst (v := 1) hx hb dX4_listen_98 (by decide) ?_
  refine lv_iload_n hx hb dX4_listen_99 rfl (lv_at hl 1 rfl) ?_
  refine va_iast (D := (dC, dI)) hx hb hK hP hD hS 1 0 rfl rfl (i := 1) (x := 0) (vs_vi (by decide)) dX4_listen_100 (fun H locs hP hD hS => ?_)
  have hP : va_P (dC, dI) vwCl [(am, .inr (4, [.int th, .int 0, .ref m1, .ref m2, .ref m3, .ref m4, .ref m5, .ref m6])), (m5, .inl (cN, 3, .inl (upd (upd g5 1 0) 1 0)))] H := hP
  have hD : va_D A [(am, .inr (4, [.int th, .int 0, .ref m1, .ref m2, .ref m3, .ref m4, .ref m5, .ref m6])), (m5, .inl (cN, 3, .inl (upd (upd g5 1 0) 1 0)))] := hD
  refine lv_iconst (v := 0) hx hb dX4_listen_101 (by decide) ?_
  refine lv_istore_n (lv' := [(3, .int 0), (2, .int 0), (1, .int 0), (0, .ref am)]) hx hb dX4_listen_102 rfl hl (by decide) rfl (fun ls hl => ?_)
  refine lv_iload_n hx hb dX4_listen_103 rfl (lv_at hl 0 rfl) ?_
  refine lv_iload_n hx hb dX4_listen_104 rfl (lv_at hl 2 rfl) ?_
  refine lv_icmp_ge (tgt := 119) hx hb dX4_listen_105 (by decide) (fun _ => ?_) (fun h => absurd h (by decide))
  have hP9 := hP.sub (ws' := [(am, .inr (4, [.int th, .int 0, .ref m1, .ref m2, .ref m3, .ref m4, .ref m5, .ref m6])), (m5, .inl (cN, 3, .inl (upd ((upd g5 1 0)) 1 0)))]) [0, 1] rfl
  have hD9 := hD.sub (ws' := [(am, .inr (4, [.int th, .int 0, .ref m1, .ref m2, .ref m3, .ref m4, .ref m5, .ref m6])), (m5, .inl (cN, 3, .inl (upd ((upd g5 1 0)) 1 0)))]) [0, 1] (by decide) rfl
  have hK9 := hK.sub (tys' := [(cN, .int)]) [0] rfl
  exact W.vret hx hb hr (fun t ht hW => ⟨⟨(), rfl, trivial, (upd g5 1 0), by rw [ht]; exact hP9, va_K.moved hW.alike hK9, hD9⟩, hS.F ht⟩) hS.2.2 dX4_listen_119

theorem in_X4_tickOn_X4 : ∀ w ∈ wsX40, w ∈ wsX4_tickOn := by decide +kernel
set_option maxHeartbeats 4000000 in
set_option maxRecDepth 100000 in
theorem ct_X4_tickOn (l : Launch) (dC : Nat → ClassId) (dI : Nat → Nat → Nat) (th : Int32) (am : Nat) (m1 : Nat) (m2 : Nat) (m3 : Nat) (m4 : Nat) (m5 : Nat) (m6 : Nat) (cN : ClassId) (g5 : Nat → Int32) (sz : Nat) : Met l yX4_tickOn wsX4_tickOn ({ frames := 1, cells := 0, slots := 0, locals := 23 }) (va_Pc [.ref am] (pZ (dC, dI) [(am, .inr (4, [.int th, .int 0, .ref m1, .ref m2, .ref m3, .ref m4, .ref m5, .ref m6])), (m5, .inl (cN, 3, .inl (upd g5 1 0)))] [(cN, .int)] sz)) (va_Qi (fun (r : Int32) (_ : Unit) => r = 0) (fun _ t => ∃ (gg : Nat → Int32), pB (dC, dI) (va_A [(am, .inr (4, [.int th, .int 0, .ref m1, .ref m2, .ref m3, .ref m4, .ref m5, .ref m6])), (m5, .inl (cN, 3, .inl (upd g5 1 0)))] sz) [(am, .inr (4, [.int th, .int 0, .ref m1, .ref m2, .ref m3, .ref m4, .ref m5, .ref m6])), (m5, .inl (cN, 3, .inl (upd gg 1 0)))] [(cN, .int)] t) (va_A [(am, .inr (4, [.int th, .int 0, .ref m1, .ref m2, .ref m3, .ref m4, .ref m5, .ref m6])), (m5, .inl (cN, 3, .inl (upd g5 1 0)))] sz)) 0 0 (va_A [(am, .inr (4, [.int th, .int 0, .ref m1, .ref m2, .ref m3, .ref m4, .ref m5, .ref m6])), (m5, .inl (cN, 3, .inl (upd g5 1 0)))] sz) := by
  refine Met.ofW (cc := cX4_tickOn) (maxL := 3) (ret := (some .int)) (by decide) rfl ?_
  intro p e s m args below meth c s₁ B hml hv
  obtain ⟨rfl, hsz, hP, hK, hD0⟩ := hv
  have hx := B.exec
  have hb := B.bytes
  have hr := B.returns
  have hts := atoms_spec (ws := wsX4_tickOn) B.pre
  have hown : s.vm.findClass RX4 = some m.cls := findClass_of_methodNamed B.named
  have hlocks := B.notSynchronized
  subst hsz
  have hD := hD0.self (sz := s.heap.size)
  generalize hAe : va_A [(am, .inr (4, [.int th, .int 0, .ref m1, .ref m2, .ref m3, .ref m4, .ref m5, .ref m6])), (m5, .inl (cN, 3, .inl (upd g5 1 0)))] s.heap.size = A at hD ⊢
  have hA : ∀ q : Nat, s.heap.size ≤ q → A q := fun q h => by rw [← hAe]; exact Or.inr h
  have hS : va_S A s.heap s.heap [] := va_S.rf
  have hP : va_P (dC, dI) vwCl [(am, .inr (4, [.int th, .int 0, .ref m1, .ref m2, .ref m3, .ref m4, .ref m5, .ref m6])), (m5, .inl (cN, 3, .inl (upd g5 1 0)))] s.heap := hP
  have hl := lv_entry ([.ref am]) (n := 3) (Nat.le_of_ble_eq_true rfl)
  rw [lg_entry_eq]
  generalize (lg_sl ([.ref am]) ++ List.replicate (3 - (lg_sl ([.ref am])).length) Slot.unset).toArray = ls at hl ⊢
  have hl : lv_has ls 3 [(0, .ref am)] := hl
  refine lv_iconst (v := 0) hx hb dX4_tickOn_0 (by decide) ?_
  refine lv_istore_n (lv' := [(1, .int 0), (0, .ref am)]) hx hb dX4_tickOn_1 rfl hl (by decide) rfl (fun ls hl => ?_)
  refine lv_iconst (v := 0) hx hb dX4_tickOn_2 (by decide) ?_
  refine lv_istore_n (lv' := [(2, .int 0), (1, .int 0), (0, .ref am)]) hx hb dX4_tickOn_3 rfl hl (by decide) rfl (fun ls hl => ?_)
  refine lv_iload_n hx hb dX4_tickOn_4 rfl (lv_at hl 0 rfl) ?_
  refine lv_aload_n hx hb dX4_tickOn_5 rfl (lv_at hl 2 rfl) ?_
  refine va_get (D := (dC, dI)) (ci := 4) (v := .int 0) (C := RX4) (T := TX4) (N := 8) hx hb hts in_X4_tickOn_X4 hown hK hP 0 rfl rfl 1 (by decide) (hts (.fieldLink RX4 32 "VaultDoorsModel" "doors" "I") (List.mem_of_getElem? (i := 1) rfl)) (fun _ h9 => h9) rfl dX4_tickOn_6 ?_
  refine lv_icmp_ge (tgt := 71) hx hb dX4_tickOn_9 (by decide) (fun _ => ?_) (fun h => absurd h (by decide))
  refine lv_aload_n hx hb dX4_tickOn_71 rfl (lv_at hl 2 rfl) ?_
  have hPc := hP.sub (ws' := [(am, .inr (4, [.int th, .int 0, .ref m1, .ref m2, .ref m3, .ref m4, .ref m5, .ref m6])), (m5, .inl (cN, 3, .inl (upd g5 1 0)))]) [0, 1] rfl
  have hKc := hK.sub (tys' := [(cN, .int)]) [0] rfl
  have hDc := hD.sub (ws' := [(am, .inr (4, [.int th, .int 0, .ref m1, .ref m2, .ref m3, .ref m4, .ref m5, .ref m6])), (m5, .inl (cN, 3, .inl (upd g5 1 0)))]) [0, 1] (by decide) rfl
  have hFc := va_free (wc := [(am, .inr (4, [.int th, .int 0, .ref m1, .ref m2, .ref m3, .ref m4, .ref m5, .ref m6])), (m5, .inl (cN, 3, .inl (upd g5 1 0)))]) hD hS hA [0, 1] rfl
  refine va_callv (va_runV (As := []) (rest := []) ⟨hx, hb, hml, hown, hts⟩ (ct_X4_listen l dC dI th am m1 m2 m3 m4 m5 m6 cN g5 s.heap.size) (cwV 0 hts gX4_tickOn_X4_listen rfl rfl rfl (by decide +kernel) ⟨(Nat.le_of_ble_eq_true rfl), (Nat.le_of_ble_eq_true rfl)⟩) ⟨pZ_blind, va_recv hKc hPc (ci := 4) (q0 := 0) rfl rfl, pZ_pre hPc hDc hKc⟩ rfl rfl hl.1 rfl (lv_room (Nat.le_of_ble_eq_true rfl)) dX4_tickOn_72 ⟨(Nat.le_of_ble_eq_true rfl), (Nat.le_of_ble_eq_true rfl)⟩) hS (fun q _ h => hFc q h) hFc (fun u_2 t H1 locs ht hvm hw hB hz1 hk1 hS => ?_)
  obtain ⟨gg_3, hP1, hK1, hD1⟩ := hB
  rw [ht] at hP1
  have hK1 := va_K.moved hvm.symm hK1
  obtain ⟨hP, hD⟩ := va_join (wr := []) (w1 := [(am, .inr (4, [.int th, .int 0, .ref m1, .ref m2, .ref m3, .ref m4, .ref m5, .ref m6])), (m5, .inl (cN, 3, .inl (upd gg_3 1 0)))]) hP hD [0, 1] [] rfl rfl (by decide) (by decide) hk1 hFc hP1 hD1
  generalize H1 = H at hP hS ⊢
  have hP : va_P (dC, dI) vwCl [(am, .inr (4, [.int th, .int 0, .ref m1, .ref m2, .ref m3, .ref m4, .ref m5, .ref m6])), (m5, .inl (cN, 3, .inl (upd gg_3 1 0)))] H := hP
  have hD : va_D A [(am, .inr (4, [.int th, .int 0, .ref m1, .ref m2, .ref m3, .ref m4, .ref m5, .ref m6])), (m5, .inl (cN, 3, .inl (upd gg_3 1 0)))] := hD
  have hK : va_K (dC, dI) vwCl [(cN, .int)] _ := hK
  refine lv_iconst (v := 0) hx hb dX4_tickOn_75 (by decide) ?_
  refine lv_istore_n (lv' := [(2, .int 0), (1, .int 0), (0, .ref am)]) hx hb dX4_tickOn_76 rfl hl (by decide) rfl (fun ls hl => ?_)
  refine lv_iload_n hx hb dX4_tickOn_77 rfl (lv_at hl 0 rfl) ?_
  refine lv_aload_n hx hb dX4_tickOn_78 rfl (lv_at hl 2 rfl) ?_
  refine va_get (D := (dC, dI)) (ci := 4) (v := .int 0) (C := RX4) (T := TX4) (N := 8) hx hb hts in_X4_tickOn_X4 hown hK hP 0 rfl rfl 1 (by decide) (hts (.fieldLink RX4 32 "VaultDoorsModel" "doors" "I") (List.mem_of_getElem? (i := 1) rfl)) (fun _ h9 => h9) rfl dX4_tickOn_79 ?_
  refine lv_icmp_ge (tgt := 158) hx hb dX4_tickOn_82 (by decide) (fun _ => ?_) (fun h => absurd h (by decide))
  refine lv_aload_n hx hb dX4_tickOn_158 rfl (lv_at hl 2 rfl) ?_
  refine va_get (D := (dC, dI)) (ci := 4) (v := .ref m5) (C := RX4) (T := TX4) (N := 8) hx hb hts in_X4_tickOn_X4 hown hK hP 0 rfl rfl 6 (by decide) (hts (.fieldLink RX4 22 "VaultDoorsModel" "numbers" "[I") (List.mem_of_getElem? (i := 2) rfl)) (fun _ h9 => h9) rfl dX4_tickOn_159 ?_
  refine lv_iconst (v := 0) hx hb dX4_tickOn_162 (by decide) ?_
  refine lv_dup2_11 hx hb dX4_tickOn_163 rfl rfl ?_
  refine va_iald (D := (dC, dI)) hx hb hK hP 1 0 rfl rfl (i := 0) (vs_vi (by decide)) dX4_tickOn_164 ?_
  refine W.eq (g2 := F0 m 165 ls [.int (gg_3 0), .int 0, .ref m5]) rfl ?_
  refine lv_iconst (v := 1) hx hb dX4_tickOn_165 (by decide) ?_
  refine lv_iadd hx hb dX4_tickOn_166 ?_
  refine va_iast (D := (dC, dI)) hx hb hK hP hD hS 1 0 rfl rfl (i := 0) (x := (gg_3 0) + 1) (vs_vi (by decide)) dX4_tickOn_167 (fun H locs hP hD hS => ?_)
  have hP : va_P (dC, dI) vwCl [(am, .inr (4, [.int th, .int 0, .ref m1, .ref m2, .ref m3, .ref m4, .ref m5, .ref m6])), (m5, .inl (cN, 3, .inl (upd (upd gg_3 1 0) 0 ((gg_3 0) + 1))))] H := hP
  have hD : va_D A [(am, .inr (4, [.int th, .int 0, .ref m1, .ref m2, .ref m3, .ref m4, .ref m5, .ref m6])), (m5, .inl (cN, 3, .inl (upd (upd gg_3 1 0) 0 ((gg_3 0) + 1))))] := hD
  refine lv_iload_n hx hb dX4_tickOn_168 rfl (lv_at hl 1 rfl) ?_
  rw [vs_uc] at hP hD
  have hP9 := hP.sub (ws' := [(am, .inr (4, [.int th, .int 0, .ref m1, .ref m2, .ref m3, .ref m4, .ref m5, .ref m6])), (m5, .inl (cN, 3, .inl (upd ((upd gg_3 0 ((gg_3 0) + 1))) 1 0)))]) [0, 1] rfl
  have hD9 := hD.sub (ws' := [(am, .inr (4, [.int th, .int 0, .ref m1, .ref m2, .ref m3, .ref m4, .ref m5, .ref m6])), (m5, .inl (cN, 3, .inl (upd ((upd gg_3 0 ((gg_3 0) + 1))) 1 0)))]) [0, 1] (by decide) rfl
  have hK9 := hK.sub (tys' := [(cN, .int)]) [0] rfl
  exact W.iret (v := 0) hx hb hr (fun t ht hW => ⟨⟨_, (), rfl, rfl, (upd gg_3 0 ((gg_3 0) + 1)), by rw [ht]; exact hP9, va_K.moved hW.alike hK9, hD9⟩, hS.F ht⟩) hS.2.2 dX4_tickOn_169

theorem in_X4_pass_X4 : ∀ w ∈ wsX40, w ∈ wsX4_pass := by decide +kernel
set_option maxHeartbeats 4000000 in
set_option maxRecDepth 100000 in
theorem ct_X4_pass (l : Launch) (dC : Nat → ClassId) (dI : Nat → Nat → Nat) (th : Int32) (za : Int32) (am : Nat) (m1 : Nat) (m2 : Nat) (m3 : Nat) (m4 : Nat) (m5 : Nat) (m6 : Nat) (cN : ClassId) (sz : Nat) : Met l yX4_pass wsX4_pass ({ frames := 2, cells := 0, slots := 0, locals := 45 }) (va_Pc [.ref am, .int za] (pZ (dC, dI) [(am, .inr (4, [.int th, .int 0, .ref m1, .ref m2, .ref m3, .ref m4, .ref m5, .ref m6])), (m5, .inl (cN, 3, .inl (fun _ => 0)))] [(cN, .int)] sz)) (va_Qi (fun (r : Int32) (u : Int32) => r = 0 ∧ ((vs_in za 1 200 = 0 ∧ u = 1) ∨ (¬ vs_in za 1 200 = 0 ∧ u = 0))) (fun u t => pB (dC, dI) (va_A [(am, .inr (4, [.int th, .int 0, .ref m1, .ref m2, .ref m3, .ref m4, .ref m5, .ref m6])), (m5, .inl (cN, 3, .inl (fun _ => 0)))] sz) [(am, .inr (4, [.int u, .int 0, .ref m1, .ref m2, .ref m3, .ref m4, .ref m5, .ref m6]))] [] t) (va_A [(am, .inr (4, [.int th, .int 0, .ref m1, .ref m2, .ref m3, .ref m4, .ref m5, .ref m6])), (m5, .inl (cN, 3, .inl (fun _ => 0)))] sz)) 0 0 (va_A [(am, .inr (4, [.int th, .int 0, .ref m1, .ref m2, .ref m3, .ref m4, .ref m5, .ref m6])), (m5, .inl (cN, 3, .inl (fun _ => 0)))] sz) := by
  refine Met.ofW (cc := cX4_pass) (maxL := 4) (ret := (some .int)) (by decide) rfl ?_
  intro p e s m args below meth c s₁ B hml hv
  obtain ⟨rfl, hsz, hP, hK, hD0⟩ := hv
  have hx := B.exec
  have hb := B.bytes
  have hr := B.returns
  have hts := atoms_spec (ws := wsX4_pass) B.pre
  have hown : s.vm.findClass RX4 = some m.cls := findClass_of_methodNamed B.named
  have hlocks := B.notSynchronized
  subst hsz
  have hD := hD0.self (sz := s.heap.size)
  generalize hAe : va_A [(am, .inr (4, [.int th, .int 0, .ref m1, .ref m2, .ref m3, .ref m4, .ref m5, .ref m6])), (m5, .inl (cN, 3, .inl (fun _ => 0)))] s.heap.size = A at hD ⊢
  have hA : ∀ q : Nat, s.heap.size ≤ q → A q := fun q h => by rw [← hAe]; exact Or.inr h
  have hS : va_S A s.heap s.heap [] := va_S.rf
  have hP : va_P (dC, dI) vwCl [(am, .inr (4, [.int th, .int 0, .ref m1, .ref m2, .ref m3, .ref m4, .ref m5, .ref m6])), (m5, .inl (cN, 3, .inl (fun _ => 0)))] s.heap := hP
  have hl := lv_entry ([.ref am, .int za]) (n := 4) (Nat.le_of_ble_eq_true rfl)
  rw [lg_entry_eq]
  generalize (lg_sl ([.ref am, .int za]) ++ List.replicate (4 - (lg_sl ([.ref am, .int za])).length) Slot.unset).toArray = ls at hl ⊢
  have hl : lv_has ls 4 [(0, .ref am), (1, .int za)] := hl
  refine lv_aload_n hx hb dX4_pass_0 rfl (lv_at hl 0 rfl) ?_
  refine lv_iconst (v := 0) hx hb dX4_pass_1 (by decide) ?_
  refine va_put (D := (dC, dI)) (ci := 4) (v := .int 0) (ty := .int) (C := RX4) (T := TX4) (N := 8) hx hb hts in_X4_pass_X4 tyX4 tyX4_ok nmX4 hown hK hP hD hS 0 rfl rfl 0 (by decide) (hts (.fieldLink RX4 28 "VaultDoorsModel" "thrown" "I") (List.mem_of_getElem? (i := 1) rfl)) (fun _ h9 => h9) rfl (by decide +kernel) rfl rfl (Nat.le_of_ble_eq_true rfl) dX4_pass_2 (fun H locs hP hD hS => ?_)
  have hP : va_P (dC, dI) vwCl [(am, .inr (4, [.int 0, .int 0, .ref m1, .ref m2, .ref m3, .ref m4, .ref m5, .ref m6])), (m5, .inl (cN, 3, .inl (fun _ => 0)))] H := hP
  have hD : va_D A [(am, .inr (4, [.int 0, .int 0, .ref m1, .ref m2, .ref m3, .ref m4, .ref m5, .ref m6])), (m5, .inl (cN, 3, .inl (fun _ => 0)))] := hD
  refine lv_iload_n hx hb dX4_pass_5 rfl (lv_at hl 1 rfl) ?_
  refine lv_iconst (v := 1) hx hb dX4_pass_6 (by decide) ?_
  refine lv_sipush (v := 200) hx hb dX4_pass_7 (by decide) ?_
  have hPc := hP.sub (ws' := []) [] rfl
  have hKc := hK.sub (tys' := []) [] rfl
  refine va_calli (va_runS (As := [.int za, .int 1, .int 200]) (rest := []) ⟨hx, hb, hml, hown, hts⟩ (ct_X4_isIn l dC dI za 1 200) (va_cwS 3 hts gX4_pass_X4_isIn rfl rfl rfl (by decide +kernel) ⟨(Nat.le_of_ble_eq_true rfl), (Nat.le_of_ble_eq_true rfl)⟩) ⟨pR_blind, pR_pre hPc hKc⟩ rfl rfl hl.1 rfl (lv_room (Nat.le_of_ble_eq_true rfl)) dX4_pass_10 ⟨(Nat.le_of_ble_eq_true rfl), (Nat.le_of_ble_eq_true rfl)⟩) hS (fun q _ h => h.elim) (fun q h => h.elim) (fun r_1 u_2 t H1 locs ht hvm hw hB hz1 hk1 hS => ?_)
  have hP := hP.kept (fun k q hk => hk1 q.1 (hP k q hk).lt (fun h => h))
  generalize H1 = H at hP hS ⊢
  have hw : r_1 = vs_in za 1 200 := hw
  subst hw
  refine lv_if_ne (tgt := 22) hx hb dX4_pass_13 (by decide) (fun c_3 => ?_) (fun c_3 => ?_)
  · refine lv_iconst (v := 0) hx hb dX4_pass_22 (by decide) ?_
    refine lv_istore_n (lv' := [(2, .int 0), (0, .ref am), (1, .int za)]) hx hb dX4_pass_23 rfl hl (by decide) rfl (fun ls hl => ?_)
    refine lv_iconst (v := 0) hx hb dX4_pass_24 (by decide) ?_
    refine lv_istore_n (lv' := [(3, .int 0), (2, .int 0), (0, .ref am), (1, .int za)]) hx hb dX4_pass_25 rfl hl (by decide) rfl (fun ls hl => ?_)
    rw [vs_u0] at hP hD
    have hP : va_P (dC, dI) vwCl [(am, .inr (4, [.int 0, .int 0, .ref m1, .ref m2, .ref m3, .ref m4, .ref m5, .ref m6])), (m5, .inl (cN, 3, .inl (upd (fun _ => 0) 1 0)))] H := hP
    have hD : va_D A [(am, .inr (4, [.int 0, .int 0, .ref m1, .ref m2, .ref m3, .ref m4, .ref m5, .ref m6])), (m5, .inl (cN, 3, .inl (upd (fun _ => 0) 1 0)))] := hD
    have hloop : ∀ (n : Nat) (g5 : Nat → Int32) (i0 : Int32) (H : Heap) (locs : List Loc) (ls : Array Slot), ((za.toInt - i0.toInt).toNat < n) → va_P (dC, dI) vwCl [(am, .inr (4, [.int 0, .int 0, .ref m1, .ref m2, .ref m3, .ref m4, .ref m5, .ref m6])), (m5, .inl (cN, 3, .inl (upd g5 1 0)))] H → va_D A [(am, .inr (4, [.int 0, .int 0, .ref m1, .ref m2, .ref m3, .ref m4, .ref m5, .ref m6])), (m5, .inl (cN, 3, .inl (upd g5 1 0)))] → va_S A s.heap H locs → lv_has ls 4 [(0, .ref am), (1, .int za), (2, .int 0), (3, .int i0)] → W p l e (headSpec wsX4_pass ({ frames := 2, cells := 0, slots := 0, locals := 45 } : Room)).room s m ([.ref am, .int za] : List Value).toArray below meth c H locs 0 0 (MQ below (va_Qi (fun (r : Int32) (u : Int32) => r = 0 ∧ ((vs_in za 1 200 = 0 ∧ u = 1) ∨ (¬ vs_in za 1 200 = 0 ∧ u = 0))) (fun u t => pB (dC, dI) A [(am, .inr (4, [.int u, .int 0, .ref m1, .ref m2, .ref m3, .ref m4, .ref m5, .ref m6]))] [] t) A) ([.ref am, .int za] : List Value).toArray s 0 0 A) (F0 m 26 ls []) := by
      intro n
      induction n with
      | zero => intro g5 i0 H locs ls hn; exact absurd hn (Nat.not_lt_zero _)
      | succ n ih =>
        intro g5 i0 H locs ls hn hP hD hS hl
        refine lv_iload_n hx hb dX4_pass_26 rfl (lv_at hl 3 rfl) ?_
        refine lv_iload_n hx hb dX4_pass_27 rfl (lv_at hl 1 rfl) ?_
        refine lv_icmp_ge (tgt := 44) hx hb dX4_pass_28 (by decide) (fun c_4 => ?_) (fun c_4 => ?_)
        · refine lv_iload_n hx hb dX4_pass_44 rfl (lv_at hl 2 rfl) ?_
          have hP9 := hP.sub (ws' := [(am, .inr (4, [.int 0, .int 0, .ref m1, .ref m2, .ref m3, .ref m4, .ref m5, .ref m6]))]) [0] rfl
          have hD9 := hD.sub (ws' := [(am, .inr (4, [.int 0, .int 0, .ref m1, .ref m2, .ref m3, .ref m4, .ref m5, .ref m6]))]) [0] (by decide) rfl
          have hK9 := hK.sub (tys' := []) [] rfl
          exact W.iret (v := 0) hx hb hr (fun t ht hW => ⟨⟨_, 0, rfl, ⟨rfl, Or.inr ⟨c_3, rfl⟩⟩, by rw [ht]; exact hP9, va_K.moved hW.alike hK9, hD9⟩, hS.F ht⟩) hS.2.2 dX4_pass_45
        · refine lv_iload_n hx hb dX4_pass_31 rfl (lv_at hl 2 rfl) ?_
          refine lv_aload_n hx hb dX4_pass_32 rfl (lv_at hl 0 rfl) ?_
          have hPc := hP.sub (ws' := [(am, .inr (4, [.int 0, .int 0, .ref m1, .ref m2, .ref m3, .ref m4, .ref m5, .ref m6])), (m5, .inl (cN, 3, .inl (upd g5 1 0)))]) [0, 1] rfl
          have hKc := hK.sub (tys' := [(cN, .int)]) [0] rfl
          have hDc := hD.sub (ws' := [(am, .inr (4, [.int 0, .int 0, .ref m1, .ref m2, .ref m3, .ref m4, .ref m5, .ref m6])), (m5, .inl (cN, 3, .inl (upd g5 1 0)))]) [0, 1] (by decide) rfl
          have hFc := va_free (wc := [(am, .inr (4, [.int 0, .int 0, .ref m1, .ref m2, .ref m3, .ref m4, .ref m5, .ref m6])), (m5, .inl (cN, 3, .inl (upd g5 1 0)))]) hD hS hA [0, 1] rfl
          refine va_calli (va_runV (As := []) (rest := [.int 0]) ⟨hx, hb, hml, hown, hts⟩ (ct_X4_tickOn l dC dI 0 am m1 m2 m3 m4 m5 m6 cN g5 H.size) (cwV 0 hts gX4_pass_X4_tickOn rfl rfl rfl (by decide +kernel) ⟨(Nat.le_of_ble_eq_true rfl), (Nat.le_of_ble_eq_true rfl)⟩) ⟨pZ_blind, va_recv hKc hPc (ci := 4) (q0 := 0) rfl rfl, pZ_pre hPc hDc hKc⟩ rfl rfl hl.1 rfl (lv_room (Nat.le_of_ble_eq_true rfl)) dX4_pass_33 ⟨(Nat.le_of_ble_eq_true rfl), (Nat.le_of_ble_eq_true rfl)⟩) hS (fun q _ h => hFc q h) hFc (fun r_5 u_6 t H1 locs ht hvm hw hB hz1 hk1 hS => ?_)
          obtain ⟨gg_7, hP1, hK1, hD1⟩ := hB
          rw [ht] at hP1
          have hK1 := va_K.moved hvm.symm hK1
          obtain ⟨hP, hD⟩ := va_join (wr := []) (w1 := [(am, .inr (4, [.int 0, .int 0, .ref m1, .ref m2, .ref m3, .ref m4, .ref m5, .ref m6])), (m5, .inl (cN, 3, .inl (upd gg_7 1 0)))]) hP hD [0, 1] [] rfl rfl (by decide) (by decide) hk1 hFc hP1 hD1
          generalize H1 = H at hP hS ⊢
          have hP : va_P (dC, dI) vwCl [(am, .inr (4, [.int 0, .int 0, .ref m1, .ref m2, .ref m3, .ref m4, .ref m5, .ref m6])), (m5, .inl (cN, 3, .inl (upd gg_7 1 0)))] H := hP
          have hD : va_D A [(am, .inr (4, [.int 0, .int 0, .ref m1, .ref m2, .ref m3, .ref m4, .ref m5, .ref m6])), (m5, .inl (cN, 3, .inl (upd gg_7 1 0)))] := hD
          have hK : va_K (dC, dI) vwCl [(cN, .int)] _ := hK
          have hw : r_5 = 0 := hw
          subst hw
          refine lv_iadd hx hb dX4_pass_36 ?_
          refine lv_topi (nm_r (e' := 0) (by decide) ?_)
          refine lv_istore_n (lv' := [(2, .int 0), (0, .ref am), (1, .int za), (3, .int i0)]) hx hb dX4_pass_37 rfl hl (by decide) rfl (fun ls hl => ?_)
          obtain ⟨x_8, ex_8⟩ : ∃ y : Int32, y = i0 + 1 := ⟨_, rfl⟩
          refine lv_iinc (v := x_8) (lv' := [(3, .int x_8), (2, .int 0), (0, .ref am), (1, .int za)]) hx hb dX4_pass_38 hl (k := 3) rfl (by rw [ex_8]; rfl) (by decide) rfl (fun ls hl => ?_)
          refine lv_goto (tgt := 26) hx hb dX4_pass_41 (by decide) ?_
          exact ih gg_7 x_8 _ _ _ ((by rw [ex_8]; exact vs_step c_4 hn)) (hP.sub (ws' := [(am, .inr (4, [.int 0, .int 0, .ref m1, .ref m2, .ref m3, .ref m4, .ref m5, .ref m6])), (m5, .inl (cN, 3, .inl (upd gg_7 1 0)))]) [0, 1] rfl) (hD.sub (ws' := [(am, .inr (4, [.int 0, .int 0, .ref m1, .ref m2, .ref m3, .ref m4, .ref m5, .ref m6])), (m5, .inl (cN, 3, .inl (upd gg_7 1 0)))]) [0, 1] (by decide) rfl) hS (lv_sub hl (l' := [(0, .ref am), (1, .int za), (2, .int 0), (3, .int x_8)]) [2, 3, 1, 0] rfl)
    exact hloop _ ((fun _ => 0)) 0 _ _ _ (Nat.lt_succ_self _) (hP.sub (ws' := [(am, .inr (4, [.int 0, .int 0, .ref m1, .ref m2, .ref m3, .ref m4, .ref m5, .ref m6])), (m5, .inl (cN, 3, .inl (upd ((fun _ => 0)) 1 0)))]) [0, 1] rfl) (hD.sub (ws' := [(am, .inr (4, [.int 0, .int 0, .ref m1, .ref m2, .ref m3, .ref m4, .ref m5, .ref m6])), (m5, .inl (cN, 3, .inl (upd ((fun _ => 0)) 1 0)))]) [0, 1] (by decide) rfl) hS (lv_sub hl (l' := [(0, .ref am), (1, .int za), (2, .int 0), (3, .int 0)]) [2, 3, 1, 0] rfl)
  · refine lv_aload_n hx hb dX4_pass_16 rfl (lv_at hl 0 rfl) ?_
    refine lv_iconst (v := 1) hx hb dX4_pass_17 (by decide) ?_
    have hPc := hP.sub (ws' := [(am, .inr (4, [.int 0, .int 0, .ref m1, .ref m2, .ref m3, .ref m4, .ref m5, .ref m6]))]) [0] rfl
    have hKc := hK.sub (tys' := []) [] rfl
    have hDc := hD.sub (ws' := [(am, .inr (4, [.int 0, .int 0, .ref m1, .ref m2, .ref m3, .ref m4, .ref m5, .ref m6]))]) [0] (by decide) rfl
    have hFc := va_free (wc := [(am, .inr (4, [.int 0, .int 0, .ref m1, .ref m2, .ref m3, .ref m4, .ref m5, .ref m6]))]) hD hS hA [0] rfl
    refine va_calli (va_runV (As := [.int 1]) (rest := []) ⟨hx, hb, hml, hown, hts⟩ (ct_X4_fail l dC dI 0 1 am m1 m2 m3 m4 m5 m6 H.size) (cwV 1 hts gX4_pass_X4_fail rfl rfl rfl (by decide +kernel) ⟨(Nat.le_of_ble_eq_true rfl), (Nat.le_of_ble_eq_true rfl)⟩) ⟨pZ_blind, va_recv hKc hPc (ci := 4) (q0 := 0) rfl rfl, pZ_pre hPc hDc hKc⟩ rfl rfl hl.1 rfl (lv_room (Nat.le_of_ble_eq_true rfl)) dX4_pass_18 ⟨(Nat.le_of_ble_eq_true rfl), (Nat.le_of_ble_eq_true rfl)⟩) hS (fun q _ h => hFc q h) hFc (fun r_9 u_10 t H1 locs ht hvm hw hB hz1 hk1 hS => ?_)
    obtain ⟨hP1, hK1, hD1⟩ := hB
    rw [ht] at hP1
    have hK1 := va_K.moved hvm.symm hK1
    obtain ⟨hP, hD⟩ := va_join (wr := [(m5, .inl (cN, 3, .inl (fun _ => 0)))]) (w1 := [(am, .inr (4, [.int 1, .int 0, .ref m1, .ref m2, .ref m3, .ref m4, .ref m5, .ref m6]))]) hP hD [0] [1] rfl rfl (by decide) (by decide) hk1 hFc hP1 hD1
    generalize H1 = H at hP hS ⊢
    have hP : va_P (dC, dI) vwCl [(m5, .inl (cN, 3, .inl (fun _ => 0))), (am, .inr (4, [.int 1, .int 0, .ref m1, .ref m2, .ref m3, .ref m4, .ref m5, .ref m6]))] H := hP
    have hD : va_D A [(m5, .inl (cN, 3, .inl (fun _ => 0))), (am, .inr (4, [.int 1, .int 0, .ref m1, .ref m2, .ref m3, .ref m4, .ref m5, .ref m6]))] := hD
    have hK : va_K (dC, dI) vwCl [(cN, .int)] _ := hK
    have hw : r_9 = 0 := hw
    subst hw
    have hP9 := hP.sub (ws' := [(am, .inr (4, [.int 1, .int 0, .ref m1, .ref m2, .ref m3, .ref m4, .ref m5, .ref m6]))]) [1] rfl
    have hD9 := hD.sub (ws' := [(am, .inr (4, [.int 1, .int 0, .ref m1, .ref m2, .ref m3, .ref m4, .ref m5, .ref m6]))]) [1] (by decide) rfl
    have hK9 := hK.sub (tys' := []) [] rfl
    exact W.iret (v := 0) hx hb hr (fun t ht hW => ⟨⟨_, 1, rfl, ⟨rfl, Or.inl ⟨c_3, rfl⟩⟩, by rw [ht]; exact hP9, va_K.moved hW.alike hK9, hD9⟩, hS.F ht⟩) hS.2.2 dX4_pass_21

theorem in_X4_best_X4 : ∀ w ∈ wsX40, w ∈ wsX4_best := by decide +kernel
set_option maxHeartbeats 4000000 in
set_option maxRecDepth 100000 in
theorem ct_X4_best (l : Launch) (dC : Nat → ClassId) (dI : Nat → Nat → Nat) (th : Int32) (za : Int32) (am : Nat) (m1 : Nat) (m2 : Nat) (m3 : Nat) (m4 : Nat) (m5 : Nat) (m6 : Nat) (sz : Nat) : Met l yX4_best wsX4_best ({ frames := 1, cells := 0, slots := 0, locals := 22 }) (va_Pc [.ref am, .int za] (pZ (dC, dI) [(am, .inr (4, [.int th, .int 0, .ref m1, .ref m2, .ref m3, .ref m4, .ref m5, .ref m6]))] [] sz)) (va_Qi (fun (r : Int32) (u : Int32) => (r = 0 ∧ vs_in za 1 30 = 0 ∧ u = 1) ∨ (r = -1 ∧ ¬ vs_in za 1 30 = 0 ∧ u = 0)) (fun u t => pB (dC, dI) (va_A [(am, .inr (4, [.int th, .int 0, .ref m1, .ref m2, .ref m3, .ref m4, .ref m5, .ref m6]))] sz) [(am, .inr (4, [.int u, .int 0, .ref m1, .ref m2, .ref m3, .ref m4, .ref m5, .ref m6]))] [] t) (va_A [(am, .inr (4, [.int th, .int 0, .ref m1, .ref m2, .ref m3, .ref m4, .ref m5, .ref m6]))] sz)) 0 0 (va_A [(am, .inr (4, [.int th, .int 0, .ref m1, .ref m2, .ref m3, .ref m4, .ref m5, .ref m6]))] sz) := by
  refine Met.ofW (cc := cX4_best) (maxL := 6) (ret := (some .int)) (by decide) rfl ?_
  intro p e s m args below meth c s₁ B hml hv
  obtain ⟨rfl, hsz, hP, hK, hD0⟩ := hv
  have hx := B.exec
  have hb := B.bytes
  have hr := B.returns
  have hts := atoms_spec (ws := wsX4_best) B.pre
  have hown : s.vm.findClass RX4 = some m.cls := findClass_of_methodNamed B.named
  have hlocks := B.notSynchronized
  subst hsz
  have hD := hD0.self (sz := s.heap.size)
  generalize hAe : va_A [(am, .inr (4, [.int th, .int 0, .ref m1, .ref m2, .ref m3, .ref m4, .ref m5, .ref m6]))] s.heap.size = A at hD ⊢
  have hA : ∀ q : Nat, s.heap.size ≤ q → A q := fun q h => by rw [← hAe]; exact Or.inr h
  have hS : va_S A s.heap s.heap [] := va_S.rf
  have hP : va_P (dC, dI) vwCl [(am, .inr (4, [.int th, .int 0, .ref m1, .ref m2, .ref m3, .ref m4, .ref m5, .ref m6]))] s.heap := hP
  have hl := lv_entry ([.ref am, .int za]) (n := 6) (Nat.le_of_ble_eq_true rfl)
  rw [lg_entry_eq]
  generalize (lg_sl ([.ref am, .int za]) ++ List.replicate (6 - (lg_sl ([.ref am, .int za])).length) Slot.unset).toArray = ls at hl ⊢
  have hl : lv_has ls 6 [(0, .ref am), (1, .int za)] := hl
  refine lv_aload_n hx hb dX4_best_0 rfl (lv_at hl 0 rfl) ?_
  refine lv_iconst (v := 0) hx hb dX4_best_1 (by decide) ?_
  refine va_put (D := (dC, dI)) (ci := 4) (v := .int 0) (ty := .int) (C := RX4) (T := TX4) (N := 8) hx hb hts in_X4_best_X4 tyX4 tyX4_ok nmX4 hown hK hP hD hS 0 rfl rfl 0 (by decide) (hts (.fieldLink RX4 28 "VaultDoorsModel" "thrown" "I") (List.mem_of_getElem? (i := 1) rfl)) (fun _ h9 => h9) rfl (by decide +kernel) rfl rfl (Nat.le_of_ble_eq_true rfl) dX4_best_2 (fun H locs hP hD hS => ?_)
  have hP : va_P (dC, dI) vwCl [(am, .inr (4, [.int 0, .int 0, .ref m1, .ref m2, .ref m3, .ref m4, .ref m5, .ref m6]))] H := hP
  have hD : va_D A [(am, .inr (4, [.int 0, .int 0, .ref m1, .ref m2, .ref m3, .ref m4, .ref m5, .ref m6]))] := hD
  refine lv_iload_n hx hb dX4_best_5 rfl (lv_at hl 1 rfl) ?_
  refine lv_iconst (v := 1) hx hb dX4_best_6 (by decide) ?_
  refine lv_bipush (v := 30) hx hb dX4_best_7 (by decide) ?_
  have hPc := hP.sub (ws' := []) [] rfl
  have hKc := hK.sub (tys' := []) [] rfl
  refine va_calli (va_runS (As := [.int za, .int 1, .int 30]) (rest := []) ⟨hx, hb, hml, hown, hts⟩ (ct_X4_isIn l dC dI za 1 30) (va_cwS 3 hts gX4_best_X4_isIn rfl rfl rfl (by decide +kernel) ⟨(Nat.le_of_ble_eq_true rfl), (Nat.le_of_ble_eq_true rfl)⟩) ⟨pR_blind, pR_pre hPc hKc⟩ rfl rfl hl.1 rfl (lv_room (Nat.le_of_ble_eq_true rfl)) dX4_best_9 ⟨(Nat.le_of_ble_eq_true rfl), (Nat.le_of_ble_eq_true rfl)⟩) hS (fun q _ h => h.elim) (fun q h => h.elim) (fun r_1 u_2 t H1 locs ht hvm hw hB hz1 hk1 hS => ?_)
  have hP := hP.kept (fun k q hk => hk1 q.1 (hP k q hk).lt (fun h => h))
  generalize H1 = H at hP hS ⊢
  have hw : r_1 = vs_in za 1 30 := hw
  subst hw
  refine lv_if_ne (tgt := 21) hx hb dX4_best_12 (by decide) (fun c_3 => ?_) (fun c_3 => ?_)
  · refine lv_iconst (v := (-1)) hx hb dX4_best_21 (by decide) ?_
    refine lv_istore_n (lv' := [(2, .int (-1)), (0, .ref am), (1, .int za)]) hx hb dX4_best_22 rfl hl (by decide) rfl (fun ls hl => ?_)
    refine lv_iconst (v := (-1)) hx hb dX4_best_23 (by decide) ?_
    refine lv_istore_n (lv' := [(3, .int (-1)), (2, .int (-1)), (0, .ref am), (1, .int za)]) hx hb dX4_best_24 rfl hl (by decide) rfl (fun ls hl => ?_)
    refine lv_iconst (v := 0) hx hb dX4_best_25 (by decide) ?_
    refine lv_istore (lv' := [(4, .int 0), (3, .int (-1)), (2, .int (-1)), (0, .ref am), (1, .int za)]) hx hb dX4_best_26 hl (by decide) rfl (fun ls hl => ?_)
    refine lv_iload hx hb dX4_best_28 (lv_at hl 0 rfl) ?_
    refine lv_aload_n hx hb dX4_best_30 rfl (lv_at hl 3 rfl) ?_
    refine va_get (D := (dC, dI)) (ci := 4) (v := .int 0) (C := RX4) (T := TX4) (N := 8) hx hb hts in_X4_best_X4 hown hK hP 0 rfl rfl 1 (by decide) (hts (.fieldLink RX4 32 "VaultDoorsModel" "doors" "I") (List.mem_of_getElem? (i := 2) rfl)) (fun _ h9 => h9) rfl dX4_best_31 ?_
    refine lv_icmp_ge (tgt := 70) hx hb dX4_best_34 (by decide) (fun _ => ?_) (fun h => absurd h (by decide))
    refine lv_iload_n hx hb dX4_best_70 rfl (lv_at hl 2 rfl) ?_
    have hP9 := hP.sub (ws' := [(am, .inr (4, [.int 0, .int 0, .ref m1, .ref m2, .ref m3, .ref m4, .ref m5, .ref m6]))]) [0] rfl
    have hD9 := hD.sub (ws' := [(am, .inr (4, [.int 0, .int 0, .ref m1, .ref m2, .ref m3, .ref m4, .ref m5, .ref m6]))]) [0] (by decide) rfl
    have hK9 := hK.sub (tys' := []) [] rfl
    exact W.iret (v := (-1)) hx hb hr (fun t ht hW => ⟨⟨_, 0, rfl, Or.inr ⟨rfl, c_3, rfl⟩, by rw [ht]; exact hP9, va_K.moved hW.alike hK9, hD9⟩, hS.F ht⟩) hS.2.2 dX4_best_71
  · refine lv_aload_n hx hb dX4_best_15 rfl (lv_at hl 0 rfl) ?_
    refine lv_iconst (v := 1) hx hb dX4_best_16 (by decide) ?_
    have hPc := hP.sub (ws' := [(am, .inr (4, [.int 0, .int 0, .ref m1, .ref m2, .ref m3, .ref m4, .ref m5, .ref m6]))]) [0] rfl
    have hKc := hK.sub (tys' := []) [] rfl
    have hDc := hD.sub (ws' := [(am, .inr (4, [.int 0, .int 0, .ref m1, .ref m2, .ref m3, .ref m4, .ref m5, .ref m6]))]) [0] (by decide) rfl
    have hFc := va_free (wc := [(am, .inr (4, [.int 0, .int 0, .ref m1, .ref m2, .ref m3, .ref m4, .ref m5, .ref m6]))]) hD hS hA [0] rfl
    refine va_calli (va_runV (As := [.int 1]) (rest := []) ⟨hx, hb, hml, hown, hts⟩ (ct_X4_fail l dC dI 0 1 am m1 m2 m3 m4 m5 m6 H.size) (cwV 1 hts gX4_best_X4_fail rfl rfl rfl (by decide +kernel) ⟨(Nat.le_of_ble_eq_true rfl), (Nat.le_of_ble_eq_true rfl)⟩) ⟨pZ_blind, va_recv hKc hPc (ci := 4) (q0 := 0) rfl rfl, pZ_pre hPc hDc hKc⟩ rfl rfl hl.1 rfl (lv_room (Nat.le_of_ble_eq_true rfl)) dX4_best_17 ⟨(Nat.le_of_ble_eq_true rfl), (Nat.le_of_ble_eq_true rfl)⟩) hS (fun q _ h => hFc q h) hFc (fun r_4 u_5 t H1 locs ht hvm hw hB hz1 hk1 hS => ?_)
    obtain ⟨hP1, hK1, hD1⟩ := hB
    rw [ht] at hP1
    have hK1 := va_K.moved hvm.symm hK1
    obtain ⟨hP, hD⟩ := va_join (wr := []) (w1 := [(am, .inr (4, [.int 1, .int 0, .ref m1, .ref m2, .ref m3, .ref m4, .ref m5, .ref m6]))]) hP hD [0] [] rfl rfl (by decide) (by decide) hk1 hFc hP1 hD1
    generalize H1 = H at hP hS ⊢
    have hP : va_P (dC, dI) vwCl [(am, .inr (4, [.int 1, .int 0, .ref m1, .ref m2, .ref m3, .ref m4, .ref m5, .ref m6]))] H := hP
    have hD : va_D A [(am, .inr (4, [.int 1, .int 0, .ref m1, .ref m2, .ref m3, .ref m4, .ref m5, .ref m6]))] := hD
    have hK : va_K (dC, dI) vwCl [] _ := hK
    have hw : r_4 = 0 := hw
    subst hw
    have hP9 := hP.sub (ws' := [(am, .inr (4, [.int 1, .int 0, .ref m1, .ref m2, .ref m3, .ref m4, .ref m5, .ref m6]))]) [0] rfl
    have hD9 := hD.sub (ws' := [(am, .inr (4, [.int 1, .int 0, .ref m1, .ref m2, .ref m3, .ref m4, .ref m5, .ref m6]))]) [0] (by decide) rfl
    have hK9 := hK.sub (tys' := []) [] rfl
    exact W.iret (v := 0) hx hb hr (fun t ht hW => ⟨⟨_, 1, rfl, Or.inl ⟨rfl, c_3, rfl⟩, by rw [ht]; exact hP9, va_K.moved hW.alike hK9, hD9⟩, hS.F ht⟩) hS.2.2 dX4_best_20

theorem in_X4_mean_X4 : ∀ w ∈ wsX40, w ∈ wsX4_mean := by decide +kernel
set_option maxHeartbeats 4000000 in
set_option maxRecDepth 100000 in
theorem ct_X4_mean (l : Launch) (dC : Nat → ClassId) (dI : Nat → Nat → Nat) (th : Int32) (am : Nat) (m1 : Nat) (m2 : Nat) (m3 : Nat) (m4 : Nat) (m5 : Nat) (m6 : Nat) (sz : Nat) : Met l yX4_mean wsX4_mean ({ frames := 0, cells := 0, slots := 0, locals := 0 }) (va_Pc [.ref am] (pZ (dC, dI) [(am, .inr (4, [.int th, .int 0, .ref m1, .ref m2, .ref m3, .ref m4, .ref m5, .ref m6]))] [] sz)) (va_Qd (fun (r : UInt64) (_ : Unit) => r = FP.dconst0) (fun _ t => pB (dC, dI) (va_A [(am, .inr (4, [.int th, .int 0, .ref m1, .ref m2, .ref m3, .ref m4, .ref m5, .ref m6]))] sz) [] [] t) (va_A [(am, .inr (4, [.int th, .int 0, .ref m1, .ref m2, .ref m3, .ref m4, .ref m5, .ref m6]))] sz)) 0 0 (va_A [(am, .inr (4, [.int th, .int 0, .ref m1, .ref m2, .ref m3, .ref m4, .ref m5, .ref m6]))] sz) := by
  refine Met.ofW (cc := cX4_mean) (maxL := 4) (ret := (some .double)) (by decide) rfl ?_
  intro p e s m args below meth c s₁ B hml hv
  obtain ⟨rfl, hsz, hP, hK, hD0⟩ := hv
  have hx := B.exec
  have hb := B.bytes
  have hr := B.returns
  have hts := atoms_spec (ws := wsX4_mean) B.pre
  have hown : s.vm.findClass RX4 = some m.cls := findClass_of_methodNamed B.named
  have hlocks := B.notSynchronized
  subst hsz
  have hD := hD0.self (sz := s.heap.size)
  generalize hAe : va_A [(am, .inr (4, [.int th, .int 0, .ref m1, .ref m2, .ref m3, .ref m4, .ref m5, .ref m6]))] s.heap.size = A at hD ⊢
  have hA : ∀ q : Nat, s.heap.size ≤ q → A q := fun q h => by rw [← hAe]; exact Or.inr h
  have hS : va_S A s.heap s.heap [] := va_S.rf
  have hP : va_P (dC, dI) vwCl [(am, .inr (4, [.int th, .int 0, .ref m1, .ref m2, .ref m3, .ref m4, .ref m5, .ref m6]))] s.heap := hP
  have hl := lv_entry ([.ref am]) (n := 4) (Nat.le_of_ble_eq_true rfl)
  rw [lg_entry_eq]
  generalize (lg_sl ([.ref am]) ++ List.replicate (4 - (lg_sl ([.ref am])).length) Slot.unset).toArray = ls at hl ⊢
  have hl : lv_has ls 4 [(0, .ref am)] := hl
  refine lv_aload_n hx hb dX4_mean_0 rfl (lv_at hl 0 rfl) ?_
  refine lv_iconst (v := 0) hx hb dX4_mean_1 (by decide) ?_
  refine va_put (D := (dC, dI)) (ci := 4) (v := .int 0) (ty := .int) (C := RX4) (T := TX4) (N := 8) hx hb hts in_X4_mean_X4 tyX4 tyX4_ok nmX4 hown hK hP hD hS 0 rfl rfl 0 (by decide) (hts (.fieldLink RX4 28 "VaultDoorsModel" "thrown" "I") (List.mem_of_getElem? (i := 1) rfl)) (fun _ h9 => h9) rfl (by decide +kernel) rfl rfl (Nat.le_of_ble_eq_true rfl) dX4_mean_2 (fun H locs hP hD hS => ?_)
  have hP : va_P (dC, dI) vwCl [(am, .inr (4, [.int 0, .int 0, .ref m1, .ref m2, .ref m3, .ref m4, .ref m5, .ref m6]))] H := hP
  have hD : va_D A [(am, .inr (4, [.int 0, .int 0, .ref m1, .ref m2, .ref m3, .ref m4, .ref m5, .ref m6]))] := hD
  refine lv_iconst (v := 0) hx hb dX4_mean_5 (by decide) ?_
  refine lv_istore_n (lv' := [(1, .int 0), (0, .ref am)]) hx hb dX4_mean_6 rfl hl (by decide) rfl (fun ls hl => ?_)
  refine lv_iconst (v := 0) hx hb dX4_mean_7 (by decide) ?_
  refine lv_istore_n (lv' := [(2, .int 0), (1, .int 0), (0, .ref am)]) hx hb dX4_mean_8 rfl hl (by decide) rfl (fun ls hl => ?_)
  refine lv_iconst (v := 0) hx hb dX4_mean_9 (by decide) ?_
  refine lv_istore_n (lv' := [(3, .int 0), (2, .int 0), (1, .int 0), (0, .ref am)]) hx hb dX4_mean_10 rfl hl (by decide) rfl (fun ls hl => ?_)
  refine lv_iload_n hx hb dX4_mean_11 rfl (lv_at hl 0 rfl) ?_
  refine lv_aload_n hx hb dX4_mean_12 rfl (lv_at hl 3 rfl) ?_
  refine va_get (D := (dC, dI)) (ci := 4) (v := .int 0) (C := RX4) (T := TX4) (N := 8) hx hb hts in_X4_mean_X4 hown hK hP 0 rfl rfl 1 (by decide) (hts (.fieldLink RX4 32 "VaultDoorsModel" "doors" "I") (List.mem_of_getElem? (i := 2) rfl)) (fun _ h9 => h9) rfl dX4_mean_13 ?_
  refine lv_icmp_ge (tgt := 53) hx hb dX4_mean_16 (by decide) (fun _ => ?_) (fun h => absurd h (by decide))
  refine lv_iload_n hx hb dX4_mean_53 rfl (lv_at hl 1 rfl) ?_
  refine lv_if_ne (tgt := 61) hx hb dX4_mean_54 (by decide) (fun h => absurd h (by decide)) (fun _ => ?_)
  refine lv_dconst0 hx hb dX4_mean_57 ?_
  refine lv_goto (tgt := 66) hx hb dX4_mean_58 (by decide) ?_
  have hP9 := hP.sub (ws' := []) [] rfl
  have hD9 := hD.sub (ws' := []) [] (by decide) rfl
  have hK9 := hK.sub (tys' := []) [] rfl
  exact W.dret (v := FP.dconst0) hx hb hr (fun t ht hW => ⟨⟨_, (), rfl, rfl, by rw [ht]; exact hP9, va_K.moved hW.alike hK9, hD9⟩, hS.F ht⟩) hS.2.2 dX4_mean_66

theorem in_X4_digest_X4 : ∀ w ∈ wsX40, w ∈ wsX4_digest := by decide +kernel
set_option maxHeartbeats 4000000 in
set_option maxRecDepth 100000 in
theorem ct_X4_digest (l : Launch) (dC : Nat → ClassId) (dI : Nat → Nat → Nat) (th : Int32) (am : Nat) (m1 : Nat) (m2 : Nat) (m3 : Nat) (m4 : Nat) (m5 : Nat) (m6 : Nat) (cN : ClassId) (sz : Nat) : Met l yX4_digest wsX4_digest ({ frames := 2, cells := 0, slots := 0, locals := 45 }) (va_Pc [.ref am] (pZ (dC, dI) [(am, .inr (4, [.int th, .int 0, .ref m1, .ref m2, .ref m3, .ref m4, .ref m5, .ref m6])), (m5, .inl (cN, 3, .inl (fun _ => 0)))] [(cN, .int)] sz)) (va_Ql (fun (r : Int64) (_ : Unit) => r = 23980737299728597) (fun _ t => pB (dC, dI) (va_A [(am, .inr (4, [.int th, .int 0, .ref m1, .ref m2, .ref m3, .ref m4, .ref m5, .ref m6])), (m5, .inl (cN, 3, .inl (fun _ => 0)))] sz) [] [] t) (va_A [(am, .inr (4, [.int th, .int 0, .ref m1, .ref m2, .ref m3, .ref m4, .ref m5, .ref m6])), (m5, .inl (cN, 3, .inl (fun _ => 0)))] sz)) 0 0 (va_A [(am, .inr (4, [.int th, .int 0, .ref m1, .ref m2, .ref m3, .ref m4, .ref m5, .ref m6])), (m5, .inl (cN, 3, .inl (fun _ => 0)))] sz) := by
  refine Met.ofW (cc := cX4_digest) (maxL := 6) (ret := (some .long)) (by decide) rfl ?_
  intro p e s m args below meth c s₁ B hml hv
  obtain ⟨rfl, hsz, hP, hK, hD0⟩ := hv
  have hx := B.exec
  have hb := B.bytes
  have hr := B.returns
  have hts := atoms_spec (ws := wsX4_digest) B.pre
  have hown : s.vm.findClass RX4 = some m.cls := findClass_of_methodNamed B.named
  have hlocks := B.notSynchronized
  subst hsz
  have hD := hD0.self (sz := s.heap.size)
  generalize hAe : va_A [(am, .inr (4, [.int th, .int 0, .ref m1, .ref m2, .ref m3, .ref m4, .ref m5, .ref m6])), (m5, .inl (cN, 3, .inl (fun _ => 0)))] s.heap.size = A at hD ⊢
  have hA : ∀ q : Nat, s.heap.size ≤ q → A q := fun q h => by rw [← hAe]; exact Or.inr h
  have hS : va_S A s.heap s.heap [] := va_S.rf
  have hP : va_P (dC, dI) vwCl [(am, .inr (4, [.int th, .int 0, .ref m1, .ref m2, .ref m3, .ref m4, .ref m5, .ref m6])), (m5, .inl (cN, 3, .inl (fun _ => 0)))] s.heap := hP
  have hl := lv_entry ([.ref am]) (n := 6) (Nat.le_of_ble_eq_true rfl)
  rw [lg_entry_eq]
  generalize (lg_sl ([.ref am]) ++ List.replicate (6 - (lg_sl ([.ref am])).length) Slot.unset).toArray = ls at hl ⊢
  have hl : lv_has ls 6 [(0, .ref am)] := hl
  refine lv_aload_n hx hb dX4_digest_0 rfl (lv_at hl 0 rfl) ?_
  refine lv_iconst (v := 0) hx hb dX4_digest_1 (by decide) ?_
  refine va_put (D := (dC, dI)) (ci := 4) (v := .int 0) (ty := .int) (C := RX4) (T := TX4) (N := 8) hx hb hts in_X4_digest_X4 tyX4 tyX4_ok nmX4 hown hK hP hD hS 0 rfl rfl 0 (by decide) (hts (.fieldLink RX4 28 "VaultDoorsModel" "thrown" "I") (List.mem_of_getElem? (i := 1) rfl)) (fun _ h9 => h9) rfl (by decide +kernel) rfl rfl (Nat.le_of_ble_eq_true rfl) dX4_digest_2 (fun H locs hP hD hS => ?_)
  have hP : va_P (dC, dI) vwCl [(am, .inr (4, [.int 0, .int 0, .ref m1, .ref m2, .ref m3, .ref m4, .ref m5, .ref m6])), (m5, .inl (cN, 3, .inl (fun _ => 0)))] H := hP
  have hD : va_D A [(am, .inr (4, [.int 0, .int 0, .ref m1, .ref m2, .ref m3, .ref m4, .ref m5, .ref m6])), (m5, .inl (cN, 3, .inl (fun _ => 0)))] := hD
  refine lv_ldc2 (v := 907) hx hb hown (hts (.constantLong RX4 146 907) (by decide +kernel)) dX4_digest_5 ?_
  refine lv_lstore_n (lv' := [(1, .long 907), (0, .ref am)]) hx hb dX4_digest_8 rfl hl (by decide) rfl (fun ls hl => ?_)
  refine lv_iconst (v := 0) hx hb dX4_digest_9 (by decide) ?_
  refine lv_istore_n (lv' := [(3, .int 0), (1, .long 907), (0, .ref am)]) hx hb dX4_digest_10 rfl hl (by decide) rfl (fun ls hl => ?_)
  refine lv_iload_n hx hb dX4_digest_11 rfl (lv_at hl 0 rfl) ?_
  refine lv_bipush (v := 9) hx hb dX4_digest_12 (by decide) ?_
  refine lv_icmp_ge (tgt := 36) hx hb dX4_digest_14 (by decide) (fun h => absurd h (by decide)) (fun _ => ?_)
  refine lv_lload_n hx hb dX4_digest_17 rfl (lv_at hl 1 rfl) ?_
  refine lv_ldc2 (v := 31) hx hb hown (hts (.constantLong RX4 148 31) (by decide +kernel)) dX4_digest_18 ?_
  refine lv_lmul hx hb dX4_digest_21 ?_
  refine lv_topl (nm_r (e' := 28117) (by decide) ?_)
  refine lv_aload_n hx hb dX4_digest_22 rfl (lv_at hl 2 rfl) ?_
  refine lv_iload_n hx hb dX4_digest_23 rfl (lv_at hl 0 rfl) ?_
  have hPc := hP.sub (ws' := [(am, .inr (4, [.int 0, .int 0, .ref m1, .ref m2, .ref m3, .ref m4, .ref m5, .ref m6])), (m5, .inl (cN, 3, .inl (fun _ => 0)))]) [0, 1] rfl
  have hKc := hK.sub (tys' := [(cN, .int)]) [0] rfl
  refine va_calli (va_runV (As := [.int 0]) (rest := [.long 28117]) ⟨hx, hb, hml, hown, hts⟩ (ct_X4_counted l dC dI 0 0 am m1 m2 m3 m4 m5 m6 cN) (cwV 1 hts gX4_digest_X4_counted rfl rfl rfl (by decide +kernel) ⟨(Nat.le_of_ble_eq_true rfl), (Nat.le_of_ble_eq_true rfl)⟩) ⟨pR_blind, va_recv hKc hPc (ci := 4) (q0 := 0) rfl rfl, pR_pre hPc hKc⟩ rfl rfl hl.1 rfl (lv_room (Nat.le_of_ble_eq_true rfl)) dX4_digest_24 ⟨(Nat.le_of_ble_eq_true rfl), (Nat.le_of_ble_eq_true rfl)⟩) hS (fun q _ h => h.elim) (fun q h => h.elim) (fun r_1 u_2 t H1 locs ht hvm hw hB hz1 hk1 hS => ?_)
  have hP := hP.kept (fun k q hk => hk1 q.1 (hP k q hk).lt (fun h => h))
  generalize H1 = H at hP hS ⊢
  have hw : r_1 = 0 := hw
  subst hw
  refine lv_i2l (v := 0) hx hb dX4_digest_27 (by decide) ?_
  refine lv_ladd hx hb dX4_digest_28 ?_
  refine lv_topl (nm_r (e' := 28117) (by decide) ?_)
  refine lv_lstore_n (lv' := [(1, .long 28117), (3, .int 0), (0, .ref am)]) hx hb dX4_digest_29 rfl hl (by decide) rfl (fun ls hl => ?_)
  refine lv_iinc (v := 1) (lv' := [(3, .int 1), (1, .long 28117), (0, .ref am)]) hx hb dX4_digest_30 hl (k := 1) rfl (by decide) (by decide) rfl (fun ls hl => ?_)
  refine lv_goto (tgt := 11) hx hb dX4_digest_33 (by decide) ?_
  refine lv_iload_n hx hb dX4_digest_11 rfl (lv_at hl 0 rfl) ?_
  refine lv_bipush (v := 9) hx hb dX4_digest_12 (by decide) ?_
  refine lv_icmp_ge (tgt := 36) hx hb dX4_digest_14 (by decide) (fun h => absurd h (by decide)) (fun _ => ?_)
  refine lv_lload_n hx hb dX4_digest_17 rfl (lv_at hl 1 rfl) ?_
  refine lv_ldc2 (v := 31) hx hb hown (hts (.constantLong RX4 148 31) (by decide +kernel)) dX4_digest_18 ?_
  refine lv_lmul hx hb dX4_digest_21 ?_
  refine lv_topl (nm_r (e' := 871627) (by decide) ?_)
  refine lv_aload_n hx hb dX4_digest_22 rfl (lv_at hl 2 rfl) ?_
  refine lv_iload_n hx hb dX4_digest_23 rfl (lv_at hl 0 rfl) ?_
  have hPc := hP.sub (ws' := [(am, .inr (4, [.int 0, .int 0, .ref m1, .ref m2, .ref m3, .ref m4, .ref m5, .ref m6])), (m5, .inl (cN, 3, .inl (fun _ => 0)))]) [0, 1] rfl
  have hKc := hK.sub (tys' := [(cN, .int)]) [0] rfl
  refine va_calli (va_runV (As := [.int 1]) (rest := [.long 871627]) ⟨hx, hb, hml, hown, hts⟩ (ct_X4_counted l dC dI 0 1 am m1 m2 m3 m4 m5 m6 cN) (cwV 1 hts gX4_digest_X4_counted rfl rfl rfl (by decide +kernel) ⟨(Nat.le_of_ble_eq_true rfl), (Nat.le_of_ble_eq_true rfl)⟩) ⟨pR_blind, va_recv hKc hPc (ci := 4) (q0 := 0) rfl rfl, pR_pre hPc hKc⟩ rfl rfl hl.1 rfl (lv_room (Nat.le_of_ble_eq_true rfl)) dX4_digest_24 ⟨(Nat.le_of_ble_eq_true rfl), (Nat.le_of_ble_eq_true rfl)⟩) hS (fun q _ h => h.elim) (fun q h => h.elim) (fun r_3 u_4 t H1 locs ht hvm hw hB hz1 hk1 hS => ?_)
  have hP := hP.kept (fun k q hk => hk1 q.1 (hP k q hk).lt (fun h => h))
  generalize H1 = H at hP hS ⊢
  have hw : r_3 = 0 := hw
  subst hw
  refine lv_i2l (v := 0) hx hb dX4_digest_27 (by decide) ?_
  refine lv_ladd hx hb dX4_digest_28 ?_
  refine lv_topl (nm_r (e' := 871627) (by decide) ?_)
  refine lv_lstore_n (lv' := [(1, .long 871627), (3, .int 1), (0, .ref am)]) hx hb dX4_digest_29 rfl hl (by decide) rfl (fun ls hl => ?_)
  refine lv_iinc (v := 2) (lv' := [(3, .int 2), (1, .long 871627), (0, .ref am)]) hx hb dX4_digest_30 hl (k := 1) rfl (by decide) (by decide) rfl (fun ls hl => ?_)
  refine lv_goto (tgt := 11) hx hb dX4_digest_33 (by decide) ?_
  refine lv_iload_n hx hb dX4_digest_11 rfl (lv_at hl 0 rfl) ?_
  refine lv_bipush (v := 9) hx hb dX4_digest_12 (by decide) ?_
  refine lv_icmp_ge (tgt := 36) hx hb dX4_digest_14 (by decide) (fun h => absurd h (by decide)) (fun _ => ?_)
  refine lv_lload_n hx hb dX4_digest_17 rfl (lv_at hl 1 rfl) ?_
  refine lv_ldc2 (v := 31) hx hb hown (hts (.constantLong RX4 148 31) (by decide +kernel)) dX4_digest_18 ?_
  refine lv_lmul hx hb dX4_digest_21 ?_
  refine lv_topl (nm_r (e' := 27020437) (by decide) ?_)
  refine lv_aload_n hx hb dX4_digest_22 rfl (lv_at hl 2 rfl) ?_
  refine lv_iload_n hx hb dX4_digest_23 rfl (lv_at hl 0 rfl) ?_
  have hPc := hP.sub (ws' := [(am, .inr (4, [.int 0, .int 0, .ref m1, .ref m2, .ref m3, .ref m4, .ref m5, .ref m6])), (m5, .inl (cN, 3, .inl (fun _ => 0)))]) [0, 1] rfl
  have hKc := hK.sub (tys' := [(cN, .int)]) [0] rfl
  refine va_calli (va_runV (As := [.int 2]) (rest := [.long 27020437]) ⟨hx, hb, hml, hown, hts⟩ (ct_X4_counted l dC dI 0 2 am m1 m2 m3 m4 m5 m6 cN) (cwV 1 hts gX4_digest_X4_counted rfl rfl rfl (by decide +kernel) ⟨(Nat.le_of_ble_eq_true rfl), (Nat.le_of_ble_eq_true rfl)⟩) ⟨pR_blind, va_recv hKc hPc (ci := 4) (q0 := 0) rfl rfl, pR_pre hPc hKc⟩ rfl rfl hl.1 rfl (lv_room (Nat.le_of_ble_eq_true rfl)) dX4_digest_24 ⟨(Nat.le_of_ble_eq_true rfl), (Nat.le_of_ble_eq_true rfl)⟩) hS (fun q _ h => h.elim) (fun q h => h.elim) (fun r_5 u_6 t H1 locs ht hvm hw hB hz1 hk1 hS => ?_)
  have hP := hP.kept (fun k q hk => hk1 q.1 (hP k q hk).lt (fun h => h))
  generalize H1 = H at hP hS ⊢
  have hw : r_5 = 0 := hw
  subst hw
  refine lv_i2l (v := 0) hx hb dX4_digest_27 (by decide) ?_
  refine lv_ladd hx hb dX4_digest_28 ?_
  refine lv_topl (nm_r (e' := 27020437) (by decide) ?_)
  refine lv_lstore_n (lv' := [(1, .long 27020437), (3, .int 2), (0, .ref am)]) hx hb dX4_digest_29 rfl hl (by decide) rfl (fun ls hl => ?_)
  refine lv_iinc (v := 3) (lv' := [(3, .int 3), (1, .long 27020437), (0, .ref am)]) hx hb dX4_digest_30 hl (k := 1) rfl (by decide) (by decide) rfl (fun ls hl => ?_)
  refine lv_goto (tgt := 11) hx hb dX4_digest_33 (by decide) ?_
  refine lv_iload_n hx hb dX4_digest_11 rfl (lv_at hl 0 rfl) ?_
  refine lv_bipush (v := 9) hx hb dX4_digest_12 (by decide) ?_
  refine lv_icmp_ge (tgt := 36) hx hb dX4_digest_14 (by decide) (fun h => absurd h (by decide)) (fun _ => ?_)
  refine lv_lload_n hx hb dX4_digest_17 rfl (lv_at hl 1 rfl) ?_
  refine lv_ldc2 (v := 31) hx hb hown (hts (.constantLong RX4 148 31) (by decide +kernel)) dX4_digest_18 ?_
  refine lv_lmul hx hb dX4_digest_21 ?_
  refine lv_topl (nm_r (e' := 837633547) (by decide) ?_)
  refine lv_aload_n hx hb dX4_digest_22 rfl (lv_at hl 2 rfl) ?_
  refine lv_iload_n hx hb dX4_digest_23 rfl (lv_at hl 0 rfl) ?_
  have hPc := hP.sub (ws' := [(am, .inr (4, [.int 0, .int 0, .ref m1, .ref m2, .ref m3, .ref m4, .ref m5, .ref m6])), (m5, .inl (cN, 3, .inl (fun _ => 0)))]) [0, 1] rfl
  have hKc := hK.sub (tys' := [(cN, .int)]) [0] rfl
  refine va_calli (va_runV (As := [.int 3]) (rest := [.long 837633547]) ⟨hx, hb, hml, hown, hts⟩ (ct_X4_counted l dC dI 0 3 am m1 m2 m3 m4 m5 m6 cN) (cwV 1 hts gX4_digest_X4_counted rfl rfl rfl (by decide +kernel) ⟨(Nat.le_of_ble_eq_true rfl), (Nat.le_of_ble_eq_true rfl)⟩) ⟨pR_blind, va_recv hKc hPc (ci := 4) (q0 := 0) rfl rfl, pR_pre hPc hKc⟩ rfl rfl hl.1 rfl (lv_room (Nat.le_of_ble_eq_true rfl)) dX4_digest_24 ⟨(Nat.le_of_ble_eq_true rfl), (Nat.le_of_ble_eq_true rfl)⟩) hS (fun q _ h => h.elim) (fun q h => h.elim) (fun r_7 u_8 t H1 locs ht hvm hw hB hz1 hk1 hS => ?_)
  have hP := hP.kept (fun k q hk => hk1 q.1 (hP k q hk).lt (fun h => h))
  generalize H1 = H at hP hS ⊢
  have hw : r_7 = 0 := hw
  subst hw
  refine lv_i2l (v := 0) hx hb dX4_digest_27 (by decide) ?_
  refine lv_ladd hx hb dX4_digest_28 ?_
  refine lv_topl (nm_r (e' := 837633547) (by decide) ?_)
  refine lv_lstore_n (lv' := [(1, .long 837633547), (3, .int 3), (0, .ref am)]) hx hb dX4_digest_29 rfl hl (by decide) rfl (fun ls hl => ?_)
  refine lv_iinc (v := 4) (lv' := [(3, .int 4), (1, .long 837633547), (0, .ref am)]) hx hb dX4_digest_30 hl (k := 1) rfl (by decide) (by decide) rfl (fun ls hl => ?_)
  refine lv_goto (tgt := 11) hx hb dX4_digest_33 (by decide) ?_
  refine lv_iload_n hx hb dX4_digest_11 rfl (lv_at hl 0 rfl) ?_
  refine lv_bipush (v := 9) hx hb dX4_digest_12 (by decide) ?_
  refine lv_icmp_ge (tgt := 36) hx hb dX4_digest_14 (by decide) (fun h => absurd h (by decide)) (fun _ => ?_)
  refine lv_lload_n hx hb dX4_digest_17 rfl (lv_at hl 1 rfl) ?_
  refine lv_ldc2 (v := 31) hx hb hown (hts (.constantLong RX4 148 31) (by decide +kernel)) dX4_digest_18 ?_
  refine lv_lmul hx hb dX4_digest_21 ?_
  refine lv_topl (nm_r (e' := 25966639957) (by decide) ?_)
  refine lv_aload_n hx hb dX4_digest_22 rfl (lv_at hl 2 rfl) ?_
  refine lv_iload_n hx hb dX4_digest_23 rfl (lv_at hl 0 rfl) ?_
  have hPc := hP.sub (ws' := [(am, .inr (4, [.int 0, .int 0, .ref m1, .ref m2, .ref m3, .ref m4, .ref m5, .ref m6])), (m5, .inl (cN, 3, .inl (fun _ => 0)))]) [0, 1] rfl
  have hKc := hK.sub (tys' := [(cN, .int)]) [0] rfl
  refine va_calli (va_runV (As := [.int 4]) (rest := [.long 25966639957]) ⟨hx, hb, hml, hown, hts⟩ (ct_X4_counted l dC dI 0 4 am m1 m2 m3 m4 m5 m6 cN) (cwV 1 hts gX4_digest_X4_counted rfl rfl rfl (by decide +kernel) ⟨(Nat.le_of_ble_eq_true rfl), (Nat.le_of_ble_eq_true rfl)⟩) ⟨pR_blind, va_recv hKc hPc (ci := 4) (q0 := 0) rfl rfl, pR_pre hPc hKc⟩ rfl rfl hl.1 rfl (lv_room (Nat.le_of_ble_eq_true rfl)) dX4_digest_24 ⟨(Nat.le_of_ble_eq_true rfl), (Nat.le_of_ble_eq_true rfl)⟩) hS (fun q _ h => h.elim) (fun q h => h.elim) (fun r_9 u_10 t H1 locs ht hvm hw hB hz1 hk1 hS => ?_)
  have hP := hP.kept (fun k q hk => hk1 q.1 (hP k q hk).lt (fun h => h))
  generalize H1 = H at hP hS ⊢
  have hw : r_9 = 0 := hw
  subst hw
  refine lv_i2l (v := 0) hx hb dX4_digest_27 (by decide) ?_
  refine lv_ladd hx hb dX4_digest_28 ?_
  refine lv_topl (nm_r (e' := 25966639957) (by decide) ?_)
  refine lv_lstore_n (lv' := [(1, .long 25966639957), (3, .int 4), (0, .ref am)]) hx hb dX4_digest_29 rfl hl (by decide) rfl (fun ls hl => ?_)
  refine lv_iinc (v := 5) (lv' := [(3, .int 5), (1, .long 25966639957), (0, .ref am)]) hx hb dX4_digest_30 hl (k := 1) rfl (by decide) (by decide) rfl (fun ls hl => ?_)
  refine lv_goto (tgt := 11) hx hb dX4_digest_33 (by decide) ?_
  refine lv_iload_n hx hb dX4_digest_11 rfl (lv_at hl 0 rfl) ?_
  refine lv_bipush (v := 9) hx hb dX4_digest_12 (by decide) ?_
  refine lv_icmp_ge (tgt := 36) hx hb dX4_digest_14 (by decide) (fun h => absurd h (by decide)) (fun _ => ?_)
  refine lv_lload_n hx hb dX4_digest_17 rfl (lv_at hl 1 rfl) ?_
  refine lv_ldc2 (v := 31) hx hb hown (hts (.constantLong RX4 148 31) (by decide +kernel)) dX4_digest_18 ?_
  refine lv_lmul hx hb dX4_digest_21 ?_
  refine lv_topl (nm_r (e' := 804965838667) (by decide) ?_)
  refine lv_aload_n hx hb dX4_digest_22 rfl (lv_at hl 2 rfl) ?_
  refine lv_iload_n hx hb dX4_digest_23 rfl (lv_at hl 0 rfl) ?_
  have hPc := hP.sub (ws' := [(am, .inr (4, [.int 0, .int 0, .ref m1, .ref m2, .ref m3, .ref m4, .ref m5, .ref m6])), (m5, .inl (cN, 3, .inl (fun _ => 0)))]) [0, 1] rfl
  have hKc := hK.sub (tys' := [(cN, .int)]) [0] rfl
  refine va_calli (va_runV (As := [.int 5]) (rest := [.long 804965838667]) ⟨hx, hb, hml, hown, hts⟩ (ct_X4_counted l dC dI 0 5 am m1 m2 m3 m4 m5 m6 cN) (cwV 1 hts gX4_digest_X4_counted rfl rfl rfl (by decide +kernel) ⟨(Nat.le_of_ble_eq_true rfl), (Nat.le_of_ble_eq_true rfl)⟩) ⟨pR_blind, va_recv hKc hPc (ci := 4) (q0 := 0) rfl rfl, pR_pre hPc hKc⟩ rfl rfl hl.1 rfl (lv_room (Nat.le_of_ble_eq_true rfl)) dX4_digest_24 ⟨(Nat.le_of_ble_eq_true rfl), (Nat.le_of_ble_eq_true rfl)⟩) hS (fun q _ h => h.elim) (fun q h => h.elim) (fun r_11 u_12 t H1 locs ht hvm hw hB hz1 hk1 hS => ?_)
  have hP := hP.kept (fun k q hk => hk1 q.1 (hP k q hk).lt (fun h => h))
  generalize H1 = H at hP hS ⊢
  have hw : r_11 = 0 := hw
  subst hw
  refine lv_i2l (v := 0) hx hb dX4_digest_27 (by decide) ?_
  refine lv_ladd hx hb dX4_digest_28 ?_
  refine lv_topl (nm_r (e' := 804965838667) (by decide) ?_)
  refine lv_lstore_n (lv' := [(1, .long 804965838667), (3, .int 5), (0, .ref am)]) hx hb dX4_digest_29 rfl hl (by decide) rfl (fun ls hl => ?_)
  refine lv_iinc (v := 6) (lv' := [(3, .int 6), (1, .long 804965838667), (0, .ref am)]) hx hb dX4_digest_30 hl (k := 1) rfl (by decide) (by decide) rfl (fun ls hl => ?_)
  refine lv_goto (tgt := 11) hx hb dX4_digest_33 (by decide) ?_
  refine lv_iload_n hx hb dX4_digest_11 rfl (lv_at hl 0 rfl) ?_
  refine lv_bipush (v := 9) hx hb dX4_digest_12 (by decide) ?_
  refine lv_icmp_ge (tgt := 36) hx hb dX4_digest_14 (by decide) (fun h => absurd h (by decide)) (fun _ => ?_)
  refine lv_lload_n hx hb dX4_digest_17 rfl (lv_at hl 1 rfl) ?_
  refine lv_ldc2 (v := 31) hx hb hown (hts (.constantLong RX4 148 31) (by decide +kernel)) dX4_digest_18 ?_
  refine lv_lmul hx hb dX4_digest_21 ?_
  refine lv_topl (nm_r (e' := 24953940998677) (by decide) ?_)
  refine lv_aload_n hx hb dX4_digest_22 rfl (lv_at hl 2 rfl) ?_
  refine lv_iload_n hx hb dX4_digest_23 rfl (lv_at hl 0 rfl) ?_
  have hPc := hP.sub (ws' := [(am, .inr (4, [.int 0, .int 0, .ref m1, .ref m2, .ref m3, .ref m4, .ref m5, .ref m6])), (m5, .inl (cN, 3, .inl (fun _ => 0)))]) [0, 1] rfl
  have hKc := hK.sub (tys' := [(cN, .int)]) [0] rfl
  refine va_calli (va_runV (As := [.int 6]) (rest := [.long 24953940998677]) ⟨hx, hb, hml, hown, hts⟩ (ct_X4_counted l dC dI 0 6 am m1 m2 m3 m4 m5 m6 cN) (cwV 1 hts gX4_digest_X4_counted rfl rfl rfl (by decide +kernel) ⟨(Nat.le_of_ble_eq_true rfl), (Nat.le_of_ble_eq_true rfl)⟩) ⟨pR_blind, va_recv hKc hPc (ci := 4) (q0 := 0) rfl rfl, pR_pre hPc hKc⟩ rfl rfl hl.1 rfl (lv_room (Nat.le_of_ble_eq_true rfl)) dX4_digest_24 ⟨(Nat.le_of_ble_eq_true rfl), (Nat.le_of_ble_eq_true rfl)⟩) hS (fun q _ h => h.elim) (fun q h => h.elim) (fun r_13 u_14 t H1 locs ht hvm hw hB hz1 hk1 hS => ?_)
  have hP := hP.kept (fun k q hk => hk1 q.1 (hP k q hk).lt (fun h => h))
  generalize H1 = H at hP hS ⊢
  have hw : r_13 = 0 := hw
  subst hw
  refine lv_i2l (v := 0) hx hb dX4_digest_27 (by decide) ?_
  refine lv_ladd hx hb dX4_digest_28 ?_
  refine lv_topl (nm_r (e' := 24953940998677) (by decide) ?_)
  refine lv_lstore_n (lv' := [(1, .long 24953940998677), (3, .int 6), (0, .ref am)]) hx hb dX4_digest_29 rfl hl (by decide) rfl (fun ls hl => ?_)
  refine lv_iinc (v := 7) (lv' := [(3, .int 7), (1, .long 24953940998677), (0, .ref am)]) hx hb dX4_digest_30 hl (k := 1) rfl (by decide) (by decide) rfl (fun ls hl => ?_)
  refine lv_goto (tgt := 11) hx hb dX4_digest_33 (by decide) ?_
  refine lv_iload_n hx hb dX4_digest_11 rfl (lv_at hl 0 rfl) ?_
  refine lv_bipush (v := 9) hx hb dX4_digest_12 (by decide) ?_
  refine lv_icmp_ge (tgt := 36) hx hb dX4_digest_14 (by decide) (fun h => absurd h (by decide)) (fun _ => ?_)
  refine lv_lload_n hx hb dX4_digest_17 rfl (lv_at hl 1 rfl) ?_
  refine lv_ldc2 (v := 31) hx hb hown (hts (.constantLong RX4 148 31) (by decide +kernel)) dX4_digest_18 ?_
  refine lv_lmul hx hb dX4_digest_21 ?_
  refine lv_topl (nm_r (e' := 773572170958987) (by decide) ?_)
  refine lv_aload_n hx hb dX4_digest_22 rfl (lv_at hl 2 rfl) ?_
  refine lv_iload_n hx hb dX4_digest_23 rfl (lv_at hl 0 rfl) ?_
  have hPc := hP.sub (ws' := [(am, .inr (4, [.int 0, .int 0, .ref m1, .ref m2, .ref m3, .ref m4, .ref m5, .ref m6])), (m5, .inl (cN, 3, .inl (fun _ => 0)))]) [0, 1] rfl
  have hKc := hK.sub (tys' := [(cN, .int)]) [0] rfl
  refine va_calli (va_runV (As := [.int 7]) (rest := [.long 773572170958987]) ⟨hx, hb, hml, hown, hts⟩ (ct_X4_counted l dC dI 0 7 am m1 m2 m3 m4 m5 m6 cN) (cwV 1 hts gX4_digest_X4_counted rfl rfl rfl (by decide +kernel) ⟨(Nat.le_of_ble_eq_true rfl), (Nat.le_of_ble_eq_true rfl)⟩) ⟨pR_blind, va_recv hKc hPc (ci := 4) (q0 := 0) rfl rfl, pR_pre hPc hKc⟩ rfl rfl hl.1 rfl (lv_room (Nat.le_of_ble_eq_true rfl)) dX4_digest_24 ⟨(Nat.le_of_ble_eq_true rfl), (Nat.le_of_ble_eq_true rfl)⟩) hS (fun q _ h => h.elim) (fun q h => h.elim) (fun r_15 u_16 t H1 locs ht hvm hw hB hz1 hk1 hS => ?_)
  have hP := hP.kept (fun k q hk => hk1 q.1 (hP k q hk).lt (fun h => h))
  generalize H1 = H at hP hS ⊢
  have hw : r_15 = 0 := hw
  subst hw
  refine lv_i2l (v := 0) hx hb dX4_digest_27 (by decide) ?_
  refine lv_ladd hx hb dX4_digest_28 ?_
  refine lv_topl (nm_r (e' := 773572170958987) (by decide) ?_)
  refine lv_lstore_n (lv' := [(1, .long 773572170958987), (3, .int 7), (0, .ref am)]) hx hb dX4_digest_29 rfl hl (by decide) rfl (fun ls hl => ?_)
  refine lv_iinc (v := 8) (lv' := [(3, .int 8), (1, .long 773572170958987), (0, .ref am)]) hx hb dX4_digest_30 hl (k := 1) rfl (by decide) (by decide) rfl (fun ls hl => ?_)
  refine lv_goto (tgt := 11) hx hb dX4_digest_33 (by decide) ?_
  refine lv_iload_n hx hb dX4_digest_11 rfl (lv_at hl 0 rfl) ?_
  refine lv_bipush (v := 9) hx hb dX4_digest_12 (by decide) ?_
  refine lv_icmp_ge (tgt := 36) hx hb dX4_digest_14 (by decide) (fun h => absurd h (by decide)) (fun _ => ?_)
  refine lv_lload_n hx hb dX4_digest_17 rfl (lv_at hl 1 rfl) ?_
  refine lv_ldc2 (v := 31) hx hb hown (hts (.constantLong RX4 148 31) (by decide +kernel)) dX4_digest_18 ?_
  refine lv_lmul hx hb dX4_digest_21 ?_
  refine lv_topl (nm_r (e' := 23980737299728597) (by decide) ?_)
  refine lv_aload_n hx hb dX4_digest_22 rfl (lv_at hl 2 rfl) ?_
  refine lv_iload_n hx hb dX4_digest_23 rfl (lv_at hl 0 rfl) ?_
  have hPc := hP.sub (ws' := [(am, .inr (4, [.int 0, .int 0, .ref m1, .ref m2, .ref m3, .ref m4, .ref m5, .ref m6])), (m5, .inl (cN, 3, .inl (fun _ => 0)))]) [0, 1] rfl
  have hKc := hK.sub (tys' := [(cN, .int)]) [0] rfl
  refine va_calli (va_runV (As := [.int 8]) (rest := [.long 23980737299728597]) ⟨hx, hb, hml, hown, hts⟩ (ct_X4_counted l dC dI 0 8 am m1 m2 m3 m4 m5 m6 cN) (cwV 1 hts gX4_digest_X4_counted rfl rfl rfl (by decide +kernel) ⟨(Nat.le_of_ble_eq_true rfl), (Nat.le_of_ble_eq_true rfl)⟩) ⟨pR_blind, va_recv hKc hPc (ci := 4) (q0 := 0) rfl rfl, pR_pre hPc hKc⟩ rfl rfl hl.1 rfl (lv_room (Nat.le_of_ble_eq_true rfl)) dX4_digest_24 ⟨(Nat.le_of_ble_eq_true rfl), (Nat.le_of_ble_eq_true rfl)⟩) hS (fun q _ h => h.elim) (fun q h => h.elim) (fun r_17 u_18 t H1 locs ht hvm hw hB hz1 hk1 hS => ?_)
  have hP := hP.kept (fun k q hk => hk1 q.1 (hP k q hk).lt (fun h => h))
  generalize H1 = H at hP hS ⊢
  have hw : r_17 = 0 := hw
  subst hw
  refine lv_i2l (v := 0) hx hb dX4_digest_27 (by decide) ?_
  refine lv_ladd hx hb dX4_digest_28 ?_
  refine lv_topl (nm_r (e' := 23980737299728597) (by decide) ?_)
  refine lv_lstore_n (lv' := [(1, .long 23980737299728597), (3, .int 8), (0, .ref am)]) hx hb dX4_digest_29 rfl hl (by decide) rfl (fun ls hl => ?_)
  refine lv_iinc (v := 9) (lv' := [(3, .int 9), (1, .long 23980737299728597), (0, .ref am)]) hx hb dX4_digest_30 hl (k := 1) rfl (by decide) (by decide) rfl (fun ls hl => ?_)
  refine lv_goto (tgt := 11) hx hb dX4_digest_33 (by decide) ?_
  refine lv_iload_n hx hb dX4_digest_11 rfl (lv_at hl 0 rfl) ?_
  refine lv_bipush (v := 9) hx hb dX4_digest_12 (by decide) ?_
  refine lv_icmp_ge (tgt := 36) hx hb dX4_digest_14 (by decide) (fun _ => ?_) (fun h => absurd h (by decide))
  refine lv_iconst (v := 0) hx hb dX4_digest_36 (by decide) ?_
  refine lv_istore_n (lv' := [(3, .int 0), (1, .long 23980737299728597), (0, .ref am)]) hx hb dX4_digest_37 rfl hl (by decide) rfl (fun ls hl => ?_)
  refine lv_iload_n hx hb dX4_digest_38 rfl (lv_at hl 0 rfl) ?_
  refine lv_aload_n hx hb dX4_digest_39 rfl (lv_at hl 2 rfl) ?_
  refine va_get (D := (dC, dI)) (ci := 4) (v := .int 0) (C := RX4) (T := TX4) (N := 8) hx hb hts in_X4_digest_X4 hown hK hP 0 rfl rfl 1 (by decide) (hts (.fieldLink RX4 32 "VaultDoorsModel" "doors" "I") (List.mem_of_getElem? (i := 4) rfl)) (fun _ h9 => h9) rfl dX4_digest_40 ?_
  refine lv_icmp_ge (tgt := 135) hx hb dX4_digest_43 (by decide) (fun _ => ?_) (fun h => absurd h (by decide))
  refine lv_iconst (v := 0) hx hb dX4_digest_135 (by decide) ?_
  refine lv_istore_n (lv' := [(3, .int 0), (1, .long 23980737299728597), (0, .ref am)]) hx hb dX4_digest_136 rfl hl (by decide) rfl (fun ls hl => ?_)
  refine lv_iload_n hx hb dX4_digest_137 rfl (lv_at hl 0 rfl) ?_
  refine lv_aload_n hx hb dX4_digest_138 rfl (lv_at hl 2 rfl) ?_
  refine va_get (D := (dC, dI)) (ci := 4) (v := .ref m5) (C := RX4) (T := TX4) (N := 8) hx hb hts in_X4_digest_X4 hown hK hP 0 rfl rfl 6 (by decide) (hts (.fieldLink RX4 22 "VaultDoorsModel" "numbers" "[I") (List.mem_of_getElem? (i := 5) rfl)) (fun _ h9 => h9) rfl dX4_digest_139 ?_
  refine lv_iconst (v := 1) hx hb dX4_digest_142 (by decide) ?_
  refine va_iald (D := (dC, dI)) hx hb hK hP 1 0 rfl rfl (i := 1) (vs_vi (by decide)) dX4_digest_143 ?_
  refine W.eq (g2 := F0 m 144 ls [.int 0, .int 0]) rfl ?_
  refine lv_icmp_ge (tgt := 187) hx hb dX4_digest_144 (by decide) (fun _ => ?_) (fun h => absurd h (by decide))
  refine lv_lload_n hx hb dX4_digest_187 rfl (lv_at hl 1 rfl) ?_
  have hP9 := hP.sub (ws' := []) [] rfl
  have hD9 := hD.sub (ws' := []) [] (by decide) rfl
  have hK9 := hK.sub (tys' := []) [] rfl
  exact W.lret (v := 23980737299728597) hx hb hr (fun t ht hW => ⟨⟨_, (), rfl, rfl, by rw [ht]; exact hP9, va_K.moved hW.alike hK9, hD9⟩, hS.F ht⟩) hS.2.2 dX4_digest_188
