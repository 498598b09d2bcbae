set_option maxHeartbeats 4000000 in
set_option maxRecDepth 100000 in
theorem lw_case_5 {p : Program} {e : Env} {s : State} {m : MethodId} {below : List Frame} {meth : Method} {c : Code} (l : Launch) (hnt : l.stackTraces = false) {b : Nat} {xs : Nat → Int32} (C0 : lw_At p s m meth c b 4 xs) (dC : Nat → ClassId) (dI : Nat → Nat → Nat) {ax : Nat} {av : Nat} {at_ : Nat} {adr : Nat} {ao : Nat} {aar : Nat} {ad0 : Nat} {d1 : Nat} {d2 : Nat} {d3 : Nat} {d4 : Nat} {d5 : Nat} {cD : ClassId} {fd : Nat → Option Nat} {o1 : Nat} {o2 : Nat} {o3 : Nat} {o4 : Nat} {o5 : Nat} {r1 : Nat} {r2 : Nat} {r3 : Nat} {r4 : Nat} {r5 : Nat} {am : Nat} {m1 : Nat} {m2 : Nat} {m3 : Nat} {m4 : Nat} {m5 : Nat} {m6 : Nat} {cM : ClassId} {g1 : Nat → Int32} {cN : ClassId} {zo : Nat} {cL : ClassId} {fo : Nat → Int64} {H : Heap} {locs : List Loc} {ls : Array Slot} (hT : vs_T (fun q : Nat => s.heap.size ≤ q) (s.setDrawn s.drawn) s.heap) (hK : va_K (dC, dI) vwCl [(cD, .object RX0), (cM, .int), (cN, .int), (cL, .long)] (s.setDrawn s.drawn)) (hP : va_P (dC, dI) vwCl [(ax, .inr (3, [.ref av, .ref at_])), (av, .inr (1, [.int 0, .int 0, .ref adr, .ref ao, .ref aar])), (adr, .inl (cD, 10, .inr (.inr (.inr (.inr (va_up fd 0 (some ad0))))))), (ad0, .inr (0, [.int 0, .int 0, .int 0, .int 0, .int 0, .int 0, .int 0, .int 0, .ref d1, .ref d2, .ref d3, .int 0, .ref d4, .ref d5])), (ao, .inr (2, [.int 0, .int 0, .ref o1, .ref o2, .ref o3, .ref o4, .ref o5])), (aar, .inr (2, [.int 0, .int 0, .ref r1, .ref r2, .ref r3, .ref r4, .ref r5])), (am, .inr (4, [.int 0, .int 0, .ref m1, .ref m2, .ref m3, .ref m4, .ref m5, .ref m6])), (m1, .inl (cM, 90, .inl g1)), (m5, .inl (cN, 3, .inl (fun _ => 0))), (zo, .inl (cL, 1, .inr (.inl fo)))] H) (hD : va_D (fun q : Nat => s.heap.size ≤ q) [(ax, .inr (3, [.ref av, .ref at_])), (av, .inr (1, [.int 0, .int 0, .ref adr, .ref ao, .ref aar])), (adr, .inl (cD, 10, .inr (.inr (.inr (.inr (va_up fd 0 (some ad0))))))), (ad0, .inr (0, [.int 0, .int 0, .int 0, .int 0, .int 0, .int 0, .int 0, .int 0, .ref d1, .ref d2, .ref d3, .int 0, .ref d4, .ref d5])), (ao, .inr (2, [.int 0, .int 0, .ref o1, .ref o2, .ref o3, .ref o4, .ref o5])), (aar, .inr (2, [.int 0, .int 0, .ref r1, .ref r2, .ref r3, .ref r4, .ref r5])), (am, .inr (4, [.int 0, .int 0, .ref m1, .ref m2, .ref m3, .ref m4, .ref m5, .ref m6])), (m1, .inl (cM, 90, .inl g1)), (m5, .inl (cN, 3, .inl (fun _ => 0))), (zo, .inl (cL, 1, .inr (.inl fo)))]) (hS : va_S (fun q : Nat => s.heap.size ≤ q) s.heap H locs) (hl : lv_has ls 9 [(4, .int 0), (3, .ref zo), (2, .ref am), (1, .ref ax), (0, .ref b)]) : W p l e room_1 (s.setDrawn s.drawn) m #[Value.ref b] below meth c H locs 157 7002 (lw_Z below #[Value.ref b] s) (F0 m 495 ls []) := by
  obtain ⟨hx, hb, hr, hml, hown, hts0, hX, hbl, hlocks, hgv⟩ := id C0
  have hts1 : ∀ w ∈ wsL_law, w.before #[Value.ref b] s = true := fun w h => hts0 w (wsL_law_in w h)
  have hts := dr_words hts1 s.drawn
  have hA : ∀ q : Nat, s.heap.size ≤ q → (fun q : Nat => s.heap.size ≤ q) q := fun _ h => h
  have hbA : ¬ (fun q : Nat => s.heap.size ≤ q) b := Nat.not_le.mpr hbl
  have hd0 := Drawn.sameBut.refl s.drawn lw_cs
  obtain ⟨A, hAq⟩ : ∃ A : Nat → Prop, A = (fun q : Nat => s.heap.size ≤ q) := ⟨_, rfl⟩
  rw [← hAq] at hA hbA hT hD hS
  refine lv_aload_n hx hb dL_law_495 rfl (lv_at hl 3 rfl) ?_
  refine lv_aload_n hx hb dL_law_496 rfl (lv_at hl 4 rfl) ?_
  refine lv_iload hx hb dL_law_497 (lv_at hl 0 rfl) ?_
  refine lv_iconst (v := 1) hx hb dL_law_499 (by decide) ?_
  refine lv_iadd hx hb dL_law_500 ?_
  refine lv_topi (nm_r (e' := 1) (by decide) ?_)
  refine va_sld hx hb hX hbl hbA hS (i := 1) (vs_vi (by decide)) dL_law_501 ?_
  refine W.eq (g2 := F0 m 502 ls [.int (xs 1), .ref ax]) rfl ?_
  refine lv_aload_n hx hb dL_law_502 rfl (lv_at hl 4 rfl) ?_
  refine lv_iload hx hb dL_law_503 (lv_at hl 0 rfl) ?_
  refine lv_iconst (v := 2) hx hb dL_law_505 (by decide) ?_
  refine lv_iadd hx hb dL_law_506 ?_
  refine lv_topi (nm_r (e' := 2) (by decide) ?_)
  refine va_sld hx hb hX hbl hbA hS (i := 2) (vs_vi (by decide)) dL_law_507 ?_
  refine W.eq (g2 := F0 m 508 ls [.int (xs 2), .int (xs 1), .ref ax]) rfl ?_
  refine lv_aload_n hx hb dL_law_508 rfl (lv_at hl 4 rfl) ?_
  refine lv_iload hx hb dL_law_509 (lv_at hl 0 rfl) ?_
  refine lv_iconst (v := 3) hx hb dL_law_511 (by decide) ?_
  refine lv_iadd hx hb dL_law_512 ?_
  refine lv_topi (nm_r (e' := 3) (by decide) ?_)
  refine va_sld hx hb hX hbl hbA hS (i := 3) (vs_vi (by decide)) dL_law_513 ?_
  refine W.eq (g2 := F0 m 514 ls [.int (xs 3), .int (xs 2), .int (xs 1), .ref ax]) rfl ?_
  refine lv_aload_n hx hb dL_law_514 rfl (lv_at hl 1 rfl) ?_
  have hPc := hP.sub (ws' := [(ax, .inr (3, [.ref av, .ref at_])), (av, .inr (1, [.int 0, .int 0, .ref adr, .ref ao, .ref aar])), (zo, .inl (cL, 1, .inr (.inl fo)))]) [0, 1, 9] rfl
  have hKc := hK.sub (tys' := [(cL, .long)]) [3] rfl
  have hDc := hD.sub (ws' := [(ax, .inr (3, [.ref av, .ref at_])), (av, .inr (1, [.int 0, .int 0, .ref adr, .ref ao, .ref aar])), (zo, .inl (cL, 1, .inr (.inl fo)))]) [0, 1, 9] (by decide) rfl
  have hFc := va_free (wc := [(ax, .inr (3, [.ref av, .ref at_])), (av, .inr (1, [.int 0, .int 0, .ref adr, .ref ao, .ref aar])), (zo, .inl (cL, 1, .inr (.inl fo)))]) hD hS hA [0, 1, 9] rfl
  have hTc := (hT.kept hS).narrow hFc
  refine vx_calli (vx_runSX (As := [.ref ax, .int (xs 1), .int (xs 2), .int (xs 3), .ref zo]) (rest := []) ⟨hx, hb, hml, hown, hts⟩ (cl_asks l hnt dC dI (xs 1) (xs 2) (xs 3) ax av at_ adr ao aar zo cL fo H.size) (vx_cwSW 5 hts gL_law_L_asks rfl rfl rfl (by decide +kernel) ⟨(Nat.le_of_ble_eq_true rfl), (Nat.le_of_ble_eq_true rfl)⟩) ⟨pY_blind, pY_pre hPc hDc hKc hTc⟩ rfl rfl hl.1 rfl (lv_room (Nat.le_of_ble_eq_true rfl)) dL_law_515 ⟨(Nat.le_of_ble_eq_true rfl), (Nat.le_of_ble_eq_true rfl)⟩) hS (fun q _ h => hFc q h) hFc (fun q _ h => hFc q h) (fun E ce q9 ux t H1 locs ht hvm hp hBX hz1 hk1 hS hce hcv hcl => ?_) (fun r_1 u_2 t H1 locs ht hvm hw hB hz1 hk1 hS => ?_)
  · exact hBX.elim
  obtain ⟨hP1, hK1, hD1⟩ := hB
  rw [ht] at hP1
  have hK1 := va_K.moved hvm.symm hK1
  obtain ⟨hP, hD⟩ := va_join (wr := [(adr, .inl (cD, 10, .inr (.inr (.inr (.inr (va_up fd 0 (some ad0))))))), (ad0, .inr (0, [.int 0, .int 0, .int 0, .int 0, .int 0, .int 0, .int 0, .int 0, .ref d1, .ref d2, .ref d3, .int 0, .ref d4, .ref d5])), (ao, .inr (2, [.int 0, .int 0, .ref o1, .ref o2, .ref o3, .ref o4, .ref o5])), (aar, .inr (2, [.int 0, .int 0, .ref r1, .ref r2, .ref r3, .ref r4, .ref r5])), (am, .inr (4, [.int 0, .int 0, .ref m1, .ref m2, .ref m3, .ref m4, .ref m5, .ref m6])), (m1, .inl (cM, 90, .inl g1)), (m5, .inl (cN, 3, .inl (fun _ => 0)))]) (w1 := []) hP hD [0, 1, 9] [2, 3, 4, 5, 6, 7, 8] rfl rfl (by decide) (by decide) hk1 hFc hP1 hD1
  generalize H1 = H at hP hS ⊢
  have hP : va_P (dC, dI) vwCl [(adr, .inl (cD, 10, .inr (.inr (.inr (.inr (va_up fd 0 (some ad0))))))), (ad0, .inr (0, [.int 0, .int 0, .int 0, .int 0, .int 0, .int 0, .int 0, .int 0, .ref d1, .ref d2, .ref d3, .int 0, .ref d4, .ref d5])), (ao, .inr (2, [.int 0, .int 0, .ref o1, .ref o2, .ref o3, .ref o4, .ref o5])), (aar, .inr (2, [.int 0, .int 0, .ref r1, .ref r2, .ref r3, .ref r4, .ref r5])), (am, .inr (4, [.int 0, .int 0, .ref m1, .ref m2, .ref m3, .ref m4, .ref m5, .ref m6])), (m1, .inl (cM, 90, .inl g1)), (m5, .inl (cN, 3, .inl (fun _ => 0)))] H := hP
  have hD : va_D A [(adr, .inl (cD, 10, .inr (.inr (.inr (.inr (va_up fd 0 (some ad0))))))), (ad0, .inr (0, [.int 0, .int 0, .int 0, .int 0, .int 0, .int 0, .int 0, .int 0, .ref d1, .ref d2, .ref d3, .int 0, .ref d4, .ref d5])), (ao, .inr (2, [.int 0, .int 0, .ref o1, .ref o2, .ref o3, .ref o4, .ref o5])), (aar, .inr (2, [.int 0, .int 0, .ref r1, .ref r2, .ref r3, .ref r4, .ref r5])), (am, .inr (4, [.int 0, .int 0, .ref m1, .ref m2, .ref m3, .ref m4, .ref m5, .ref m6])), (m1, .inl (cM, 90, .inl g1)), (m5, .inl (cN, 3, .inl (fun _ => 0)))] := hD
  have hK : va_K (dC, dI) vwCl [(cD, .object RX0), (cM, .int), (cN, .int), (cL, .long)] _ := hK
  refine W.widen (k := 158) (n := 7008) (by omega) (by omega) ?_
  have hw : r_1 = 1 := hw
  subst hw
  refine lv_istore (lv' := [(5, .int 1), (4, .int 0), (3, .ref zo), (2, .ref am), (1, .ref ax), (0, .ref b)]) hx hb dL_law_518 hl (by decide) rfl (fun ls hl => ?_)
  refine lv_aload_n hx hb dL_law_520 rfl (lv_at hl 3 rfl) ?_
  refine lv_aload_n hx hb dL_law_521 rfl (lv_at hl 5 rfl) ?_
  refine lv_iload hx hb dL_law_522 (lv_at hl 1 rfl) ?_
  refine lv_iconst (v := 1) hx hb dL_law_524 (by decide) ?_
  refine lv_iadd hx hb dL_law_525 ?_
  refine lv_topi (nm_r (e' := 1) (by decide) ?_)
  refine va_sld hx hb hX hbl hbA hS (i := 1) (vs_vi (by decide)) dL_law_526 ?_
  refine W.eq (g2 := F0 m 527 ls [.int (xs 1), .ref am]) rfl ?_
  refine lv_aload_n hx hb dL_law_527 rfl (lv_at hl 5 rfl) ?_
  refine lv_iload hx hb dL_law_528 (lv_at hl 1 rfl) ?_
  refine lv_iconst (v := 2) hx hb dL_law_530 (by decide) ?_
  refine lv_iadd hx hb dL_law_531 ?_
  refine lv_topi (nm_r (e' := 2) (by decide) ?_)
  refine va_sld hx hb hX hbl hbA hS (i := 2) (vs_vi (by decide)) dL_law_532 ?_
  refine W.eq (g2 := F0 m 533 ls [.int (xs 2), .int (xs 1), .ref am]) rfl ?_
  refine lv_aload_n hx hb dL_law_533 rfl (lv_at hl 5 rfl) ?_
  refine lv_iload hx hb dL_law_534 (lv_at hl 1 rfl) ?_
  refine lv_iconst (v := 3) hx hb dL_law_536 (by decide) ?_
  refine lv_iadd hx hb dL_law_537 ?_
  refine lv_topi (nm_r (e' := 3) (by decide) ?_)
  refine va_sld hx hb hX hbl hbA hS (i := 3) (vs_vi (by decide)) dL_law_538 ?_
  refine W.eq (g2 := F0 m 539 ls [.int (xs 3), .int (xs 2), .int (xs 1), .ref am]) rfl ?_
  have hPc := hP.sub (ws' := [(am, .inr (4, [.int 0, .int 0, .ref m1, .ref m2, .ref m3, .ref m4, .ref m5, .ref m6]))]) [4] rfl
  have hKc := hK.sub (tys' := []) [] rfl
  have hDc := hD.sub (ws' := [(am, .inr (4, [.int 0, .int 0, .ref m1, .ref m2, .ref m3, .ref m4, .ref m5, .ref m6]))]) [4] (by decide) rfl
  have hFc := va_free (wc := [(am, .inr (4, [.int 0, .int 0, .ref m1, .ref m2, .ref m3, .ref m4, .ref m5, .ref m6]))]) hD hS hA [4] rfl
  refine va_calli (va_runV (As := [.int (xs 1), .int (xs 2), .int (xs 3)]) (rest := []) ⟨hx, hb, hml, hown, hts⟩ (ct_X4_asks l dC dI 0 (xs 1) (xs 2) (xs 3) am m1 m2 m3 m4 m5 m6 H.size) (cwV 3 hts gL_law_X4_asks rfl rfl rfl (by decide +kernel) ⟨(Nat.le_of_ble_eq_true rfl), (Nat.le_of_ble_eq_true rfl)⟩) ⟨pZ_blind, va_recv hKc hPc (ci := 4) (q0 := 0) rfl rfl, pZ_pre hPc hDc hKc⟩ rfl rfl hl.1 rfl (lv_room (Nat.le_of_ble_eq_true rfl)) dL_law_539 ⟨(Nat.le_of_ble_eq_true rfl), (Nat.le_of_ble_eq_true rfl)⟩) hS (fun q _ h => hFc q h) hFc (fun r_3 u_4 t H1 locs ht hvm hw hB hz1 hk1 hS => ?_)
  obtain ⟨hP1, hK1, hD1⟩ := hB
  rw [ht] at hP1
  have hK1 := va_K.moved hvm.symm hK1
  obtain ⟨hP, hD⟩ := va_join (wr := [(adr, .inl (cD, 10, .inr (.inr (.inr (.inr (va_up fd 0 (some ad0))))))), (ad0, .inr (0, [.int 0, .int 0, .int 0, .int 0, .int 0, .int 0, .int 0, .int 0, .ref d1, .ref d2, .ref d3, .int 0, .ref d4, .ref d5])), (ao, .inr (2, [.int 0, .int 0, .ref o1, .ref o2, .ref o3, .ref o4, .ref o5])), (aar, .inr (2, [.int 0, .int 0, .ref r1, .ref r2, .ref r3, .ref r4, .ref r5])), (m1, .inl (cM, 90, .inl g1)), (m5, .inl (cN, 3, .inl (fun _ => 0)))]) (w1 := [(am, .inr (4, [.int 1, .int 0, .ref m1, .ref m2, .ref m3, .ref m4, .ref m5, .ref m6]))]) hP hD [4] [0, 1, 2, 3, 5, 6] rfl rfl (by decide) (by decide) hk1 hFc hP1 hD1
  generalize H1 = H at hP hS ⊢
  have hP : va_P (dC, dI) vwCl [(adr, .inl (cD, 10, .inr (.inr (.inr (.inr (va_up fd 0 (some ad0))))))), (ad0, .inr (0, [.int 0, .int 0, .int 0, .int 0, .int 0, .int 0, .int 0, .int 0, .ref d1, .ref d2, .ref d3, .int 0, .ref d4, .ref d5])), (ao, .inr (2, [.int 0, .int 0, .ref o1, .ref o2, .ref o3, .ref o4, .ref o5])), (aar, .inr (2, [.int 0, .int 0, .ref r1, .ref r2, .ref r3, .ref r4, .ref r5])), (m1, .inl (cM, 90, .inl g1)), (m5, .inl (cN, 3, .inl (fun _ => 0))), (am, .inr (4, [.int 1, .int 0, .ref m1, .ref m2, .ref m3, .ref m4, .ref m5, .ref m6]))] H := hP
  have hD : va_D A [(adr, .inl (cD, 10, .inr (.inr (.inr (.inr (va_up fd 0 (some ad0))))))), (ad0, .inr (0, [.int 0, .int 0, .int 0, .int 0, .int 0, .int 0, .int 0, .int 0, .ref d1, .ref d2, .ref d3, .int 0, .ref d4, .ref d5])), (ao, .inr (2, [.int 0, .int 0, .ref o1, .ref o2, .ref o3, .ref o4, .ref o5])), (aar, .inr (2, [.int 0, .int 0, .ref r1, .ref r2, .ref r3, .ref r4, .ref r5])), (m1, .inl (cM, 90, .inl g1)), (m5, .inl (cN, 3, .inl (fun _ => 0))), (am, .inr (4, [.int 1, .int 0, .ref m1, .ref m2, .ref m3, .ref m4, .ref m5, .ref m6]))] := hD
  have hK : va_K (dC, dI) vwCl [(cD, .object RX0), (cM, .int), (cN, .int), (cL, .long)] _ := hK
  have hw : r_3 = 0 := hw
  subst hw
  refine lv_istore (lv' := [(6, .int 0), (5, .int 1), (4, .int 0), (3, .ref zo), (2, .ref am), (1, .ref ax), (0, .ref b)]) hx hb dL_law_542 hl (by decide) rfl (fun ls hl => ?_)
  refine lv_aload_n hx hb dL_law_544 rfl (lv_at hl 4 rfl) ?_
  have hPc := hP.sub (ws' := [(am, .inr (4, [.int 1, .int 0, .ref m1, .ref m2, .ref m3, .ref m4, .ref m5, .ref m6]))]) [6] rfl
  have hKc := hK.sub (tys' := []) [] rfl
  refine va_calli (va_runV (As := []) (rest := []) ⟨hx, hb, hml, hown, hts⟩ (ct_X4_thrown l dC dI 1 0 am m1 m2 m3 m4 m5 m6) (cwV 0 hts gL_law_X4_thrown rfl rfl rfl (by decide +kernel) ⟨(Nat.le_of_ble_eq_true rfl), (Nat.le_of_ble_eq_true rfl)⟩) ⟨pR_blind, va_recv hKc hPc (ci := 4) (q0 := 0) rfl rfl, pR_pre hPc hKc⟩ rfl rfl hl.1 rfl (lv_room (Nat.le_of_ble_eq_true rfl)) dL_law_545 ⟨(Nat.le_of_ble_eq_true rfl), (Nat.le_of_ble_eq_true rfl)⟩) hS (fun q _ h => h.elim) (fun q h => h.elim) (fun r_5 u_6 t H1 locs ht hvm hw hB hz1 hk1 hS => ?_)
  have hP := hP.kept (fun k q hk => hk1 q.1 (hP k q hk).lt (fun h => h))
  generalize H1 = H at hP hS ⊢
  have hw : r_5 = 1 := hw
  subst hw
  refine lv_iload hx hb dL_law_548 (lv_at hl 1 rfl) ?_
  refine lv_icmp_eq (tgt := 555) hx hb dL_law_550 (by decide) (fun _ => ?_) (fun h => absurd h (by decide))
  refine lv_iload hx hb dL_law_555 (lv_at hl 1 rfl) ?_
  refine lv_if_ne (tgt := 572) hx hb dL_law_557 (by decide) (fun _ => ?_) (fun h => absurd h (by decide))
  refine lv_goto (tgt := 1046) hx hb dL_law_572 (by decide) ?_
  refine W.widen (k := 1000) (n := 20000) (Nat.le_of_ble_eq_true rfl) (Nat.le_of_ble_eq_true rfl) ?_
  rw [hAq] at hS
  exact lw_tail l hnt C0 hS (lv_sub hl (l' := [(4, .int 0), (0, .ref b)]) [2, 6] rfl)

set_option maxHeartbeats 4000000 in
set_option maxRecDepth 100000 in
theorem lw_case_6 {p : Program} {e : Env} {s : State} {m : MethodId} {below : List Frame} {meth : Method} {c : Code} (l : Launch) (hnt : l.stackTraces = false) {b : Nat} {xs : Nat → Int32} (C0 : lw_At p s m meth c b 4 xs) (dC : Nat → ClassId) (dI : Nat → Nat → Nat) {ax : Nat} {av : Nat} {at_ : Nat} {adr : Nat} {ao : Nat} {aar : Nat} {ad0 : Nat} {d1 : Nat} {d2 : Nat} {d3 : Nat} {d4 : Nat} {d5 : Nat} {cD : ClassId} {fd : Nat → Option Nat} {o1 : Nat} {o2 : Nat} {o3 : Nat} {o4 : Nat} {o5 : Nat} {r1 : Nat} {r2 : Nat} {r3 : Nat} {r4 : Nat} {r5 : Nat} {am : Nat} {m1 : Nat} {m2 : Nat} {m3 : Nat} {m4 : Nat} {m5 : Nat} {m6 : Nat} {cM : ClassId} {g1 : Nat → Int32} {cN : ClassId} {zo : Nat} {cL : ClassId} {fo : Nat → Int64} {H : Heap} {locs : List Loc} {ls : Array Slot} (hT : vs_T (fun q : Nat => s.heap.size ≤ q) (s.setDrawn s.drawn) s.heap) (hK : va_K (dC, dI) vwCl [(cD, .object RX0), (cM, .int), (cN, .int), (cL, .long)] (s.setDrawn s.drawn)) (hP : va_P (dC, dI) vwCl [(ax, .inr (3, [.ref av, .ref at_])), (av, .inr (1, [.int 0, .int 0, .ref adr, .ref ao, .ref aar])), (adr, .inl (cD, 10, .inr (.inr (.inr (.inr (va_up fd 0 (some ad0))))))), (ad0, .inr (0, [.int 0, .int 0, .int 0, .int 0, .int 0, .int 0, .int 0, .int 0, .ref d1, .ref d2, .ref d3, .int 0, .ref d4, .ref d5])), (ao, .inr (2, [.int 0, .int 0, .ref o1, .ref o2, .ref o3, .ref o4, .ref o5])), (aar, .inr (2, [.int 0, .int 0, .ref r1, .ref r2, .ref r3, .ref r4, .ref r5])), (am, .inr (4, [.int 0, .int 0, .ref m1, .ref m2, .ref m3, .ref m4, .ref m5, .ref m6])), (m1, .inl (cM, 90, .inl g1)), (m5, .inl (cN, 3, .inl (fun _ => 0))), (zo, .inl (cL, 1, .inr (.inl fo)))] H) (hD : va_D (fun q : Nat => s.heap.size ≤ q) [(ax, .inr (3, [.ref av, .ref at_])), (av, .inr (1, [.int 0, .int 0, .ref adr, .ref ao, .ref aar])), (adr, .inl (cD, 10, .inr (.inr (.inr (.inr (va_up fd 0 (some ad0))))))), (ad0, .inr (0, [.int 0, .int 0, .int 0, .int 0, .int 0, .int 0, .int 0, .int 0, .ref d1, .ref d2, .ref d3, .int 0, .ref d4, .ref d5])), (ao, .inr (2, [.int 0, .int 0, .ref o1, .ref o2, .ref o3, .ref o4, .ref o5])), (aar, .inr (2, [.int 0, .int 0, .ref r1, .ref r2, .ref r3, .ref r4, .ref r5])), (am, .inr (4, [.int 0, .int 0, .ref m1, .ref m2, .ref m3, .ref m4, .ref m5, .ref m6])), (m1, .inl (cM, 90, .inl g1)), (m5, .inl (cN, 3, .inl (fun _ => 0))), (zo, .inl (cL, 1, .inr (.inl fo)))]) (hS : va_S (fun q : Nat => s.heap.size ≤ q) s.heap H locs) (hl : lv_has ls 9 [(4, .int 0), (3, .ref zo), (2, .ref am), (1, .ref ax), (0, .ref b)]) : W p l e room_1 (s.setDrawn s.drawn) m #[Value.ref b] below meth c H locs 157 7002 (lw_Z below #[Value.ref b] s) (F0 m 575 ls []) := by
  obtain ⟨hx, hb, hr, hml, hown, hts0, hX, hbl, hlocks, hgv⟩ := id C0
  have hts1 : ∀ w ∈ wsL_law, w.before #[Value.ref b] s = true := fun w h => hts0 w (wsL_law_in w h)
  have hts := dr_words hts1 s.drawn
  have hA : ∀ q : Nat, s.heap.size ≤ q → (fun q : Nat => s.heap.size ≤ q) q := fun _ h => h
  have hbA : ¬ (fun q : Nat => s.heap.size ≤ q) b := Nat.not_le.mpr hbl
  have hd0 := Drawn.sameBut.refl s.drawn lw_cs
  obtain ⟨A, hAq⟩ : ∃ A : Nat → Prop, A = (fun q : Nat => s.heap.size ≤ q) := ⟨_, rfl⟩
  rw [← hAq] at hA hbA hT hD hS
  refine lv_aload_n hx hb dL_law_575 rfl (lv_at hl 3 rfl) ?_
  refine lv_aload_n hx hb dL_law_576 rfl (lv_at hl 4 rfl) ?_
  refine lv_iload hx hb dL_law_577 (lv_at hl 0 rfl) ?_
  refine lv_iconst (v := 1) hx hb dL_law_579 (by decide) ?_
  refine lv_iadd hx hb dL_law_580 ?_
  refine lv_topi (nm_r (e' := 1) (by decide) ?_)
  refine va_sld hx hb hX hbl hbA hS (i := 1) (vs_vi (by decide)) dL_law_581 ?_
  refine W.eq (g2 := F0 m 582 ls [.int (xs 1), .ref ax]) rfl ?_
  refine lv_aload_n hx hb dL_law_582 rfl (lv_at hl 4 rfl) ?_
  refine lv_iload hx hb dL_law_583 (lv_at hl 0 rfl) ?_
  refine lv_iconst (v := 2) hx hb dL_law_585 (by decide) ?_
  refine lv_iadd hx hb dL_law_586 ?_
  refine lv_topi (nm_r (e' := 2) (by decide) ?_)
  refine va_sld hx hb hX hbl hbA hS (i := 2) (vs_vi (by decide)) dL_law_587 ?_
  refine W.eq (g2 := F0 m 588 ls [.int (xs 2), .int (xs 1), .ref ax]) rfl ?_
  refine lv_aload_n hx hb dL_law_588 rfl (lv_at hl 1 rfl) ?_
  have hPc := hP.sub (ws' := [(ax, .inr (3, [.ref av, .ref at_])), (av, .inr (1, [.int 0, .int 0, .ref adr, .ref ao, .ref aar])), (ao, .inr (2, [.int 0, .int 0, .ref o1, .ref o2, .ref o3, .ref o4, .ref o5])), (zo, .inl (cL, 1, .inr (.inl fo)))]) [0, 1, 4, 9] rfl
  have hKc := hK.sub (tys' := [(cL, .long)]) [3] rfl
  have hDc := hD.sub (ws' := [(ax, .inr (3, [.ref av, .ref at_])), (av, .inr (1, [.int 0, .int 0, .ref adr, .ref ao, .ref aar])), (ao, .inr (2, [.int 0, .int 0, .ref o1, .ref o2, .ref o3, .ref o4, .ref o5])), (zo, .inl (cL, 1, .inr (.inl fo)))]) [0, 1, 4, 9] (by decide) rfl
  have hFc := va_free (wc := [(ax, .inr (3, [.ref av, .ref at_])), (av, .inr (1, [.int 0, .int 0, .ref adr, .ref ao, .ref aar])), (ao, .inr (2, [.int 0, .int 0, .ref o1, .ref o2, .ref o3, .ref o4, .ref o5])), (zo, .inl (cL, 1, .inr (.inl fo)))]) hD hS hA [0, 1, 4, 9] rfl
  have hTc := (hT.kept hS).narrow hFc
  refine vx_calli (vx_runSX (As := [.ref ax, .int (xs 1), .int (xs 2), .ref zo]) (rest := []) ⟨hx, hb, hml, hown, hts⟩ (cl_voice l hnt dC dI (xs 1) (xs 2) ax av at_ adr ao aar o1 o2 o3 o4 o5 zo cL fo H.size) (vx_cwSW 4 hts gL_law_L_voice rfl rfl rfl (by decide +kernel) ⟨(Nat.le_of_ble_eq_true rfl), (Nat.le_of_ble_eq_true rfl)⟩) ⟨pY_blind, pY_pre hPc hDc hKc hTc⟩ rfl rfl hl.1 rfl (lv_room (Nat.le_of_ble_eq_true rfl)) dL_law_589 ⟨(Nat.le_of_ble_eq_true rfl), (Nat.le_of_ble_eq_true rfl)⟩) hS (fun q _ h => hFc q h) hFc (fun q _ h => hFc q h) (fun E ce q9 ux t H1 locs ht hvm hp hBX hz1 hk1 hS hce hcv hcl => ?_) (fun r_1 u_2 t H1 locs ht hvm hw hB hz1 hk1 hS => ?_)
  · exact hBX.elim
  obtain ⟨hP1, hK1, hD1⟩ := hB
  rw [ht] at hP1
  have hK1 := va_K.moved hvm.symm hK1
  obtain ⟨hP, hD⟩ := va_join (wr := [(adr, .inl (cD, 10, .inr (.inr (.inr (.inr (va_up fd 0 (some ad0))))))), (ad0, .inr (0, [.int 0, .int 0, .int 0, .int 0, .int 0, .int 0, .int 0, .int 0, .ref d1, .ref d2, .ref d3, .int 0, .ref d4, .ref d5])), (aar, .inr (2, [.int 0, .int 0, .ref r1, .ref r2, .ref r3, .ref r4, .ref r5])), (am, .inr (4, [.int 0, .int 0, .ref m1, .ref m2, .ref m3, .ref m4, .ref m5, .ref m6])), (m1, .inl (cM, 90, .inl g1)), (m5, .inl (cN, 3, .inl (fun _ => 0)))]) (w1 := []) hP hD [0, 1, 4, 9] [2, 3, 5, 6, 7, 8] rfl rfl (by decide) (by decide) hk1 hFc hP1 hD1
  generalize H1 = H at hP hS ⊢
  have hP : va_P (dC, dI) vwCl [(adr, .inl (cD, 10, .inr (.inr (.inr (.inr (va_up fd 0 (some ad0))))))), (ad0, .inr (0, [.int 0, .int 0, .int 0, .int 0, .int 0, .int 0, .int 0, .int 0, .ref d1, .ref d2, .ref d3, .int 0, .ref d4, .ref d5])), (aar, .inr (2, [.int 0, .int 0, .ref r1, .ref r2, .ref r3, .ref r4, .ref r5])), (am, .inr (4, [.int 0, .int 0, .ref m1, .ref m2, .ref m3, .ref m4, .ref m5, .ref m6])), (m1, .inl (cM, 90, .inl g1)), (m5, .inl (cN, 3, .inl (fun _ => 0)))] H := hP
  have hD : va_D A [(adr, .inl (cD, 10, .inr (.inr (.inr (.inr (va_up fd 0 (some ad0))))))), (ad0, .inr (0, [.int 0, .int 0, .int 0, .int 0, .int 0, .int 0, .int 0, .int 0, .ref d1, .ref d2, .ref d3, .int 0, .ref d4, .ref d5])), (aar, .inr (2, [.int 0, .int 0, .ref r1, .ref r2, .ref r3, .ref r4, .ref r5])), (am, .inr (4, [.int 0, .int 0, .ref m1, .ref m2, .ref m3, .ref m4, .ref m5, .ref m6])), (m1, .inl (cM, 90, .inl g1)), (m5, .inl (cN, 3, .inl (fun _ => 0)))] := hD
  have hK : va_K (dC, dI) vwCl [(cD, .object RX0), (cM, .int), (cN, .int), (cL, .long)] _ := hK
  refine W.widen (k := 158) (n := 7008) (by omega) (by omega) ?_
  have hw : r_1 = 1 := hw
  subst hw
  refine lv_istore (lv' := [(5, .int 1), (4, .int 0), (3, .ref zo), (2, .ref am), (1, .ref ax), (0, .ref b)]) hx hb dL_law_592 hl (by decide) rfl (fun ls hl => ?_)
  refine lv_aload_n hx hb dL_law_594 rfl (lv_at hl 3 rfl) ?_
  refine lv_aload_n hx hb dL_law_595 rfl (lv_at hl 5 rfl) ?_
  refine lv_iload hx hb dL_law_596 (lv_at hl 1 rfl) ?_
  refine lv_iconst (v := 1) hx hb dL_law_598 (by decide) ?_
  refine lv_iadd hx hb dL_law_599 ?_
  refine lv_topi (nm_r (e' := 1) (by decide) ?_)
  refine va_sld hx hb hX hbl hbA hS (i := 1) (vs_vi (by decide)) dL_law_600 ?_
  refine W.eq (g2 := F0 m 601 ls [.int (xs 1), .ref am]) rfl ?_
  refine lv_aload_n hx hb dL_law_601 rfl (lv_at hl 5 rfl) ?_
  refine lv_iload hx hb dL_law_602 (lv_at hl 1 rfl) ?_
  refine lv_iconst (v := 2) hx hb dL_law_604 (by decide) ?_
  refine lv_iadd hx hb dL_law_605 ?_
  refine lv_topi (nm_r (e' := 2) (by decide) ?_)
  refine va_sld hx hb hX hbl hbA hS (i := 2) (vs_vi (by decide)) dL_law_606 ?_
  refine W.eq (g2 := F0 m 607 ls [.int (xs 2), .int (xs 1), .ref am]) rfl ?_
  have hPc := hP.sub (ws' := [(am, .inr (4, [.int 0, .int 0, .ref m1, .ref m2, .ref m3, .ref m4, .ref m5, .ref m6])), (m5, .inl (cN, 3, .inl (fun _ => 0)))]) [3, 5] rfl
  have hKc := hK.sub (tys' := [(cN, .int)]) [2] rfl
  have hDc := hD.sub (ws' := [(am, .inr (4, [.int 0, .int 0, .ref m1, .ref m2, .ref m3, .ref m4, .ref m5, .ref m6])), (m5, .inl (cN, 3, .inl (fun _ => 0)))]) [3, 5] (by decide) rfl
  have hFc := va_free (wc := [(am, .inr (4, [.int 0, .int 0, .ref m1, .ref m2, .ref m3, .ref m4, .ref m5, .ref m6])), (m5, .inl (cN, 3, .inl (fun _ => 0)))]) hD hS hA [3, 5] rfl
  refine va_calli (va_runV (As := [.int (xs 1), .int (xs 2)]) (rest := []) ⟨hx, hb, hml, hown, hts⟩ (ct_X4_voice l dC dI 0 (xs 1) (xs 2) am m1 m2 m3 m4 m5 m6 cN H.size) (cwV 2 hts gL_law_X4_voice rfl rfl rfl (by decide +kernel) ⟨(Nat.le_of_ble_eq_true rfl), (Nat.le_of_ble_eq_true rfl)⟩) ⟨pZ_blind, va_recv hKc hPc (ci := 4) (q0 := 0) rfl rfl, pZ_pre hPc hDc hKc⟩ rfl rfl hl.1 rfl (lv_room (Nat.le_of_ble_eq_true rfl)) dL_law_607 ⟨(Nat.le_of_ble_eq_true rfl), (Nat.le_of_ble_eq_true rfl)⟩) hS (fun q _ h => hFc q h) hFc (fun r_3 u_4 t H1 locs ht hvm hw hB hz1 hk1 hS => ?_)
  obtain ⟨hP1, hK1, hD1⟩ := hB
  rw [ht] at hP1
  have hK1 := va_K.moved hvm.symm hK1
  obtain ⟨hP, hD⟩ := va_join (wr := [(adr, .inl (cD, 10, .inr (.inr (.inr (.inr (va_up fd 0 (some ad0))))))), (ad0, .inr (0, [.int 0, .int 0, .int 0, .int 0, .int 0, .int 0, .int 0, .int 0, .ref d1, .ref d2, .ref d3, .int 0, .ref d4, .ref d5])), (aar, .inr (2, [.int 0, .int 0, .ref r1, .ref r2, .ref r3, .ref r4, .ref r5])), (m1, .inl (cM, 90, .inl g1))]) (w1 := [(am, .inr (4, [.int 1, .int 0, .ref m1, .ref m2, .ref m3, .ref m4, .ref m5, .ref m6]))]) hP hD [3, 5] [0, 1, 2, 4] rfl rfl (by decide) (by decide) hk1 hFc hP1 hD1
  generalize H1 = H at hP hS ⊢
  have hP : va_P (dC, dI) vwCl [(adr, .inl (cD, 10, .inr (.inr (.inr (.inr (va_up fd 0 (some ad0))))))), (ad0, .inr (0, [.int 0, .int 0, .int 0, .int 0, .int 0, .int 0, .int 0, .int 0, .ref d1, .ref d2, .ref d3, .int 0, .ref d4, .ref d5])), (aar, .inr (2, [.int 0, .int 0, .ref r1, .ref r2, .ref r3, .ref r4, .ref r5])), (m1, .inl (cM, 90, .inl g1)), (am, .inr (4, [.int 1, .int 0, .ref m1, .ref m2, .ref m3, .ref m4, .ref m5, .ref m6]))] H := hP
  have hD : va_D A [(adr, .inl (cD, 10, .inr (.inr (.inr (.inr (va_up fd 0 (some ad0))))))), (ad0, .inr (0, [.int 0, .int 0, .int 0, .int 0, .int 0, .int 0, .int 0, .int 0, .ref d1, .ref d2, .ref d3, .int 0, .ref d4, .ref d5])), (aar, .inr (2, [.int 0, .int 0, .ref r1, .ref r2, .ref r3, .ref r4, .ref r5])), (m1, .inl (cM, 90, .inl g1)), (am, .inr (4, [.int 1, .int 0, .ref m1, .ref m2, .ref m3, .ref m4, .ref m5, .ref m6]))] := hD
  have hK : va_K (dC, dI) vwCl [(cD, .object RX0), (cM, .int), (cN, .int), (cL, .long)] _ := hK
  have hw : r_3 = 0 := hw
  subst hw
  refine lv_istore (lv' := [(6, .int 0), (5, .int 1), (4, .int 0), (3, .ref zo), (2, .ref am), (1, .ref ax), (0, .ref b)]) hx hb dL_law_610 hl (by decide) rfl (fun ls hl => ?_)
  refine lv_aload_n hx hb dL_law_612 rfl (lv_at hl 4 rfl) ?_
  have hPc := hP.sub (ws' := [(am, .inr (4, [.int 1, .int 0, .ref m1, .ref m2, .ref m3, .ref m4, .ref m5, .ref m6]))]) [4] rfl
  have hKc := hK.sub (tys' := []) [] rfl
  refine va_calli (va_runV (As := []) (rest := []) ⟨hx, hb, hml, hown, hts⟩ (ct_X4_thrown l dC dI 1 0 am m1 m2 m3 m4 m5 m6) (cwV 0 hts gL_law_X4_thrown rfl rfl rfl (by decide +kernel) ⟨(Nat.le_of_ble_eq_true rfl), (Nat.le_of_ble_eq_true rfl)⟩) ⟨pR_blind, va_recv hKc hPc (ci := 4) (q0 := 0) rfl rfl, pR_pre hPc hKc⟩ rfl rfl hl.1 rfl (lv_room (Nat.le_of_ble_eq_true rfl)) dL_law_613 ⟨(Nat.le_of_ble_eq_true rfl), (Nat.le_of_ble_eq_true rfl)⟩) hS (fun q _ h => h.elim) (fun q h => h.elim) (fun r_5 u_6 t H1 locs ht hvm hw hB hz1 hk1 hS => ?_)
  have hP := hP.kept (fun k q hk => hk1 q.1 (hP k q hk).lt (fun h => h))
  generalize H1 = H at hP hS ⊢
  have hw : r_5 = 1 := hw
  subst hw
  refine lv_iload hx hb dL_law_616 (lv_at hl 1 rfl) ?_
  refine lv_icmp_eq (tgt := 623) hx hb dL_law_618 (by decide) (fun _ => ?_) (fun h => absurd h (by decide))
  refine lv_iload hx hb dL_law_623 (lv_at hl 1 rfl) ?_
  refine lv_if_ne (tgt := 640) hx hb dL_law_625 (by decide) (fun _ => ?_) (fun h => absurd h (by decide))
  refine lv_goto (tgt := 1046) hx hb dL_law_640 (by decide) ?_
  refine W.widen (k := 1000) (n := 20000) (Nat.le_of_ble_eq_true rfl) (Nat.le_of_ble_eq_true rfl) ?_
  rw [hAq] at hS
  exact lw_tail l hnt C0 hS (lv_sub hl (l' := [(4, .int 0), (0, .ref b)]) [2, 6] rfl)

set_option maxHeartbeats 4000000 in
set_option maxRecDepth 100000 in
theorem lw_case_7 {p : Program} {e : Env} {s : State} {m : MethodId} {below : List Frame} {meth : Method} {c : Code} (l : Launch) (hnt : l.stackTraces = false) {b : Nat} {xs : Nat → Int32} (C0 : lw_At p s m meth c b 4 xs) (dC : Nat → ClassId) (dI : Nat → Nat → Nat) {ax : Nat} {av : Nat} {at_ : Nat} {adr : Nat} {ao : Nat} {aar : Nat} {ad0 : Nat} {d1 : Nat} {d2 : Nat} {d3 : Nat} {d4 : Nat} {d5 : Nat} {cD : ClassId} {fd : Nat → Option Nat} {o1 : Nat} {o2 : Nat} {o3 : Nat} {o4 : Nat} {o5 : Nat} {r1 : Nat} {r2 : Nat} {r3 : Nat} {r4 : Nat} {r5 : Nat} {am : Nat} {m1 : Nat} {m2 : Nat} {m3 : Nat} {m4 : Nat} {m5 : Nat} {m6 : Nat} {cM : ClassId} {g1 : Nat → Int32} {cN : ClassId} {zo : Nat} {cL : ClassId} {fo : Nat → Int64} {H : Heap} {locs : List Loc} {ls : Array Slot} (hT : vs_T (fun q : Nat => s.heap.size ≤ q) (s.setDrawn s.drawn) s.heap) (hK : va_K (dC, dI) vwCl [(cD, .object RX0), (cM, .int), (cN, .int), (cL, .long)] (s.setDrawn s.drawn)) (hP : va_P (dC, dI) vwCl [(ax, .inr (3, [.ref av, .ref at_])), (av, .inr (1, [.int 0, .int 0, .ref adr, .ref ao, .ref aar])), (adr, .inl (cD, 10, .inr (.inr (.inr (.inr (va_up fd 0 (some ad0))))))), (ad0, .inr (0, [.int 0, .int 0, .int 0, .int 0, .int 0, .int 0, .int 0, .int 0, .ref d1, .ref d2, .ref d3, .int 0, .ref d4, .ref d5])), (ao, .inr (2, [.int 0, .int 0, .ref o1, .ref o2, .ref o3, .ref o4, .ref o5])), (aar, .inr (2, [.int 0, .int 0, .ref r1, .ref r2, .ref r3, .ref r4, .ref r5])), (am, .inr (4, [.int 0, .int 0, .ref m1, .ref m2, .ref m3, .ref m4, .ref m5, .ref m6])), (m1, .inl (cM, 90, .inl g1)), (m5, .inl (cN, 3, .inl (fun _ => 0))), (zo, .inl (cL, 1, .inr (.inl fo)))] H) (hD : va_D (fun q : Nat => s.heap.size ≤ q) [(ax, .inr (3, [.ref av, .ref at_])), (av, .inr (1, [.int 0, .int 0, .ref adr, .ref ao, .ref aar])), (adr, .inl (cD, 10, .inr (.inr (.inr (.inr (va_up fd 0 (some ad0))))))), (ad0, .inr (0, [.int 0, .int 0, .int 0, .int 0, .int 0, .int 0, .int 0, .int 0, .ref d1, .ref d2, .ref d3, .int 0, .ref d4, .ref d5])), (ao, .inr (2, [.int 0, .int 0, .ref o1, .ref o2, .ref o3, .ref o4, .ref o5])), (aar, .inr (2, [.int 0, .int 0, .ref r1, .ref r2, .ref r3, .ref r4, .ref r5])), (am, .inr (4, [.int 0, .int 0, .ref m1, .ref m2, .ref m3, .ref m4, .ref m5, .ref m6])), (m1, .inl (cM, 90, .inl g1)), (m5, .inl (cN, 3, .inl (fun _ => 0))), (zo, .inl (cL, 1, .inr (.inl fo)))]) (hS : va_S (fun q : Nat => s.heap.size ≤ q) s.heap H locs) (hl : lv_has ls 9 [(4, .int 0), (3, .ref zo), (2, .ref am), (1, .ref ax), (0, .ref b)]) : W p l e room_1 (s.setDrawn s.drawn) m #[Value.ref b] below meth c H locs 157 7002 (lw_Z below #[Value.ref b] s) (F0 m 643 ls []) := by
  obtain ⟨hx, hb, hr, hml, hown, hts0, hX, hbl, hlocks, hgv⟩ := id C0
  have hts1 : ∀ w ∈ wsL_law, w.before #[Value.ref b] s = true := fun w h => hts0 w (wsL_law_in w h)
  have hts := dr_words hts1 s.drawn
  have hA : ∀ q : Nat, s.heap.size ≤ q → (fun q : Nat => s.heap.size ≤ q) q := fun _ h => h
  have hbA : ¬ (fun q : Nat => s.heap.size ≤ q) b := Nat.not_le.mpr hbl
  have hd0 := Drawn.sameBut.refl s.drawn lw_cs
  obtain ⟨A, hAq⟩ : ∃ A : Nat → Prop, A = (fun q : Nat => s.heap.size ≤ q) := ⟨_, rfl⟩
  rw [← hAq] at hA hbA hT hD hS
  refine lv_aload_n hx hb dL_law_643 rfl (lv_at hl 3 rfl) ?_
  refine lv_aload_n hx hb dL_law_644 rfl (lv_at hl 4 rfl) ?_
  refine lv_iload hx hb dL_law_645 (lv_at hl 0 rfl) ?_
  refine lv_iconst (v := 1) hx hb dL_law_647 (by decide) ?_
  refine lv_iadd hx hb dL_law_648 ?_
  refine lv_topi (nm_r (e' := 1) (by decide) ?_)
  refine va_sld hx hb hX hbl hbA hS (i := 1) (vs_vi (by decide)) dL_law_649 ?_
  refine W.eq (g2 := F0 m 650 ls [.int (xs 1), .ref ax]) rfl ?_
  refine lv_aload_n hx hb dL_law_650 rfl (lv_at hl 1 rfl) ?_
  have hPc := hP.sub (ws' := [(ax, .inr (3, [.ref av, .ref at_])), (av, .inr (1, [.int 0, .int 0, .ref adr, .ref ao, .ref aar])), (ao, .inr (2, [.int 0, .int 0, .ref o1, .ref o2, .ref o3, .ref o4, .ref o5])), (zo, .inl (cL, 1, .inr (.inl fo)))]) [0, 1, 4, 9] rfl
  have hKc := hK.sub (tys' := [(cL, .long)]) [3] rfl
  have hDc := hD.sub (ws' := [(ax, .inr (3, [.ref av, .ref at_])), (av, .inr (1, [.int 0, .int 0, .ref adr, .ref ao, .ref aar])), (ao, .inr (2, [.int 0, .int 0, .ref o1, .ref o2, .ref o3, .ref o4, .ref o5])), (zo, .inl (cL, 1, .inr (.inl fo)))]) [0, 1, 4, 9] (by decide) rfl
  have hFc := va_free (wc := [(ax, .inr (3, [.ref av, .ref at_])), (av, .inr (1, [.int 0, .int 0, .ref adr, .ref ao, .ref aar])), (ao, .inr (2, [.int 0, .int 0, .ref o1, .ref o2, .ref o3, .ref o4, .ref o5])), (zo, .inl (cL, 1, .inr (.inl fo)))]) hD hS hA [0, 1, 4, 9] rfl
  have hTc := (hT.kept hS).narrow hFc
  refine vx_calli (vx_runSX (As := [.ref ax, .int (xs 1), .ref zo]) (rest := []) ⟨hx, hb, hml, hown, hts⟩ (cl_count l hnt dC dI (xs 1) ax av at_ adr ao aar o1 o2 o3 o4 o5 zo cL fo H.size) (vx_cwSW 3 hts gL_law_L_count rfl rfl rfl (by decide +kernel) ⟨(Nat.le_of_ble_eq_true rfl), (Nat.le_of_ble_eq_true rfl)⟩) ⟨pY_blind, pY_pre hPc hDc hKc hTc⟩ rfl rfl hl.1 rfl (lv_room (Nat.le_of_ble_eq_true rfl)) dL_law_651 ⟨(Nat.le_of_ble_eq_true rfl), (Nat.le_of_ble_eq_true rfl)⟩) hS (fun q _ h => hFc q h) hFc (fun q _ h => hFc q h) (fun E ce q9 ux t H1 locs ht hvm hp hBX hz1 hk1 hS hce hcv hcl => ?_) (fun r_1 u_2 t H1 locs ht hvm hw hB hz1 hk1 hS => ?_)
  · exact hBX.elim
  obtain ⟨hP1, hK1, hD1⟩ := hB
  rw [ht] at hP1
  have hK1 := va_K.moved hvm.symm hK1
  obtain ⟨hP, hD⟩ := va_join (wr := [(adr, .inl (cD, 10, .inr (.inr (.inr (.inr (va_up fd 0 (some ad0))))))), (ad0, .inr (0, [.int 0, .int 0, .int 0, .int 0, .int 0, .int 0, .int 0, .int 0, .ref d1, .ref d2, .ref d3, .int 0, .ref d4, .ref d5])), (aar, .inr (2, [.int 0, .int 0, .ref r1, .ref r2, .ref r3, .ref r4, .ref r5])), (am, .inr (4, [.int 0, .int 0, .ref m1, .ref m2, .ref m3, .ref m4, .ref m5, .ref m6])), (m1, .inl (cM, 90, .inl g1)), (m5, .inl (cN, 3, .inl (fun _ => 0)))]) (w1 := [(zo, .inl (cL, 1, .inr (.inl u_2)))]) hP hD [0, 1, 4, 9] [2, 3, 5, 6, 7, 8] rfl rfl (by decide) (by decide) hk1 hFc hP1 hD1
  generalize H1 = H at hP hS ⊢
  have hP : va_P (dC, dI) vwCl [(adr, .inl (cD, 10, .inr (.inr (.inr (.inr (va_up fd 0 (some ad0))))))), (ad0, .inr (0, [.int 0, .int 0, .int 0, .int 0, .int 0, .int 0, .int 0, .int 0, .ref d1, .ref d2, .ref d3, .int 0, .ref d4, .ref d5])), (aar, .inr (2, [.int 0, .int 0, .ref r1, .ref r2, .ref r3, .ref r4, .ref r5])), (am, .inr (4, [.int 0, .int 0, .ref m1, .ref m2, .ref m3, .ref m4, .ref m5, .ref m6])), (m1, .inl (cM, 90, .inl g1)), (m5, .inl (cN, 3, .inl (fun _ => 0))), (zo, .inl (cL, 1, .inr (.inl u_2)))] H := hP
  have hD : va_D A [(adr, .inl (cD, 10, .inr (.inr (.inr (.inr (va_up fd 0 (some ad0))))))), (ad0, .inr (0, [.int 0, .int 0, .int 0, .int 0, .int 0, .int 0, .int 0, .int 0, .ref d1, .ref d2, .ref d3, .int 0, .ref d4, .ref d5])), (aar, .inr (2, [.int 0, .int 0, .ref r1, .ref r2, .ref r3, .ref r4, .ref r5])), (am, .inr (4, [.int 0, .int 0, .ref m1, .ref m2, .ref m3, .ref m4, .ref m5, .ref m6])), (m1, .inl (cM, 90, .inl g1)), (m5, .inl (cN, 3, .inl (fun _ => 0))), (zo, .inl (cL, 1, .inr (.inl u_2)))] := hD
  have hK : va_K (dC, dI) vwCl [(cD, .object RX0), (cM, .int), (cN, .int), (cL, .long)] _ := hK
  refine W.widen (k := 158) (n := 7008) (by omega) (by omega) ?_
  have hw_3 : (¬ vs_in (xs 1) 0 8 = 0 ∧ r_1 = 0 ∧ u_2 0 = 0) ∨ (vs_in (xs 1) 0 8 = 0 ∧ r_1 = 1) := hw
  refine lv_istore (lv' := [(5, .int r_1), (4, .int 0), (3, .ref zo), (2, .ref am), (1, .ref ax), (0, .ref b)]) hx hb dL_law_654 hl (by decide) rfl (fun ls hl => ?_)
  refine lv_aload_n hx hb dL_law_656 rfl (lv_at hl 3 rfl) ?_
  refine lv_aload_n hx hb dL_law_657 rfl (lv_at hl 5 rfl) ?_
  refine lv_iload hx hb dL_law_658 (lv_at hl 1 rfl) ?_
  refine lv_iconst (v := 1) hx hb dL_law_660 (by decide) ?_
  refine lv_iadd hx hb dL_law_661 ?_
  refine lv_topi (nm_r (e' := 1) (by decide) ?_)
  refine va_sld hx hb hX hbl hbA hS (i := 1) (vs_vi (by decide)) dL_law_662 ?_
  refine W.eq (g2 := F0 m 663 ls [.int (xs 1), .ref am]) rfl ?_
  have hPc := hP.sub (ws' := [(am, .inr (4, [.int 0, .int 0, .ref m1, .ref m2, .ref m3, .ref m4, .ref m5, .ref m6])), (m5, .inl (cN, 3, .inl (fun _ => 0)))]) [3, 5] rfl
  have hKc := hK.sub (tys' := [(cN, .int)]) [2] rfl
  have hDc := hD.sub (ws' := [(am, .inr (4, [.int 0, .int 0, .ref m1, .ref m2, .ref m3, .ref m4, .ref m5, .ref m6])), (m5, .inl (cN, 3, .inl (fun _ => 0)))]) [3, 5] (by decide) rfl
  have hFc := va_free (wc := [(am, .inr (4, [.int 0, .int 0, .ref m1, .ref m2, .ref m3, .ref m4, .ref m5, .ref m6])), (m5, .inl (cN, 3, .inl (fun _ => 0)))]) hD hS hA [3, 5] rfl
  refine va_calli (va_runV (As := [.int (xs 1)]) (rest := []) ⟨hx, hb, hml, hown, hts⟩ (ct_X4_count l dC dI 0 (xs 1) am m1 m2 m3 m4 m5 m6 cN H.size) (cwV 1 hts gL_law_X4_count rfl rfl rfl (by decide +kernel) ⟨(Nat.le_of_ble_eq_true rfl), (Nat.le_of_ble_eq_true rfl)⟩) ⟨pZ_blind, va_recv hKc hPc (ci := 4) (q0 := 0) rfl rfl, pZ_pre hPc hDc hKc⟩ rfl rfl hl.1 rfl (lv_room (Nat.le_of_ble_eq_true rfl)) dL_law_663 ⟨(Nat.le_of_ble_eq_true rfl), (Nat.le_of_ble_eq_true rfl)⟩) hS (fun q _ h => hFc q h) hFc (fun r_4 u_5 t H1 locs ht hvm hw hB hz1 hk1 hS => ?_)
  obtain ⟨hP1, hK1, hD1⟩ := hB
  rw [ht] at hP1
  have hK1 := va_K.moved hvm.symm hK1
  obtain ⟨hP, hD⟩ := va_join (wr := [(adr, .inl (cD, 10, .inr (.inr (.inr (.inr (va_up fd 0 (some ad0))))))), (ad0, .inr (0, [.int 0, .int 0, .int 0, .int 0, .int 0, .int 0, .int 0, .int 0, .ref d1, .ref d2, .ref d3, .int 0, .ref d4, .ref d5])), (aar, .inr (2, [.int 0, .int 0, .ref r1, .ref r2, .ref r3, .ref r4, .ref r5])), (m1, .inl (cM, 90, .inl g1)), (zo, .inl (cL, 1, .inr (.inl u_2)))]) (w1 := [(am, .inr (4, [.int u_5, .int 0, .ref m1, .ref m2, .ref m3, .ref m4, .ref m5, .ref m6]))]) hP hD [3, 5] [0, 1, 2, 4, 6] rfl rfl (by decide) (by decide) hk1 hFc hP1 hD1
  generalize H1 = H at hP hS ⊢
  have hP : va_P (dC, dI) vwCl [(adr, .inl (cD, 10, .inr (.inr (.inr (.inr (va_up fd 0 (some ad0))))))), (ad0, .inr (0, [.int 0, .int 0, .int 0, .int 0, .int 0, .int 0, .int 0, .int 0, .ref d1, .ref d2, .ref d3, .int 0, .ref d4, .ref d5])), (aar, .inr (2, [.int 0, .int 0, .ref r1, .ref r2, .ref r3, .ref r4, .ref r5])), (m1, .inl (cM, 90, .inl g1)), (zo, .inl (cL, 1, .inr (.inl u_2))), (am, .inr (4, [.int u_5, .int 0, .ref m1, .ref m2, .ref m3, .ref m4, .ref m5, .ref m6]))] H := hP
  have hD : va_D A [(adr, .inl (cD, 10, .inr (.inr (.inr (.inr (va_up fd 0 (some ad0))))))), (ad0, .inr (0, [.int 0, .int 0, .int 0, .int 0, .int 0, .int 0, .int 0, .int 0, .ref d1, .ref d2, .ref d3, .int 0, .ref d4, .ref d5])), (aar, .inr (2, [.int 0, .int 0, .ref r1, .ref r2, .ref r3, .ref r4, .ref r5])), (m1, .inl (cM, 90, .inl g1)), (zo, .inl (cL, 1, .inr (.inl u_2))), (am, .inr (4, [.int u_5, .int 0, .ref m1, .ref m2, .ref m3, .ref m4, .ref m5, .ref m6]))] := hD
  have hK : va_K (dC, dI) vwCl [(cD, .object RX0), (cM, .int), (cN, .int), (cL, .long)] _ := hK
  have hw_6 : r_4 = 0 ∧ ((vs_in (xs 1) 0 8 = 0 ∧ u_5 = 1) ∨ (¬ vs_in (xs 1) 0 8 = 0 ∧ u_5 = 0)) := hw
  rcases hw_3 with ⟨hc, h1r, h1u⟩ | ⟨hc, h1r⟩
  · obtain ⟨h2r, h2o⟩ := hw_6
    rcases h2o with ⟨h2, h2u⟩ | ⟨h2, h2u⟩
    · exact absurd h2 hc
    subst h2r; subst h2u; subst h1r
    refine lv_istore (lv' := [(6, .int 0), (5, .int 0), (4, .int 0), (3, .ref zo), (2, .ref am), (1, .ref ax), (0, .ref b)]) hx hb dL_law_666 hl (by decide) rfl (fun ls hl => ?_)
    refine lv_aload_n hx hb dL_law_668 rfl (lv_at hl 4 rfl) ?_
    have hPc := hP.sub (ws' := [(am, .inr (4, [.int 0, .int 0, .ref m1, .ref m2, .ref m3, .ref m4, .ref m5, .ref m6]))]) [5] rfl
    have hKc := hK.sub (tys' := []) [] rfl
    refine va_calli (va_runV (As := []) (rest := []) ⟨hx, hb, hml, hown, hts⟩ (ct_X4_thrown l dC dI 0 0 am m1 m2 m3 m4 m5 m6) (cwV 0 hts gL_law_X4_thrown rfl rfl rfl (by decide +kernel) ⟨(Nat.le_of_ble_eq_true rfl), (Nat.le_of_ble_eq_true rfl)⟩) ⟨pR_blind, va_recv hKc hPc (ci := 4) (q0 := 0) rfl rfl, pR_pre hPc hKc⟩ rfl rfl hl.1 rfl (lv_room (Nat.le_of_ble_eq_true rfl)) dL_law_669 ⟨(Nat.le_of_ble_eq_true rfl), (Nat.le_of_ble_eq_true rfl)⟩) hS (fun q _ h => h.elim) (fun q h => h.elim) (fun r_7 u_8 t H1 locs ht hvm hw hB hz1 hk1 hS => ?_)
    have hP := hP.kept (fun k q hk => hk1 q.1 (hP k q hk).lt (fun h => h))
    generalize H1 = H at hP hS ⊢
    have hw : r_7 = 0 := hw
    subst hw
    refine lv_iload hx hb dL_law_672 (lv_at hl 1 rfl) ?_
    refine lv_icmp_eq (tgt := 679) hx hb dL_law_674 (by decide) (fun _ => ?_) (fun h => absurd h (by decide))
    refine lv_iload hx hb dL_law_679 (lv_at hl 1 rfl) ?_
    refine lv_if_ne (tgt := 696) hx hb dL_law_681 (by decide) (fun h => absurd h (by decide)) (fun _ => ?_)
    refine lv_aload_n hx hb dL_law_684 rfl (lv_at hl 3 rfl) ?_
    refine lv_iconst (v := 0) hx hb dL_law_685 (by decide) ?_
    refine va_lald (D := (dC, dI)) hx hb hK hP 4 3 rfl rfl (i := 0) (vs_vi (by decide)) dL_law_686 ?_
    refine W.eq (g2 := F0 m 687 ls [.long (u_2 0)]) rfl ?_
    rw [h1u]
    refine lv_iload hx hb dL_law_687 (lv_at hl 0 rfl) ?_
    refine lv_i2l (v := 0) hx hb dL_law_689 (by decide) ?_
    refine W.lcmp hx hb dL_law_690 ?_
    refine lv_topi (nm_r (e' := 0) (by decide) ?_)
    refine lv_if_eq (tgt := 696) hx hb dL_law_691 (by decide) (fun _ => ?_) (fun h => absurd h (by decide))
    refine lv_goto (tgt := 1046) hx hb dL_law_696 (by decide) ?_
    refine W.widen (k := 1000) (n := 20000) (Nat.le_of_ble_eq_true rfl) (Nat.le_of_ble_eq_true rfl) ?_
    rw [hAq] at hS
    exact lw_tail l hnt C0 hS (lv_sub hl (l' := [(4, .int 0), (0, .ref b)]) [2, 6] rfl)
  · obtain ⟨h2r, h2o⟩ := hw_6
    rcases h2o with ⟨h2, h2u⟩ | ⟨h2, h2u⟩
    rotate_left
    · exact absurd hc h2
    subst h2r; subst h2u; subst h1r
    refine lv_istore (lv' := [(6, .int 0), (5, .int 1), (4, .int 0), (3, .ref zo), (2, .ref am), (1, .ref ax), (0, .ref b)]) hx hb dL_law_666 hl (by decide) rfl (fun ls hl => ?_)
    refine lv_aload_n hx hb dL_law_668 rfl (lv_at hl 4 rfl) ?_
    have hPc := hP.sub (ws' := [(am, .inr (4, [.int 1, .int 0, .ref m1, .ref m2, .ref m3, .ref m4, .ref m5, .ref m6]))]) [5] rfl
    have hKc := hK.sub (tys' := []) [] rfl
    refine va_calli (va_runV (As := []) (rest := []) ⟨hx, hb, hml, hown, hts⟩ (ct_X4_thrown l dC dI 1 0 am m1 m2 m3 m4 m5 m6) (cwV 0 hts gL_law_X4_thrown rfl rfl rfl (by decide +kernel) ⟨(Nat.le_of_ble_eq_true rfl), (Nat.le_of_ble_eq_true rfl)⟩) ⟨pR_blind, va_recv hKc hPc (ci := 4) (q0 := 0) rfl rfl, pR_pre hPc hKc⟩ rfl rfl hl.1 rfl (lv_room (Nat.le_of_ble_eq_true rfl)) dL_law_669 ⟨(Nat.le_of_ble_eq_true rfl), (Nat.le_of_ble_eq_true rfl)⟩) hS (fun q _ h => h.elim) (fun q h => h.elim) (fun r_9 u_10 t H1 locs ht hvm hw hB hz1 hk1 hS => ?_)
    have hP := hP.kept (fun k q hk => hk1 q.1 (hP k q hk).lt (fun h => h))
    generalize H1 = H at hP hS ⊢
    have hw : r_9 = 1 := hw
    subst hw
    refine lv_iload hx hb dL_law_672 (lv_at hl 1 rfl) ?_
    refine lv_icmp_eq (tgt := 679) hx hb dL_law_674 (by decide) (fun _ => ?_) (fun h => absurd h (by decide))
    refine lv_iload hx hb dL_law_679 (lv_at hl 1 rfl) ?_
    refine lv_if_ne (tgt := 696) hx hb dL_law_681 (by decide) (fun _ => ?_) (fun h => absurd h (by decide))
    refine lv_goto (tgt := 1046) hx hb dL_law_696 (by decide) ?_
    refine W.widen (k := 1000) (n := 20000) (Nat.le_of_ble_eq_true rfl) (Nat.le_of_ble_eq_true rfl) ?_
    rw [hAq] at hS
    exact lw_tail l hnt C0 hS (lv_sub hl (l' := [(4, .int 0), (0, .ref b)]) [2, 6] rfl)

set_option maxHeartbeats 4000000 in
set_option maxRecDepth 100000 in
theorem lw_case_8 {p : Program} {e : Env} {s : State} {m : MethodId} {below : List Frame} {meth : Method} {c : Code} (l : Launch) (hnt : l.stackTraces = false) {b : Nat} {xs : Nat → Int32} (C0 : lw_At p s m meth c b 4 xs) (dC : Nat → ClassId) (dI : Nat → Nat → Nat) {ax : Nat} {av : Nat} {at_ : Nat} {adr : Nat} {ao : Nat} {aar : Nat} {ad0 : Nat} {d1 : Nat} {d2 : Nat} {d3 : Nat} {d4 : Nat} {d5 : Nat} {cD : ClassId} {fd : Nat → Option Nat} {o1 : Nat} {o2 : Nat} {o3 : Nat} {o4 : Nat} {o5 : Nat} {r1 : Nat} {r2 : Nat} {r3 : Nat} {r4 : Nat} {r5 : Nat} {am : Nat} {m1 : Nat} {m2 : Nat} {m3 : Nat} {m4 : Nat} {m5 : Nat} {m6 : Nat} {cM : ClassId} {g1 : Nat → Int32} {cN : ClassId} {zo : Nat} {cL : ClassId} {fo : Nat → Int64} {H : Heap} {locs : List Loc} {ls : Array Slot} (hT : vs_T (fun q : Nat => s.heap.size ≤ q) (s.setDrawn s.drawn) s.heap) (hK : va_K (dC, dI) vwCl [(cD, .object RX0), (cM, .int), (cN, .int), (cL, .long)] (s.setDrawn s.drawn)) (hP : va_P (dC, dI) vwCl [(ax, .inr (3, [.ref av, .ref at_])), (av, .inr (1, [.int 0, .int 0, .ref adr, .ref ao, .ref aar])), (adr, .inl (cD, 10, .inr (.inr (.inr (.inr (va_up fd 0 (some ad0))))))), (ad0, .inr (0, [.int 0, .int 0, .int 0, .int 0, .int 0, .int 0, .int 0, .int 0, .ref d1, .ref d2, .ref d3, .int 0, .ref d4, .ref d5])), (ao, .inr (2, [.int 0, .int 0, .ref o1, .ref o2, .ref o3, .ref o4, .ref o5])), (aar, .inr (2, [.int 0, .int 0, .ref r1, .ref r2, .ref r3, .ref r4, .ref r5])), (am, .inr (4, [.int 0, .int 0, .ref m1, .ref m2, .ref m3, .ref m4, .ref m5, .ref m6])), (m1, .inl (cM, 90, .inl g1)), (m5, .inl (cN, 3, .inl (fun _ => 0))), (zo, .inl (cL, 1, .inr (.inl fo)))] H) (hD : va_D (fun q : Nat => s.heap.size ≤ q) [(ax, .inr (3, [.ref av, .ref at_])), (av, .inr (1, [.int 0, .int 0, .ref adr, .ref ao, .ref aar])), (adr, .inl (cD, 10, .inr (.inr (.inr (.inr (va_up fd 0 (some ad0))))))), (ad0, .inr (0, [.int 0, .int 0, .int 0, .int 0, .int 0, .int 0, .int 0, .int 0, .ref d1, .ref d2, .ref d3, .int 0, .ref d4, .ref d5])), (ao, .inr (2, [.int 0, .int 0, .ref o1, .ref o2, .ref o3, .ref o4, .ref o5])), (aar, .inr (2, [.int 0, .int 0, .ref r1, .ref r2, .ref r3, .ref r4, .ref r5])), (am, .inr (4, [.int 0, .int 0, .ref m1, .ref m2, .ref m3, .ref m4, .ref m5, .ref m6])), (m1, .inl (cM, 90, .inl g1)), (m5, .inl (cN, 3, .inl (fun _ => 0))), (zo, .inl (cL, 1, .inr (.inl fo)))]) (hS : va_S (fun q : Nat => s.heap.size ≤ q) s.heap H locs) (hl : lv_has ls 9 [(4, .int 0), (3, .ref zo), (2, .ref am), (1, .ref ax), (0, .ref b)]) : W p l e room_1 (s.setDrawn s.drawn) m #[Value.ref b] below meth c H locs 157 7002 (lw_Z below #[Value.ref b] s) (F0 m 699 ls []) := by
  obtain ⟨hx, hb, hr, hml, hown, hts0, hX, hbl, hlocks, hgv⟩ := id C0
  have hts1 : ∀ w ∈ wsL_law, w.before #[Value.ref b] s = true := fun w h => hts0 w (wsL_law_in w h)
  have hts := dr_words hts1 s.drawn
  have hA : ∀ q : Nat, s.heap.size ≤ q → (fun q : Nat => s.heap.size ≤ q) q := fun _ h => h
  have hbA : ¬ (fun q : Nat => s.heap.size ≤ q) b := Nat.not_le.mpr hbl
  have hd0 := Drawn.sameBut.refl s.drawn lw_cs
  obtain ⟨A, hAq⟩ : ∃ A : Nat → Prop, A = (fun q : Nat => s.heap.size ≤ q) := ⟨_, rfl⟩
  rw [← hAq] at hA hbA hT hD hS
  refine lv_aload_n hx hb dL_law_699 rfl (lv_at hl 3 rfl) ?_
  refine lv_aload_n hx hb dL_law_700 rfl (lv_at hl 4 rfl) ?_
  refine lv_iload hx hb dL_law_701 (lv_at hl 0 rfl) ?_
  refine lv_iconst (v := 1) hx hb dL_law_703 (by decide) ?_
  refine lv_iadd hx hb dL_law_704 ?_
  refine lv_topi (nm_r (e' := 1) (by decide) ?_)
  refine va_sld hx hb hX hbl hbA hS (i := 1) (vs_vi (by decide)) dL_law_705 ?_
  refine W.eq (g2 := F0 m 706 ls [.int (xs 1), .ref ax]) rfl ?_
  refine lv_aload_n hx hb dL_law_706 rfl (lv_at hl 1 rfl) ?_
  have hPc := hP.sub (ws' := [(ax, .inr (3, [.ref av, .ref at_])), (av, .inr (1, [.int 0, .int 0, .ref adr, .ref ao, .ref aar])), (zo, .inl (cL, 1, .inr (.inl fo)))]) [0, 1, 9] rfl
  have hKc := hK.sub (tys' := [(cL, .long)]) [3] rfl
  have hDc := hD.sub (ws' := [(ax, .inr (3, [.ref av, .ref at_])), (av, .inr (1, [.int 0, .int 0, .ref adr, .ref ao, .ref aar])), (zo, .inl (cL, 1, .inr (.inl fo)))]) [0, 1, 9] (by decide) rfl
  have hFc := va_free (wc := [(ax, .inr (3, [.ref av, .ref at_])), (av, .inr (1, [.int 0, .int 0, .ref adr, .ref ao, .ref aar])), (zo, .inl (cL, 1, .inr (.inl fo)))]) hD hS hA [0, 1, 9] rfl
  have hTc := (hT.kept hS).narrow hFc
  refine vx_calli (vx_runSX (As := [.ref ax, .int (xs 1), .ref zo]) (rest := []) ⟨hx, hb, hml, hown, hts⟩ (cl_reach l hnt dC dI (xs 1) ax av at_ adr ao aar zo cL fo H.size) (vx_cwSW 3 hts gL_law_L_reach rfl rfl rfl (by decide +kernel) ⟨(Nat.le_of_ble_eq_true rfl), (Nat.le_of_ble_eq_true rfl)⟩) ⟨pY_blind, pY_pre hPc hDc hKc hTc⟩ rfl rfl hl.1 rfl (lv_room (Nat.le_of_ble_eq_true rfl)) dL_law_707 ⟨(Nat.le_of_ble_eq_true rfl), (Nat.le_of_ble_eq_true rfl)⟩) hS (fun q _ h => hFc q h) hFc (fun q _ h => hFc q h) (fun E ce q9 ux t H1 locs ht hvm hp hBX hz1 hk1 hS hce hcv hcl => ?_) (fun r_1 u_2 t H1 locs ht hvm hw hB hz1 hk1 hS => ?_)
  · exact hBX.elim
  obtain ⟨hP1, hK1, hD1⟩ := hB
  rw [ht] at hP1
  have hK1 := va_K.moved hvm.symm hK1
  obtain ⟨hP, hD⟩ := va_join (wr := [(adr, .inl (cD, 10, .inr (.inr (.inr (.inr (va_up fd 0 (some ad0))))))), (ad0, .inr (0, [.int 0, .int 0, .int 0, .int 0, .int 0, .int 0, .int 0, .int 0, .ref d1, .ref d2, .ref d3, .int 0, .ref d4, .ref d5])), (ao, .inr (2, [.int 0, .int 0, .ref o1, .ref o2, .ref o3, .ref o4, .ref o5])), (aar, .inr (2, [.int 0, .int 0, .ref r1, .ref r2, .ref r3, .ref r4, .ref r5])), (am, .inr (4, [.int 0, .int 0, .ref m1, .ref m2, .ref m3, .ref m4, .ref m5, .ref m6])), (m1, .inl (cM, 90, .inl g1)), (m5, .inl (cN, 3, .inl (fun _ => 0)))]) (w1 := []) hP hD [0, 1, 9] [2, 3, 4, 5, 6, 7, 8] rfl rfl (by decide) (by decide) hk1 hFc hP1 hD1
  generalize H1 = H at hP hS ⊢
  have hP : va_P (dC, dI) vwCl [(adr, .inl (cD, 10, .inr (.inr (.inr (.inr (va_up fd 0 (some ad0))))))), (ad0, .inr (0, [.int 0, .int 0, .int 0, .int 0, .int 0, .int 0, .int 0, .int 0, .ref d1, .ref d2, .ref d3, .int 0, .ref d4, .ref d5])), (ao, .inr (2, [.int 0, .int 0, .ref o1, .ref o2, .ref o3, .ref o4, .ref o5])), (aar, .inr (2, [.int 0, .int 0, .ref r1, .ref r2, .ref r3, .ref r4, .ref r5])), (am, .inr (4, [.int 0, .int 0, .ref m1, .ref m2, .ref m3, .ref m4, .ref m5, .ref m6])), (m1, .inl (cM, 90, .inl g1)), (m5, .inl (cN, 3, .inl (fun _ => 0)))] H := hP
  have hD : va_D A [(adr, .inl (cD, 10, .inr (.inr (.inr (.inr (va_up fd 0 (some ad0))))))), (ad0, .inr (0, [.int 0, .int 0, .int 0, .int 0, .int 0, .int 0, .int 0, .int 0, .ref d1, .ref d2, .ref d3, .int 0, .ref d4, .ref d5])), (ao, .inr (2, [.int 0, .int 0, .ref o1, .ref o2, .ref o3, .ref o4, .ref o5])), (aar, .inr (2, [.int 0, .int 0, .ref r1, .ref r2, .ref r3, .ref r4, .ref r5])), (am, .inr (4, [.int 0, .int 0, .ref m1, .ref m2, .ref m3, .ref m4, .ref m5, .ref m6])), (m1, .inl (cM, 90, .inl g1)), (m5, .inl (cN, 3, .inl (fun _ => 0)))] := hD
  have hK : va_K (dC, dI) vwCl [(cD, .object RX0), (cM, .int), (cN, .int), (cL, .long)] _ := hK
  refine W.widen (k := 158) (n := 7008) (by omega) (by omega) ?_
  have hw : r_1 = 1 := hw
  subst hw
  refine lv_istore (lv' := [(5, .int 1), (4, .int 0), (3, .ref zo), (2, .ref am), (1, .ref ax), (0, .ref b)]) hx hb dL_law_710 hl (by decide) rfl (fun ls hl => ?_)
  refine lv_aload_n hx hb dL_law_712 rfl (lv_at hl 3 rfl) ?_
  refine lv_aload_n hx hb dL_law_713 rfl (lv_at hl 5 rfl) ?_
  refine lv_iload hx hb dL_law_714 (lv_at hl 1 rfl) ?_
  refine lv_iconst (v := 1) hx hb dL_law_716 (by decide) ?_
  refine lv_iadd hx hb dL_law_717 ?_
  refine lv_topi (nm_r (e' := 1) (by decide) ?_)
  refine va_sld hx hb hX hbl hbA hS (i := 1) (vs_vi (by decide)) dL_law_718 ?_
  refine W.eq (g2 := F0 m 719 ls [.int (xs 1), .ref am]) rfl ?_
  have hPc := hP.sub (ws' := [(am, .inr (4, [.int 0, .int 0, .ref m1, .ref m2, .ref m3, .ref m4, .ref m5, .ref m6]))]) [4] rfl
  have hKc := hK.sub (tys' := []) [] rfl
  have hDc := hD.sub (ws' := [(am, .inr (4, [.int 0, .int 0, .ref m1, .ref m2, .ref m3, .ref m4, .ref m5, .ref m6]))]) [4] (by decide) rfl
  have hFc := va_free (wc := [(am, .inr (4, [.int 0, .int 0, .ref m1, .ref m2, .ref m3, .ref m4, .ref m5, .ref m6]))]) hD hS hA [4] rfl
  refine va_calli (va_runV (As := [.int (xs 1)]) (rest := []) ⟨hx, hb, hml, hown, hts⟩ (ct_X4_reach l dC dI 0 (xs 1) am m1 m2 m3 m4 m5 m6 H.size) (cwV 1 hts gL_law_X4_reach rfl rfl rfl (by decide +kernel) ⟨(Nat.le_of_ble_eq_true rfl), (Nat.le_of_ble_eq_true rfl)⟩) ⟨pZ_blind, va_recv hKc hPc (ci := 4) (q0 := 0) rfl rfl, pZ_pre hPc hDc hKc⟩ rfl rfl hl.1 rfl (lv_room (Nat.le_of_ble_eq_true rfl)) dL_law_719 ⟨(Nat.le_of_ble_eq_true rfl), (Nat.le_of_ble_eq_true rfl)⟩) hS (fun q _ h => hFc q h) hFc (fun r_3 u_4 t H1 locs ht hvm hw hB hz1 hk1 hS => ?_)
  obtain ⟨hP1, hK1, hD1⟩ := hB
  rw [ht] at hP1
  have hK1 := va_K.moved hvm.symm hK1
  obtain ⟨hP, hD⟩ := va_join (wr := [(adr, .inl (cD, 10, .inr (.inr (.inr (.inr (va_up fd 0 (some ad0))))))), (ad0, .inr (0, [.int 0, .int 0, .int 0, .int 0, .int 0, .int 0, .int 0, .int 0, .ref d1, .ref d2, .ref d3, .int 0, .ref d4, .ref d5])), (ao, .inr (2, [.int 0, .int 0, .ref o1, .ref o2, .ref o3, .ref o4, .ref o5])), (aar, .inr (2, [.int 0, .int 0, .ref r1, .ref r2, .ref r3, .ref r4, .ref r5])), (m1, .inl (cM, 90, .inl g1)), (m5, .inl (cN, 3, .inl (fun _ => 0)))]) (w1 := [(am, .inr (4, [.int 1, .int 0, .ref m1, .ref m2, .ref m3, .ref m4, .ref m5, .ref m6]))]) hP hD [4] [0, 1, 2, 3, 5, 6] rfl rfl (by decide) (by decide) hk1 hFc hP1 hD1
  generalize H1 = H at hP hS ⊢
  have hP : va_P (dC, dI) vwCl [(adr, .inl (cD, 10, .inr (.inr (.inr (.inr (va_up fd 0 (some ad0))))))), (ad0, .inr (0, [.int 0, .int 0, .int 0, .int 0, .int 0, .int 0, .int 0, .int 0, .ref d1, .ref d2, .ref d3, .int 0, .ref d4, .ref d5])), (ao, .inr (2, [.int 0, .int 0, .ref o1, .ref o2, .ref o3, .ref o4, .ref o5])), (aar, .inr (2, [.int 0, .int 0, .ref r1, .ref r2, .ref r3, .ref r4, .ref r5])), (m1, .inl (cM, 90, .inl g1)), (m5, .inl (cN, 3, .inl (fun _ => 0))), (am, .inr (4, [.int 1, .int 0, .ref m1, .ref m2, .ref m3, .ref m4, .ref m5, .ref m6]))] H := hP
  have hD : va_D A [(adr, .inl (cD, 10, .inr (.inr (.inr (.inr (va_up fd 0 (some ad0))))))), (ad0, .inr (0, [.int 0, .int 0, .int 0, .int 0, .int 0, .int 0, .int 0, .int 0, .ref d1, .ref d2, .ref d3, .int 0, .ref d4, .ref d5])), (ao, .inr (2, [.int 0, .int 0, .ref o1, .ref o2, .ref o3, .ref o4, .ref o5])), (aar, .inr (2, [.int 0, .int 0, .ref r1, .ref r2, .ref r3, .ref r4, .ref r5])), (m1, .inl (cM, 90, .inl g1)), (m5, .inl (cN, 3, .inl (fun _ => 0))), (am, .inr (4, [.int 1, .int 0, .ref m1, .ref m2, .ref m3, .ref m4, .ref m5, .ref m6]))] := hD
  have hK : va_K (dC, dI) vwCl [(cD, .object RX0), (cM, .int), (cN, .int), (cL, .long)] _ := hK
  have hw : r_3 = 0 := hw
  subst hw
  refine lv_istore (lv' := [(6, .int 0), (5, .int 1), (4, .int 0), (3, .ref zo), (2, .ref am), (1, .ref ax), (0, .ref b)]) hx hb dL_law_722 hl (by decide) rfl (fun ls hl => ?_)
  refine lv_aload_n hx hb dL_law_724 rfl (lv_at hl 4 rfl) ?_
  have hPc := hP.sub (ws' := [(am, .inr (4, [.int 1, .int 0, .ref m1, .ref m2, .ref m3, .ref m4, .ref m5, .ref m6]))]) [6] rfl
  have hKc := hK.sub (tys' := []) [] rfl
  refine va_calli (va_runV (As := []) (rest := []) ⟨hx, hb, hml, hown, hts⟩ (ct_X4_thrown l dC dI 1 0 am m1 m2 m3 m4 m5 m6) (cwV 0 hts gL_law_X4_thrown rfl rfl rfl (by decide +kernel) ⟨(Nat.le_of_ble_eq_true rfl), (Nat.le_of_ble_eq_true rfl)⟩) ⟨pR_blind, va_recv hKc hPc (ci := 4) (q0 := 0) rfl rfl, pR_pre hPc hKc⟩ rfl rfl hl.1 rfl (lv_room (Nat.le_of_ble_eq_true rfl)) dL_law_725 ⟨(Nat.le_of_ble_eq_true rfl), (Nat.le_of_ble_eq_true rfl)⟩) hS (fun q _ h => h.elim) (fun q h => h.elim) (fun r_5 u_6 t H1 locs ht hvm hw hB hz1 hk1 hS => ?_)
  have hP := hP.kept (fun k q hk => hk1 q.1 (hP k q hk).lt (fun h => h))
  generalize H1 = H at hP hS ⊢
  have hw : r_5 = 1 := hw
  subst hw
  refine lv_iload hx hb dL_law_728 (lv_at hl 1 rfl) ?_
  refine lv_icmp_eq (tgt := 735) hx hb dL_law_730 (by decide) (fun _ => ?_) (fun h => absurd h (by decide))
  refine lv_iload hx hb dL_law_735 (lv_at hl 1 rfl) ?_
  refine lv_if_ne (tgt := 752) hx hb dL_law_737 (by decide) (fun _ => ?_) (fun h => absurd h (by decide))
  refine lv_goto (tgt := 1046) hx hb dL_law_752 (by decide) ?_
  refine W.widen (k := 1000) (n := 20000) (Nat.le_of_ble_eq_true rfl) (Nat.le_of_ble_eq_true rfl) ?_
  rw [hAq] at hS
  exact lw_tail l hnt C0 hS (lv_sub hl (l' := [(4, .int 0), (0, .ref b)]) [2, 6] rfl)
