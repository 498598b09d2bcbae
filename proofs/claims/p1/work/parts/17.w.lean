set_option maxHeartbeats 4000000 in
set_option maxRecDepth 100000 in
theorem lw_case_9 {p : Program} {e : Env} {s : State} {m : MethodId} {below : List Frame} {meth : Method} {c : Code} (l : Launch) (hnt : l.stackTraces = false) {b : Nat} {xs : Nat → Int32} (C0 : lw_At p s m meth c b 4 xs) (dC : Nat → ClassId) (dI : Nat → Nat → Nat) {ax : Nat} {av : Nat} {at_ : Nat} {adr : Nat} {ao : Nat} {aar : Nat} {ad0 : Nat} {d1 : Nat} {d2 : Nat} {d3 : Nat} {d4 : Nat} {d5 : Nat} {cD : ClassId} {fd : Nat → Option Nat} {o1 : Nat} {o2 : Nat} {o3 : Nat} {o4 : Nat} {o5 : Nat} {r1 : Nat} {r2 : Nat} {r3 : Nat} {r4 : Nat} {r5 : Nat} {am : Nat} {m1 : Nat} {m2 : Nat} {m3 : Nat} {m4 : Nat} {m5 : Nat} {m6 : Nat} {cM : ClassId} {g1 : Nat → Int32} {cN : ClassId} {zo : Nat} {cL : ClassId} {fo : Nat → Int64} {H : Heap} {locs : List Loc} {ls : Array Slot} (hT : vs_T (fun q : Nat => s.heap.size ≤ q) (s.setDrawn s.drawn) s.heap) (hK : va_K (dC, dI) vwCl [(cD, .object RX0), (cM, .int), (cN, .int), (cL, .long)] (s.setDrawn s.drawn)) (hP : va_P (dC, dI) vwCl [(ax, .inr (3, [.ref av, .ref at_])), (av, .inr (1, [.int 0, .int 0, .ref adr, .ref ao, .ref aar])), (adr, .inl (cD, 10, .inr (.inr (.inr (.inr (va_up fd 0 (some ad0))))))), (ad0, .inr (0, [.int 0, .int 0, .int 0, .int 0, .int 0, .int 0, .int 0, .int 0, .ref d1, .ref d2, .ref d3, .int 0, .ref d4, .ref d5])), (ao, .inr (2, [.int 0, .int 0, .ref o1, .ref o2, .ref o3, .ref o4, .ref o5])), (aar, .inr (2, [.int 0, .int 0, .ref r1, .ref r2, .ref r3, .ref r4, .ref r5])), (am, .inr (4, [.int 0, .int 0, .ref m1, .ref m2, .ref m3, .ref m4, .ref m5, .ref m6])), (m1, .inl (cM, 90, .inl g1)), (m5, .inl (cN, 3, .inl (fun _ => 0))), (zo, .inl (cL, 1, .inr (.inl fo)))] H) (hD : va_D (fun q : Nat => s.heap.size ≤ q) [(ax, .inr (3, [.ref av, .ref at_])), (av, .inr (1, [.int 0, .int 0, .ref adr, .ref ao, .ref aar])), (adr, .inl (cD, 10, .inr (.inr (.inr (.inr (va_up fd 0 (some ad0))))))), (ad0, .inr (0, [.int 0, .int 0, .int 0, .int 0, .int 0, .int 0, .int 0, .int 0, .ref d1, .ref d2, .ref d3, .int 0, .ref d4, .ref d5])), (ao, .inr (2, [.int 0, .int 0, .ref o1, .ref o2, .ref o3, .ref o4, .ref o5])), (aar, .inr (2, [.int 0, .int 0, .ref r1, .ref r2, .ref r3, .ref r4, .ref r5])), (am, .inr (4, [.int 0, .int 0, .ref m1, .ref m2, .ref m3, .ref m4, .ref m5, .ref m6])), (m1, .inl (cM, 90, .inl g1)), (m5, .inl (cN, 3, .inl (fun _ => 0))), (zo, .inl (cL, 1, .inr (.inl fo)))]) (hS : va_S (fun q : Nat => s.heap.size ≤ q) s.heap H locs) (hl : lv_has ls 9 [(4, .int 0), (3, .ref zo), (2, .ref am), (1, .ref ax), (0, .ref b)]) : W p l e room_1 (s.setDrawn s.drawn) m #[Value.ref b] below meth c H locs 157 7002 (lw_Z below #[Value.ref b] s) (F0 m 755 ls []) := by
  obtain ⟨hx, hb, hr, hml, hown, hts0, hX, hbl, hlocks, hgv⟩ := id C0
  have hts1 : ∀ w ∈ wsL_law, w.before #[Value.ref b] s = true := fun w h => hts0 w (wsL_law_in w h)
  have hts := dr_words hts1 s.drawn
  have hA : ∀ q : Nat, s.heap.size ≤ q → (fun q : Nat => s.heap.size ≤ q) q := fun _ h => h
  have hbA : ¬ (fun q : Nat => s.heap.size ≤ q) b := Nat.not_le.mpr hbl
  have hd0 := Drawn.sameBut.refl s.drawn lw_cs
  obtain ⟨A, hAq⟩ : ∃ A : Nat → Prop, A = (fun q : Nat => s.heap.size ≤ q) := ⟨_, rfl⟩
  rw [← hAq] at hA hbA hT hD hS
  refine lv_aload_n hx hb dL_law_755 rfl (lv_at hl 3 rfl) ?_
  refine lv_aload_n hx hb dL_law_756 rfl (lv_at hl 4 rfl) ?_
  refine lv_iload hx hb dL_law_757 (lv_at hl 0 rfl) ?_
  refine lv_iconst (v := 1) hx hb dL_law_759 (by decide) ?_
  refine lv_iadd hx hb dL_law_760 ?_
  refine lv_topi (nm_r (e' := 1) (by decide) ?_)
  refine va_sld hx hb hX hbl hbA hS (i := 1) (vs_vi (by decide)) dL_law_761 ?_
  refine W.eq (g2 := F0 m 762 ls [.int (xs 1), .ref ax]) rfl ?_
  refine lv_aload_n hx hb dL_law_762 rfl (lv_at hl 1 rfl) ?_
  have hPc := hP.sub (ws' := [(ax, .inr (3, [.ref av, .ref at_])), (av, .inr (1, [.int 0, .int 0, .ref adr, .ref ao, .ref aar])), (ao, .inr (2, [.int 0, .int 0, .ref o1, .ref o2, .ref o3, .ref o4, .ref o5])), (aar, .inr (2, [.int 0, .int 0, .ref r1, .ref r2, .ref r3, .ref r4, .ref r5])), (zo, .inl (cL, 1, .inr (.inl fo)))]) [0, 1, 4, 5, 9] rfl
  have hKc := hK.sub (tys' := [(cL, .long)]) [3] rfl
  have hDc := hD.sub (ws' := [(ax, .inr (3, [.ref av, .ref at_])), (av, .inr (1, [.int 0, .int 0, .ref adr, .ref ao, .ref aar])), (ao, .inr (2, [.int 0, .int 0, .ref o1, .ref o2, .ref o3, .ref o4, .ref o5])), (aar, .inr (2, [.int 0, .int 0, .ref r1, .ref r2, .ref r3, .ref r4, .ref r5])), (zo, .inl (cL, 1, .inr (.inl fo)))]) [0, 1, 4, 5, 9] (by decide) rfl
  have hFc := va_free (wc := [(ax, .inr (3, [.ref av, .ref at_])), (av, .inr (1, [.int 0, .int 0, .ref adr, .ref ao, .ref aar])), (ao, .inr (2, [.int 0, .int 0, .ref o1, .ref o2, .ref o3, .ref o4, .ref o5])), (aar, .inr (2, [.int 0, .int 0, .ref r1, .ref r2, .ref r3, .ref r4, .ref r5])), (zo, .inl (cL, 1, .inr (.inl fo)))]) hD hS hA [0, 1, 4, 5, 9] rfl
  have hTc := (hT.kept hS).narrow hFc
  refine vx_calli (vx_runSX (As := [.ref ax, .int (xs 1), .ref zo]) (rest := []) ⟨hx, hb, hml, hown, hts⟩ (cl_pass l hnt dC dI (xs 1) ax av at_ adr ao aar o1 o2 o3 o4 o5 r1 r2 r3 r4 r5 zo cL fo H.size) (vx_cwSW 3 hts gL_law_L_pass rfl rfl rfl (by decide +kernel) ⟨(Nat.le_of_ble_eq_true rfl), (Nat.le_of_ble_eq_true rfl)⟩) ⟨pY_blind, pY_pre hPc hDc hKc hTc⟩ rfl rfl hl.1 rfl (lv_room (Nat.le_of_ble_eq_true rfl)) dL_law_763 ⟨(Nat.le_of_ble_eq_true rfl), (Nat.le_of_ble_eq_true rfl)⟩) hS (fun q _ h => hFc q h) hFc (fun q _ h => hFc q h) (fun E ce q9 ux t H1 locs ht hvm hp hBX hz1 hk1 hS hce hcv hcl => ?_) (fun r_1 u_2 t H1 locs ht hvm hw hB hz1 hk1 hS => ?_)
  · exact hBX.elim
  obtain ⟨hP1, hK1, hD1⟩ := hB
  rw [ht] at hP1
  have hK1 := va_K.moved hvm.symm hK1
  obtain ⟨hP, hD⟩ := va_join (wr := [(adr, .inl (cD, 10, .inr (.inr (.inr (.inr (va_up fd 0 (some ad0))))))), (ad0, .inr (0, [.int 0, .int 0, .int 0, .int 0, .int 0, .int 0, .int 0, .int 0, .ref d1, .ref d2, .ref d3, .int 0, .ref d4, .ref d5])), (am, .inr (4, [.int 0, .int 0, .ref m1, .ref m2, .ref m3, .ref m4, .ref m5, .ref m6])), (m1, .inl (cM, 90, .inl g1)), (m5, .inl (cN, 3, .inl (fun _ => 0)))]) (w1 := [(zo, .inl (cL, 1, .inr (.inl u_2)))]) hP hD [0, 1, 4, 5, 9] [2, 3, 6, 7, 8] rfl rfl (by decide) (by decide) hk1 hFc hP1 hD1
  generalize H1 = H at hP hS ⊢
  have hP : va_P (dC, dI) vwCl [(adr, .inl (cD, 10, .inr (.inr (.inr (.inr (va_up fd 0 (some ad0))))))), (ad0, .inr (0, [.int 0, .int 0, .int 0, .int 0, .int 0, .int 0, .int 0, .int 0, .ref d1, .ref d2, .ref d3, .int 0, .ref d4, .ref d5])), (am, .inr (4, [.int 0, .int 0, .ref m1, .ref m2, .ref m3, .ref m4, .ref m5, .ref m6])), (m1, .inl (cM, 90, .inl g1)), (m5, .inl (cN, 3, .inl (fun _ => 0))), (zo, .inl (cL, 1, .inr (.inl u_2)))] H := hP
  have hD : va_D A [(adr, .inl (cD, 10, .inr (.inr (.inr (.inr (va_up fd 0 (some ad0))))))), (ad0, .inr (0, [.int 0, .int 0, .int 0, .int 0, .int 0, .int 0, .int 0, .int 0, .ref d1, .ref d2, .ref d3, .int 0, .ref d4, .ref d5])), (am, .inr (4, [.int 0, .int 0, .ref m1, .ref m2, .ref m3, .ref m4, .ref m5, .ref m6])), (m1, .inl (cM, 90, .inl g1)), (m5, .inl (cN, 3, .inl (fun _ => 0))), (zo, .inl (cL, 1, .inr (.inl u_2)))] := hD
  have hK : va_K (dC, dI) vwCl [(cD, .object RX0), (cM, .int), (cN, .int), (cL, .long)] _ := hK
  refine W.widen (k := 158) (n := 7008) (by omega) (by omega) ?_
  have hw_3 : (¬ vs_in (xs 1) 1 200 = 0 ∧ r_1 = 0 ∧ u_2 0 = 0) ∨ (vs_in (xs 1) 1 200 = 0 ∧ r_1 = 1) := hw
  refine lv_istore (lv' := [(5, .int r_1), (4, .int 0), (3, .ref zo), (2, .ref am), (1, .ref ax), (0, .ref b)]) hx hb dL_law_766 hl (by decide) rfl (fun ls hl => ?_)
  refine lv_aload_n hx hb dL_law_768 rfl (lv_at hl 3 rfl) ?_
  refine lv_aload_n hx hb dL_law_769 rfl (lv_at hl 5 rfl) ?_
  refine lv_iload hx hb dL_law_770 (lv_at hl 1 rfl) ?_
  refine lv_iconst (v := 1) hx hb dL_law_772 (by decide) ?_
  refine lv_iadd hx hb dL_law_773 ?_
  refine lv_topi (nm_r (e' := 1) (by decide) ?_)
  refine va_sld hx hb hX hbl hbA hS (i := 1) (vs_vi (by decide)) dL_law_774 ?_
  refine W.eq (g2 := F0 m 775 ls [.int (xs 1), .ref am]) rfl ?_
  have hPc := hP.sub (ws' := [(am, .inr (4, [.int 0, .int 0, .ref m1, .ref m2, .ref m3, .ref m4, .ref m5, .ref m6])), (m5, .inl (cN, 3, .inl (fun _ => 0)))]) [2, 4] rfl
  have hKc := hK.sub (tys' := [(cN, .int)]) [2] rfl
  have hDc := hD.sub (ws' := [(am, .inr (4, [.int 0, .int 0, .ref m1, .ref m2, .ref m3, .ref m4, .ref m5, .ref m6])), (m5, .inl (cN, 3, .inl (fun _ => 0)))]) [2, 4] (by decide) rfl
  have hFc := va_free (wc := [(am, .inr (4, [.int 0, .int 0, .ref m1, .ref m2, .ref m3, .ref m4, .ref m5, .ref m6])), (m5, .inl (cN, 3, .inl (fun _ => 0)))]) hD hS hA [2, 4] rfl
  refine va_calli (va_runV (As := [.int (xs 1)]) (rest := []) ⟨hx, hb, hml, hown, hts⟩ (ct_X4_pass l dC dI 0 (xs 1) am m1 m2 m3 m4 m5 m6 cN H.size) (cwV 1 hts gL_law_X4_pass rfl rfl rfl (by decide +kernel) ⟨(Nat.le_of_ble_eq_true rfl), (Nat.le_of_ble_eq_true rfl)⟩) ⟨pZ_blind, va_recv hKc hPc (ci := 4) (q0 := 0) rfl rfl, pZ_pre hPc hDc hKc⟩ rfl rfl hl.1 rfl (lv_room (Nat.le_of_ble_eq_true rfl)) dL_law_775 ⟨(Nat.le_of_ble_eq_true rfl), (Nat.le_of_ble_eq_true rfl)⟩) hS (fun q _ h => hFc q h) hFc (fun r_4 u_5 t H1 locs ht hvm hw hB hz1 hk1 hS => ?_)
  obtain ⟨hP1, hK1, hD1⟩ := hB
  rw [ht] at hP1
  have hK1 := va_K.moved hvm.symm hK1
  obtain ⟨hP, hD⟩ := va_join (wr := [(adr, .inl (cD, 10, .inr (.inr (.inr (.inr (va_up fd 0 (some ad0))))))), (ad0, .inr (0, [.int 0, .int 0, .int 0, .int 0, .int 0, .int 0, .int 0, .int 0, .ref d1, .ref d2, .ref d3, .int 0, .ref d4, .ref d5])), (m1, .inl (cM, 90, .inl g1)), (zo, .inl (cL, 1, .inr (.inl u_2)))]) (w1 := [(am, .inr (4, [.int u_5, .int 0, .ref m1, .ref m2, .ref m3, .ref m4, .ref m5, .ref m6]))]) hP hD [2, 4] [0, 1, 3, 5] rfl rfl (by decide) (by decide) hk1 hFc hP1 hD1
  generalize H1 = H at hP hS ⊢
  have hP : va_P (dC, dI) vwCl [(adr, .inl (cD, 10, .inr (.inr (.inr (.inr (va_up fd 0 (some ad0))))))), (ad0, .inr (0, [.int 0, .int 0, .int 0, .int 0, .int 0, .int 0, .int 0, .int 0, .ref d1, .ref d2, .ref d3, .int 0, .ref d4, .ref d5])), (m1, .inl (cM, 90, .inl g1)), (zo, .inl (cL, 1, .inr (.inl u_2))), (am, .inr (4, [.int u_5, .int 0, .ref m1, .ref m2, .ref m3, .ref m4, .ref m5, .ref m6]))] H := hP
  have hD : va_D A [(adr, .inl (cD, 10, .inr (.inr (.inr (.inr (va_up fd 0 (some ad0))))))), (ad0, .inr (0, [.int 0, .int 0, .int 0, .int 0, .int 0, .int 0, .int 0, .int 0, .ref d1, .ref d2, .ref d3, .int 0, .ref d4, .ref d5])), (m1, .inl (cM, 90, .inl g1)), (zo, .inl (cL, 1, .inr (.inl u_2))), (am, .inr (4, [.int u_5, .int 0, .ref m1, .ref m2, .ref m3, .ref m4, .ref m5, .ref m6]))] := hD
  have hK : va_K (dC, dI) vwCl [(cD, .object RX0), (cM, .int), (cN, .int), (cL, .long)] _ := hK
  have hw_6 : r_4 = 0 ∧ ((vs_in (xs 1) 1 200 = 0 ∧ u_5 = 1) ∨ (¬ vs_in (xs 1) 1 200 = 0 ∧ u_5 = 0)) := hw
  rcases hw_3 with ⟨hc, h1r, h1u⟩ | ⟨hc, h1r⟩
  · obtain ⟨h2r, h2o⟩ := hw_6
    rcases h2o with ⟨h2, h2u⟩ | ⟨h2, h2u⟩
    · exact absurd h2 hc
    subst h2r; subst h2u; subst h1r
    refine lv_istore (lv' := [(6, .int 0), (5, .int 0), (4, .int 0), (3, .ref zo), (2, .ref am), (1, .ref ax), (0, .ref b)]) hx hb dL_law_778 hl (by decide) rfl (fun ls hl => ?_)
    refine lv_aload_n hx hb dL_law_780 rfl (lv_at hl 4 rfl) ?_
    have hPc := hP.sub (ws' := [(am, .inr (4, [.int 0, .int 0, .ref m1, .ref m2, .ref m3, .ref m4, .ref m5, .ref m6]))]) [4] rfl
    have hKc := hK.sub (tys' := []) [] rfl
    refine va_calli (va_runV (As := []) (rest := []) ⟨hx, hb, hml, hown, hts⟩ (ct_X4_thrown l dC dI 0 0 am m1 m2 m3 m4 m5 m6) (cwV 0 hts gL_law_X4_thrown rfl rfl rfl (by decide +kernel) ⟨(Nat.le_of_ble_eq_true rfl), (Nat.le_of_ble_eq_true rfl)⟩) ⟨pR_blind, va_recv hKc hPc (ci := 4) (q0 := 0) rfl rfl, pR_pre hPc hKc⟩ rfl rfl hl.1 rfl (lv_room (Nat.le_of_ble_eq_true rfl)) dL_law_781 ⟨(Nat.le_of_ble_eq_true rfl), (Nat.le_of_ble_eq_true rfl)⟩) hS (fun q _ h => h.elim) (fun q h => h.elim) (fun r_7 u_8 t H1 locs ht hvm hw hB hz1 hk1 hS => ?_)
    have hP := hP.kept (fun k q hk => hk1 q.1 (hP k q hk).lt (fun h => h))
    generalize H1 = H at hP hS ⊢
    have hw : r_7 = 0 := hw
    subst hw
    refine lv_iload hx hb dL_law_784 (lv_at hl 1 rfl) ?_
    refine lv_icmp_eq (tgt := 791) hx hb dL_law_786 (by decide) (fun _ => ?_) (fun h => absurd h (by decide))
    refine lv_iload hx hb dL_law_791 (lv_at hl 1 rfl) ?_
    refine lv_if_ne (tgt := 808) hx hb dL_law_793 (by decide) (fun h => absurd h (by decide)) (fun _ => ?_)
    refine lv_aload_n hx hb dL_law_796 rfl (lv_at hl 3 rfl) ?_
    refine lv_iconst (v := 0) hx hb dL_law_797 (by decide) ?_
    refine va_lald (D := (dC, dI)) hx hb hK hP 3 3 rfl rfl (i := 0) (vs_vi (by decide)) dL_law_798 ?_
    refine W.eq (g2 := F0 m 799 ls [.long (u_2 0)]) rfl ?_
    rw [h1u]
    refine lv_iload hx hb dL_law_799 (lv_at hl 0 rfl) ?_
    refine lv_i2l (v := 0) hx hb dL_law_801 (by decide) ?_
    refine W.lcmp hx hb dL_law_802 ?_
    refine lv_topi (nm_r (e' := 0) (by decide) ?_)
    refine lv_if_eq (tgt := 808) hx hb dL_law_803 (by decide) (fun _ => ?_) (fun h => absurd h (by decide))
    refine lv_goto (tgt := 1046) hx hb dL_law_808 (by decide) ?_
    refine W.widen (k := 1000) (n := 20000) (Nat.le_of_ble_eq_true rfl) (Nat.le_of_ble_eq_true rfl) ?_
    rw [hAq] at hS
    exact lw_tail l hnt C0 hS (lv_sub hl (l' := [(4, .int 0), (0, .ref b)]) [2, 6] rfl)
  · obtain ⟨h2r, h2o⟩ := hw_6
    rcases h2o with ⟨h2, h2u⟩ | ⟨h2, h2u⟩
    rotate_left
    · exact absurd hc h2
    subst h2r; subst h2u; subst h1r
    refine lv_istore (lv' := [(6, .int 0), (5, .int 1), (4, .int 0), (3, .ref zo), (2, .ref am), (1, .ref ax), (0, .ref b)]) hx hb dL_law_778 hl (by decide) rfl (fun ls hl => ?_)
    refine lv_aload_n hx hb dL_law_780 rfl (lv_at hl 4 rfl) ?_
    have hPc := hP.sub (ws' := [(am, .inr (4, [.int 1, .int 0, .ref m1, .ref m2, .ref m3, .ref m4, .ref m5, .ref m6]))]) [4] rfl
    have hKc := hK.sub (tys' := []) [] rfl
    refine va_calli (va_runV (As := []) (rest := []) ⟨hx, hb, hml, hown, hts⟩ (ct_X4_thrown l dC dI 1 0 am m1 m2 m3 m4 m5 m6) (cwV 0 hts gL_law_X4_thrown rfl rfl rfl (by decide +kernel) ⟨(Nat.le_of_ble_eq_true rfl), (Nat.le_of_ble_eq_true rfl)⟩) ⟨pR_blind, va_recv hKc hPc (ci := 4) (q0 := 0) rfl rfl, pR_pre hPc hKc⟩ rfl rfl hl.1 rfl (lv_room (Nat.le_of_ble_eq_true rfl)) dL_law_781 ⟨(Nat.le_of_ble_eq_true rfl), (Nat.le_of_ble_eq_true rfl)⟩) hS (fun q _ h => h.elim) (fun q h => h.elim) (fun r_9 u_10 t H1 locs ht hvm hw hB hz1 hk1 hS => ?_)
    have hP := hP.kept (fun k q hk => hk1 q.1 (hP k q hk).lt (fun h => h))
    generalize H1 = H at hP hS ⊢
    have hw : r_9 = 1 := hw
    subst hw
    refine lv_iload hx hb dL_law_784 (lv_at hl 1 rfl) ?_
    refine lv_icmp_eq (tgt := 791) hx hb dL_law_786 (by decide) (fun _ => ?_) (fun h => absurd h (by decide))
    refine lv_iload hx hb dL_law_791 (lv_at hl 1 rfl) ?_
    refine lv_if_ne (tgt := 808) hx hb dL_law_793 (by decide) (fun _ => ?_) (fun h => absurd h (by decide))
    refine lv_goto (tgt := 1046) hx hb dL_law_808 (by decide) ?_
    refine W.widen (k := 1000) (n := 20000) (Nat.le_of_ble_eq_true rfl) (Nat.le_of_ble_eq_true rfl) ?_
    rw [hAq] at hS
    exact lw_tail l hnt C0 hS (lv_sub hl (l' := [(4, .int 0), (0, .ref b)]) [2, 6] rfl)

set_option maxHeartbeats 4000000 in
set_option maxRecDepth 100000 in
theorem lw_case_10 {p : Program} {e : Env} {s : State} {m : MethodId} {below : List Frame} {meth : Method} {c : Code} (l : Launch) (hnt : l.stackTraces = false) {b : Nat} {xs : Nat → Int32} (C0 : lw_At p s m meth c b 4 xs) (dC : Nat → ClassId) (dI : Nat → Nat → Nat) {ax : Nat} {av : Nat} {at_ : Nat} {adr : Nat} {ao : Nat} {aar : Nat} {ad0 : Nat} {d1 : Nat} {d2 : Nat} {d3 : Nat} {d4 : Nat} {d5 : Nat} {cD : ClassId} {fd : Nat → Option Nat} {o1 : Nat} {o2 : Nat} {o3 : Nat} {o4 : Nat} {o5 : Nat} {r1 : Nat} {r2 : Nat} {r3 : Nat} {r4 : Nat} {r5 : Nat} {am : Nat} {m1 : Nat} {m2 : Nat} {m3 : Nat} {m4 : Nat} {m5 : Nat} {m6 : Nat} {cM : ClassId} {g1 : Nat → Int32} {cN : ClassId} {zo : Nat} {cL : ClassId} {fo : Nat → Int64} {H : Heap} {locs : List Loc} {ls : Array Slot} (hT : vs_T (fun q : Nat => s.heap.size ≤ q) (s.setDrawn s.drawn) s.heap) (hK : va_K (dC, dI) vwCl [(cD, .object RX0), (cM, .int), (cN, .int), (cL, .long)] (s.setDrawn s.drawn)) (hP : va_P (dC, dI) vwCl [(ax, .inr (3, [.ref av, .ref at_])), (av, .inr (1, [.int 0, .int 0, .ref adr, .ref ao, .ref aar])), (adr, .inl (cD, 10, .inr (.inr (.inr (.inr (va_up fd 0 (some ad0))))))), (ad0, .inr (0, [.int 0, .int 0, .int 0, .int 0, .int 0, .int 0, .int 0, .int 0, .ref d1, .ref d2, .ref d3, .int 0, .ref d4, .ref d5])), (ao, .inr (2, [.int 0, .int 0, .ref o1, .ref o2, .ref o3, .ref o4, .ref o5])), (aar, .inr (2, [.int 0, .int 0, .ref r1, .ref r2, .ref r3, .ref r4, .ref r5])), (am, .inr (4, [.int 0, .int 0, .ref m1, .ref m2, .ref m3, .ref m4, .ref m5, .ref m6])), (m1, .inl (cM, 90, .inl g1)), (m5, .inl (cN, 3, .inl (fun _ => 0))), (zo, .inl (cL, 1, .inr (.inl fo)))] H) (hD : va_D (fun q : Nat => s.heap.size ≤ q) [(ax, .inr (3, [.ref av, .ref at_])), (av, .inr (1, [.int 0, .int 0, .ref adr, .ref ao, .ref aar])), (adr, .inl (cD, 10, .inr (.inr (.inr (.inr (va_up fd 0 (some ad0))))))), (ad0, .inr (0, [.int 0, .int 0, .int 0, .int 0, .int 0, .int 0, .int 0, .int 0, .ref d1, .ref d2, .ref d3, .int 0, .ref d4, .ref d5])), (ao, .inr (2, [.int 0, .int 0, .ref o1, .ref o2, .ref o3, .ref o4, .ref o5])), (aar, .inr (2, [.int 0, .int 0, .ref r1, .ref r2, .ref r3, .ref r4, .ref r5])), (am, .inr (4, [.int 0, .int 0, .ref m1, .ref m2, .ref m3, .ref m4, .ref m5, .ref m6])), (m1, .inl (cM, 90, .inl g1)), (m5, .inl (cN, 3, .inl (fun _ => 0))), (zo, .inl (cL, 1, .inr (.inl fo)))]) (hS : va_S (fun q : Nat => s.heap.size ≤ q) s.heap H locs) (hl : lv_has ls 9 [(4, .int 0), (3, .ref zo), (2, .ref am), (1, .ref ax), (0, .ref b)]) : W p l e room_1 (s.setDrawn s.drawn) m #[Value.ref b] below meth c H locs 157 7002 (lw_Z below #[Value.ref b] s) (F0 m 811 ls []) := by
  obtain ⟨hx, hb, hr, hml, hown, hts0, hX, hbl, hlocks, hgv⟩ := id C0
  have hts1 : ∀ w ∈ wsL_law, w.before #[Value.ref b] s = true := fun w h => hts0 w (wsL_law_in w h)
  have hts := dr_words hts1 s.drawn
  have hA : ∀ q : Nat, s.heap.size ≤ q → (fun q : Nat => s.heap.size ≤ q) q := fun _ h => h
  have hbA : ¬ (fun q : Nat => s.heap.size ≤ q) b := Nat.not_le.mpr hbl
  have hd0 := Drawn.sameBut.refl s.drawn lw_cs
  obtain ⟨A, hAq⟩ : ∃ A : Nat → Prop, A = (fun q : Nat => s.heap.size ≤ q) := ⟨_, rfl⟩
  rw [← hAq] at hA hbA hT hD hS
  refine lv_aload_n hx hb dL_law_811 rfl (lv_at hl 3 rfl) ?_
  refine lv_aload_n hx hb dL_law_812 rfl (lv_at hl 4 rfl) ?_
  refine lv_iload hx hb dL_law_813 (lv_at hl 0 rfl) ?_
  refine lv_iconst (v := 1) hx hb dL_law_815 (by decide) ?_
  refine lv_iadd hx hb dL_law_816 ?_
  refine lv_topi (nm_r (e' := 1) (by decide) ?_)
  refine va_sld hx hb hX hbl hbA hS (i := 1) (vs_vi (by decide)) dL_law_817 ?_
  refine W.eq (g2 := F0 m 818 ls [.int (xs 1), .ref ax]) rfl ?_
  refine lv_aload_n hx hb dL_law_818 rfl (lv_at hl 1 rfl) ?_
  have hPc := hP.sub (ws' := [(ax, .inr (3, [.ref av, .ref at_])), (av, .inr (1, [.int 0, .int 0, .ref adr, .ref ao, .ref aar])), (zo, .inl (cL, 1, .inr (.inl fo)))]) [0, 1, 9] rfl
  have hKc := hK.sub (tys' := [(cL, .long)]) [3] rfl
  have hDc := hD.sub (ws' := [(ax, .inr (3, [.ref av, .ref at_])), (av, .inr (1, [.int 0, .int 0, .ref adr, .ref ao, .ref aar])), (zo, .inl (cL, 1, .inr (.inl fo)))]) [0, 1, 9] (by decide) rfl
  have hFc := va_free (wc := [(ax, .inr (3, [.ref av, .ref at_])), (av, .inr (1, [.int 0, .int 0, .ref adr, .ref ao, .ref aar])), (zo, .inl (cL, 1, .inr (.inl fo)))]) hD hS hA [0, 1, 9] rfl
  have hTc := (hT.kept hS).narrow hFc
  refine vx_calli (vx_runSX (As := [.ref ax, .int (xs 1), .ref zo]) (rest := []) ⟨hx, hb, hml, hown, hts⟩ (cl_opens l hnt dC dI (xs 1) ax av at_ adr ao aar zo cL fo H.size) (vx_cwSW 3 hts gL_law_L_opens rfl rfl rfl (by decide +kernel) ⟨(Nat.le_of_ble_eq_true rfl), (Nat.le_of_ble_eq_true rfl)⟩) ⟨pY_blind, pY_pre hPc hDc hKc hTc⟩ rfl rfl hl.1 rfl (lv_room (Nat.le_of_ble_eq_true rfl)) dL_law_819 ⟨(Nat.le_of_ble_eq_true rfl), (Nat.le_of_ble_eq_true rfl)⟩) hS (fun q _ h => hFc q h) hFc (fun q _ h => hFc q h) (fun E ce q9 ux t H1 locs ht hvm hp hBX hz1 hk1 hS hce hcv hcl => ?_) (fun r_1 u_2 t H1 locs ht hvm hw hB hz1 hk1 hS => ?_)
  · exact hBX.elim
  obtain ⟨hP1, hK1, hD1⟩ := hB
  rw [ht] at hP1
  have hK1 := va_K.moved hvm.symm hK1
  obtain ⟨hP, hD⟩ := va_join (wr := [(adr, .inl (cD, 10, .inr (.inr (.inr (.inr (va_up fd 0 (some ad0))))))), (ad0, .inr (0, [.int 0, .int 0, .int 0, .int 0, .int 0, .int 0, .int 0, .int 0, .ref d1, .ref d2, .ref d3, .int 0, .ref d4, .ref d5])), (ao, .inr (2, [.int 0, .int 0, .ref o1, .ref o2, .ref o3, .ref o4, .ref o5])), (aar, .inr (2, [.int 0, .int 0, .ref r1, .ref r2, .ref r3, .ref r4, .ref r5])), (am, .inr (4, [.int 0, .int 0, .ref m1, .ref m2, .ref m3, .ref m4, .ref m5, .ref m6])), (m1, .inl (cM, 90, .inl g1)), (m5, .inl (cN, 3, .inl (fun _ => 0)))]) (w1 := []) hP hD [0, 1, 9] [2, 3, 4, 5, 6, 7, 8] rfl rfl (by decide) (by decide) hk1 hFc hP1 hD1
  generalize H1 = H at hP hS ⊢
  have hP : va_P (dC, dI) vwCl [(adr, .inl (cD, 10, .inr (.inr (.inr (.inr (va_up fd 0 (some ad0))))))), (ad0, .inr (0, [.int 0, .int 0, .int 0, .int 0, .int 0, .int 0, .int 0, .int 0, .ref d1, .ref d2, .ref d3, .int 0, .ref d4, .ref d5])), (ao, .inr (2, [.int 0, .int 0, .ref o1, .ref o2, .ref o3, .ref o4, .ref o5])), (aar, .inr (2, [.int 0, .int 0, .ref r1, .ref r2, .ref r3, .ref r4, .ref r5])), (am, .inr (4, [.int 0, .int 0, .ref m1, .ref m2, .ref m3, .ref m4, .ref m5, .ref m6])), (m1, .inl (cM, 90, .inl g1)), (m5, .inl (cN, 3, .inl (fun _ => 0)))] H := hP
  have hD : va_D A [(adr, .inl (cD, 10, .inr (.inr (.inr (.inr (va_up fd 0 (some ad0))))))), (ad0, .inr (0, [.int 0, .int 0, .int 0, .int 0, .int 0, .int 0, .int 0, .int 0, .ref d1, .ref d2, .ref d3, .int 0, .ref d4, .ref d5])), (ao, .inr (2, [.int 0, .int 0, .ref o1, .ref o2, .ref o3, .ref o4, .ref o5])), (aar, .inr (2, [.int 0, .int 0, .ref r1, .ref r2, .ref r3, .ref r4, .ref r5])), (am, .inr (4, [.int 0, .int 0, .ref m1, .ref m2, .ref m3, .ref m4, .ref m5, .ref m6])), (m1, .inl (cM, 90, .inl g1)), (m5, .inl (cN, 3, .inl (fun _ => 0)))] := hD
  have hK : va_K (dC, dI) vwCl [(cD, .object RX0), (cM, .int), (cN, .int), (cL, .long)] _ := hK
  refine W.widen (k := 158) (n := 7008) (by omega) (by omega) ?_
  have hw : r_1 = 1 := hw
  subst hw
  refine lv_istore (lv' := [(5, .int 1), (4, .int 0), (3, .ref zo), (2, .ref am), (1, .ref ax), (0, .ref b)]) hx hb dL_law_822 hl (by decide) rfl (fun ls hl => ?_)
  refine lv_aload_n hx hb dL_law_824 rfl (lv_at hl 3 rfl) ?_
  refine lv_aload_n hx hb dL_law_825 rfl (lv_at hl 5 rfl) ?_
  refine lv_iload hx hb dL_law_826 (lv_at hl 1 rfl) ?_
  refine lv_iconst (v := 1) hx hb dL_law_828 (by decide) ?_
  refine lv_iadd hx hb dL_law_829 ?_
  refine lv_topi (nm_r (e' := 1) (by decide) ?_)
  refine va_sld hx hb hX hbl hbA hS (i := 1) (vs_vi (by decide)) dL_law_830 ?_
  refine W.eq (g2 := F0 m 831 ls [.int (xs 1), .ref am]) rfl ?_
  have hPc := hP.sub (ws' := [(am, .inr (4, [.int 0, .int 0, .ref m1, .ref m2, .ref m3, .ref m4, .ref m5, .ref m6]))]) [4] rfl
  have hKc := hK.sub (tys' := []) [] rfl
  have hDc := hD.sub (ws' := [(am, .inr (4, [.int 0, .int 0, .ref m1, .ref m2, .ref m3, .ref m4, .ref m5, .ref m6]))]) [4] (by decide) rfl
  have hFc := va_free (wc := [(am, .inr (4, [.int 0, .int 0, .ref m1, .ref m2, .ref m3, .ref m4, .ref m5, .ref m6]))]) hD hS hA [4] rfl
  refine va_calli (va_runV (As := [.int (xs 1)]) (rest := []) ⟨hx, hb, hml, hown, hts⟩ (ct_X4_opens l dC dI 0 (xs 1) am m1 m2 m3 m4 m5 m6 H.size) (cwV 1 hts gL_law_X4_opens rfl rfl rfl (by decide +kernel) ⟨(Nat.le_of_ble_eq_true rfl), (Nat.le_of_ble_eq_true rfl)⟩) ⟨pZ_blind, va_recv hKc hPc (ci := 4) (q0 := 0) rfl rfl, pZ_pre hPc hDc hKc⟩ rfl rfl hl.1 rfl (lv_room (Nat.le_of_ble_eq_true rfl)) dL_law_831 ⟨(Nat.le_of_ble_eq_true rfl), (Nat.le_of_ble_eq_true rfl)⟩) hS (fun q _ h => hFc q h) hFc (fun r_3 u_4 t H1 locs ht hvm hw hB hz1 hk1 hS => ?_)
  obtain ⟨hP1, hK1, hD1⟩ := hB
  rw [ht] at hP1
  have hK1 := va_K.moved hvm.symm hK1
  obtain ⟨hP, hD⟩ := va_join (wr := [(adr, .inl (cD, 10, .inr (.inr (.inr (.inr (va_up fd 0 (some ad0))))))), (ad0, .inr (0, [.int 0, .int 0, .int 0, .int 0, .int 0, .int 0, .int 0, .int 0, .ref d1, .ref d2, .ref d3, .int 0, .ref d4, .ref d5])), (ao, .inr (2, [.int 0, .int 0, .ref o1, .ref o2, .ref o3, .ref o4, .ref o5])), (aar, .inr (2, [.int 0, .int 0, .ref r1, .ref r2, .ref r3, .ref r4, .ref r5])), (m1, .inl (cM, 90, .inl g1)), (m5, .inl (cN, 3, .inl (fun _ => 0)))]) (w1 := [(am, .inr (4, [.int 1, .int 0, .ref m1, .ref m2, .ref m3, .ref m4, .ref m5, .ref m6]))]) hP hD [4] [0, 1, 2, 3, 5, 6] rfl rfl (by decide) (by decide) hk1 hFc hP1 hD1
  generalize H1 = H at hP hS ⊢
  have hP : va_P (dC, dI) vwCl [(adr, .inl (cD, 10, .inr (.inr (.inr (.inr (va_up fd 0 (some ad0))))))), (ad0, .inr (0, [.int 0, .int 0, .int 0, .int 0, .int 0, .int 0, .int 0, .int 0, .ref d1, .ref d2, .ref d3, .int 0, .ref d4, .ref d5])), (ao, .inr (2, [.int 0, .int 0, .ref o1, .ref o2, .ref o3, .ref o4, .ref o5])), (aar, .inr (2, [.int 0, .int 0, .ref r1, .ref r2, .ref r3, .ref r4, .ref r5])), (m1, .inl (cM, 90, .inl g1)), (m5, .inl (cN, 3, .inl (fun _ => 0))), (am, .inr (4, [.int 1, .int 0, .ref m1, .ref m2, .ref m3, .ref m4, .ref m5, .ref m6]))] H := hP
  have hD : va_D A [(adr, .inl (cD, 10, .inr (.inr (.inr (.inr (va_up fd 0 (some ad0))))))), (ad0, .inr (0, [.int 0, .int 0, .int 0, .int 0, .int 0, .int 0, .int 0, .int 0, .ref d1, .ref d2, .ref d3, .int 0, .ref d4, .ref d5])), (ao, .inr (2, [.int 0, .int 0, .ref o1, .ref o2, .ref o3, .ref o4, .ref o5])), (aar, .inr (2, [.int 0, .int 0, .ref r1, .ref r2, .ref r3, .ref r4, .ref r5])), (m1, .inl (cM, 90, .inl g1)), (m5, .inl (cN, 3, .inl (fun _ => 0))), (am, .inr (4, [.int 1, .int 0, .ref m1, .ref m2, .ref m3, .ref m4, .ref m5, .ref m6]))] := hD
  have hK : va_K (dC, dI) vwCl [(cD, .object RX0), (cM, .int), (cN, .int), (cL, .long)] _ := hK
  have hw : r_3 = 0 := hw
  subst hw
  refine lv_istore (lv' := [(6, .int 0), (5, .int 1), (4, .int 0), (3, .ref zo), (2, .ref am), (1, .ref ax), (0, .ref b)]) hx hb dL_law_834 hl (by decide) rfl (fun ls hl => ?_)
  refine lv_aload_n hx hb dL_law_836 rfl (lv_at hl 4 rfl) ?_
  have hPc := hP.sub (ws' := [(am, .inr (4, [.int 1, .int 0, .ref m1, .ref m2, .ref m3, .ref m4, .ref m5, .ref m6]))]) [6] rfl
  have hKc := hK.sub (tys' := []) [] rfl
  refine va_calli (va_runV (As := []) (rest := []) ⟨hx, hb, hml, hown, hts⟩ (ct_X4_thrown l dC dI 1 0 am m1 m2 m3 m4 m5 m6) (cwV 0 hts gL_law_X4_thrown rfl rfl rfl (by decide +kernel) ⟨(Nat.le_of_ble_eq_true rfl), (Nat.le_of_ble_eq_true rfl)⟩) ⟨pR_blind, va_recv hKc hPc (ci := 4) (q0 := 0) rfl rfl, pR_pre hPc hKc⟩ rfl rfl hl.1 rfl (lv_room (Nat.le_of_ble_eq_true rfl)) dL_law_837 ⟨(Nat.le_of_ble_eq_true rfl), (Nat.le_of_ble_eq_true rfl)⟩) hS (fun q _ h => h.elim) (fun q h => h.elim) (fun r_5 u_6 t H1 locs ht hvm hw hB hz1 hk1 hS => ?_)
  have hP := hP.kept (fun k q hk => hk1 q.1 (hP k q hk).lt (fun h => h))
  generalize H1 = H at hP hS ⊢
  have hw : r_5 = 1 := hw
  subst hw
  refine lv_iload hx hb dL_law_840 (lv_at hl 1 rfl) ?_
  refine lv_icmp_eq (tgt := 847) hx hb dL_law_842 (by decide) (fun _ => ?_) (fun h => absurd h (by decide))
  refine lv_iload hx hb dL_law_847 (lv_at hl 1 rfl) ?_
  refine lv_if_ne (tgt := 864) hx hb dL_law_849 (by decide) (fun _ => ?_) (fun h => absurd h (by decide))
  refine lv_goto (tgt := 1046) hx hb dL_law_864 (by decide) ?_
  refine W.widen (k := 1000) (n := 20000) (Nat.le_of_ble_eq_true rfl) (Nat.le_of_ble_eq_true rfl) ?_
  rw [hAq] at hS
  exact lw_tail l hnt C0 hS (lv_sub hl (l' := [(4, .int 0), (0, .ref b)]) [2, 6] rfl)

set_option maxHeartbeats 4000000 in
set_option maxRecDepth 100000 in
theorem lw_case_11 {p : Program} {e : Env} {s : State} {m : MethodId} {below : List Frame} {meth : Method} {c : Code} (l : Launch) (hnt : l.stackTraces = false) {b : Nat} {xs : Nat → Int32} (C0 : lw_At p s m meth c b 4 xs) (dC : Nat → ClassId) (dI : Nat → Nat → Nat) {ax : Nat} {av : Nat} {at_ : Nat} {adr : Nat} {ao : Nat} {aar : Nat} {ad0 : Nat} {d1 : Nat} {d2 : Nat} {d3 : Nat} {d4 : Nat} {d5 : Nat} {cD : ClassId} {fd : Nat → Option Nat} {o1 : Nat} {o2 : Nat} {o3 : Nat} {o4 : Nat} {o5 : Nat} {r1 : Nat} {r2 : Nat} {r3 : Nat} {r4 : Nat} {r5 : Nat} {am : Nat} {m1 : Nat} {m2 : Nat} {m3 : Nat} {m4 : Nat} {m5 : Nat} {m6 : Nat} {cM : ClassId} {g1 : Nat → Int32} {cN : ClassId} {zo : Nat} {cL : ClassId} {fo : Nat → Int64} {H : Heap} {locs : List Loc} {ls : Array Slot} (hT : vs_T (fun q : Nat => s.heap.size ≤ q) (s.setDrawn s.drawn) s.heap) (hK : va_K (dC, dI) vwCl [(cD, .object RX0), (cM, .int), (cN, .int), (cL, .long)] (s.setDrawn s.drawn)) (hP : va_P (dC, dI) vwCl [(ax, .inr (3, [.ref av, .ref at_])), (av, .inr (1, [.int 0, .int 0, .ref adr, .ref ao, .ref aar])), (adr, .inl (cD, 10, .inr (.inr (.inr (.inr (va_up fd 0 (some ad0))))))), (ad0, .inr (0, [.int 0, .int 0, .int 0, .int 0, .int 0, .int 0, .int 0, .int 0, .ref d1, .ref d2, .ref d3, .int 0, .ref d4, .ref d5])), (ao, .inr (2, [.int 0, .int 0, .ref o1, .ref o2, .ref o3, .ref o4, .ref o5])), (aar, .inr (2, [.int 0, .int 0, .ref r1, .ref r2, .ref r3, .ref r4, .ref r5])), (am, .inr (4, [.int 0, .int 0, .ref m1, .ref m2, .ref m3, .ref m4, .ref m5, .ref m6])), (m1, .inl (cM, 90, .inl g1)), (m5, .inl (cN, 3, .inl (fun _ => 0))), (zo, .inl (cL, 1, .inr (.inl fo)))] H) (hD : va_D (fun q : Nat => s.heap.size ≤ q) [(ax, .inr (3, [.ref av, .ref at_])), (av, .inr (1, [.int 0, .int 0, .ref adr, .ref ao, .ref aar])), (adr, .inl (cD, 10, .inr (.inr (.inr (.inr (va_up fd 0 (some ad0))))))), (ad0, .inr (0, [.int 0, .int 0, .int 0, .int 0, .int 0, .int 0, .int 0, .int 0, .ref d1, .ref d2, .ref d3, .int 0, .ref d4, .ref d5])), (ao, .inr (2, [.int 0, .int 0, .ref o1, .ref o2, .ref o3, .ref o4, .ref o5])), (aar, .inr (2, [.int 0, .int 0, .ref r1, .ref r2, .ref r3, .ref r4, .ref r5])), (am, .inr (4, [.int 0, .int 0, .ref m1, .ref m2, .ref m3, .ref m4, .ref m5, .ref m6])), (m1, .inl (cM, 90, .inl g1)), (m5, .inl (cN, 3, .inl (fun _ => 0))), (zo, .inl (cL, 1, .inr (.inl fo)))]) (hS : va_S (fun q : Nat => s.heap.size ≤ q) s.heap H locs) (hl : lv_has ls 9 [(4, .int 0), (3, .ref zo), (2, .ref am), (1, .ref ax), (0, .ref b)]) : W p l e room_1 (s.setDrawn s.drawn) m #[Value.ref b] below meth c H locs 157 7002 (lw_Z below #[Value.ref b] s) (F0 m 867 ls []) := by
  obtain ⟨hx, hb, hr, hml, hown, hts0, hX, hbl, hlocks, hgv⟩ := id C0
  have hts1 : ∀ w ∈ wsL_law, w.before #[Value.ref b] s = true := fun w h => hts0 w (wsL_law_in w h)
  have hts := dr_words hts1 s.drawn
  have hA : ∀ q : Nat, s.heap.size ≤ q → (fun q : Nat => s.heap.size ≤ q) q := fun _ h => h
  have hbA : ¬ (fun q : Nat => s.heap.size ≤ q) b := Nat.not_le.mpr hbl
  have hd0 := Drawn.sameBut.refl s.drawn lw_cs
  obtain ⟨A, hAq⟩ : ∃ A : Nat → Prop, A = (fun q : Nat => s.heap.size ≤ q) := ⟨_, rfl⟩
  rw [← hAq] at hA hbA hT hD hS
  refine lv_aload_n hx hb dL_law_867 rfl (lv_at hl 3 rfl) ?_
  refine lv_aload_n hx hb dL_law_868 rfl (lv_at hl 4 rfl) ?_
  refine lv_iload hx hb dL_law_869 (lv_at hl 0 rfl) ?_
  refine lv_iconst (v := 1) hx hb dL_law_871 (by decide) ?_
  refine lv_iadd hx hb dL_law_872 ?_
  refine lv_topi (nm_r (e' := 1) (by decide) ?_)
  refine va_sld hx hb hX hbl hbA hS (i := 1) (vs_vi (by decide)) dL_law_873 ?_
  refine W.eq (g2 := F0 m 874 ls [.int (xs 1), .ref ax]) rfl ?_
  refine lv_aload_n hx hb dL_law_874 rfl (lv_at hl 4 rfl) ?_
  refine lv_iload hx hb dL_law_875 (lv_at hl 0 rfl) ?_
  refine lv_iconst (v := 2) hx hb dL_law_877 (by decide) ?_
  refine lv_iadd hx hb dL_law_878 ?_
  refine lv_topi (nm_r (e' := 2) (by decide) ?_)
  refine va_sld hx hb hX hbl hbA hS (i := 2) (vs_vi (by decide)) dL_law_879 ?_
  refine W.eq (g2 := F0 m 880 ls [.int (xs 2), .int (xs 1), .ref ax]) rfl ?_
  refine lv_aload_n hx hb dL_law_880 rfl (lv_at hl 1 rfl) ?_
  have hPc := hP.sub (ws' := [(ax, .inr (3, [.ref av, .ref at_])), (av, .inr (1, [.int 0, .int 0, .ref adr, .ref ao, .ref aar])), (zo, .inl (cL, 1, .inr (.inl fo)))]) [0, 1, 9] rfl
  have hKc := hK.sub (tys' := [(cL, .long)]) [3] rfl
  have hDc := hD.sub (ws' := [(ax, .inr (3, [.ref av, .ref at_])), (av, .inr (1, [.int 0, .int 0, .ref adr, .ref ao, .ref aar])), (zo, .inl (cL, 1, .inr (.inl fo)))]) [0, 1, 9] (by decide) rfl
  have hFc := va_free (wc := [(ax, .inr (3, [.ref av, .ref at_])), (av, .inr (1, [.int 0, .int 0, .ref adr, .ref ao, .ref aar])), (zo, .inl (cL, 1, .inr (.inl fo)))]) hD hS hA [0, 1, 9] rfl
  have hTc := (hT.kept hS).narrow hFc
  refine vx_calli (vx_runSX (As := [.ref ax, .int (xs 1), .int (xs 2), .ref zo]) (rest := []) ⟨hx, hb, hml, hown, hts⟩ (cl_would l hnt dC dI (xs 1) (xs 2) ax av at_ adr ao aar zo cL fo H.size) (vx_cwSW 4 hts gL_law_L_would rfl rfl rfl (by decide +kernel) ⟨(Nat.le_of_ble_eq_true rfl), (Nat.le_of_ble_eq_true rfl)⟩) ⟨pY_blind, pY_pre hPc hDc hKc hTc⟩ rfl rfl hl.1 rfl (lv_room (Nat.le_of_ble_eq_true rfl)) dL_law_881 ⟨(Nat.le_of_ble_eq_true rfl), (Nat.le_of_ble_eq_true rfl)⟩) hS (fun q _ h => hFc q h) hFc (fun q _ h => hFc q h) (fun E ce q9 ux t H1 locs ht hvm hp hBX hz1 hk1 hS hce hcv hcl => ?_) (fun r_1 u_2 t H1 locs ht hvm hw hB hz1 hk1 hS => ?_)
  · exact hBX.elim
  obtain ⟨hP1, hK1, hD1⟩ := hB
  rw [ht] at hP1
  have hK1 := va_K.moved hvm.symm hK1
  obtain ⟨hP, hD⟩ := va_join (wr := [(adr, .inl (cD, 10, .inr (.inr (.inr (.inr (va_up fd 0 (some ad0))))))), (ad0, .inr (0, [.int 0, .int 0, .int 0, .int 0, .int 0, .int 0, .int 0, .int 0, .ref d1, .ref d2, .ref d3, .int 0, .ref d4, .ref d5])), (ao, .inr (2, [.int 0, .int 0, .ref o1, .ref o2, .ref o3, .ref o4, .ref o5])), (aar, .inr (2, [.int 0, .int 0, .ref r1, .ref r2, .ref r3, .ref r4, .ref r5])), (am, .inr (4, [.int 0, .int 0, .ref m1, .ref m2, .ref m3, .ref m4, .ref m5, .ref m6])), (m1, .inl (cM, 90, .inl g1)), (m5, .inl (cN, 3, .inl (fun _ => 0)))]) (w1 := []) hP hD [0, 1, 9] [2, 3, 4, 5, 6, 7, 8] rfl rfl (by decide) (by decide) hk1 hFc hP1 hD1
  generalize H1 = H at hP hS ⊢
  have hP : va_P (dC, dI) vwCl [(adr, .inl (cD, 10, .inr (.inr (.inr (.inr (va_up fd 0 (some ad0))))))), (ad0, .inr (0, [.int 0, .int 0, .int 0, .int 0, .int 0, .int 0, .int 0, .int 0, .ref d1, .ref d2, .ref d3, .int 0, .ref d4, .ref d5])), (ao, .inr (2, [.int 0, .int 0, .ref o1, .ref o2, .ref o3, .ref o4, .ref o5])), (aar, .inr (2, [.int 0, .int 0, .ref r1, .ref r2, .ref r3, .ref r4, .ref r5])), (am, .inr (4, [.int 0, .int 0, .ref m1, .ref m2, .ref m3, .ref m4, .ref m5, .ref m6])), (m1, .inl (cM, 90, .inl g1)), (m5, .inl (cN, 3, .inl (fun _ => 0)))] H := hP
  have hD : va_D A [(adr, .inl (cD, 10, .inr (.inr (.inr (.inr (va_up fd 0 (some ad0))))))), (ad0, .inr (0, [.int 0, .int 0, .int 0, .int 0, .int 0, .int 0, .int 0, .int 0, .ref d1, .ref d2, .ref d3, .int 0, .ref d4, .ref d5])), (ao, .inr (2, [.int 0, .int 0, .ref o1, .ref o2, .ref o3, .ref o4, .ref o5])), (aar, .inr (2, [.int 0, .int 0, .ref r1, .ref r2, .ref r3, .ref r4, .ref r5])), (am, .inr (4, [.int 0, .int 0, .ref m1, .ref m2, .ref m3, .ref m4, .ref m5, .ref m6])), (m1, .inl (cM, 90, .inl g1)), (m5, .inl (cN, 3, .inl (fun _ => 0)))] := hD
  have hK : va_K (dC, dI) vwCl [(cD, .object RX0), (cM, .int), (cN, .int), (cL, .long)] _ := hK
  refine W.widen (k := 158) (n := 7008) (by omega) (by omega) ?_
  have hw : r_1 = 1 := hw
  subst hw
  refine lv_istore (lv' := [(5, .int 1), (4, .int 0), (3, .ref zo), (2, .ref am), (1, .ref ax), (0, .ref b)]) hx hb dL_law_884 hl (by decide) rfl (fun ls hl => ?_)
  refine lv_aload_n hx hb dL_law_886 rfl (lv_at hl 3 rfl) ?_
  refine lv_aload_n hx hb dL_law_887 rfl (lv_at hl 5 rfl) ?_
  refine lv_iload hx hb dL_law_888 (lv_at hl 1 rfl) ?_
  refine lv_iconst (v := 1) hx hb dL_law_890 (by decide) ?_
  refine lv_iadd hx hb dL_law_891 ?_
  refine lv_topi (nm_r (e' := 1) (by decide) ?_)
  refine va_sld hx hb hX hbl hbA hS (i := 1) (vs_vi (by decide)) dL_law_892 ?_
  refine W.eq (g2 := F0 m 893 ls [.int (xs 1), .ref am]) rfl ?_
  refine lv_aload_n hx hb dL_law_893 rfl (lv_at hl 5 rfl) ?_
  refine lv_iload hx hb dL_law_894 (lv_at hl 1 rfl) ?_
  refine lv_iconst (v := 2) hx hb dL_law_896 (by decide) ?_
  refine lv_iadd hx hb dL_law_897 ?_
  refine lv_topi (nm_r (e' := 2) (by decide) ?_)
  refine va_sld hx hb hX hbl hbA hS (i := 2) (vs_vi (by decide)) dL_law_898 ?_
  refine W.eq (g2 := F0 m 899 ls [.int (xs 2), .int (xs 1), .ref am]) rfl ?_
  have hPc := hP.sub (ws' := [(am, .inr (4, [.int 0, .int 0, .ref m1, .ref m2, .ref m3, .ref m4, .ref m5, .ref m6]))]) [4] rfl
  have hKc := hK.sub (tys' := []) [] rfl
  have hDc := hD.sub (ws' := [(am, .inr (4, [.int 0, .int 0, .ref m1, .ref m2, .ref m3, .ref m4, .ref m5, .ref m6]))]) [4] (by decide) rfl
  have hFc := va_free (wc := [(am, .inr (4, [.int 0, .int 0, .ref m1, .ref m2, .ref m3, .ref m4, .ref m5, .ref m6]))]) hD hS hA [4] rfl
  refine va_calli (va_runV (As := [.int (xs 1), .int (xs 2)]) (rest := []) ⟨hx, hb, hml, hown, hts⟩ (ct_X4_would l dC dI 0 (xs 1) (xs 2) am m1 m2 m3 m4 m5 m6 H.size) (cwV 2 hts gL_law_X4_would rfl rfl rfl (by decide +kernel) ⟨(Nat.le_of_ble_eq_true rfl), (Nat.le_of_ble_eq_true rfl)⟩) ⟨pZ_blind, va_recv hKc hPc (ci := 4) (q0 := 0) rfl rfl, pZ_pre hPc hDc hKc⟩ rfl rfl hl.1 rfl (lv_room (Nat.le_of_ble_eq_true rfl)) dL_law_899 ⟨(Nat.le_of_ble_eq_true rfl), (Nat.le_of_ble_eq_true rfl)⟩) hS (fun q _ h => hFc q h) hFc (fun r_3 u_4 t H1 locs ht hvm hw hB hz1 hk1 hS => ?_)
  obtain ⟨hP1, hK1, hD1⟩ := hB
  rw [ht] at hP1
  have hK1 := va_K.moved hvm.symm hK1
  obtain ⟨hP, hD⟩ := va_join (wr := [(adr, .inl (cD, 10, .inr (.inr (.inr (.inr (va_up fd 0 (some ad0))))))), (ad0, .inr (0, [.int 0, .int 0, .int 0, .int 0, .int 0, .int 0, .int 0, .int 0, .ref d1, .ref d2, .ref d3, .int 0, .ref d4, .ref d5])), (ao, .inr (2, [.int 0, .int 0, .ref o1, .ref o2, .ref o3, .ref o4, .ref o5])), (aar, .inr (2, [.int 0, .int 0, .ref r1, .ref r2, .ref r3, .ref r4, .ref r5])), (m1, .inl (cM, 90, .inl g1)), (m5, .inl (cN, 3, .inl (fun _ => 0)))]) (w1 := [(am, .inr (4, [.int 1, .int 0, .ref m1, .ref m2, .ref m3, .ref m4, .ref m5, .ref m6]))]) hP hD [4] [0, 1, 2, 3, 5, 6] rfl rfl (by decide) (by decide) hk1 hFc hP1 hD1
  generalize H1 = H at hP hS ⊢
  have hP : va_P (dC, dI) vwCl [(adr, .inl (cD, 10, .inr (.inr (.inr (.inr (va_up fd 0 (some ad0))))))), (ad0, .inr (0, [.int 0, .int 0, .int 0, .int 0, .int 0, .int 0, .int 0, .int 0, .ref d1, .ref d2, .ref d3, .int 0, .ref d4, .ref d5])), (ao, .inr (2, [.int 0, .int 0, .ref o1, .ref o2, .ref o3, .ref o4, .ref o5])), (aar, .inr (2, [.int 0, .int 0, .ref r1, .ref r2, .ref r3, .ref r4, .ref r5])), (m1, .inl (cM, 90, .inl g1)), (m5, .inl (cN, 3, .inl (fun _ => 0))), (am, .inr (4, [.int 1, .int 0, .ref m1, .ref m2, .ref m3, .ref m4, .ref m5, .ref m6]))] H := hP
  have hD : va_D A [(adr, .inl (cD, 10, .inr (.inr (.inr (.inr (va_up fd 0 (some ad0))))))), (ad0, .inr (0, [.int 0, .int 0, .int 0, .int 0, .int 0, .int 0, .int 0, .int 0, .ref d1, .ref d2, .ref d3, .int 0, .ref d4, .ref d5])), (ao, .inr (2, [.int 0, .int 0, .ref o1, .ref o2, .ref o3, .ref o4, .ref o5])), (aar, .inr (2, [.int 0, .int 0, .ref r1, .ref r2, .ref r3, .ref r4, .ref r5])), (m1, .inl (cM, 90, .inl g1)), (m5, .inl (cN, 3, .inl (fun _ => 0))), (am, .inr (4, [.int 1, .int 0, .ref m1, .ref m2, .ref m3, .ref m4, .ref m5, .ref m6]))] := hD
  have hK : va_K (dC, dI) vwCl [(cD, .object RX0), (cM, .int), (cN, .int), (cL, .long)] _ := hK
  have hw : r_3 = 0 := hw
  subst hw
  refine lv_istore (lv' := [(6, .int 0), (5, .int 1), (4, .int 0), (3, .ref zo), (2, .ref am), (1, .ref ax), (0, .ref b)]) hx hb dL_law_902 hl (by decide) rfl (fun ls hl => ?_)
  refine lv_aload_n hx hb dL_law_904 rfl (lv_at hl 4 rfl) ?_
  have hPc := hP.sub (ws' := [(am, .inr (4, [.int 1, .int 0, .ref m1, .ref m2, .ref m3, .ref m4, .ref m5, .ref m6]))]) [6] rfl
  have hKc := hK.sub (tys' := []) [] rfl
  refine va_calli (va_runV (As := []) (rest := []) ⟨hx, hb, hml, hown, hts⟩ (ct_X4_thrown l dC dI 1 0 am m1 m2 m3 m4 m5 m6) (cwV 0 hts gL_law_X4_thrown rfl rfl rfl (by decide +kernel) ⟨(Nat.le_of_ble_eq_true rfl), (Nat.le_of_ble_eq_true rfl)⟩) ⟨pR_blind, va_recv hKc hPc (ci := 4) (q0 := 0) rfl rfl, pR_pre hPc hKc⟩ rfl rfl hl.1 rfl (lv_room (Nat.le_of_ble_eq_true rfl)) dL_law_905 ⟨(Nat.le_of_ble_eq_true rfl), (Nat.le_of_ble_eq_true rfl)⟩) hS (fun q _ h => h.elim) (fun q h => h.elim) (fun r_5 u_6 t H1 locs ht hvm hw hB hz1 hk1 hS => ?_)
  have hP := hP.kept (fun k q hk => hk1 q.1 (hP k q hk).lt (fun h => h))
  generalize H1 = H at hP hS ⊢
  have hw : r_5 = 1 := hw
  subst hw
  refine lv_iload hx hb dL_law_908 (lv_at hl 1 rfl) ?_
  refine lv_icmp_eq (tgt := 915) hx hb dL_law_910 (by decide) (fun _ => ?_) (fun h => absurd h (by decide))
  refine lv_iload hx hb dL_law_915 (lv_at hl 1 rfl) ?_
  refine lv_if_ne (tgt := 932) hx hb dL_law_917 (by decide) (fun _ => ?_) (fun h => absurd h (by decide))
  refine lv_goto (tgt := 1046) hx hb dL_law_932 (by decide) ?_
  refine W.widen (k := 1000) (n := 20000) (Nat.le_of_ble_eq_true rfl) (Nat.le_of_ble_eq_true rfl) ?_
  rw [hAq] at hS
  exact lw_tail l hnt C0 hS (lv_sub hl (l' := [(4, .int 0), (0, .ref b)]) [2, 6] rfl)

set_option maxHeartbeats 4000000 in
set_option maxRecDepth 100000 in
theorem lw_case_12 {p : Program} {e : Env} {s : State} {m : MethodId} {below : List Frame} {meth : Method} {c : Code} (l : Launch) (hnt : l.stackTraces = false) {b : Nat} {xs : Nat → Int32} (C0 : lw_At p s m meth c b 4 xs) (dC : Nat → ClassId) (dI : Nat → Nat → Nat) {ax : Nat} {av : Nat} {at_ : Nat} {adr : Nat} {ao : Nat} {aar : Nat} {ad0 : Nat} {d1 : Nat} {d2 : Nat} {d3 : Nat} {d4 : Nat} {d5 : Nat} {cD : ClassId} {fd : Nat → Option Nat} {o1 : Nat} {o2 : Nat} {o3 : Nat} {o4 : Nat} {o5 : Nat} {r1 : Nat} {r2 : Nat} {r3 : Nat} {r4 : Nat} {r5 : Nat} {am : Nat} {m1 : Nat} {m2 : Nat} {m3 : Nat} {m4 : Nat} {m5 : Nat} {m6 : Nat} {cM : ClassId} {g1 : Nat → Int32} {cN : ClassId} {zo : Nat} {cL : ClassId} {fo : Nat → Int64} {H : Heap} {locs : List Loc} {ls : Array Slot} (hT : vs_T (fun q : Nat => s.heap.size ≤ q) (s.setDrawn s.drawn) s.heap) (hK : va_K (dC, dI) vwCl [(cD, .object RX0), (cM, .int), (cN, .int), (cL, .long)] (s.setDrawn s.drawn)) (hP : va_P (dC, dI) vwCl [(ax, .inr (3, [.ref av, .ref at_])), (av, .inr (1, [.int 0, .int 0, .ref adr, .ref ao, .ref aar])), (adr, .inl (cD, 10, .inr (.inr (.inr (.inr (va_up fd 0 (some ad0))))))), (ad0, .inr (0, [.int 0, .int 0, .int 0, .int 0, .int 0, .int 0, .int 0, .int 0, .ref d1, .ref d2, .ref d3, .int 0, .ref d4, .ref d5])), (ao, .inr (2, [.int 0, .int 0, .ref o1, .ref o2, .ref o3, .ref o4, .ref o5])), (aar, .inr (2, [.int 0, .int 0, .ref r1, .ref r2, .ref r3, .ref r4, .ref r5])), (am, .inr (4, [.int 0, .int 0, .ref m1, .ref m2, .ref m3, .ref m4, .ref m5, .ref m6])), (m1, .inl (cM, 90, .inl g1)), (m5, .inl (cN, 3, .inl (fun _ => 0))), (zo, .inl (cL, 1, .inr (.inl fo)))] H) (hD : va_D (fun q : Nat => s.heap.size ≤ q) [(ax, .inr (3, [.ref av, .ref at_])), (av, .inr (1, [.int 0, .int 0, .ref adr, .ref ao, .ref aar])), (adr, .inl (cD, 10, .inr (.inr (.inr (.inr (va_up fd 0 (some ad0))))))), (ad0, .inr (0, [.int 0, .int 0, .int 0, .int 0, .int 0, .int 0, .int 0, .int 0, .ref d1, .ref d2, .ref d3, .int 0, .ref d4, .ref d5])), (ao, .inr (2, [.int 0, .int 0, .ref o1, .ref o2, .ref o3, .ref o4, .ref o5])), (aar, .inr (2, [.int 0, .int 0, .ref r1, .ref r2, .ref r3, .ref r4, .ref r5])), (am, .inr (4, [.int 0, .int 0, .ref m1, .ref m2, .ref m3, .ref m4, .ref m5, .ref m6])), (m1, .inl (cM, 90, .inl g1)), (m5, .inl (cN, 3, .inl (fun _ => 0))), (zo, .inl (cL, 1, .inr (.inl fo)))]) (hS : va_S (fun q : Nat => s.heap.size ≤ q) s.heap H locs) (hl : lv_has ls 9 [(4, .int 0), (3, .ref zo), (2, .ref am), (1, .ref ax), (0, .ref b)]) : W p l e room_1 (s.setDrawn s.drawn) m #[Value.ref b] below meth c H locs 157 7002 (lw_Z below #[Value.ref b] s) (F0 m 935 ls []) := by
  obtain ⟨hx, hb, hr, hml, hown, hts0, hX, hbl, hlocks, hgv⟩ := id C0
  have hts1 : ∀ w ∈ wsL_law, w.before #[Value.ref b] s = true := fun w h => hts0 w (wsL_law_in w h)
  have hts := dr_words hts1 s.drawn
  have hA : ∀ q : Nat, s.heap.size ≤ q → (fun q : Nat => s.heap.size ≤ q) q := fun _ h => h
  have hbA : ¬ (fun q : Nat => s.heap.size ≤ q) b := Nat.not_le.mpr hbl
  have hd0 := Drawn.sameBut.refl s.drawn lw_cs
  obtain ⟨A, hAq⟩ : ∃ A : Nat → Prop, A = (fun q : Nat => s.heap.size ≤ q) := ⟨_, rfl⟩
  rw [← hAq] at hA hbA hT hD hS
  refine lv_aload_n hx hb dL_law_935 rfl (lv_at hl 3 rfl) ?_
  refine lv_aload_n hx hb dL_law_936 rfl (lv_at hl 4 rfl) ?_
  refine lv_iload hx hb dL_law_937 (lv_at hl 0 rfl) ?_
  refine lv_iconst (v := 1) hx hb dL_law_939 (by decide) ?_
  refine lv_iadd hx hb dL_law_940 ?_
  refine lv_topi (nm_r (e' := 1) (by decide) ?_)
  refine va_sld hx hb hX hbl hbA hS (i := 1) (vs_vi (by decide)) dL_law_941 ?_
  refine W.eq (g2 := F0 m 942 ls [.int (xs 1), .ref ax]) rfl ?_
  refine lv_aload_n hx hb dL_law_942 rfl (lv_at hl 1 rfl) ?_
  have hPc := hP.sub (ws' := [(ax, .inr (3, [.ref av, .ref at_])), (av, .inr (1, [.int 0, .int 0, .ref adr, .ref ao, .ref aar])), (zo, .inl (cL, 1, .inr (.inl fo)))]) [0, 1, 9] rfl
  have hKc := hK.sub (tys' := [(cL, .long)]) [3] rfl
  have hDc := hD.sub (ws' := [(ax, .inr (3, [.ref av, .ref at_])), (av, .inr (1, [.int 0, .int 0, .ref adr, .ref ao, .ref aar])), (zo, .inl (cL, 1, .inr (.inl fo)))]) [0, 1, 9] (by decide) rfl
  have hFc := va_free (wc := [(ax, .inr (3, [.ref av, .ref at_])), (av, .inr (1, [.int 0, .int 0, .ref adr, .ref ao, .ref aar])), (zo, .inl (cL, 1, .inr (.inl fo)))]) hD hS hA [0, 1, 9] rfl
  have hTc := (hT.kept hS).narrow hFc
  refine vx_calli (vx_runSX (As := [.ref ax, .int (xs 1), .ref zo]) (rest := []) ⟨hx, hb, hml, hown, hts⟩ (cl_best l hnt dC dI (xs 1) ax av at_ adr ao aar zo cL fo H.size) (vx_cwSW 3 hts gL_law_L_best rfl rfl rfl (by decide +kernel) ⟨(Nat.le_of_ble_eq_true rfl), (Nat.le_of_ble_eq_true rfl)⟩) ⟨pY_blind, pY_pre hPc hDc hKc hTc⟩ rfl rfl hl.1 rfl (lv_room (Nat.le_of_ble_eq_true rfl)) dL_law_943 ⟨(Nat.le_of_ble_eq_true rfl), (Nat.le_of_ble_eq_true rfl)⟩) hS (fun q _ h => hFc q h) hFc (fun q _ h => hFc q h) (fun E ce q9 ux t H1 locs ht hvm hp hBX hz1 hk1 hS hce hcv hcl => ?_) (fun r_1 u_2 t H1 locs ht hvm hw hB hz1 hk1 hS => ?_)
  · exact hBX.elim
  obtain ⟨hP1, hK1, hD1⟩ := hB
  rw [ht] at hP1
  have hK1 := va_K.moved hvm.symm hK1
  obtain ⟨hP, hD⟩ := va_join (wr := [(adr, .inl (cD, 10, .inr (.inr (.inr (.inr (va_up fd 0 (some ad0))))))), (ad0, .inr (0, [.int 0, .int 0, .int 0, .int 0, .int 0, .int 0, .int 0, .int 0, .ref d1, .ref d2, .ref d3, .int 0, .ref d4, .ref d5])), (ao, .inr (2, [.int 0, .int 0, .ref o1, .ref o2, .ref o3, .ref o4, .ref o5])), (aar, .inr (2, [.int 0, .int 0, .ref r1, .ref r2, .ref r3, .ref r4, .ref r5])), (am, .inr (4, [.int 0, .int 0, .ref m1, .ref m2, .ref m3, .ref m4, .ref m5, .ref m6])), (m1, .inl (cM, 90, .inl g1)), (m5, .inl (cN, 3, .inl (fun _ => 0)))]) (w1 := [(zo, .inl (cL, 1, .inr (.inl u_2)))]) hP hD [0, 1, 9] [2, 3, 4, 5, 6, 7, 8] rfl rfl (by decide) (by decide) hk1 hFc hP1 hD1
  generalize H1 = H at hP hS ⊢
  have hP : va_P (dC, dI) vwCl [(adr, .inl (cD, 10, .inr (.inr (.inr (.inr (va_up fd 0 (some ad0))))))), (ad0, .inr (0, [.int 0, .int 0, .int 0, .int 0, .int 0, .int 0, .int 0, .int 0, .ref d1, .ref d2, .ref d3, .int 0, .ref d4, .ref d5])), (ao, .inr (2, [.int 0, .int 0, .ref o1, .ref o2, .ref o3, .ref o4, .ref o5])), (aar, .inr (2, [.int 0, .int 0, .ref r1, .ref r2, .ref r3, .ref r4, .ref r5])), (am, .inr (4, [.int 0, .int 0, .ref m1, .ref m2, .ref m3, .ref m4, .ref m5, .ref m6])), (m1, .inl (cM, 90, .inl g1)), (m5, .inl (cN, 3, .inl (fun _ => 0))), (zo, .inl (cL, 1, .inr (.inl u_2)))] H := hP
  have hD : va_D A [(adr, .inl (cD, 10, .inr (.inr (.inr (.inr (va_up fd 0 (some ad0))))))), (ad0, .inr (0, [.int 0, .int 0, .int 0, .int 0, .int 0, .int 0, .int 0, .int 0, .ref d1, .ref d2, .ref d3, .int 0, .ref d4, .ref d5])), (ao, .inr (2, [.int 0, .int 0, .ref o1, .ref o2, .ref o3, .ref o4, .ref o5])), (aar, .inr (2, [.int 0, .int 0, .ref r1, .ref r2, .ref r3, .ref r4, .ref r5])), (am, .inr (4, [.int 0, .int 0, .ref m1, .ref m2, .ref m3, .ref m4, .ref m5, .ref m6])), (m1, .inl (cM, 90, .inl g1)), (m5, .inl (cN, 3, .inl (fun _ => 0))), (zo, .inl (cL, 1, .inr (.inl u_2)))] := hD
  have hK : va_K (dC, dI) vwCl [(cD, .object RX0), (cM, .int), (cN, .int), (cL, .long)] _ := hK
  refine W.widen (k := 158) (n := 7008) (by omega) (by omega) ?_
  have hw_3 : (¬ vs_in (xs 1) 1 30 = 0 ∧ r_1 = 0 ∧ u_2 0 = -1) ∨ (vs_in (xs 1) 1 30 = 0 ∧ r_1 = 1) := hw
  refine lv_istore (lv' := [(5, .int r_1), (4, .int 0), (3, .ref zo), (2, .ref am), (1, .ref ax), (0, .ref b)]) hx hb dL_law_946 hl (by decide) rfl (fun ls hl => ?_)
  refine lv_aload_n hx hb dL_law_948 rfl (lv_at hl 3 rfl) ?_
  refine lv_aload_n hx hb dL_law_949 rfl (lv_at hl 5 rfl) ?_
  refine lv_iload hx hb dL_law_950 (lv_at hl 1 rfl) ?_
  refine lv_iconst (v := 1) hx hb dL_law_952 (by decide) ?_
  refine lv_iadd hx hb dL_law_953 ?_
  refine lv_topi (nm_r (e' := 1) (by decide) ?_)
  refine va_sld hx hb hX hbl hbA hS (i := 1) (vs_vi (by decide)) dL_law_954 ?_
  refine W.eq (g2 := F0 m 955 ls [.int (xs 1), .ref am]) rfl ?_
  have hPc := hP.sub (ws' := [(am, .inr (4, [.int 0, .int 0, .ref m1, .ref m2, .ref m3, .ref m4, .ref m5, .ref m6]))]) [4] rfl
  have hKc := hK.sub (tys' := []) [] rfl
  have hDc := hD.sub (ws' := [(am, .inr (4, [.int 0, .int 0, .ref m1, .ref m2, .ref m3, .ref m4, .ref m5, .ref m6]))]) [4] (by decide) rfl
  have hFc := va_free (wc := [(am, .inr (4, [.int 0, .int 0, .ref m1, .ref m2, .ref m3, .ref m4, .ref m5, .ref m6]))]) hD hS hA [4] rfl
  refine va_calli (va_runV (As := [.int (xs 1)]) (rest := []) ⟨hx, hb, hml, hown, hts⟩ (ct_X4_best l dC dI 0 (xs 1) am m1 m2 m3 m4 m5 m6 H.size) (cwV 1 hts gL_law_X4_best rfl rfl rfl (by decide +kernel) ⟨(Nat.le_of_ble_eq_true rfl), (Nat.le_of_ble_eq_true rfl)⟩) ⟨pZ_blind, va_recv hKc hPc (ci := 4) (q0 := 0) rfl rfl, pZ_pre hPc hDc hKc⟩ rfl rfl hl.1 rfl (lv_room (Nat.le_of_ble_eq_true rfl)) dL_law_955 ⟨(Nat.le_of_ble_eq_true rfl), (Nat.le_of_ble_eq_true rfl)⟩) hS (fun q _ h => hFc q h) hFc (fun r_4 u_5 t H1 locs ht hvm hw hB hz1 hk1 hS => ?_)
  obtain ⟨hP1, hK1, hD1⟩ := hB
  rw [ht] at hP1
  have hK1 := va_K.moved hvm.symm hK1
  obtain ⟨hP, hD⟩ := va_join (wr := [(adr, .inl (cD, 10, .inr (.inr (.inr (.inr (va_up fd 0 (some ad0))))))), (ad0, .inr (0, [.int 0, .int 0, .int 0, .int 0, .int 0, .int 0, .int 0, .int 0, .ref d1, .ref d2, .ref d3, .int 0, .ref d4, .ref d5])), (ao, .inr (2, [.int 0, .int 0, .ref o1, .ref o2, .ref o3, .ref o4, .ref o5])), (aar, .inr (2, [.int 0, .int 0, .ref r1, .ref r2, .ref r3, .ref r4, .ref r5])), (m1, .inl (cM, 90, .inl g1)), (m5, .inl (cN, 3, .inl (fun _ => 0))), (zo, .inl (cL, 1, .inr (.inl u_2)))]) (w1 := [(am, .inr (4, [.int u_5, .int 0, .ref m1, .ref m2, .ref m3, .ref m4, .ref m5, .ref m6]))]) hP hD [4] [0, 1, 2, 3, 5, 6, 7] rfl rfl (by decide) (by decide) hk1 hFc hP1 hD1
  generalize H1 = H at hP hS ⊢
  have hP : va_P (dC, dI) vwCl [(adr, .inl (cD, 10, .inr (.inr (.inr (.inr (va_up fd 0 (some ad0))))))), (ad0, .inr (0, [.int 0, .int 0, .int 0, .int 0, .int 0, .int 0, .int 0, .int 0, .ref d1, .ref d2, .ref d3, .int 0, .ref d4, .ref d5])), (ao, .inr (2, [.int 0, .int 0, .ref o1, .ref o2, .ref o3, .ref o4, .ref o5])), (aar, .inr (2, [.int 0, .int 0, .ref r1, .ref r2, .ref r3, .ref r4, .ref r5])), (m1, .inl (cM, 90, .inl g1)), (m5, .inl (cN, 3, .inl (fun _ => 0))), (zo, .inl (cL, 1, .inr (.inl u_2))), (am, .inr (4, [.int u_5, .int 0, .ref m1, .ref m2, .ref m3, .ref m4, .ref m5, .ref m6]))] H := hP
  have hD : va_D A [(adr, .inl (cD, 10, .inr (.inr (.inr (.inr (va_up fd 0 (some ad0))))))), (ad0, .inr (0, [.int 0, .int 0, .int 0, .int 0, .int 0, .int 0, .int 0, .int 0, .ref d1, .ref d2, .ref d3, .int 0, .ref d4, .ref d5])), (ao, .inr (2, [.int 0, .int 0, .ref o1, .ref o2, .ref o3, .ref o4, .ref o5])), (aar, .inr (2, [.int 0, .int 0, .ref r1, .ref r2, .ref r3, .ref r4, .ref r5])), (m1, .inl (cM, 90, .inl g1)), (m5, .inl (cN, 3, .inl (fun _ => 0))), (zo, .inl (cL, 1, .inr (.inl u_2))), (am, .inr (4, [.int u_5, .int 0, .ref m1, .ref m2, .ref m3, .ref m4, .ref m5, .ref m6]))] := hD
  have hK : va_K (dC, dI) vwCl [(cD, .object RX0), (cM, .int), (cN, .int), (cL, .long)] _ := hK
  have hw_6 : (r_4 = 0 ∧ vs_in (xs 1) 1 30 = 0 ∧ u_5 = 1) ∨ (r_4 = -1 ∧ ¬ vs_in (xs 1) 1 30 = 0 ∧ u_5 = 0) := hw
  rcases hw_3 with ⟨hc, h1r, h1u⟩ | ⟨hc, h1r⟩
  · rcases hw_6 with ⟨h2r, h2, h2u⟩ | ⟨h2r, h2, h2u⟩
    · exact absurd h2 hc
    subst h2r; subst h2u; subst h1r
    refine lv_istore (lv' := [(6, .int (-1)), (5, .int 0), (4, .int 0), (3, .ref zo), (2, .ref am), (1, .ref ax), (0, .ref b)]) hx hb dL_law_958 hl (by decide) rfl (fun ls hl => ?_)
    refine lv_aload_n hx hb dL_law_960 rfl (lv_at hl 4 rfl) ?_
    have hPc := hP.sub (ws' := [(am, .inr (4, [.int 0, .int 0, .ref m1, .ref m2, .ref m3, .ref m4, .ref m5, .ref m6]))]) [7] rfl
    have hKc := hK.sub (tys' := []) [] rfl
    refine va_calli (va_runV (As := []) (rest := []) ⟨hx, hb, hml, hown, hts⟩ (ct_X4_thrown l dC dI 0 0 am m1 m2 m3 m4 m5 m6) (cwV 0 hts gL_law_X4_thrown rfl rfl rfl (by decide +kernel) ⟨(Nat.le_of_ble_eq_true rfl), (Nat.le_of_ble_eq_true rfl)⟩) ⟨pR_blind, va_recv hKc hPc (ci := 4) (q0 := 0) rfl rfl, pR_pre hPc hKc⟩ rfl rfl hl.1 rfl (lv_room (Nat.le_of_ble_eq_true rfl)) dL_law_961 ⟨(Nat.le_of_ble_eq_true rfl), (Nat.le_of_ble_eq_true rfl)⟩) hS (fun q _ h => h.elim) (fun q h => h.elim) (fun r_7 u_8 t H1 locs ht hvm hw hB hz1 hk1 hS => ?_)
    have hP := hP.kept (fun k q hk => hk1 q.1 (hP k q hk).lt (fun h => h))
    generalize H1 = H at hP hS ⊢
    have hw : r_7 = 0 := hw
    subst hw
    refine lv_iload hx hb dL_law_964 (lv_at hl 1 rfl) ?_
    refine lv_icmp_eq (tgt := 971) hx hb dL_law_966 (by decide) (fun _ => ?_) (fun h => absurd h (by decide))
    refine lv_iload hx hb dL_law_971 (lv_at hl 1 rfl) ?_
    refine lv_if_ne (tgt := 988) hx hb dL_law_973 (by decide) (fun h => absurd h (by decide)) (fun _ => ?_)
    refine lv_aload_n hx hb dL_law_976 rfl (lv_at hl 3 rfl) ?_
    refine lv_iconst (v := 0) hx hb dL_law_977 (by decide) ?_
    refine va_lald (D := (dC, dI)) hx hb hK hP 6 3 rfl rfl (i := 0) (vs_vi (by decide)) dL_law_978 ?_
    refine W.eq (g2 := F0 m 979 ls [.long (u_2 0)]) rfl ?_
    rw [h1u]
    refine lv_iload hx hb dL_law_979 (lv_at hl 0 rfl) ?_
    refine lv_i2l (v := (-1)) hx hb dL_law_981 (by decide) ?_
    refine W.lcmp hx hb dL_law_982 ?_
    refine lv_topi (nm_r (e' := 0) (by decide) ?_)
    refine lv_if_eq (tgt := 988) hx hb dL_law_983 (by decide) (fun _ => ?_) (fun h => absurd h (by decide))
    refine lv_goto (tgt := 1046) hx hb dL_law_988 (by decide) ?_
    refine W.widen (k := 1000) (n := 20000) (Nat.le_of_ble_eq_true rfl) (Nat.le_of_ble_eq_true rfl) ?_
    rw [hAq] at hS
    exact lw_tail l hnt C0 hS (lv_sub hl (l' := [(4, .int 0), (0, .ref b)]) [2, 6] rfl)
  · rcases hw_6 with ⟨h2r, h2, h2u⟩ | ⟨h2r, h2, h2u⟩
    rotate_left
    · exact absurd hc h2
    subst h2r; subst h2u; subst h1r
    refine lv_istore (lv' := [(6, .int 0), (5, .int 1), (4, .int 0), (3, .ref zo), (2, .ref am), (1, .ref ax), (0, .ref b)]) hx hb dL_law_958 hl (by decide) rfl (fun ls hl => ?_)
    refine lv_aload_n hx hb dL_law_960 rfl (lv_at hl 4 rfl) ?_
    have hPc := hP.sub (ws' := [(am, .inr (4, [.int 1, .int 0, .ref m1, .ref m2, .ref m3, .ref m4, .ref m5, .ref m6]))]) [7] rfl
    have hKc := hK.sub (tys' := []) [] rfl
    refine va_calli (va_runV (As := []) (rest := []) ⟨hx, hb, hml, hown, hts⟩ (ct_X4_thrown l dC dI 1 0 am m1 m2 m3 m4 m5 m6) (cwV 0 hts gL_law_X4_thrown rfl rfl rfl (by decide +kernel) ⟨(Nat.le_of_ble_eq_true rfl), (Nat.le_of_ble_eq_true rfl)⟩) ⟨pR_blind, va_recv hKc hPc (ci := 4) (q0 := 0) rfl rfl, pR_pre hPc hKc⟩ rfl rfl hl.1 rfl (lv_room (Nat.le_of_ble_eq_true rfl)) dL_law_961 ⟨(Nat.le_of_ble_eq_true rfl), (Nat.le_of_ble_eq_true rfl)⟩) hS (fun q _ h => h.elim) (fun q h => h.elim) (fun r_9 u_10 t H1 locs ht hvm hw hB hz1 hk1 hS => ?_)
    have hP := hP.kept (fun k q hk => hk1 q.1 (hP k q hk).lt (fun h => h))
    generalize H1 = H at hP hS ⊢
    have hw : r_9 = 1 := hw
    subst hw
    refine lv_iload hx hb dL_law_964 (lv_at hl 1 rfl) ?_
    refine lv_icmp_eq (tgt := 971) hx hb dL_law_966 (by decide) (fun _ => ?_) (fun h => absurd h (by decide))
    refine lv_iload hx hb dL_law_971 (lv_at hl 1 rfl) ?_
    refine lv_if_ne (tgt := 988) hx hb dL_law_973 (by decide) (fun _ => ?_) (fun h => absurd h (by decide))
    refine lv_goto (tgt := 1046) hx hb dL_law_988 (by decide) ?_
    refine W.widen (k := 1000) (n := 20000) (Nat.le_of_ble_eq_true rfl) (Nat.le_of_ble_eq_true rfl) ?_
    rw [hAq] at hS
    exact lw_tail l hnt C0 hS (lv_sub hl (l' := [(4, .int 0), (0, .ref b)]) [2, 6] rfl)

set_option maxHeartbeats 4000000 in
set_option maxRecDepth 100000 in
theorem lw_case_13 {p : Program} {e : Env} {s : State} {m : MethodId} {below : List Frame} {meth : Method} {c : Code} (l : Launch) (hnt : l.stackTraces = false) {b : Nat} {xs : Nat → Int32} (C0 : lw_At p s m meth c b 4 xs) (dC : Nat → ClassId) (dI : Nat → Nat → Nat) {ax : Nat} {av : Nat} {at_ : Nat} {adr : Nat} {ao : Nat} {aar : Nat} {ad0 : Nat} {d1 : Nat} {d2 : Nat} {d3 : Nat} {d4 : Nat} {d5 : Nat} {cD : ClassId} {fd : Nat → Option Nat} {o1 : Nat} {o2 : Nat} {o3 : Nat} {o4 : Nat} {o5 : Nat} {r1 : Nat} {r2 : Nat} {r3 : Nat} {r4 : Nat} {r5 : Nat} {am : Nat} {m1 : Nat} {m2 : Nat} {m3 : Nat} {m4 : Nat} {m5 : Nat} {m6 : Nat} {cM : ClassId} {g1 : Nat → Int32} {cN : ClassId} {zo : Nat} {cL : ClassId} {fo : Nat → Int64} {H : Heap} {locs : List Loc} {ls : Array Slot} (hT : vs_T (fun q : Nat => s.heap.size ≤ q) (s.setDrawn s.drawn) s.heap) (hK : va_K (dC, dI) vwCl [(cD, .object RX0), (cM, .int), (cN, .int), (cL, .long)] (s.setDrawn s.drawn)) (hP : va_P (dC, dI) vwCl [(ax, .inr (3, [.ref av, .ref at_])), (av, .inr (1, [.int 0, .int 0, .ref adr, .ref ao, .ref aar])), (adr, .inl (cD, 10, .inr (.inr (.inr (.inr (va_up fd 0 (some ad0))))))), (ad0, .inr (0, [.int 0, .int 0, .int 0, .int 0, .int 0, .int 0, .int 0, .int 0, .ref d1, .ref d2, .ref d3, .int 0, .ref d4, .ref d5])), (ao, .inr (2, [.int 0, .int 0, .ref o1, .ref o2, .ref o3, .ref o4, .ref o5])), (aar, .inr (2, [.int 0, .int 0, .ref r1, .ref r2, .ref r3, .ref r4, .ref r5])), (am, .inr (4, [.int 0, .int 0, .ref m1, .ref m2, .ref m3, .ref m4, .ref m5, .ref m6])), (m1, .inl (cM, 90, .inl g1)), (m5, .inl (cN, 3, .inl (fun _ => 0))), (zo, .inl (cL, 1, .inr (.inl fo)))] H) (hD : va_D (fun q : Nat => s.heap.size ≤ q) [(ax, .inr (3, [.ref av, .ref at_])), (av, .inr (1, [.int 0, .int 0, .ref adr, .ref ao, .ref aar])), (adr, .inl (cD, 10, .inr (.inr (.inr (.inr (va_up fd 0 (some ad0))))))), (ad0, .inr (0, [.int 0, .int 0, .int 0, .int 0, .int 0, .int 0, .int 0, .int 0, .ref d1, .ref d2, .ref d3, .int 0, .ref d4, .ref d5])), (ao, .inr (2, [.int 0, .int 0, .ref o1, .ref o2, .ref o3, .ref o4, .ref o5])), (aar, .inr (2, [.int 0, .int 0, .ref r1, .ref r2, .ref r3, .ref r4, .ref r5])), (am, .inr (4, [.int 0, .int 0, .ref m1, .ref m2, .ref m3, .ref m4, .ref m5, .ref m6])), (m1, .inl (cM, 90, .inl g1)), (m5, .inl (cN, 3, .inl (fun _ => 0))), (zo, .inl (cL, 1, .inr (.inl fo)))]) (hS : va_S (fun q : Nat => s.heap.size ≤ q) s.heap H locs) (hl : lv_has ls 9 [(4, .int 0), (3, .ref zo), (2, .ref am), (1, .ref ax), (0, .ref b)]) : W p l e room_1 (s.setDrawn s.drawn) m #[Value.ref b] below meth c H locs 157 7002 (lw_Z below #[Value.ref b] s) (F0 m 991 ls []) := by
  obtain ⟨hx, hb, hr, hml, hown, hts0, hX, hbl, hlocks, hgv⟩ := id C0
  have hts1 : ∀ w ∈ wsL_law, w.before #[Value.ref b] s = true := fun w h => hts0 w (wsL_law_in w h)
  have hts := dr_words hts1 s.drawn
  have hA : ∀ q : Nat, s.heap.size ≤ q → (fun q : Nat => s.heap.size ≤ q) q := fun _ h => h
  have hbA : ¬ (fun q : Nat => s.heap.size ≤ q) b := Nat.not_le.mpr hbl
  have hd0 := Drawn.sameBut.refl s.drawn lw_cs
  obtain ⟨A, hAq⟩ : ∃ A : Nat → Prop, A = (fun q : Nat => s.heap.size ≤ q) := ⟨_, rfl⟩
  rw [← hAq] at hA hbA hT hD hS
  refine lv_aload_n hx hb dL_law_991 rfl (lv_at hl 3 rfl) ?_
  have hPc := hP.sub (ws' := [(ax, .inr (3, [.ref av, .ref at_])), (av, .inr (1, [.int 0, .int 0, .ref adr, .ref ao, .ref aar]))]) [0, 1] rfl
  have hKc := hK.sub (tys' := []) [] rfl
  refine va_calld (va_runV (As := []) (rest := []) ⟨hx, hb, hml, hown, hts⟩ (ct_X3_mean l dC dI ax av at_ adr ao aar) (cwV 0 hts gL_law_X3_mean rfl rfl rfl (by decide +kernel) ⟨(Nat.le_of_ble_eq_true rfl), (Nat.le_of_ble_eq_true rfl)⟩) ⟨pR_blind, va_recv hKc hPc (ci := 3) (q0 := 0) rfl rfl, pR_pre hPc hKc⟩ rfl rfl hl.1 rfl (lv_room (Nat.le_of_ble_eq_true rfl)) dL_law_992 ⟨(Nat.le_of_ble_eq_true rfl), (Nat.le_of_ble_eq_true rfl)⟩) hS (fun q _ h => h.elim) (fun q h => h.elim) (fun r_1 u_2 t H1 locs ht hvm hw hB hz1 hk1 hS => ?_)
  have hP := hP.kept (fun k q hk => hk1 q.1 (hP k q hk).lt (fun h => h))
  generalize H1 = H at hP hS ⊢
  have hw : r_1 = FP.dconst0 := hw
  subst hw
  refine lv_dstore (lv' := [(5, .double FP.dconst0), (4, .int 0), (3, .ref zo), (2, .ref am), (1, .ref ax), (0, .ref b)]) hx hb dL_law_995 hl (by decide) rfl (fun ls hl => ?_)
  refine lv_aload_n hx hb dL_law_997 rfl (lv_at hl 3 rfl) ?_
  have hPc := hP.sub (ws' := [(am, .inr (4, [.int 0, .int 0, .ref m1, .ref m2, .ref m3, .ref m4, .ref m5, .ref m6]))]) [6] rfl
  have hKc := hK.sub (tys' := []) [] rfl
  have hDc := hD.sub (ws' := [(am, .inr (4, [.int 0, .int 0, .ref m1, .ref m2, .ref m3, .ref m4, .ref m5, .ref m6]))]) [6] (by decide) rfl
  have hFc := va_free (wc := [(am, .inr (4, [.int 0, .int 0, .ref m1, .ref m2, .ref m3, .ref m4, .ref m5, .ref m6]))]) hD hS hA [6] rfl
  refine va_calld (va_runV (As := []) (rest := []) ⟨hx, hb, hml, hown, hts⟩ (ct_X4_mean l dC dI 0 am m1 m2 m3 m4 m5 m6 H.size) (cwV 0 hts gL_law_X4_mean rfl rfl rfl (by decide +kernel) ⟨(Nat.le_of_ble_eq_true rfl), (Nat.le_of_ble_eq_true rfl)⟩) ⟨pZ_blind, va_recv hKc hPc (ci := 4) (q0 := 0) rfl rfl, pZ_pre hPc hDc hKc⟩ rfl rfl hl.1 rfl (lv_room (Nat.le_of_ble_eq_true rfl)) dL_law_998 ⟨(Nat.le_of_ble_eq_true rfl), (Nat.le_of_ble_eq_true rfl)⟩) hS (fun q _ h => hFc q h) hFc (fun r_3 u_4 t H1 locs ht hvm hw hB hz1 hk1 hS => ?_)
  obtain ⟨hP1, hK1, hD1⟩ := hB
  rw [ht] at hP1
  have hK1 := va_K.moved hvm.symm hK1
  obtain ⟨hP, hD⟩ := va_join (wr := [(ax, .inr (3, [.ref av, .ref at_])), (av, .inr (1, [.int 0, .int 0, .ref adr, .ref ao, .ref aar])), (adr, .inl (cD, 10, .inr (.inr (.inr (.inr (va_up fd 0 (some ad0))))))), (ad0, .inr (0, [.int 0, .int 0, .int 0, .int 0, .int 0, .int 0, .int 0, .int 0, .ref d1, .ref d2, .ref d3, .int 0, .ref d4, .ref d5])), (ao, .inr (2, [.int 0, .int 0, .ref o1, .ref o2, .ref o3, .ref o4, .ref o5])), (aar, .inr (2, [.int 0, .int 0, .ref r1, .ref r2, .ref r3, .ref r4, .ref r5])), (m1, .inl (cM, 90, .inl g1)), (m5, .inl (cN, 3, .inl (fun _ => 0))), (zo, .inl (cL, 1, .inr (.inl fo)))]) (w1 := []) hP hD [6] [0, 1, 2, 3, 4, 5, 7, 8, 9] rfl rfl (by decide) (by decide) hk1 hFc hP1 hD1
  generalize H1 = H at hP hS ⊢
  have hP : va_P (dC, dI) vwCl [(ax, .inr (3, [.ref av, .ref at_])), (av, .inr (1, [.int 0, .int 0, .ref adr, .ref ao, .ref aar])), (adr, .inl (cD, 10, .inr (.inr (.inr (.inr (va_up fd 0 (some ad0))))))), (ad0, .inr (0, [.int 0, .int 0, .int 0, .int 0, .int 0, .int 0, .int 0, .int 0, .ref d1, .ref d2, .ref d3, .int 0, .ref d4, .ref d5])), (ao, .inr (2, [.int 0, .int 0, .ref o1, .ref o2, .ref o3, .ref o4, .ref o5])), (aar, .inr (2, [.int 0, .int 0, .ref r1, .ref r2, .ref r3, .ref r4, .ref r5])), (m1, .inl (cM, 90, .inl g1)), (m5, .inl (cN, 3, .inl (fun _ => 0))), (zo, .inl (cL, 1, .inr (.inl fo)))] H := hP
  have hD : va_D A [(ax, .inr (3, [.ref av, .ref at_])), (av, .inr (1, [.int 0, .int 0, .ref adr, .ref ao, .ref aar])), (adr, .inl (cD, 10, .inr (.inr (.inr (.inr (va_up fd 0 (some ad0))))))), (ad0, .inr (0, [.int 0, .int 0, .int 0, .int 0, .int 0, .int 0, .int 0, .int 0, .ref d1, .ref d2, .ref d3, .int 0, .ref d4, .ref d5])), (ao, .inr (2, [.int 0, .int 0, .ref o1, .ref o2, .ref o3, .ref o4, .ref o5])), (aar, .inr (2, [.int 0, .int 0, .ref r1, .ref r2, .ref r3, .ref r4, .ref r5])), (m1, .inl (cM, 90, .inl g1)), (m5, .inl (cN, 3, .inl (fun _ => 0))), (zo, .inl (cL, 1, .inr (.inl fo)))] := hD
  have hK : va_K (dC, dI) vwCl [(cD, .object RX0), (cM, .int), (cN, .int), (cL, .long)] _ := hK
  have hw : r_3 = FP.dconst0 := hw
  subst hw
  refine lv_dstore (lv' := [(7, .double FP.dconst0), (5, .double FP.dconst0), (4, .int 0), (3, .ref zo), (2, .ref am), (1, .ref ax), (0, .ref b)]) hx hb dL_law_1001 hl (by decide) rfl (fun ls hl => ?_)
  refine lv_dload hx hb dL_law_1003 (lv_at hl 1 rfl) ?_
  refine lv_dload hx hb dL_law_1005 (lv_at hl 0 rfl) ?_
  refine lv_dcmp hx hb dL_law_1007 ?_
  refine lv_topi (nm_r (e' := 0) (by decide +kernel) ?_)
  refine lv_if_eq (tgt := 1029) hx hb dL_law_1008 (by decide) (fun _ => ?_) (fun h => absurd h (by decide))
  refine lv_goto (tgt := 1046) hx hb dL_law_1029 (by decide) ?_
  refine W.widen (k := 1000) (n := 20000) (Nat.le_of_ble_eq_true rfl) (Nat.le_of_ble_eq_true rfl) ?_
  rw [hAq] at hS
  exact lw_tail l hnt C0 hS (lv_sub hl (l' := [(4, .int 0), (0, .ref b)]) [2, 6] rfl)

set_option maxHeartbeats 4000000 in
set_option maxRecDepth 100000 in
theorem lw_case_14 {p : Program} {e : Env} {s : State} {m : MethodId} {below : List Frame} {meth : Method} {c : Code} (l : Launch) (hnt : l.stackTraces = false) {b : Nat} {xs : Nat → Int32} (C0 : lw_At p s m meth c b 4 xs) (dC : Nat → ClassId) (dI : Nat → Nat → Nat) {ax : Nat} {av : Nat} {at_ : Nat} {adr : Nat} {ao : Nat} {aar : Nat} {ad0 : Nat} {d1 : Nat} {d2 : Nat} {d3 : Nat} {d4 : Nat} {d5 : Nat} {cD : ClassId} {fd : Nat → Option Nat} {o1 : Nat} {o2 : Nat} {o3 : Nat} {o4 : Nat} {o5 : Nat} {r1 : Nat} {r2 : Nat} {r3 : Nat} {r4 : Nat} {r5 : Nat} {am : Nat} {m1 : Nat} {m2 : Nat} {m3 : Nat} {m4 : Nat} {m5 : Nat} {m6 : Nat} {cM : ClassId} {g1 : Nat → Int32} {cN : ClassId} {zo : Nat} {cL : ClassId} {fo : Nat → Int64} {H : Heap} {locs : List Loc} {ls : Array Slot} (hT : vs_T (fun q : Nat => s.heap.size ≤ q) (s.setDrawn s.drawn) s.heap) (hK : va_K (dC, dI) vwCl [(cD, .object RX0), (cM, .int), (cN, .int), (cL, .long)] (s.setDrawn s.drawn)) (hP : va_P (dC, dI) vwCl [(ax, .inr (3, [.ref av, .ref at_])), (av, .inr (1, [.int 0, .int 0, .ref adr, .ref ao, .ref aar])), (adr, .inl (cD, 10, .inr (.inr (.inr (.inr (va_up fd 0 (some ad0))))))), (ad0, .inr (0, [.int 0, .int 0, .int 0, .int 0, .int 0, .int 0, .int 0, .int 0, .ref d1, .ref d2, .ref d3, .int 0, .ref d4, .ref d5])), (ao, .inr (2, [.int 0, .int 0, .ref o1, .ref o2, .ref o3, .ref o4, .ref o5])), (aar, .inr (2, [.int 0, .int 0, .ref r1, .ref r2, .ref r3, .ref r4, .ref r5])), (am, .inr (4, [.int 0, .int 0, .ref m1, .ref m2, .ref m3, .ref m4, .ref m5, .ref m6])), (m1, .inl (cM, 90, .inl g1)), (m5, .inl (cN, 3, .inl (fun _ => 0))), (zo, .inl (cL, 1, .inr (.inl fo)))] H) (hD : va_D (fun q : Nat => s.heap.size ≤ q) [(ax, .inr (3, [.ref av, .ref at_])), (av, .inr (1, [.int 0, .int 0, .ref adr, .ref ao, .ref aar])), (adr, .inl (cD, 10, .inr (.inr (.inr (.inr (va_up fd 0 (some ad0))))))), (ad0, .inr (0, [.int 0, .int 0, .int 0, .int 0, .int 0, .int 0, .int 0, .int 0, .ref d1, .ref d2, .ref d3, .int 0, .ref d4, .ref d5])), (ao, .inr (2, [.int 0, .int 0, .ref o1, .ref o2, .ref o3, .ref o4, .ref o5])), (aar, .inr (2, [.int 0, .int 0, .ref r1, .ref r2, .ref r3, .ref r4, .ref r5])), (am, .inr (4, [.int 0, .int 0, .ref m1, .ref m2, .ref m3, .ref m4, .ref m5, .ref m6])), (m1, .inl (cM, 90, .inl g1)), (m5, .inl (cN, 3, .inl (fun _ => 0))), (zo, .inl (cL, 1, .inr (.inl fo)))]) (hS : va_S (fun q : Nat => s.heap.size ≤ q) s.heap H locs) (hl : lv_has ls 9 [(4, .int 0), (3, .ref zo), (2, .ref am), (1, .ref ax), (0, .ref b)]) : W p l e room_1 (s.setDrawn s.drawn) m #[Value.ref b] below meth c H locs 157 7002 (lw_Z below #[Value.ref b] s) (F0 m 1032 ls []) := by
  obtain ⟨hx, hb, hr, hml, hown, hts0, hX, hbl, hlocks, hgv⟩ := id C0
  have hts1 : ∀ w ∈ wsL_law, w.before #[Value.ref b] s = true := fun w h => hts0 w (wsL_law_in w h)
  have hts := dr_words hts1 s.drawn
  have hA : ∀ q : Nat, s.heap.size ≤ q → (fun q : Nat => s.heap.size ≤ q) q := fun _ h => h
  have hbA : ¬ (fun q : Nat => s.heap.size ≤ q) b := Nat.not_le.mpr hbl
  have hd0 := Drawn.sameBut.refl s.drawn lw_cs
  obtain ⟨A, hAq⟩ : ∃ A : Nat → Prop, A = (fun q : Nat => s.heap.size ≤ q) := ⟨_, rfl⟩
  rw [← hAq] at hA hbA hT hD hS
  refine lv_aload_n hx hb dL_law_1032 rfl (lv_at hl 3 rfl) ?_
  have hPc := hP.sub (ws' := [(ax, .inr (3, [.ref av, .ref at_])), (av, .inr (1, [.int 0, .int 0, .ref adr, .ref ao, .ref aar])), (ao, .inr (2, [.int 0, .int 0, .ref o1, .ref o2, .ref o3, .ref o4, .ref o5]))]) [0, 1, 4] rfl
  have hKc := hK.sub (tys' := []) [] rfl
  refine va_calll (va_runV (As := []) (rest := []) ⟨hx, hb, hml, hown, hts⟩ (ct_X3_digest l dC dI ax av at_ adr ao aar o1 o2 o3 o4 o5) (cwV 0 hts gL_law_X3_digest rfl rfl rfl (by decide +kernel) ⟨(Nat.le_of_ble_eq_true rfl), (Nat.le_of_ble_eq_true rfl)⟩) ⟨pR_blind, va_recv hKc hPc (ci := 3) (q0 := 0) rfl rfl, pR_pre hPc hKc⟩ rfl rfl hl.1 rfl (lv_room (Nat.le_of_ble_eq_true rfl)) dL_law_1033 ⟨(Nat.le_of_ble_eq_true rfl), (Nat.le_of_ble_eq_true rfl)⟩) hS (fun q _ h => h.elim) (fun q h => h.elim) (fun r_1 u_2 t H1 locs ht hvm hw hB hz1 hk1 hS => ?_)
  have hP := hP.kept (fun k q hk => hk1 q.1 (hP k q hk).lt (fun h => h))
  generalize H1 = H at hP hS ⊢
  have hw : r_1 = 23980737299728597 := hw
  subst hw
  refine lv_aload_n hx hb dL_law_1036 rfl (lv_at hl 2 rfl) ?_
  have hPc := hP.sub (ws' := [(am, .inr (4, [.int 0, .int 0, .ref m1, .ref m2, .ref m3, .ref m4, .ref m5, .ref m6])), (m5, .inl (cN, 3, .inl (fun _ => 0)))]) [6, 8] rfl
  have hKc := hK.sub (tys' := [(cN, .int)]) [2] rfl
  have hDc := hD.sub (ws' := [(am, .inr (4, [.int 0, .int 0, .ref m1, .ref m2, .ref m3, .ref m4, .ref m5, .ref m6])), (m5, .inl (cN, 3, .inl (fun _ => 0)))]) [6, 8] (by decide) rfl
  have hFc := va_free (wc := [(am, .inr (4, [.int 0, .int 0, .ref m1, .ref m2, .ref m3, .ref m4, .ref m5, .ref m6])), (m5, .inl (cN, 3, .inl (fun _ => 0)))]) hD hS hA [6, 8] rfl
  refine va_calll (va_runV (As := []) (rest := [.long 23980737299728597]) ⟨hx, hb, hml, hown, hts⟩ (ct_X4_digest l dC dI 0 am m1 m2 m3 m4 m5 m6 cN H.size) (cwV 0 hts gL_law_X4_digest rfl rfl rfl (by decide +kernel) ⟨(Nat.le_of_ble_eq_true rfl), (Nat.le_of_ble_eq_true rfl)⟩) ⟨pZ_blind, va_recv hKc hPc (ci := 4) (q0 := 0) rfl rfl, pZ_pre hPc hDc hKc⟩ rfl rfl hl.1 rfl (lv_room (Nat.le_of_ble_eq_true rfl)) dL_law_1037 ⟨(Nat.le_of_ble_eq_true rfl), (Nat.le_of_ble_eq_true rfl)⟩) hS (fun q _ h => hFc q h) hFc (fun r_3 u_4 t H1 locs ht hvm hw hB hz1 hk1 hS => ?_)
  obtain ⟨hP1, hK1, hD1⟩ := hB
  rw [ht] at hP1
  have hK1 := va_K.moved hvm.symm hK1
  obtain ⟨hP, hD⟩ := va_join (wr := [(ax, .inr (3, [.ref av, .ref at_])), (av, .inr (1, [.int 0, .int 0, .ref adr, .ref ao, .ref aar])), (adr, .inl (cD, 10, .inr (.inr (.inr (.inr (va_up fd 0 (some ad0))))))), (ad0, .inr (0, [.int 0, .int 0, .int 0, .int 0, .int 0, .int 0, .int 0, .int 0, .ref d1, .ref d2, .ref d3, .int 0, .ref d4, .ref d5])), (ao, .inr (2, [.int 0, .int 0, .ref o1, .ref o2, .ref o3, .ref o4, .ref o5])), (aar, .inr (2, [.int 0, .int 0, .ref r1, .ref r2, .ref r3, .ref r4, .ref r5])), (m1, .inl (cM, 90, .inl g1)), (zo, .inl (cL, 1, .inr (.inl fo)))]) (w1 := []) hP hD [6, 8] [0, 1, 2, 3, 4, 5, 7, 9] rfl rfl (by decide) (by decide) hk1 hFc hP1 hD1
  generalize H1 = H at hP hS ⊢
  have hP : va_P (dC, dI) vwCl [(ax, .inr (3, [.ref av, .ref at_])), (av, .inr (1, [.int 0, .int 0, .ref adr, .ref ao, .ref aar])), (adr, .inl (cD, 10, .inr (.inr (.inr (.inr (va_up fd 0 (some ad0))))))), (ad0, .inr (0, [.int 0, .int 0, .int 0, .int 0, .int 0, .int 0, .int 0, .int 0, .ref d1, .ref d2, .ref d3, .int 0, .ref d4, .ref d5])), (ao, .inr (2, [.int 0, .int 0, .ref o1, .ref o2, .ref o3, .ref o4, .ref o5])), (aar, .inr (2, [.int 0, .int 0, .ref r1, .ref r2, .ref r3, .ref r4, .ref r5])), (m1, .inl (cM, 90, .inl g1)), (zo, .inl (cL, 1, .inr (.inl fo)))] H := hP
  have hD : va_D A [(ax, .inr (3, [.ref av, .ref at_])), (av, .inr (1, [.int 0, .int 0, .ref adr, .ref ao, .ref aar])), (adr, .inl (cD, 10, .inr (.inr (.inr (.inr (va_up fd 0 (some ad0))))))), (ad0, .inr (0, [.int 0, .int 0, .int 0, .int 0, .int 0, .int 0, .int 0, .int 0, .ref d1, .ref d2, .ref d3, .int 0, .ref d4, .ref d5])), (ao, .inr (2, [.int 0, .int 0, .ref o1, .ref o2, .ref o3, .ref o4, .ref o5])), (aar, .inr (2, [.int 0, .int 0, .ref r1, .ref r2, .ref r3, .ref r4, .ref r5])), (m1, .inl (cM, 90, .inl g1)), (zo, .inl (cL, 1, .inr (.inl fo)))] := hD
  have hK : va_K (dC, dI) vwCl [(cD, .object RX0), (cM, .int), (cN, .int), (cL, .long)] _ := hK
  have hw : r_3 = 23980737299728597 := hw
  subst hw
  refine W.lcmp hx hb dL_law_1040 ?_
  refine lv_topi (nm_r (e' := 0) (by decide) ?_)
  refine lv_if_eq (tgt := 1046) hx hb dL_law_1041 (by decide) (fun _ => ?_) (fun h => absurd h (by decide))
  refine W.widen (k := 1000) (n := 20000) (Nat.le_of_ble_eq_true rfl) (Nat.le_of_ble_eq_true rfl) ?_
  rw [hAq] at hS
  exact lw_tail l hnt C0 hS (lv_sub hl (l' := [(4, .int 0), (0, .ref b)]) [0, 4] rfl)
