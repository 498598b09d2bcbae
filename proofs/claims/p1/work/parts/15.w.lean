set_option maxHeartbeats 4000000 in
set_option maxRecDepth 100000 in
theorem lw_case_0 {p : Program} {e : Env} {s : State} {m : MethodId} {below : List Frame} {meth : Method} {c : Code} (l : Launch) (hnt : l.stackTraces = false) {b : Nat} {xs : Nat → Int32} (C0 : lw_At p s m meth c b 4 xs) (dC : Nat → ClassId) (dI : Nat → Nat → Nat) {ax : Nat} {av : Nat} {at_ : Nat} {adr : Nat} {ao : Nat} {aar : Nat} {ad0 : Nat} {d1 : Nat} {d2 : Nat} {d3 : Nat} {d4 : Nat} {d5 : Nat} {cD : ClassId} {fd : Nat → Option Nat} {o1 : Nat} {o2 : Nat} {o3 : Nat} {o4 : Nat} {o5 : Nat} {r1 : Nat} {r2 : Nat} {r3 : Nat} {r4 : Nat} {r5 : Nat} {am : Nat} {m1 : Nat} {m2 : Nat} {m3 : Nat} {m4 : Nat} {m5 : Nat} {m6 : Nat} {cM : ClassId} {g1 : Nat → Int32} {cN : ClassId} {zo : Nat} {cL : ClassId} {fo : Nat → Int64} {H : Heap} {locs : List Loc} {ls : Array Slot} (hT : vs_T (fun q : Nat => s.heap.size ≤ q) (s.setDrawn s.drawn) s.heap) (hK : va_K (dC, dI) vwCl [(cD, .object RX0), (cM, .int), (cN, .int), (cL, .long)] (s.setDrawn s.drawn)) (hP : va_P (dC, dI) vwCl [(ax, .inr (3, [.ref av, .ref at_])), (av, .inr (1, [.int 0, .int 0, .ref adr, .ref ao, .ref aar])), (adr, .inl (cD, 10, .inr (.inr (.inr (.inr (va_up fd 0 (some ad0))))))), (ad0, .inr (0, [.int 0, .int 0, .int 0, .int 0, .int 0, .int 0, .int 0, .int 0, .ref d1, .ref d2, .ref d3, .int 0, .ref d4, .ref d5])), (ao, .inr (2, [.int 0, .int 0, .ref o1, .ref o2, .ref o3, .ref o4, .ref o5])), (aar, .inr (2, [.int 0, .int 0, .ref r1, .ref r2, .ref r3, .ref r4, .ref r5])), (am, .inr (4, [.int 0, .int 0, .ref m1, .ref m2, .ref m3, .ref m4, .ref m5, .ref m6])), (m1, .inl (cM, 90, .inl g1)), (m5, .inl (cN, 3, .inl (fun _ => 0))), (zo, .inl (cL, 1, .inr (.inl fo)))] H) (hD : va_D (fun q : Nat => s.heap.size ≤ q) [(ax, .inr (3, [.ref av, .ref at_])), (av, .inr (1, [.int 0, .int 0, .ref adr, .ref ao, .ref aar])), (adr, .inl (cD, 10, .inr (.inr (.inr (.inr (va_up fd 0 (some ad0))))))), (ad0, .inr (0, [.int 0, .int 0, .int 0, .int 0, .int 0, .int 0, .int 0, .int 0, .ref d1, .ref d2, .ref d3, .int 0, .ref d4, .ref d5])), (ao, .inr (2, [.int 0, .int 0, .ref o1, .ref o2, .ref o3, .ref o4, .ref o5])), (aar, .inr (2, [.int 0, .int 0, .ref r1, .ref r2, .ref r3, .ref r4, .ref r5])), (am, .inr (4, [.int 0, .int 0, .ref m1, .ref m2, .ref m3, .ref m4, .ref m5, .ref m6])), (m1, .inl (cM, 90, .inl g1)), (m5, .inl (cN, 3, .inl (fun _ => 0))), (zo, .inl (cL, 1, .inr (.inl fo)))]) (hS : va_S (fun q : Nat => s.heap.size ≤ q) s.heap H locs) (hl : lv_has ls 9 [(4, .int 0), (3, .ref zo), (2, .ref am), (1, .ref ax), (0, .ref b)]) : W p l e room_1 (s.setDrawn s.drawn) m #[Value.ref b] below meth c H locs 157 7002 (lw_Z below #[Value.ref b] s) (F0 m 112 ls []) := by
  obtain ⟨hx, hb, hr, hml, hown, hts0, hX, hbl, hlocks, hgv⟩ := id C0
  have hts1 : ∀ w ∈ wsL_law, w.before #[Value.ref b] s = true := fun w h => hts0 w (wsL_law_in w h)
  have hts := dr_words hts1 s.drawn
  have hA : ∀ q : Nat, s.heap.size ≤ q → (fun q : Nat => s.heap.size ≤ q) q := fun _ h => h
  have hbA : ¬ (fun q : Nat => s.heap.size ≤ q) b := Nat.not_le.mpr hbl
  have hd0 := Drawn.sameBut.refl s.drawn lw_cs
  obtain ⟨A, hAq⟩ : ∃ A : Nat → Prop, A = (fun q : Nat => s.heap.size ≤ q) := ⟨_, rfl⟩
  rw [← hAq] at hA hbA hT hD hS
  refine lv_aload_n hx hb dL_law_112 rfl (lv_at hl 3 rfl) ?_
  refine lv_aload_n hx hb dL_law_113 rfl (lv_at hl 4 rfl) ?_
  refine lv_iload hx hb dL_law_114 (lv_at hl 0 rfl) ?_
  refine lv_iconst (v := 1) hx hb dL_law_116 (by decide) ?_
  refine lv_iadd hx hb dL_law_117 ?_
  refine lv_topi (nm_r (e' := 1) (by decide) ?_)
  refine va_sld hx hb hX hbl hbA hS (i := 1) (vs_vi (by decide)) dL_law_118 ?_
  refine W.eq (g2 := F0 m 119 ls [.int (xs 1), .ref ax]) rfl ?_
  refine lv_aload_n hx hb dL_law_119 rfl (lv_at hl 4 rfl) ?_
  refine lv_iload hx hb dL_law_120 (lv_at hl 0 rfl) ?_
  refine lv_iconst (v := 2) hx hb dL_law_122 (by decide) ?_
  refine lv_iadd hx hb dL_law_123 ?_
  refine lv_topi (nm_r (e' := 2) (by decide) ?_)
  refine va_sld hx hb hX hbl hbA hS (i := 2) (vs_vi (by decide)) dL_law_124 ?_
  refine W.eq (g2 := F0 m 125 ls [.int (xs 2), .int (xs 1), .ref ax]) rfl ?_
  refine lv_aload_n hx hb dL_law_125 rfl (lv_at hl 4 rfl) ?_
  refine lv_iload hx hb dL_law_126 (lv_at hl 0 rfl) ?_
  refine lv_iconst (v := 3) hx hb dL_law_128 (by decide) ?_
  refine lv_iadd hx hb dL_law_129 ?_
  refine lv_topi (nm_r (e' := 3) (by decide) ?_)
  refine va_sld hx hb hX hbl hbA hS (i := 3) (vs_vi (by decide)) dL_law_130 ?_
  refine W.eq (g2 := F0 m 131 ls [.int (xs 3), .int (xs 2), .int (xs 1), .ref ax]) rfl ?_
  refine lv_aload_n hx hb dL_law_131 rfl (lv_at hl 1 rfl) ?_
  have hPc := hP.sub (ws' := [(ax, .inr (3, [.ref av, .ref at_])), (av, .inr (1, [.int 0, .int 0, .ref adr, .ref ao, .ref aar])), (adr, .inl (cD, 10, .inr (.inr (.inr (.inr (va_up fd 0 (some ad0))))))), (ad0, .inr (0, [.int 0, .int 0, .int 0, .int 0, .int 0, .int 0, .int 0, .int 0, .ref d1, .ref d2, .ref d3, .int 0, .ref d4, .ref d5])), (zo, .inl (cL, 1, .inr (.inl fo)))]) [0, 1, 2, 3, 9] rfl
  have hKc := hK.sub (tys' := [(cD, .object RX0), (cL, .long)]) [0, 3] rfl
  have hDc := hD.sub (ws' := [(ax, .inr (3, [.ref av, .ref at_])), (av, .inr (1, [.int 0, .int 0, .ref adr, .ref ao, .ref aar])), (adr, .inl (cD, 10, .inr (.inr (.inr (.inr (va_up fd 0 (some ad0))))))), (ad0, .inr (0, [.int 0, .int 0, .int 0, .int 0, .int 0, .int 0, .int 0, .int 0, .ref d1, .ref d2, .ref d3, .int 0, .ref d4, .ref d5])), (zo, .inl (cL, 1, .inr (.inl fo)))]) [0, 1, 2, 3, 9] (by decide) rfl
  have hFc := va_free (wc := [(ax, .inr (3, [.ref av, .ref at_])), (av, .inr (1, [.int 0, .int 0, .ref adr, .ref ao, .ref aar])), (adr, .inl (cD, 10, .inr (.inr (.inr (.inr (va_up fd 0 (some ad0))))))), (ad0, .inr (0, [.int 0, .int 0, .int 0, .int 0, .int 0, .int 0, .int 0, .int 0, .ref d1, .ref d2, .ref d3, .int 0, .ref d4, .ref d5])), (zo, .inl (cL, 1, .inr (.inl fo)))]) hD hS hA [0, 1, 2, 3, 9] rfl
  have hTc := (hT.kept hS).narrow hFc
  refine vx_calli (vx_runSX (As := [.ref ax, .int (xs 1), .int (xs 2), .int (xs 3), .ref zo]) (rest := []) ⟨hx, hb, hml, hown, hts⟩ (cl_build l hnt dC dI (xs 1) (xs 2) (xs 3) ax av at_ adr ao aar ad0 d1 d2 d3 d4 d5 cD fd zo cL fo H.size) (vx_cwSW 5 hts gL_law_L_build rfl rfl rfl (by decide +kernel) ⟨(Nat.le_of_ble_eq_true rfl), (Nat.le_of_ble_eq_true rfl)⟩) ⟨pY_blind, pY_pre hPc hDc hKc hTc⟩ rfl rfl hl.1 rfl (lv_room (Nat.le_of_ble_eq_true rfl)) dL_law_132 ⟨(Nat.le_of_ble_eq_true rfl), (Nat.le_of_ble_eq_true rfl)⟩) hS (fun q _ h => hFc q h) hFc (fun q _ h => hFc q h) (fun E ce q9 ux t H1 locs ht hvm hp hBX hz1 hk1 hS hce hcv hcl => ?_) (fun r_1 u_2 t H1 locs ht hvm hw hB hz1 hk1 hS => ?_)
  · exact hBX.elim
  obtain ⟨hP1, hK1, hD1⟩ := hB
  rw [ht] at hP1
  have hK1 := va_K.moved hvm.symm hK1
  obtain ⟨hP, hD⟩ := va_join (wr := [(ao, .inr (2, [.int 0, .int 0, .ref o1, .ref o2, .ref o3, .ref o4, .ref o5])), (aar, .inr (2, [.int 0, .int 0, .ref r1, .ref r2, .ref r3, .ref r4, .ref r5])), (am, .inr (4, [.int 0, .int 0, .ref m1, .ref m2, .ref m3, .ref m4, .ref m5, .ref m6])), (m1, .inl (cM, 90, .inl g1)), (m5, .inl (cN, 3, .inl (fun _ => 0)))]) (w1 := [(zo, .inl (cL, 1, .inr (.inl u_2)))]) hP hD [0, 1, 2, 3, 9] [4, 5, 6, 7, 8] rfl rfl (by decide) (by decide) hk1 hFc hP1 hD1
  generalize H1 = H at hP hS ⊢
  have hP : va_P (dC, dI) vwCl [(ao, .inr (2, [.int 0, .int 0, .ref o1, .ref o2, .ref o3, .ref o4, .ref o5])), (aar, .inr (2, [.int 0, .int 0, .ref r1, .ref r2, .ref r3, .ref r4, .ref r5])), (am, .inr (4, [.int 0, .int 0, .ref m1, .ref m2, .ref m3, .ref m4, .ref m5, .ref m6])), (m1, .inl (cM, 90, .inl g1)), (m5, .inl (cN, 3, .inl (fun _ => 0))), (zo, .inl (cL, 1, .inr (.inl u_2)))] H := hP
  have hD : va_D A [(ao, .inr (2, [.int 0, .int 0, .ref o1, .ref o2, .ref o3, .ref o4, .ref o5])), (aar, .inr (2, [.int 0, .int 0, .ref r1, .ref r2, .ref r3, .ref r4, .ref r5])), (am, .inr (4, [.int 0, .int 0, .ref m1, .ref m2, .ref m3, .ref m4, .ref m5, .ref m6])), (m1, .inl (cM, 90, .inl g1)), (m5, .inl (cN, 3, .inl (fun _ => 0))), (zo, .inl (cL, 1, .inr (.inl u_2)))] := hD
  have hK : va_K (dC, dI) vwCl [(cD, .object RX0), (cM, .int), (cN, .int), (cL, .long)] _ := hK
  refine W.widen (k := 158) (n := 7008) (by omega) (by omega) ?_
  have hw_3 : (vs_ok (xs 1) (xs 2) (xs 3) ∧ r_1 = 0 ∧ u_2 0 = 0) ∨ (¬ vs_ok (xs 1) (xs 2) (xs 3) ∧ r_1 = 1) := hw
  refine lv_istore (lv' := [(5, .int r_1), (4, .int 0), (3, .ref zo), (2, .ref am), (1, .ref ax), (0, .ref b)]) hx hb dL_law_135 hl (by decide) rfl (fun ls hl => ?_)
  refine lv_aload_n hx hb dL_law_137 rfl (lv_at hl 3 rfl) ?_
  refine lv_aload_n hx hb dL_law_138 rfl (lv_at hl 5 rfl) ?_
  refine lv_iload hx hb dL_law_139 (lv_at hl 1 rfl) ?_
  refine lv_iconst (v := 1) hx hb dL_law_141 (by decide) ?_
  refine lv_iadd hx hb dL_law_142 ?_
  refine lv_topi (nm_r (e' := 1) (by decide) ?_)
  refine va_sld hx hb hX hbl hbA hS (i := 1) (vs_vi (by decide)) dL_law_143 ?_
  refine W.eq (g2 := F0 m 144 ls [.int (xs 1), .ref am]) rfl ?_
  refine lv_aload_n hx hb dL_law_144 rfl (lv_at hl 5 rfl) ?_
  refine lv_iload hx hb dL_law_145 (lv_at hl 1 rfl) ?_
  refine lv_iconst (v := 2) hx hb dL_law_147 (by decide) ?_
  refine lv_iadd hx hb dL_law_148 ?_
  refine lv_topi (nm_r (e' := 2) (by decide) ?_)
  refine va_sld hx hb hX hbl hbA hS (i := 2) (vs_vi (by decide)) dL_law_149 ?_
  refine W.eq (g2 := F0 m 150 ls [.int (xs 2), .int (xs 1), .ref am]) rfl ?_
  refine lv_aload_n hx hb dL_law_150 rfl (lv_at hl 5 rfl) ?_
  refine lv_iload hx hb dL_law_151 (lv_at hl 1 rfl) ?_
  refine lv_iconst (v := 3) hx hb dL_law_153 (by decide) ?_
  refine lv_iadd hx hb dL_law_154 ?_
  refine lv_topi (nm_r (e' := 3) (by decide) ?_)
  refine va_sld hx hb hX hbl hbA hS (i := 3) (vs_vi (by decide)) dL_law_155 ?_
  refine W.eq (g2 := F0 m 156 ls [.int (xs 3), .int (xs 2), .int (xs 1), .ref am]) rfl ?_
  have hPc := hP.sub (ws' := [(am, .inr (4, [.int 0, .int 0, .ref m1, .ref m2, .ref m3, .ref m4, .ref m5, .ref m6])), (m1, .inl (cM, 90, .inl g1))]) [2, 3] rfl
  have hKc := hK.sub (tys' := [(cM, .int)]) [1] rfl
  have hDc := hD.sub (ws' := [(am, .inr (4, [.int 0, .int 0, .ref m1, .ref m2, .ref m3, .ref m4, .ref m5, .ref m6])), (m1, .inl (cM, 90, .inl g1))]) [2, 3] (by decide) rfl
  have hFc := va_free (wc := [(am, .inr (4, [.int 0, .int 0, .ref m1, .ref m2, .ref m3, .ref m4, .ref m5, .ref m6])), (m1, .inl (cM, 90, .inl g1))]) hD hS hA [2, 3] rfl
  refine va_calli (va_runV (As := [.int (xs 1), .int (xs 2), .int (xs 3)]) (rest := []) ⟨hx, hb, hml, hown, hts⟩ (ct_X4_build l dC dI 0 (xs 1) (xs 2) (xs 3) am m1 m2 m3 m4 m5 m6 cM g1 H.size) (cwV 3 hts gL_law_X4_build rfl rfl rfl (by decide +kernel) ⟨(Nat.le_of_ble_eq_true rfl), (Nat.le_of_ble_eq_true rfl)⟩) ⟨pZ_blind, va_recv hKc hPc (ci := 4) (q0 := 0) rfl rfl, pZ_pre hPc hDc hKc⟩ rfl rfl hl.1 rfl (lv_room (Nat.le_of_ble_eq_true rfl)) dL_law_156 ⟨(Nat.le_of_ble_eq_true rfl), (Nat.le_of_ble_eq_true rfl)⟩) hS (fun q _ h => hFc q h) hFc (fun r_4 u_5 t H1 locs ht hvm hw hB hz1 hk1 hS => ?_)
  obtain ⟨dn_6, hP1, hK1, hD1⟩ := hB
  rw [ht] at hP1
  have hK1 := va_K.moved hvm.symm hK1
  obtain ⟨hP, hD⟩ := va_join (wr := [(ao, .inr (2, [.int 0, .int 0, .ref o1, .ref o2, .ref o3, .ref o4, .ref o5])), (aar, .inr (2, [.int 0, .int 0, .ref r1, .ref r2, .ref r3, .ref r4, .ref r5])), (m5, .inl (cN, 3, .inl (fun _ => 0))), (zo, .inl (cL, 1, .inr (.inl u_2)))]) (w1 := [(am, .inr (4, [.int u_5, .int dn_6, .ref m1, .ref m2, .ref m3, .ref m4, .ref m5, .ref m6]))]) hP hD [2, 3] [0, 1, 4, 5] rfl rfl (by decide) (by decide) hk1 hFc hP1 hD1
  generalize H1 = H at hP hS ⊢
  have hP : va_P (dC, dI) vwCl [(ao, .inr (2, [.int 0, .int 0, .ref o1, .ref o2, .ref o3, .ref o4, .ref o5])), (aar, .inr (2, [.int 0, .int 0, .ref r1, .ref r2, .ref r3, .ref r4, .ref r5])), (m5, .inl (cN, 3, .inl (fun _ => 0))), (zo, .inl (cL, 1, .inr (.inl u_2))), (am, .inr (4, [.int u_5, .int dn_6, .ref m1, .ref m2, .ref m3, .ref m4, .ref m5, .ref m6]))] H := hP
  have hD : va_D A [(ao, .inr (2, [.int 0, .int 0, .ref o1, .ref o2, .ref o3, .ref o4, .ref o5])), (aar, .inr (2, [.int 0, .int 0, .ref r1, .ref r2, .ref r3, .ref r4, .ref r5])), (m5, .inl (cN, 3, .inl (fun _ => 0))), (zo, .inl (cL, 1, .inr (.inl u_2))), (am, .inr (4, [.int u_5, .int dn_6, .ref m1, .ref m2, .ref m3, .ref m4, .ref m5, .ref m6]))] := hD
  have hK : va_K (dC, dI) vwCl [(cD, .object RX0), (cM, .int), (cN, .int), (cL, .long)] _ := hK
  refine W.widen (k := 159) (n := 7017) (by omega) (by omega) ?_
  have hw_7 : r_4 = 0 ∧ ((¬ vs_ok (xs 1) (xs 2) (xs 3) ∧ u_5 = 1) ∨ (vs_ok (xs 1) (xs 2) (xs 3) ∧ u_5 = 0)) := hw
  rcases hw_3 with ⟨hc, h1r, h1u⟩ | ⟨hc, h1r⟩
  · obtain ⟨h2r, h2o⟩ := hw_7
    rcases h2o with ⟨h2, h2u⟩ | ⟨h2, h2u⟩
    · exact absurd hc h2
    subst h2r; subst h2u; subst h1r
    refine lv_istore (lv' := [(6, .int 0), (5, .int 0), (4, .int 0), (3, .ref zo), (2, .ref am), (1, .ref ax), (0, .ref b)]) hx hb dL_law_159 hl (by decide) rfl (fun ls hl => ?_)
    refine lv_aload_n hx hb dL_law_161 rfl (lv_at hl 4 rfl) ?_
    have hPc := hP.sub (ws' := [(am, .inr (4, [.int 0, .int dn_6, .ref m1, .ref m2, .ref m3, .ref m4, .ref m5, .ref m6]))]) [4] rfl
    have hKc := hK.sub (tys' := []) [] rfl
    refine va_calli (va_runV (As := []) (rest := []) ⟨hx, hb, hml, hown, hts⟩ (ct_X4_thrown l dC dI 0 dn_6 am m1 m2 m3 m4 m5 m6) (cwV 0 hts gL_law_X4_thrown rfl rfl rfl (by decide +kernel) ⟨(Nat.le_of_ble_eq_true rfl), (Nat.le_of_ble_eq_true rfl)⟩) ⟨pR_blind, va_recv hKc hPc (ci := 4) (q0 := 0) rfl rfl, pR_pre hPc hKc⟩ rfl rfl hl.1 rfl (lv_room (Nat.le_of_ble_eq_true rfl)) dL_law_162 ⟨(Nat.le_of_ble_eq_true rfl), (Nat.le_of_ble_eq_true rfl)⟩) hS (fun q _ h => h.elim) (fun q h => h.elim) (fun r_8 u_9 t H1 locs ht hvm hw hB hz1 hk1 hS => ?_)
    have hP := hP.kept (fun k q hk => hk1 q.1 (hP k q hk).lt (fun h => h))
    generalize H1 = H at hP hS ⊢
    have hw : r_8 = 0 := hw
    subst hw
    refine lv_iload hx hb dL_law_165 (lv_at hl 1 rfl) ?_
    refine lv_icmp_eq (tgt := 172) hx hb dL_law_167 (by decide) (fun _ => ?_) (fun h => absurd h (by decide))
    refine lv_iload hx hb dL_law_172 (lv_at hl 1 rfl) ?_
    refine lv_if_ne (tgt := 189) hx hb dL_law_174 (by decide) (fun h => absurd h (by decide)) (fun _ => ?_)
    refine lv_aload_n hx hb dL_law_177 rfl (lv_at hl 3 rfl) ?_
    refine lv_iconst (v := 0) hx hb dL_law_178 (by decide) ?_
    refine va_lald (D := (dC, dI)) hx hb hK hP 3 3 rfl rfl (i := 0) (vs_vi (by decide)) dL_law_179 ?_
    refine W.eq (g2 := F0 m 180 ls [.long (u_2 0)]) rfl ?_
    rw [h1u]
    refine lv_iload hx hb dL_law_180 (lv_at hl 0 rfl) ?_
    refine lv_i2l (v := 0) hx hb dL_law_182 (by decide) ?_
    refine W.lcmp hx hb dL_law_183 ?_
    refine lv_topi (nm_r (e' := 0) (by decide) ?_)
    refine lv_if_eq (tgt := 189) hx hb dL_law_184 (by decide) (fun _ => ?_) (fun h => absurd h (by decide))
    refine lv_goto (tgt := 1046) hx hb dL_law_189 (by decide) ?_
    refine W.widen (k := 1000) (n := 20000) (Nat.le_of_ble_eq_true rfl) (Nat.le_of_ble_eq_true rfl) ?_
    rw [hAq] at hS
    exact lw_tail l hnt C0 hS (lv_sub hl (l' := [(4, .int 0), (0, .ref b)]) [2, 6] rfl)
  · obtain ⟨h2r, h2o⟩ := hw_7
    rcases h2o with ⟨h2, h2u⟩ | ⟨h2, h2u⟩
    rotate_left
    · exact absurd h2 hc
    subst h2r; subst h2u; subst h1r
    refine lv_istore (lv' := [(6, .int 0), (5, .int 1), (4, .int 0), (3, .ref zo), (2, .ref am), (1, .ref ax), (0, .ref b)]) hx hb dL_law_159 hl (by decide) rfl (fun ls hl => ?_)
    refine lv_aload_n hx hb dL_law_161 rfl (lv_at hl 4 rfl) ?_
    have hPc := hP.sub (ws' := [(am, .inr (4, [.int 1, .int dn_6, .ref m1, .ref m2, .ref m3, .ref m4, .ref m5, .ref m6]))]) [4] rfl
    have hKc := hK.sub (tys' := []) [] rfl
    refine va_calli (va_runV (As := []) (rest := []) ⟨hx, hb, hml, hown, hts⟩ (ct_X4_thrown l dC dI 1 dn_6 am m1 m2 m3 m4 m5 m6) (cwV 0 hts gL_law_X4_thrown rfl rfl rfl (by decide +kernel) ⟨(Nat.le_of_ble_eq_true rfl), (Nat.le_of_ble_eq_true rfl)⟩) ⟨pR_blind, va_recv hKc hPc (ci := 4) (q0 := 0) rfl rfl, pR_pre hPc hKc⟩ rfl rfl hl.1 rfl (lv_room (Nat.le_of_ble_eq_true rfl)) dL_law_162 ⟨(Nat.le_of_ble_eq_true rfl), (Nat.le_of_ble_eq_true rfl)⟩) hS (fun q _ h => h.elim) (fun q h => h.elim) (fun r_10 u_11 t H1 locs ht hvm hw hB hz1 hk1 hS => ?_)
    have hP := hP.kept (fun k q hk => hk1 q.1 (hP k q hk).lt (fun h => h))
    generalize H1 = H at hP hS ⊢
    have hw : r_10 = 1 := hw
    subst hw
    refine lv_iload hx hb dL_law_165 (lv_at hl 1 rfl) ?_
    refine lv_icmp_eq (tgt := 172) hx hb dL_law_167 (by decide) (fun _ => ?_) (fun h => absurd h (by decide))
    refine lv_iload hx hb dL_law_172 (lv_at hl 1 rfl) ?_
    refine lv_if_ne (tgt := 189) hx hb dL_law_174 (by decide) (fun _ => ?_) (fun h => absurd h (by decide))
    refine lv_goto (tgt := 1046) hx hb dL_law_189 (by decide) ?_
    refine W.widen (k := 1000) (n := 20000) (Nat.le_of_ble_eq_true rfl) (Nat.le_of_ble_eq_true rfl) ?_
    rw [hAq] at hS
    exact lw_tail l hnt C0 hS (lv_sub hl (l' := [(4, .int 0), (0, .ref b)]) [2, 6] rfl)

set_option maxHeartbeats 4000000 in
set_option maxRecDepth 100000 in
theorem lw_case_1 {p : Program} {e : Env} {s : State} {m : MethodId} {below : List Frame} {meth : Method} {c : Code} (l : Launch) (hnt : l.stackTraces = false) {b : Nat} {xs : Nat → Int32} (C0 : lw_At p s m meth c b 4 xs) (dC : Nat → ClassId) (dI : Nat → Nat → Nat) {ax : Nat} {av : Nat} {at_ : Nat} {adr : Nat} {ao : Nat} {aar : Nat} {ad0 : Nat} {d1 : Nat} {d2 : Nat} {d3 : Nat} {d4 : Nat} {d5 : Nat} {cD : ClassId} {fd : Nat → Option Nat} {o1 : Nat} {o2 : Nat} {o3 : Nat} {o4 : Nat} {o5 : Nat} {r1 : Nat} {r2 : Nat} {r3 : Nat} {r4 : Nat} {r5 : Nat} {am : Nat} {m1 : Nat} {m2 : Nat} {m3 : Nat} {m4 : Nat} {m5 : Nat} {m6 : Nat} {cM : ClassId} {g1 : Nat → Int32} {cN : ClassId} {zo : Nat} {cL : ClassId} {fo : Nat → Int64} {H : Heap} {locs : List Loc} {ls : Array Slot} (hT : vs_T (fun q : Nat => s.heap.size ≤ q) (s.setDrawn s.drawn) s.heap) (hK : va_K (dC, dI) vwCl [(cD, .object RX0), (cM, .int), (cN, .int), (cL, .long)] (s.setDrawn s.drawn)) (hP : va_P (dC, dI) vwCl [(ax, .inr (3, [.ref av, .ref at_])), (av, .inr (1, [.int 0, .int 0, .ref adr, .ref ao, .ref aar])), (adr, .inl (cD, 10, .inr (.inr (.inr (.inr (va_up fd 0 (some ad0))))))), (ad0, .inr (0, [.int 0, .int 0, .int 0, .int 0, .int 0, .int 0, .int 0, .int 0, .ref d1, .ref d2, .ref d3, .int 0, .ref d4, .ref d5])), (ao, .inr (2, [.int 0, .int 0, .ref o1, .ref o2, .ref o3, .ref o4, .ref o5])), (aar, .inr (2, [.int 0, .int 0, .ref r1, .ref r2, .ref r3, .ref r4, .ref r5])), (am, .inr (4, [.int 0, .int 0, .ref m1, .ref m2, .ref m3, .ref m4, .ref m5, .ref m6])), (m1, .inl (cM, 90, .inl g1)), (m5, .inl (cN, 3, .inl (fun _ => 0))), (zo, .inl (cL, 1, .inr (.inl fo)))] H) (hD : va_D (fun q : Nat => s.heap.size ≤ q) [(ax, .inr (3, [.ref av, .ref at_])), (av, .inr (1, [.int 0, .int 0, .ref adr, .ref ao, .ref aar])), (adr, .inl (cD, 10, .inr (.inr (.inr (.inr (va_up fd 0 (some ad0))))))), (ad0, .inr (0, [.int 0, .int 0, .int 0, .int 0, .int 0, .int 0, .int 0, .int 0, .ref d1, .ref d2, .ref d3, .int 0, .ref d4, .ref d5])), (ao, .inr (2, [.int 0, .int 0, .ref o1, .ref o2, .ref o3, .ref o4, .ref o5])), (aar, .inr (2, [.int 0, .int 0, .ref r1, .ref r2, .ref r3, .ref r4, .ref r5])), (am, .inr (4, [.int 0, .int 0, .ref m1, .ref m2, .ref m3, .ref m4, .ref m5, .ref m6])), (m1, .inl (cM, 90, .inl g1)), (m5, .inl (cN, 3, .inl (fun _ => 0))), (zo, .inl (cL, 1, .inr (.inl fo)))]) (hS : va_S (fun q : Nat => s.heap.size ≤ q) s.heap H locs) (hl : lv_has ls 9 [(4, .int 0), (3, .ref zo), (2, .ref am), (1, .ref ax), (0, .ref b)]) : W p l e room_1 (s.setDrawn s.drawn) m #[Value.ref b] below meth c H locs 157 7002 (lw_Z below #[Value.ref b] s) (F0 m 192 ls []) := by
  obtain ⟨hx, hb, hr, hml, hown, hts0, hX, hbl, hlocks, hgv⟩ := id C0
  have hts1 : ∀ w ∈ wsL_law, w.before #[Value.ref b] s = true := fun w h => hts0 w (wsL_law_in w h)
  have hts := dr_words hts1 s.drawn
  have hA : ∀ q : Nat, s.heap.size ≤ q → (fun q : Nat => s.heap.size ≤ q) q := fun _ h => h
  have hbA : ¬ (fun q : Nat => s.heap.size ≤ q) b := Nat.not_le.mpr hbl
  have hd0 := Drawn.sameBut.refl s.drawn lw_cs
  obtain ⟨A, hAq⟩ : ∃ A : Nat → Prop, A = (fun q : Nat => s.heap.size ≤ q) := ⟨_, rfl⟩
  rw [← hAq] at hA hbA hT hD hS
  refine lv_aload_n hx hb dL_law_192 rfl (lv_at hl 3 rfl) ?_
  refine lv_aload_n hx hb dL_law_193 rfl (lv_at hl 4 rfl) ?_
  refine lv_iload hx hb dL_law_194 (lv_at hl 0 rfl) ?_
  refine lv_iconst (v := 1) hx hb dL_law_196 (by decide) ?_
  refine lv_iadd hx hb dL_law_197 ?_
  refine lv_topi (nm_r (e' := 1) (by decide) ?_)
  refine va_sld hx hb hX hbl hbA hS (i := 1) (vs_vi (by decide)) dL_law_198 ?_
  refine W.eq (g2 := F0 m 199 ls [.int (xs 1), .ref ax]) rfl ?_
  refine lv_aload_n hx hb dL_law_199 rfl (lv_at hl 4 rfl) ?_
  refine lv_iload hx hb dL_law_200 (lv_at hl 0 rfl) ?_
  refine lv_iconst (v := 2) hx hb dL_law_202 (by decide) ?_
  refine lv_iadd hx hb dL_law_203 ?_
  refine lv_topi (nm_r (e' := 2) (by decide) ?_)
  refine va_sld hx hb hX hbl hbA hS (i := 2) (vs_vi (by decide)) dL_law_204 ?_
  refine W.eq (g2 := F0 m 205 ls [.int (xs 2), .int (xs 1), .ref ax]) rfl ?_
  refine lv_aload_n hx hb dL_law_205 rfl (lv_at hl 4 rfl) ?_
  refine lv_iload hx hb dL_law_206 (lv_at hl 0 rfl) ?_
  refine lv_iconst (v := 3) hx hb dL_law_208 (by decide) ?_
  refine lv_iadd hx hb dL_law_209 ?_
  refine lv_topi (nm_r (e' := 3) (by decide) ?_)
  refine va_sld hx hb hX hbl hbA hS (i := 3) (vs_vi (by decide)) dL_law_210 ?_
  refine W.eq (g2 := F0 m 211 ls [.int (xs 3), .int (xs 2), .int (xs 1), .ref ax]) rfl ?_
  refine lv_aload_n hx hb dL_law_211 rfl (lv_at hl 1 rfl) ?_
  have hPc := hP.sub (ws' := [(ax, .inr (3, [.ref av, .ref at_])), (av, .inr (1, [.int 0, .int 0, .ref adr, .ref ao, .ref aar])), (zo, .inl (cL, 1, .inr (.inl fo)))]) [0, 1, 9] rfl
  have hKc := hK.sub (tys' := [(cL, .long)]) [3] rfl
  have hDc := hD.sub (ws' := [(ax, .inr (3, [.ref av, .ref at_])), (av, .inr (1, [.int 0, .int 0, .ref adr, .ref ao, .ref aar])), (zo, .inl (cL, 1, .inr (.inl fo)))]) [0, 1, 9] (by decide) rfl
  have hFc := va_free (wc := [(ax, .inr (3, [.ref av, .ref at_])), (av, .inr (1, [.int 0, .int 0, .ref adr, .ref ao, .ref aar])), (zo, .inl (cL, 1, .inr (.inl fo)))]) hD hS hA [0, 1, 9] rfl
  have hTc := (hT.kept hS).narrow hFc
  refine vx_calli (vx_runSX (As := [.ref ax, .int (xs 1), .int (xs 2), .int (xs 3), .ref zo]) (rest := []) ⟨hx, hb, hml, hown, hts⟩ (cl_ask l hnt dC dI (xs 1) (xs 2) (xs 3) ax av at_ adr ao aar zo cL fo H.size) (vx_cwSW 5 hts gL_law_L_ask rfl rfl rfl (by decide +kernel) ⟨(Nat.le_of_ble_eq_true rfl), (Nat.le_of_ble_eq_true rfl)⟩) ⟨pY_blind, pY_pre hPc hDc hKc hTc⟩ rfl rfl hl.1 rfl (lv_room (Nat.le_of_ble_eq_true rfl)) dL_law_212 ⟨(Nat.le_of_ble_eq_true rfl), (Nat.le_of_ble_eq_true rfl)⟩) hS (fun q _ h => hFc q h) hFc (fun q _ h => hFc q h) (fun E ce q9 ux t H1 locs ht hvm hp hBX hz1 hk1 hS hce hcv hcl => ?_) (fun r_1 u_2 t H1 locs ht hvm hw hB hz1 hk1 hS => ?_)
  · exact hBX.elim
  obtain ⟨hP1, hK1, hD1⟩ := hB
  rw [ht] at hP1
  have hK1 := va_K.moved hvm.symm hK1
  obtain ⟨hP, hD⟩ := va_join (wr := [(adr, .inl (cD, 10, .inr (.inr (.inr (.inr (va_up fd 0 (some ad0))))))), (ad0, .inr (0, [.int 0, .int 0, .int 0, .int 0, .int 0, .int 0, .int 0, .int 0, .ref d1, .ref d2, .ref d3, .int 0, .ref d4, .ref d5])), (ao, .inr (2, [.int 0, .int 0, .ref o1, .ref o2, .ref o3, .ref o4, .ref o5])), (aar, .inr (2, [.int 0, .int 0, .ref r1, .ref r2, .ref r3, .ref r4, .ref r5])), (am, .inr (4, [.int 0, .int 0, .ref m1, .ref m2, .ref m3, .ref m4, .ref m5, .ref m6])), (m1, .inl (cM, 90, .inl g1)), (m5, .inl (cN, 3, .inl (fun _ => 0)))]) (w1 := []) hP hD [0, 1, 9] [2, 3, 4, 5, 6, 7, 8] rfl rfl (by decide) (by decide) hk1 hFc hP1 hD1
  generalize H1 = H at hP hS ⊢
  have hP : va_P (dC, dI) vwCl [(adr, .inl (cD, 10, .inr (.inr (.inr (.inr (va_up fd 0 (some ad0))))))), (ad0, .inr (0, [.int 0, .int 0, .int 0, .int 0, .int 0, .int 0, .int 0, .int 0, .ref d1, .ref d2, .ref d3, .int 0, .ref d4, .ref d5])), (ao, .inr (2, [.int 0, .int 0, .ref o1, .ref o2, .ref o3, .ref o4, .ref o5])), (aar, .inr (2, [.int 0, .int 0, .ref r1, .ref r2, .ref r3, .ref r4, .ref r5])), (am, .inr (4, [.int 0, .int 0, .ref m1, .ref m2, .ref m3, .ref m4, .ref m5, .ref m6])), (m1, .inl (cM, 90, .inl g1)), (m5, .inl (cN, 3, .inl (fun _ => 0)))] H := hP
  have hD : va_D A [(adr, .inl (cD, 10, .inr (.inr (.inr (.inr (va_up fd 0 (some ad0))))))), (ad0, .inr (0, [.int 0, .int 0, .int 0, .int 0, .int 0, .int 0, .int 0, .int 0, .ref d1, .ref d2, .ref d3, .int 0, .ref d4, .ref d5])), (ao, .inr (2, [.int 0, .int 0, .ref o1, .ref o2, .ref o3, .ref o4, .ref o5])), (aar, .inr (2, [.int 0, .int 0, .ref r1, .ref r2, .ref r3, .ref r4, .ref r5])), (am, .inr (4, [.int 0, .int 0, .ref m1, .ref m2, .ref m3, .ref m4, .ref m5, .ref m6])), (m1, .inl (cM, 90, .inl g1)), (m5, .inl (cN, 3, .inl (fun _ => 0)))] := hD
  have hK : va_K (dC, dI) vwCl [(cD, .object RX0), (cM, .int), (cN, .int), (cL, .long)] _ := hK
  refine W.widen (k := 158) (n := 7008) (by omega) (by omega) ?_
  have hw : r_1 = 1 := hw
  subst hw
  refine lv_istore (lv' := [(5, .int 1), (4, .int 0), (3, .ref zo), (2, .ref am), (1, .ref ax), (0, .ref b)]) hx hb dL_law_215 hl (by decide) rfl (fun ls hl => ?_)
  refine lv_aload_n hx hb dL_law_217 rfl (lv_at hl 3 rfl) ?_
  refine lv_aload_n hx hb dL_law_218 rfl (lv_at hl 5 rfl) ?_
  refine lv_iload hx hb dL_law_219 (lv_at hl 1 rfl) ?_
  refine lv_iconst (v := 1) hx hb dL_law_221 (by decide) ?_
  refine lv_iadd hx hb dL_law_222 ?_
  refine lv_topi (nm_r (e' := 1) (by decide) ?_)
  refine va_sld hx hb hX hbl hbA hS (i := 1) (vs_vi (by decide)) dL_law_223 ?_
  refine W.eq (g2 := F0 m 224 ls [.int (xs 1), .ref am]) rfl ?_
  refine lv_aload_n hx hb dL_law_224 rfl (lv_at hl 5 rfl) ?_
  refine lv_iload hx hb dL_law_225 (lv_at hl 1 rfl) ?_
  refine lv_iconst (v := 2) hx hb dL_law_227 (by decide) ?_
  refine lv_iadd hx hb dL_law_228 ?_
  refine lv_topi (nm_r (e' := 2) (by decide) ?_)
  refine va_sld hx hb hX hbl hbA hS (i := 2) (vs_vi (by decide)) dL_law_229 ?_
  refine W.eq (g2 := F0 m 230 ls [.int (xs 2), .int (xs 1), .ref am]) rfl ?_
  refine lv_aload_n hx hb dL_law_230 rfl (lv_at hl 5 rfl) ?_
  refine lv_iload hx hb dL_law_231 (lv_at hl 1 rfl) ?_
  refine lv_iconst (v := 3) hx hb dL_law_233 (by decide) ?_
  refine lv_iadd hx hb dL_law_234 ?_
  refine lv_topi (nm_r (e' := 3) (by decide) ?_)
  refine va_sld hx hb hX hbl hbA hS (i := 3) (vs_vi (by decide)) dL_law_235 ?_
  refine W.eq (g2 := F0 m 236 ls [.int (xs 3), .int (xs 2), .int (xs 1), .ref am]) rfl ?_
  have hPc := hP.sub (ws' := [(am, .inr (4, [.int 0, .int 0, .ref m1, .ref m2, .ref m3, .ref m4, .ref m5, .ref m6]))]) [4] rfl
  have hKc := hK.sub (tys' := []) [] rfl
  have hDc := hD.sub (ws' := [(am, .inr (4, [.int 0, .int 0, .ref m1, .ref m2, .ref m3, .ref m4, .ref m5, .ref m6]))]) [4] (by decide) rfl
  have hFc := va_free (wc := [(am, .inr (4, [.int 0, .int 0, .ref m1, .ref m2, .ref m3, .ref m4, .ref m5, .ref m6]))]) hD hS hA [4] rfl
  refine va_calli (va_runV (As := [.int (xs 1), .int (xs 2), .int (xs 3)]) (rest := []) ⟨hx, hb, hml, hown, hts⟩ (ct_X4_ask l dC dI 0 (xs 1) (xs 2) (xs 3) am m1 m2 m3 m4 m5 m6 H.size) (cwV 3 hts gL_law_X4_ask rfl rfl rfl (by decide +kernel) ⟨(Nat.le_of_ble_eq_true rfl), (Nat.le_of_ble_eq_true rfl)⟩) ⟨pZ_blind, va_recv hKc hPc (ci := 4) (q0 := 0) rfl rfl, pZ_pre hPc hDc hKc⟩ rfl rfl hl.1 rfl (lv_room (Nat.le_of_ble_eq_true rfl)) dL_law_236 ⟨(Nat.le_of_ble_eq_true rfl), (Nat.le_of_ble_eq_true rfl)⟩) hS (fun q _ h => hFc q h) hFc (fun r_3 u_4 t H1 locs ht hvm hw hB hz1 hk1 hS => ?_)
  obtain ⟨hP1, hK1, hD1⟩ := hB
  rw [ht] at hP1
  have hK1 := va_K.moved hvm.symm hK1
  obtain ⟨hP, hD⟩ := va_join (wr := [(adr, .inl (cD, 10, .inr (.inr (.inr (.inr (va_up fd 0 (some ad0))))))), (ad0, .inr (0, [.int 0, .int 0, .int 0, .int 0, .int 0, .int 0, .int 0, .int 0, .ref d1, .ref d2, .ref d3, .int 0, .ref d4, .ref d5])), (ao, .inr (2, [.int 0, .int 0, .ref o1, .ref o2, .ref o3, .ref o4, .ref o5])), (aar, .inr (2, [.int 0, .int 0, .ref r1, .ref r2, .ref r3, .ref r4, .ref r5])), (m1, .inl (cM, 90, .inl g1)), (m5, .inl (cN, 3, .inl (fun _ => 0)))]) (w1 := [(am, .inr (4, [.int 1, .int 0, .ref m1, .ref m2, .ref m3, .ref m4, .ref m5, .ref m6]))]) hP hD [4] [0, 1, 2, 3, 5, 6] rfl rfl (by decide) (by decide) hk1 hFc hP1 hD1
  generalize H1 = H at hP hS ⊢
  have hP : va_P (dC, dI) vwCl [(adr, .inl (cD, 10, .inr (.inr (.inr (.inr (va_up fd 0 (some ad0))))))), (ad0, .inr (0, [.int 0, .int 0, .int 0, .int 0, .int 0, .int 0, .int 0, .int 0, .ref d1, .ref d2, .ref d3, .int 0, .ref d4, .ref d5])), (ao, .inr (2, [.int 0, .int 0, .ref o1, .ref o2, .ref o3, .ref o4, .ref o5])), (aar, .inr (2, [.int 0, .int 0, .ref r1, .ref r2, .ref r3, .ref r4, .ref r5])), (m1, .inl (cM, 90, .inl g1)), (m5, .inl (cN, 3, .inl (fun _ => 0))), (am, .inr (4, [.int 1, .int 0, .ref m1, .ref m2, .ref m3, .ref m4, .ref m5, .ref m6]))] H := hP
  have hD : va_D A [(adr, .inl (cD, 10, .inr (.inr (.inr (.inr (va_up fd 0 (some ad0))))))), (ad0, .inr (0, [.int 0, .int 0, .int 0, .int 0, .int 0, .int 0, .int 0, .int 0, .ref d1, .ref d2, .ref d3, .int 0, .ref d4, .ref d5])), (ao, .inr (2, [.int 0, .int 0, .ref o1, .ref o2, .ref o3, .ref o4, .ref o5])), (aar, .inr (2, [.int 0, .int 0, .ref r1, .ref r2, .ref r3, .ref r4, .ref r5])), (m1, .inl (cM, 90, .inl g1)), (m5, .inl (cN, 3, .inl (fun _ => 0))), (am, .inr (4, [.int 1, .int 0, .ref m1, .ref m2, .ref m3, .ref m4, .ref m5, .ref m6]))] := hD
  have hK : va_K (dC, dI) vwCl [(cD, .object RX0), (cM, .int), (cN, .int), (cL, .long)] _ := hK
  have hw : r_3 = 0 := hw
  subst hw
  refine lv_istore (lv' := [(6, .int 0), (5, .int 1), (4, .int 0), (3, .ref zo), (2, .ref am), (1, .ref ax), (0, .ref b)]) hx hb dL_law_239 hl (by decide) rfl (fun ls hl => ?_)
  refine lv_aload_n hx hb dL_law_241 rfl (lv_at hl 4 rfl) ?_
  have hPc := hP.sub (ws' := [(am, .inr (4, [.int 1, .int 0, .ref m1, .ref m2, .ref m3, .ref m4, .ref m5, .ref m6]))]) [6] rfl
  have hKc := hK.sub (tys' := []) [] rfl
  refine va_calli (va_runV (As := []) (rest := []) ⟨hx, hb, hml, hown, hts⟩ (ct_X4_thrown l dC dI 1 0 am m1 m2 m3 m4 m5 m6) (cwV 0 hts gL_law_X4_thrown rfl rfl rfl (by decide +kernel) ⟨(Nat.le_of_ble_eq_true rfl), (Nat.le_of_ble_eq_true rfl)⟩) ⟨pR_blind, va_recv hKc hPc (ci := 4) (q0 := 0) rfl rfl, pR_pre hPc hKc⟩ rfl rfl hl.1 rfl (lv_room (Nat.le_of_ble_eq_true rfl)) dL_law_242 ⟨(Nat.le_of_ble_eq_true rfl), (Nat.le_of_ble_eq_true rfl)⟩) hS (fun q _ h => h.elim) (fun q h => h.elim) (fun r_5 u_6 t H1 locs ht hvm hw hB hz1 hk1 hS => ?_)
  have hP := hP.kept (fun k q hk => hk1 q.1 (hP k q hk).lt (fun h => h))
  generalize H1 = H at hP hS ⊢
  have hw : r_5 = 1 := hw
  subst hw
  refine lv_iload hx hb dL_law_245 (lv_at hl 1 rfl) ?_
  refine lv_icmp_eq (tgt := 252) hx hb dL_law_247 (by decide) (fun _ => ?_) (fun h => absurd h (by decide))
  refine lv_iload hx hb dL_law_252 (lv_at hl 1 rfl) ?_
  refine lv_if_ne (tgt := 269) hx hb dL_law_254 (by decide) (fun _ => ?_) (fun h => absurd h (by decide))
  refine lv_goto (tgt := 1046) hx hb dL_law_269 (by decide) ?_
  refine W.widen (k := 1000) (n := 20000) (Nat.le_of_ble_eq_true rfl) (Nat.le_of_ble_eq_true rfl) ?_
  rw [hAq] at hS
  exact lw_tail l hnt C0 hS (lv_sub hl (l' := [(4, .int 0), (0, .ref b)]) [2, 6] rfl)

set_option maxHeartbeats 4000000 in
set_option maxRecDepth 100000 in
theorem lw_case_2 {p : Program} {e : Env} {s : State} {m : MethodId} {below : List Frame} {meth : Method} {c : Code} (l : Launch) (hnt : l.stackTraces = false) {b : Nat} {xs : Nat → Int32} (C0 : lw_At p s m meth c b 4 xs) (dC : Nat → ClassId) (dI : Nat → Nat → Nat) {ax : Nat} {av : Nat} {at_ : Nat} {adr : Nat} {ao : Nat} {aar : Nat} {ad0 : Nat} {d1 : Nat} {d2 : Nat} {d3 : Nat} {d4 : Nat} {d5 : Nat} {cD : ClassId} {fd : Nat → Option Nat} {o1 : Nat} {o2 : Nat} {o3 : Nat} {o4 : Nat} {o5 : Nat} {r1 : Nat} {r2 : Nat} {r3 : Nat} {r4 : Nat} {r5 : Nat} {am : Nat} {m1 : Nat} {m2 : Nat} {m3 : Nat} {m4 : Nat} {m5 : Nat} {m6 : Nat} {cM : ClassId} {g1 : Nat → Int32} {cN : ClassId} {zo : Nat} {cL : ClassId} {fo : Nat → Int64} {H : Heap} {locs : List Loc} {ls : Array Slot} (hT : vs_T (fun q : Nat => s.heap.size ≤ q) (s.setDrawn s.drawn) s.heap) (hK : va_K (dC, dI) vwCl [(cD, .object RX0), (cM, .int), (cN, .int), (cL, .long)] (s.setDrawn s.drawn)) (hP : va_P (dC, dI) vwCl [(ax, .inr (3, [.ref av, .ref at_])), (av, .inr (1, [.int 0, .int 0, .ref adr, .ref ao, .ref aar])), (adr, .inl (cD, 10, .inr (.inr (.inr (.inr (va_up fd 0 (some ad0))))))), (ad0, .inr (0, [.int 0, .int 0, .int 0, .int 0, .int 0, .int 0, .int 0, .int 0, .ref d1, .ref d2, .ref d3, .int 0, .ref d4, .ref d5])), (ao, .inr (2, [.int 0, .int 0, .ref o1, .ref o2, .ref o3, .ref o4, .ref o5])), (aar, .inr (2, [.int 0, .int 0, .ref r1, .ref r2, .ref r3, .ref r4, .ref r5])), (am, .inr (4, [.int 0, .int 0, .ref m1, .ref m2, .ref m3, .ref m4, .ref m5, .ref m6])), (m1, .inl (cM, 90, .inl g1)), (m5, .inl (cN, 3, .inl (fun _ => 0))), (zo, .inl (cL, 1, .inr (.inl fo)))] H) (hD : va_D (fun q : Nat => s.heap.size ≤ q) [(ax, .inr (3, [.ref av, .ref at_])), (av, .inr (1, [.int 0, .int 0, .ref adr, .ref ao, .ref aar])), (adr, .inl (cD, 10, .inr (.inr (.inr (.inr (va_up fd 0 (some ad0))))))), (ad0, .inr (0, [.int 0, .int 0, .int 0, .int 0, .int 0, .int 0, .int 0, .int 0, .ref d1, .ref d2, .ref d3, .int 0, .ref d4, .ref d5])), (ao, .inr (2, [.int 0, .int 0, .ref o1, .ref o2, .ref o3, .ref o4, .ref o5])), (aar, .inr (2, [.int 0, .int 0, .ref r1, .ref r2, .ref r3, .ref r4, .ref r5])), (am, .inr (4, [.int 0, .int 0, .ref m1, .ref m2, .ref m3, .ref m4, .ref m5, .ref m6])), (m1, .inl (cM, 90, .inl g1)), (m5, .inl (cN, 3, .inl (fun _ => 0))), (zo, .inl (cL, 1, .inr (.inl fo)))]) (hS : va_S (fun q : Nat => s.heap.size ≤ q) s.heap H locs) (hl : lv_has ls 9 [(4, .int 0), (3, .ref zo), (2, .ref am), (1, .ref ax), (0, .ref b)]) : W p l e room_1 (s.setDrawn s.drawn) m #[Value.ref b] below meth c H locs 157 7002 (lw_Z below #[Value.ref b] s) (F0 m 272 ls []) := by
  obtain ⟨hx, hb, hr, hml, hown, hts0, hX, hbl, hlocks, hgv⟩ := id C0
  have hts1 : ∀ w ∈ wsL_law, w.before #[Value.ref b] s = true := fun w h => hts0 w (wsL_law_in w h)
  have hts := dr_words hts1 s.drawn
  have hA : ∀ q : Nat, s.heap.size ≤ q → (fun q : Nat => s.heap.size ≤ q) q := fun _ h => h
  have hbA : ¬ (fun q : Nat => s.heap.size ≤ q) b := Nat.not_le.mpr hbl
  have hd0 := Drawn.sameBut.refl s.drawn lw_cs
  obtain ⟨A, hAq⟩ : ∃ A : Nat → Prop, A = (fun q : Nat => s.heap.size ≤ q) := ⟨_, rfl⟩
  rw [← hAq] at hA hbA hT hD hS
  refine lv_aload_n hx hb dL_law_272 rfl (lv_at hl 3 rfl) ?_
  refine lv_aload_n hx hb dL_law_273 rfl (lv_at hl 4 rfl) ?_
  refine lv_iload hx hb dL_law_274 (lv_at hl 0 rfl) ?_
  refine lv_iconst (v := 1) hx hb dL_law_276 (by decide) ?_
  refine lv_iadd hx hb dL_law_277 ?_
  refine lv_topi (nm_r (e' := 1) (by decide) ?_)
  refine va_sld hx hb hX hbl hbA hS (i := 1) (vs_vi (by decide)) dL_law_278 ?_
  refine W.eq (g2 := F0 m 279 ls [.int (xs 1), .ref ax]) rfl ?_
  refine lv_aload_n hx hb dL_law_279 rfl (lv_at hl 4 rfl) ?_
  refine lv_iload hx hb dL_law_280 (lv_at hl 0 rfl) ?_
  refine lv_iconst (v := 2) hx hb dL_law_282 (by decide) ?_
  refine lv_iadd hx hb dL_law_283 ?_
  refine lv_topi (nm_r (e' := 2) (by decide) ?_)
  refine va_sld hx hb hX hbl hbA hS (i := 2) (vs_vi (by decide)) dL_law_284 ?_
  refine W.eq (g2 := F0 m 285 ls [.int (xs 2), .int (xs 1), .ref ax]) rfl ?_
  refine lv_aload_n hx hb dL_law_285 rfl (lv_at hl 4 rfl) ?_
  refine lv_iload hx hb dL_law_286 (lv_at hl 0 rfl) ?_
  refine lv_iconst (v := 3) hx hb dL_law_288 (by decide) ?_
  refine lv_iadd hx hb dL_law_289 ?_
  refine lv_topi (nm_r (e' := 3) (by decide) ?_)
  refine va_sld hx hb hX hbl hbA hS (i := 3) (vs_vi (by decide)) dL_law_290 ?_
  refine W.eq (g2 := F0 m 291 ls [.int (xs 3), .int (xs 2), .int (xs 1), .ref ax]) rfl ?_
  refine lv_aload_n hx hb dL_law_291 rfl (lv_at hl 1 rfl) ?_
  have hPc := hP.sub (ws' := [(ax, .inr (3, [.ref av, .ref at_])), (av, .inr (1, [.int 0, .int 0, .ref adr, .ref ao, .ref aar])), (zo, .inl (cL, 1, .inr (.inl fo)))]) [0, 1, 9] rfl
  have hKc := hK.sub (tys' := [(cL, .long)]) [3] rfl
  have hDc := hD.sub (ws' := [(ax, .inr (3, [.ref av, .ref at_])), (av, .inr (1, [.int 0, .int 0, .ref adr, .ref ao, .ref aar])), (zo, .inl (cL, 1, .inr (.inl fo)))]) [0, 1, 9] (by decide) rfl
  have hFc := va_free (wc := [(ax, .inr (3, [.ref av, .ref at_])), (av, .inr (1, [.int 0, .int 0, .ref adr, .ref ao, .ref aar])), (zo, .inl (cL, 1, .inr (.inl fo)))]) hD hS hA [0, 1, 9] rfl
  have hTc := (hT.kept hS).narrow hFc
  refine vx_calli (vx_runSX (As := [.ref ax, .int (xs 1), .int (xs 2), .int (xs 3), .ref zo]) (rest := []) ⟨hx, hb, hml, hown, hts⟩ (cl_set l hnt dC dI (xs 1) (xs 2) (xs 3) ax av at_ adr ao aar zo cL fo H.size) (vx_cwSW 5 hts gL_law_L_set rfl rfl rfl (by decide +kernel) ⟨(Nat.le_of_ble_eq_true rfl), (Nat.le_of_ble_eq_true rfl)⟩) ⟨pY_blind, pY_pre hPc hDc hKc hTc⟩ rfl rfl hl.1 rfl (lv_room (Nat.le_of_ble_eq_true rfl)) dL_law_292 ⟨(Nat.le_of_ble_eq_true rfl), (Nat.le_of_ble_eq_true rfl)⟩) hS (fun q _ h => hFc q h) hFc (fun q _ h => hFc q h) (fun E ce q9 ux t H1 locs ht hvm hp hBX hz1 hk1 hS hce hcv hcl => ?_) (fun r_1 u_2 t H1 locs ht hvm hw hB hz1 hk1 hS => ?_)
  · exact hBX.elim
  obtain ⟨hP1, hK1, hD1⟩ := hB
  rw [ht] at hP1
  have hK1 := va_K.moved hvm.symm hK1
  obtain ⟨hP, hD⟩ := va_join (wr := [(adr, .inl (cD, 10, .inr (.inr (.inr (.inr (va_up fd 0 (some ad0))))))), (ad0, .inr (0, [.int 0, .int 0, .int 0, .int 0, .int 0, .int 0, .int 0, .int 0, .ref d1, .ref d2, .ref d3, .int 0, .ref d4, .ref d5])), (ao, .inr (2, [.int 0, .int 0, .ref o1, .ref o2, .ref o3, .ref o4, .ref o5])), (aar, .inr (2, [.int 0, .int 0, .ref r1, .ref r2, .ref r3, .ref r4, .ref r5])), (am, .inr (4, [.int 0, .int 0, .ref m1, .ref m2, .ref m3, .ref m4, .ref m5, .ref m6])), (m1, .inl (cM, 90, .inl g1)), (m5, .inl (cN, 3, .inl (fun _ => 0)))]) (w1 := []) hP hD [0, 1, 9] [2, 3, 4, 5, 6, 7, 8] rfl rfl (by decide) (by decide) hk1 hFc hP1 hD1
  generalize H1 = H at hP hS ⊢
  have hP : va_P (dC, dI) vwCl [(adr, .inl (cD, 10, .inr (.inr (.inr (.inr (va_up fd 0 (some ad0))))))), (ad0, .inr (0, [.int 0, .int 0, .int 0, .int 0, .int 0, .int 0, .int 0, .int 0, .ref d1, .ref d2, .ref d3, .int 0, .ref d4, .ref d5])), (ao, .inr (2, [.int 0, .int 0, .ref o1, .ref o2, .ref o3, .ref o4, .ref o5])), (aar, .inr (2, [.int 0, .int 0, .ref r1, .ref r2, .ref r3, .ref r4, .ref r5])), (am, .inr (4, [.int 0, .int 0, .ref m1, .ref m2, .ref m3, .ref m4, .ref m5, .ref m6])), (m1, .inl (cM, 90, .inl g1)), (m5, .inl (cN, 3, .inl (fun _ => 0)))] H := hP
  have hD : va_D A [(adr, .inl (cD, 10, .inr (.inr (.inr (.inr (va_up fd 0 (some ad0))))))), (ad0, .inr (0, [.int 0, .int 0, .int 0, .int 0, .int 0, .int 0, .int 0, .int 0, .ref d1, .ref d2, .ref d3, .int 0, .ref d4, .ref d5])), (ao, .inr (2, [.int 0, .int 0, .ref o1, .ref o2, .ref o3, .ref o4, .ref o5])), (aar, .inr (2, [.int 0, .int 0, .ref r1, .ref r2, .ref r3, .ref r4, .ref r5])), (am, .inr (4, [.int 0, .int 0, .ref m1, .ref m2, .ref m3, .ref m4, .ref m5, .ref m6])), (m1, .inl (cM, 90, .inl g1)), (m5, .inl (cN, 3, .inl (fun _ => 0)))] := hD
  have hK : va_K (dC, dI) vwCl [(cD, .object RX0), (cM, .int), (cN, .int), (cL, .long)] _ := hK
  refine W.widen (k := 158) (n := 7008) (by omega) (by omega) ?_
  have hw : r_1 = 1 := hw
  subst hw
  refine lv_istore (lv' := [(5, .int 1), (4, .int 0), (3, .ref zo), (2, .ref am), (1, .ref ax), (0, .ref b)]) hx hb dL_law_295 hl (by decide) rfl (fun ls hl => ?_)
  refine lv_aload_n hx hb dL_law_297 rfl (lv_at hl 3 rfl) ?_
  refine lv_aload_n hx hb dL_law_298 rfl (lv_at hl 5 rfl) ?_
  refine lv_iload hx hb dL_law_299 (lv_at hl 1 rfl) ?_
  refine lv_iconst (v := 1) hx hb dL_law_301 (by decide) ?_
  refine lv_iadd hx hb dL_law_302 ?_
  refine lv_topi (nm_r (e' := 1) (by decide) ?_)
  refine va_sld hx hb hX hbl hbA hS (i := 1) (vs_vi (by decide)) dL_law_303 ?_
  refine W.eq (g2 := F0 m 304 ls [.int (xs 1), .ref am]) rfl ?_
  refine lv_aload_n hx hb dL_law_304 rfl (lv_at hl 5 rfl) ?_
  refine lv_iload hx hb dL_law_305 (lv_at hl 1 rfl) ?_
  refine lv_iconst (v := 2) hx hb dL_law_307 (by decide) ?_
  refine lv_iadd hx hb dL_law_308 ?_
  refine lv_topi (nm_r (e' := 2) (by decide) ?_)
  refine va_sld hx hb hX hbl hbA hS (i := 2) (vs_vi (by decide)) dL_law_309 ?_
  refine W.eq (g2 := F0 m 310 ls [.int (xs 2), .int (xs 1), .ref am]) rfl ?_
  refine lv_aload_n hx hb dL_law_310 rfl (lv_at hl 5 rfl) ?_
  refine lv_iload hx hb dL_law_311 (lv_at hl 1 rfl) ?_
  refine lv_iconst (v := 3) hx hb dL_law_313 (by decide) ?_
  refine lv_iadd hx hb dL_law_314 ?_
  refine lv_topi (nm_r (e' := 3) (by decide) ?_)
  refine va_sld hx hb hX hbl hbA hS (i := 3) (vs_vi (by decide)) dL_law_315 ?_
  refine W.eq (g2 := F0 m 316 ls [.int (xs 3), .int (xs 2), .int (xs 1), .ref am]) rfl ?_
  have hPc := hP.sub (ws' := [(am, .inr (4, [.int 0, .int 0, .ref m1, .ref m2, .ref m3, .ref m4, .ref m5, .ref m6]))]) [4] rfl
  have hKc := hK.sub (tys' := []) [] rfl
  have hDc := hD.sub (ws' := [(am, .inr (4, [.int 0, .int 0, .ref m1, .ref m2, .ref m3, .ref m4, .ref m5, .ref m6]))]) [4] (by decide) rfl
  have hFc := va_free (wc := [(am, .inr (4, [.int 0, .int 0, .ref m1, .ref m2, .ref m3, .ref m4, .ref m5, .ref m6]))]) hD hS hA [4] rfl
  refine va_calli (va_runV (As := [.int (xs 1), .int (xs 2), .int (xs 3)]) (rest := []) ⟨hx, hb, hml, hown, hts⟩ (ct_X4_set l dC dI 0 (xs 1) (xs 2) (xs 3) am m1 m2 m3 m4 m5 m6 H.size) (cwV 3 hts gL_law_X4_set rfl rfl rfl (by decide +kernel) ⟨(Nat.le_of_ble_eq_true rfl), (Nat.le_of_ble_eq_true rfl)⟩) ⟨pZ_blind, va_recv hKc hPc (ci := 4) (q0 := 0) rfl rfl, pZ_pre hPc hDc hKc⟩ rfl rfl hl.1 rfl (lv_room (Nat.le_of_ble_eq_true rfl)) dL_law_316 ⟨(Nat.le_of_ble_eq_true rfl), (Nat.le_of_ble_eq_true rfl)⟩) hS (fun q _ h => hFc q h) hFc (fun r_3 u_4 t H1 locs ht hvm hw hB hz1 hk1 hS => ?_)
  obtain ⟨hP1, hK1, hD1⟩ := hB
  rw [ht] at hP1
  have hK1 := va_K.moved hvm.symm hK1
  obtain ⟨hP, hD⟩ := va_join (wr := [(adr, .inl (cD, 10, .inr (.inr (.inr (.inr (va_up fd 0 (some ad0))))))), (ad0, .inr (0, [.int 0, .int 0, .int 0, .int 0, .int 0, .int 0, .int 0, .int 0, .ref d1, .ref d2, .ref d3, .int 0, .ref d4, .ref d5])), (ao, .inr (2, [.int 0, .int 0, .ref o1, .ref o2, .ref o3, .ref o4, .ref o5])), (aar, .inr (2, [.int 0, .int 0, .ref r1, .ref r2, .ref r3, .ref r4, .ref r5])), (m1, .inl (cM, 90, .inl g1)), (m5, .inl (cN, 3, .inl (fun _ => 0)))]) (w1 := [(am, .inr (4, [.int 1, .int 0, .ref m1, .ref m2, .ref m3, .ref m4, .ref m5, .ref m6]))]) hP hD [4] [0, 1, 2, 3, 5, 6] rfl rfl (by decide) (by decide) hk1 hFc hP1 hD1
  generalize H1 = H at hP hS ⊢
  have hP : va_P (dC, dI) vwCl [(adr, .inl (cD, 10, .inr (.inr (.inr (.inr (va_up fd 0 (some ad0))))))), (ad0, .inr (0, [.int 0, .int 0, .int 0, .int 0, .int 0, .int 0, .int 0, .int 0, .ref d1, .ref d2, .ref d3, .int 0, .ref d4, .ref d5])), (ao, .inr (2, [.int 0, .int 0, .ref o1, .ref o2, .ref o3, .ref o4, .ref o5])), (aar, .inr (2, [.int 0, .int 0, .ref r1, .ref r2, .ref r3, .ref r4, .ref r5])), (m1, .inl (cM, 90, .inl g1)), (m5, .inl (cN, 3, .inl (fun _ => 0))), (am, .inr (4, [.int 1, .int 0, .ref m1, .ref m2, .ref m3, .ref m4, .ref m5, .ref m6]))] H := hP
  have hD : va_D A [(adr, .inl (cD, 10, .inr (.inr (.inr (.inr (va_up fd 0 (some ad0))))))), (ad0, .inr (0, [.int 0, .int 0, .int 0, .int 0, .int 0, .int 0, .int 0, .int 0, .ref d1, .ref d2, .ref d3, .int 0, .ref d4, .ref d5])), (ao, .inr (2, [.int 0, .int 0, .ref o1, .ref o2, .ref o3, .ref o4, .ref o5])), (aar, .inr (2, [.int 0, .int 0, .ref r1, .ref r2, .ref r3, .ref r4, .ref r5])), (m1, .inl (cM, 90, .inl g1)), (m5, .inl (cN, 3, .inl (fun _ => 0))), (am, .inr (4, [.int 1, .int 0, .ref m1, .ref m2, .ref m3, .ref m4, .ref m5, .ref m6]))] := hD
  have hK : va_K (dC, dI) vwCl [(cD, .object RX0), (cM, .int), (cN, .int), (cL, .long)] _ := hK
  have hw : r_3 = 0 := hw
  subst hw
  refine lv_istore (lv' := [(6, .int 0), (5, .int 1), (4, .int 0), (3, .ref zo), (2, .ref am), (1, .ref ax), (0, .ref b)]) hx hb dL_law_319 hl (by decide) rfl (fun ls hl => ?_)
  refine lv_aload_n hx hb dL_law_321 rfl (lv_at hl 4 rfl) ?_
  have hPc := hP.sub (ws' := [(am, .inr (4, [.int 1, .int 0, .ref m1, .ref m2, .ref m3, .ref m4, .ref m5, .ref m6]))]) [6] rfl
  have hKc := hK.sub (tys' := []) [] rfl
  refine va_calli (va_runV (As := []) (rest := []) ⟨hx, hb, hml, hown, hts⟩ (ct_X4_thrown l dC dI 1 0 am m1 m2 m3 m4 m5 m6) (cwV 0 hts gL_law_X4_thrown rfl rfl rfl (by decide +kernel) ⟨(Nat.le_of_ble_eq_true rfl), (Nat.le_of_ble_eq_true rfl)⟩) ⟨pR_blind, va_recv hKc hPc (ci := 4) (q0 := 0) rfl rfl, pR_pre hPc hKc⟩ rfl rfl hl.1 rfl (lv_room (Nat.le_of_ble_eq_true rfl)) dL_law_322 ⟨(Nat.le_of_ble_eq_true rfl), (Nat.le_of_ble_eq_true rfl)⟩) hS (fun q _ h => h.elim) (fun q h => h.elim) (fun r_5 u_6 t H1 locs ht hvm hw hB hz1 hk1 hS => ?_)
  have hP := hP.kept (fun k q hk => hk1 q.1 (hP k q hk).lt (fun h => h))
  generalize H1 = H at hP hS ⊢
  have hw : r_5 = 1 := hw
  subst hw
  refine lv_iload hx hb dL_law_325 (lv_at hl 1 rfl) ?_
  refine lv_icmp_eq (tgt := 332) hx hb dL_law_327 (by decide) (fun _ => ?_) (fun h => absurd h (by decide))
  refine lv_iload hx hb dL_law_332 (lv_at hl 1 rfl) ?_
  refine lv_if_ne (tgt := 349) hx hb dL_law_334 (by decide) (fun _ => ?_) (fun h => absurd h (by decide))
  refine lv_goto (tgt := 1046) hx hb dL_law_349 (by decide) ?_
  refine W.widen (k := 1000) (n := 20000) (Nat.le_of_ble_eq_true rfl) (Nat.le_of_ble_eq_true rfl) ?_
  rw [hAq] at hS
  exact lw_tail l hnt C0 hS (lv_sub hl (l' := [(4, .int 0), (0, .ref b)]) [2, 6] rfl)

set_option maxHeartbeats 4000000 in
set_option maxRecDepth 100000 in
theorem lw_case_3 {p : Program} {e : Env} {s : State} {m : MethodId} {below : List Frame} {meth : Method} {c : Code} (l : Launch) (hnt : l.stackTraces = false) {b : Nat} {xs : Nat → Int32} (C0 : lw_At p s m meth c b 4 xs) (dC : Nat → ClassId) (dI : Nat → Nat → Nat) {ax : Nat} {av : Nat} {at_ : Nat} {adr : Nat} {ao : Nat} {aar : Nat} {ad0 : Nat} {d1 : Nat} {d2 : Nat} {d3 : Nat} {d4 : Nat} {d5 : Nat} {cD : ClassId} {fd : Nat → Option Nat} {o1 : Nat} {o2 : Nat} {o3 : Nat} {o4 : Nat} {o5 : Nat} {r1 : Nat} {r2 : Nat} {r3 : Nat} {r4 : Nat} {r5 : Nat} {am : Nat} {m1 : Nat} {m2 : Nat} {m3 : Nat} {m4 : Nat} {m5 : Nat} {m6 : Nat} {cM : ClassId} {g1 : Nat → Int32} {cN : ClassId} {zo : Nat} {cL : ClassId} {fo : Nat → Int64} {H : Heap} {locs : List Loc} {ls : Array Slot} (hT : vs_T (fun q : Nat => s.heap.size ≤ q) (s.setDrawn s.drawn) s.heap) (hK : va_K (dC, dI) vwCl [(cD, .object RX0), (cM, .int), (cN, .int), (cL, .long)] (s.setDrawn s.drawn)) (hP : va_P (dC, dI) vwCl [(ax, .inr (3, [.ref av, .ref at_])), (av, .inr (1, [.int 0, .int 0, .ref adr, .ref ao, .ref aar])), (adr, .inl (cD, 10, .inr (.inr (.inr (.inr (va_up fd 0 (some ad0))))))), (ad0, .inr (0, [.int 0, .int 0, .int 0, .int 0, .int 0, .int 0, .int 0, .int 0, .ref d1, .ref d2, .ref d3, .int 0, .ref d4, .ref d5])), (ao, .inr (2, [.int 0, .int 0, .ref o1, .ref o2, .ref o3, .ref o4, .ref o5])), (aar, .inr (2, [.int 0, .int 0, .ref r1, .ref r2, .ref r3, .ref r4, .ref r5])), (am, .inr (4, [.int 0, .int 0, .ref m1, .ref m2, .ref m3, .ref m4, .ref m5, .ref m6])), (m1, .inl (cM, 90, .inl g1)), (m5, .inl (cN, 3, .inl (fun _ => 0))), (zo, .inl (cL, 1, .inr (.inl fo)))] H) (hD : va_D (fun q : Nat => s.heap.size ≤ q) [(ax, .inr (3, [.ref av, .ref at_])), (av, .inr (1, [.int 0, .int 0, .ref adr, .ref ao, .ref aar])), (adr, .inl (cD, 10, .inr (.inr (.inr (.inr (va_up fd 0 (some ad0))))))), (ad0, .inr (0, [.int 0, .int 0, .int 0, .int 0, .int 0, .int 0, .int 0, .int 0, .ref d1, .ref d2, .ref d3, .int 0, .ref d4, .ref d5])), (ao, .inr (2, [.int 0, .int 0, .ref o1, .ref o2, .ref o3, .ref o4, .ref o5])), (aar, .inr (2, [.int 0, .int 0, .ref r1, .ref r2, .ref r3, .ref r4, .ref r5])), (am, .inr (4, [.int 0, .int 0, .ref m1, .ref m2, .ref m3, .ref m4, .ref m5, .ref m6])), (m1, .inl (cM, 90, .inl g1)), (m5, .inl (cN, 3, .inl (fun _ => 0))), (zo, .inl (cL, 1, .inr (.inl fo)))]) (hS : va_S (fun q : Nat => s.heap.size ≤ q) s.heap H locs) (hl : lv_has ls 9 [(4, .int 0), (3, .ref zo), (2, .ref am), (1, .ref ax), (0, .ref b)]) : W p l e room_1 (s.setDrawn s.drawn) m #[Value.ref b] below meth c H locs 157 7002 (lw_Z below #[Value.ref b] s) (F0 m 352 ls []) := by
  obtain ⟨hx, hb, hr, hml, hown, hts0, hX, hbl, hlocks, hgv⟩ := id C0
  have hts1 : ∀ w ∈ wsL_law, w.before #[Value.ref b] s = true := fun w h => hts0 w (wsL_law_in w h)
  have hts := dr_words hts1 s.drawn
  have hA : ∀ q : Nat, s.heap.size ≤ q → (fun q : Nat => s.heap.size ≤ q) q := fun _ h => h
  have hbA : ¬ (fun q : Nat => s.heap.size ≤ q) b := Nat.not_le.mpr hbl
  have hd0 := Drawn.sameBut.refl s.drawn lw_cs
  obtain ⟨A, hAq⟩ : ∃ A : Nat → Prop, A = (fun q : Nat => s.heap.size ≤ q) := ⟨_, rfl⟩
  rw [← hAq] at hA hbA hT hD hS
  refine lv_aload_n hx hb dL_law_352 rfl (lv_at hl 3 rfl) ?_
  refine lv_aload_n hx hb dL_law_353 rfl (lv_at hl 4 rfl) ?_
  refine lv_iload hx hb dL_law_354 (lv_at hl 0 rfl) ?_
  refine lv_iconst (v := 1) hx hb dL_law_356 (by decide) ?_
  refine lv_iadd hx hb dL_law_357 ?_
  refine lv_topi (nm_r (e' := 1) (by decide) ?_)
  refine va_sld hx hb hX hbl hbA hS (i := 1) (vs_vi (by decide)) dL_law_358 ?_
  refine W.eq (g2 := F0 m 359 ls [.int (xs 1), .ref ax]) rfl ?_
  refine lv_aload_n hx hb dL_law_359 rfl (lv_at hl 4 rfl) ?_
  refine lv_iload hx hb dL_law_360 (lv_at hl 0 rfl) ?_
  refine lv_iconst (v := 2) hx hb dL_law_362 (by decide) ?_
  refine lv_iadd hx hb dL_law_363 ?_
  refine lv_topi (nm_r (e' := 2) (by decide) ?_)
  refine va_sld hx hb hX hbl hbA hS (i := 2) (vs_vi (by decide)) dL_law_364 ?_
  refine W.eq (g2 := F0 m 365 ls [.int (xs 2), .int (xs 1), .ref ax]) rfl ?_
  refine lv_aload_n hx hb dL_law_365 rfl (lv_at hl 1 rfl) ?_
  have hPc := hP.sub (ws' := [(ax, .inr (3, [.ref av, .ref at_])), (av, .inr (1, [.int 0, .int 0, .ref adr, .ref ao, .ref aar])), (zo, .inl (cL, 1, .inr (.inl fo)))]) [0, 1, 9] rfl
  have hKc := hK.sub (tys' := [(cL, .long)]) [3] rfl
  have hDc := hD.sub (ws' := [(ax, .inr (3, [.ref av, .ref at_])), (av, .inr (1, [.int 0, .int 0, .ref adr, .ref ao, .ref aar])), (zo, .inl (cL, 1, .inr (.inl fo)))]) [0, 1, 9] (by decide) rfl
  have hFc := va_free (wc := [(ax, .inr (3, [.ref av, .ref at_])), (av, .inr (1, [.int 0, .int 0, .ref adr, .ref ao, .ref aar])), (zo, .inl (cL, 1, .inr (.inl fo)))]) hD hS hA [0, 1, 9] rfl
  have hTc := (hT.kept hS).narrow hFc
  refine vx_calli (vx_runSX (As := [.ref ax, .int (xs 1), .int (xs 2), .ref zo]) (rest := []) ⟨hx, hb, hml, hown, hts⟩ (cl_whisper l hnt dC dI (xs 1) (xs 2) ax av at_ adr ao aar zo cL fo H.size) (vx_cwSW 4 hts gL_law_L_whisper rfl rfl rfl (by decide +kernel) ⟨(Nat.le_of_ble_eq_true rfl), (Nat.le_of_ble_eq_true rfl)⟩) ⟨pY_blind, pY_pre hPc hDc hKc hTc⟩ rfl rfl hl.1 rfl (lv_room (Nat.le_of_ble_eq_true rfl)) dL_law_366 ⟨(Nat.le_of_ble_eq_true rfl), (Nat.le_of_ble_eq_true rfl)⟩) hS (fun q _ h => hFc q h) hFc (fun q _ h => hFc q h) (fun E ce q9 ux t H1 locs ht hvm hp hBX hz1 hk1 hS hce hcv hcl => ?_) (fun r_1 u_2 t H1 locs ht hvm hw hB hz1 hk1 hS => ?_)
  · exact hBX.elim
  obtain ⟨hP1, hK1, hD1⟩ := hB
  rw [ht] at hP1
  have hK1 := va_K.moved hvm.symm hK1
  obtain ⟨hP, hD⟩ := va_join (wr := [(adr, .inl (cD, 10, .inr (.inr (.inr (.inr (va_up fd 0 (some ad0))))))), (ad0, .inr (0, [.int 0, .int 0, .int 0, .int 0, .int 0, .int 0, .int 0, .int 0, .ref d1, .ref d2, .ref d3, .int 0, .ref d4, .ref d5])), (ao, .inr (2, [.int 0, .int 0, .ref o1, .ref o2, .ref o3, .ref o4, .ref o5])), (aar, .inr (2, [.int 0, .int 0, .ref r1, .ref r2, .ref r3, .ref r4, .ref r5])), (am, .inr (4, [.int 0, .int 0, .ref m1, .ref m2, .ref m3, .ref m4, .ref m5, .ref m6])), (m1, .inl (cM, 90, .inl g1)), (m5, .inl (cN, 3, .inl (fun _ => 0)))]) (w1 := []) hP hD [0, 1, 9] [2, 3, 4, 5, 6, 7, 8] rfl rfl (by decide) (by decide) hk1 hFc hP1 hD1
  generalize H1 = H at hP hS ⊢
  have hP : va_P (dC, dI) vwCl [(adr, .inl (cD, 10, .inr (.inr (.inr (.inr (va_up fd 0 (some ad0))))))), (ad0, .inr (0, [.int 0, .int 0, .int 0, .int 0, .int 0, .int 0, .int 0, .int 0, .ref d1, .ref d2, .ref d3, .int 0, .ref d4, .ref d5])), (ao, .inr (2, [.int 0, .int 0, .ref o1, .ref o2, .ref o3, .ref o4, .ref o5])), (aar, .inr (2, [.int 0, .int 0, .ref r1, .ref r2, .ref r3, .ref r4, .ref r5])), (am, .inr (4, [.int 0, .int 0, .ref m1, .ref m2, .ref m3, .ref m4, .ref m5, .ref m6])), (m1, .inl (cM, 90, .inl g1)), (m5, .inl (cN, 3, .inl (fun _ => 0)))] H := hP
  have hD : va_D A [(adr, .inl (cD, 10, .inr (.inr (.inr (.inr (va_up fd 0 (some ad0))))))), (ad0, .inr (0, [.int 0, .int 0, .int 0, .int 0, .int 0, .int 0, .int 0, .int 0, .ref d1, .ref d2, .ref d3, .int 0, .ref d4, .ref d5])), (ao, .inr (2, [.int 0, .int 0, .ref o1, .ref o2, .ref o3, .ref o4, .ref o5])), (aar, .inr (2, [.int 0, .int 0, .ref r1, .ref r2, .ref r3, .ref r4, .ref r5])), (am, .inr (4, [.int 0, .int 0, .ref m1, .ref m2, .ref m3, .ref m4, .ref m5, .ref m6])), (m1, .inl (cM, 90, .inl g1)), (m5, .inl (cN, 3, .inl (fun _ => 0)))] := hD
  have hK : va_K (dC, dI) vwCl [(cD, .object RX0), (cM, .int), (cN, .int), (cL, .long)] _ := hK
  refine W.widen (k := 158) (n := 7008) (by omega) (by omega) ?_
  have hw : r_1 = 1 := hw
  subst hw
  refine lv_istore (lv' := [(5, .int 1), (4, .int 0), (3, .ref zo), (2, .ref am), (1, .ref ax), (0, .ref b)]) hx hb dL_law_369 hl (by decide) rfl (fun ls hl => ?_)
  refine lv_aload_n hx hb dL_law_371 rfl (lv_at hl 3 rfl) ?_
  refine lv_aload_n hx hb dL_law_372 rfl (lv_at hl 5 rfl) ?_
  refine lv_iload hx hb dL_law_373 (lv_at hl 1 rfl) ?_
  refine lv_iconst (v := 1) hx hb dL_law_375 (by decide) ?_
  refine lv_iadd hx hb dL_law_376 ?_
  refine lv_topi (nm_r (e' := 1) (by decide) ?_)
  refine va_sld hx hb hX hbl hbA hS (i := 1) (vs_vi (by decide)) dL_law_377 ?_
  refine W.eq (g2 := F0 m 378 ls [.int (xs 1), .ref am]) rfl ?_
  refine lv_aload_n hx hb dL_law_378 rfl (lv_at hl 5 rfl) ?_
  refine lv_iload hx hb dL_law_379 (lv_at hl 1 rfl) ?_
  refine lv_iconst (v := 2) hx hb dL_law_381 (by decide) ?_
  refine lv_iadd hx hb dL_law_382 ?_
  refine lv_topi (nm_r (e' := 2) (by decide) ?_)
  refine va_sld hx hb hX hbl hbA hS (i := 2) (vs_vi (by decide)) dL_law_383 ?_
  refine W.eq (g2 := F0 m 384 ls [.int (xs 2), .int (xs 1), .ref am]) rfl ?_
  have hPc := hP.sub (ws' := [(am, .inr (4, [.int 0, .int 0, .ref m1, .ref m2, .ref m3, .ref m4, .ref m5, .ref m6]))]) [4] rfl
  have hKc := hK.sub (tys' := []) [] rfl
  have hDc := hD.sub (ws' := [(am, .inr (4, [.int 0, .int 0, .ref m1, .ref m2, .ref m3, .ref m4, .ref m5, .ref m6]))]) [4] (by decide) rfl
  have hFc := va_free (wc := [(am, .inr (4, [.int 0, .int 0, .ref m1, .ref m2, .ref m3, .ref m4, .ref m5, .ref m6]))]) hD hS hA [4] rfl
  refine va_calli (va_runV (As := [.int (xs 1), .int (xs 2)]) (rest := []) ⟨hx, hb, hml, hown, hts⟩ (ct_X4_whisper l dC dI 0 (xs 1) (xs 2) am m1 m2 m3 m4 m5 m6 H.size) (cwV 2 hts gL_law_X4_whisper rfl rfl rfl (by decide +kernel) ⟨(Nat.le_of_ble_eq_true rfl), (Nat.le_of_ble_eq_true rfl)⟩) ⟨pZ_blind, va_recv hKc hPc (ci := 4) (q0 := 0) rfl rfl, pZ_pre hPc hDc hKc⟩ rfl rfl hl.1 rfl (lv_room (Nat.le_of_ble_eq_true rfl)) dL_law_384 ⟨(Nat.le_of_ble_eq_true rfl), (Nat.le_of_ble_eq_true rfl)⟩) hS (fun q _ h => hFc q h) hFc (fun r_3 u_4 t H1 locs ht hvm hw hB hz1 hk1 hS => ?_)
  obtain ⟨hP1, hK1, hD1⟩ := hB
  rw [ht] at hP1
  have hK1 := va_K.moved hvm.symm hK1
  obtain ⟨hP, hD⟩ := va_join (wr := [(adr, .inl (cD, 10, .inr (.inr (.inr (.inr (va_up fd 0 (some ad0))))))), (ad0, .inr (0, [.int 0, .int 0, .int 0, .int 0, .int 0, .int 0, .int 0, .int 0, .ref d1, .ref d2, .ref d3, .int 0, .ref d4, .ref d5])), (ao, .inr (2, [.int 0, .int 0, .ref o1, .ref o2, .ref o3, .ref o4, .ref o5])), (aar, .inr (2, [.int 0, .int 0, .ref r1, .ref r2, .ref r3, .ref r4, .ref r5])), (m1, .inl (cM, 90, .inl g1)), (m5, .inl (cN, 3, .inl (fun _ => 0)))]) (w1 := [(am, .inr (4, [.int 1, .int 0, .ref m1, .ref m2, .ref m3, .ref m4, .ref m5, .ref m6]))]) hP hD [4] [0, 1, 2, 3, 5, 6] rfl rfl (by decide) (by decide) hk1 hFc hP1 hD1
  generalize H1 = H at hP hS ⊢
  have hP : va_P (dC, dI) vwCl [(adr, .inl (cD, 10, .inr (.inr (.inr (.inr (va_up fd 0 (some ad0))))))), (ad0, .inr (0, [.int 0, .int 0, .int 0, .int 0, .int 0, .int 0, .int 0, .int 0, .ref d1, .ref d2, .ref d3, .int 0, .ref d4, .ref d5])), (ao, .inr (2, [.int 0, .int 0, .ref o1, .ref o2, .ref o3, .ref o4, .ref o5])), (aar, .inr (2, [.int 0, .int 0, .ref r1, .ref r2, .ref r3, .ref r4, .ref r5])), (m1, .inl (cM, 90, .inl g1)), (m5, .inl (cN, 3, .inl (fun _ => 0))), (am, .inr (4, [.int 1, .int 0, .ref m1, .ref m2, .ref m3, .ref m4, .ref m5, .ref m6]))] H := hP
  have hD : va_D A [(adr, .inl (cD, 10, .inr (.inr (.inr (.inr (va_up fd 0 (some ad0))))))), (ad0, .inr (0, [.int 0, .int 0, .int 0, .int 0, .int 0, .int 0, .int 0, .int 0, .ref d1, .ref d2, .ref d3, .int 0, .ref d4, .ref d5])), (ao, .inr (2, [.int 0, .int 0, .ref o1, .ref o2, .ref o3, .ref o4, .ref o5])), (aar, .inr (2, [.int 0, .int 0, .ref r1, .ref r2, .ref r3, .ref r4, .ref r5])), (m1, .inl (cM, 90, .inl g1)), (m5, .inl (cN, 3, .inl (fun _ => 0))), (am, .inr (4, [.int 1, .int 0, .ref m1, .ref m2, .ref m3, .ref m4, .ref m5, .ref m6]))] := hD
  have hK : va_K (dC, dI) vwCl [(cD, .object RX0), (cM, .int), (cN, .int), (cL, .long)] _ := hK
  have hw : r_3 = 0 := hw
  subst hw
  refine lv_istore (lv' := [(6, .int 0), (5, .int 1), (4, .int 0), (3, .ref zo), (2, .ref am), (1, .ref ax), (0, .ref b)]) hx hb dL_law_387 hl (by decide) rfl (fun ls hl => ?_)
  refine lv_aload_n hx hb dL_law_389 rfl (lv_at hl 4 rfl) ?_
  have hPc := hP.sub (ws' := [(am, .inr (4, [.int 1, .int 0, .ref m1, .ref m2, .ref m3, .ref m4, .ref m5, .ref m6]))]) [6] rfl
  have hKc := hK.sub (tys' := []) [] rfl
  refine va_calli (va_runV (As := []) (rest := []) ⟨hx, hb, hml, hown, hts⟩ (ct_X4_thrown l dC dI 1 0 am m1 m2 m3 m4 m5 m6) (cwV 0 hts gL_law_X4_thrown rfl rfl rfl (by decide +kernel) ⟨(Nat.le_of_ble_eq_true rfl), (Nat.le_of_ble_eq_true rfl)⟩) ⟨pR_blind, va_recv hKc hPc (ci := 4) (q0 := 0) rfl rfl, pR_pre hPc hKc⟩ rfl rfl hl.1 rfl (lv_room (Nat.le_of_ble_eq_true rfl)) dL_law_390 ⟨(Nat.le_of_ble_eq_true rfl), (Nat.le_of_ble_eq_true rfl)⟩) hS (fun q _ h => h.elim) (fun q h => h.elim) (fun r_5 u_6 t H1 locs ht hvm hw hB hz1 hk1 hS => ?_)
  have hP := hP.kept (fun k q hk => hk1 q.1 (hP k q hk).lt (fun h => h))
  generalize H1 = H at hP hS ⊢
  have hw : r_5 = 1 := hw
  subst hw
  refine lv_iload hx hb dL_law_393 (lv_at hl 1 rfl) ?_
  refine lv_icmp_eq (tgt := 400) hx hb dL_law_395 (by decide) (fun _ => ?_) (fun h => absurd h (by decide))
  refine lv_iload hx hb dL_law_400 (lv_at hl 1 rfl) ?_
  refine lv_if_ne (tgt := 424) hx hb dL_law_402 (by decide) (fun _ => ?_) (fun h => absurd h (by decide))
  refine lv_goto (tgt := 1046) hx hb dL_law_424 (by decide) ?_
  refine W.widen (k := 1000) (n := 20000) (Nat.le_of_ble_eq_true rfl) (Nat.le_of_ble_eq_true rfl) ?_
  rw [hAq] at hS
  exact lw_tail l hnt C0 hS (lv_sub hl (l' := [(4, .int 0), (0, .ref b)]) [2, 6] rfl)

set_option maxHeartbeats 4000000 in
set_option maxRecDepth 100000 in
theorem lw_case_4 {p : Program} {e : Env} {s : State} {m : MethodId} {below : List Frame} {meth : Method} {c : Code} (l : Launch) (hnt : l.stackTraces = false) {b : Nat} {xs : Nat → Int32} (C0 : lw_At p s m meth c b 4 xs) (dC : Nat → ClassId) (dI : Nat → Nat → Nat) {ax : Nat} {av : Nat} {at_ : Nat} {adr : Nat} {ao : Nat} {aar : Nat} {ad0 : Nat} {d1 : Nat} {d2 : Nat} {d3 : Nat} {d4 : Nat} {d5 : Nat} {cD : ClassId} {fd : Nat → Option Nat} {o1 : Nat} {o2 : Nat} {o3 : Nat} {o4 : Nat} {o5 : Nat} {r1 : Nat} {r2 : Nat} {r3 : Nat} {r4 : Nat} {r5 : Nat} {am : Nat} {m1 : Nat} {m2 : Nat} {m3 : Nat} {m4 : Nat} {m5 : Nat} {m6 : Nat} {cM : ClassId} {g1 : Nat → Int32} {cN : ClassId} {zo : Nat} {cL : ClassId} {fo : Nat → Int64} {H : Heap} {locs : List Loc} {ls : Array Slot} (hT : vs_T (fun q : Nat => s.heap.size ≤ q) (s.setDrawn s.drawn) s.heap) (hK : va_K (dC, dI) vwCl [(cD, .object RX0), (cM, .int), (cN, .int), (cL, .long)] (s.setDrawn s.drawn)) (hP : va_P (dC, dI) vwCl [(ax, .inr (3, [.ref av, .ref at_])), (av, .inr (1, [.int 0, .int 0, .ref adr, .ref ao, .ref aar])), (adr, .inl (cD, 10, .inr (.inr (.inr (.inr (va_up fd 0 (some ad0))))))), (ad0, .inr (0, [.int 0, .int 0, .int 0, .int 0, .int 0, .int 0, .int 0, .int 0, .ref d1, .ref d2, .ref d3, .int 0, .ref d4, .ref d5])), (ao, .inr (2, [.int 0, .int 0, .ref o1, .ref o2, .ref o3, .ref o4, .ref o5])), (aar, .inr (2, [.int 0, .int 0, .ref r1, .ref r2, .ref r3, .ref r4, .ref r5])), (am, .inr (4, [.int 0, .int 0, .ref m1, .ref m2, .ref m3, .ref m4, .ref m5, .ref m6])), (m1, .inl (cM, 90, .inl g1)), (m5, .inl (cN, 3, .inl (fun _ => 0))), (zo, .inl (cL, 1, .inr (.inl fo)))] H) (hD : va_D (fun q : Nat => s.heap.size ≤ q) [(ax, .inr (3, [.ref av, .ref at_])), (av, .inr (1, [.int 0, .int 0, .ref adr, .ref ao, .ref aar])), (adr, .inl (cD, 10, .inr (.inr (.inr (.inr (va_up fd 0 (some ad0))))))), (ad0, .inr (0, [.int 0, .int 0, .int 0, .int 0, .int 0, .int 0, .int 0, .int 0, .ref d1, .ref d2, .ref d3, .int 0, .ref d4, .ref d5])), (ao, .inr (2, [.int 0, .int 0, .ref o1, .ref o2, .ref o3, .ref o4, .ref o5])), (aar, .inr (2, [.int 0, .int 0, .ref r1, .ref r2, .ref r3, .ref r4, .ref r5])), (am, .inr (4, [.int 0, .int 0, .ref m1, .ref m2, .ref m3, .ref m4, .ref m5, .ref m6])), (m1, .inl (cM, 90, .inl g1)), (m5, .inl (cN, 3, .inl (fun _ => 0))), (zo, .inl (cL, 1, .inr (.inl fo)))]) (hS : va_S (fun q : Nat => s.heap.size ≤ q) s.heap H locs) (hl : lv_has ls 9 [(4, .int 0), (3, .ref zo), (2, .ref am), (1, .ref ax), (0, .ref b)]) : W p l e room_1 (s.setDrawn s.drawn) m #[Value.ref b] below meth c H locs 157 7002 (lw_Z below #[Value.ref b] s) (F0 m 427 ls []) := by
  obtain ⟨hx, hb, hr, hml, hown, hts0, hX, hbl, hlocks, hgv⟩ := id C0
  have hts1 : ∀ w ∈ wsL_law, w.before #[Value.ref b] s = true := fun w h => hts0 w (wsL_law_in w h)
  have hts := dr_words hts1 s.drawn
  have hA : ∀ q : Nat, s.heap.size ≤ q → (fun q : Nat => s.heap.size ≤ q) q := fun _ h => h
  have hbA : ¬ (fun q : Nat => s.heap.size ≤ q) b := Nat.not_le.mpr hbl
  have hd0 := Drawn.sameBut.refl s.drawn lw_cs
  obtain ⟨A, hAq⟩ : ∃ A : Nat → Prop, A = (fun q : Nat => s.heap.size ≤ q) := ⟨_, rfl⟩
  rw [← hAq] at hA hbA hT hD hS
  refine lv_aload_n hx hb dL_law_427 rfl (lv_at hl 3 rfl) ?_
  refine lv_aload_n hx hb dL_law_428 rfl (lv_at hl 4 rfl) ?_
  refine lv_iload hx hb dL_law_429 (lv_at hl 0 rfl) ?_
  refine lv_iconst (v := 1) hx hb dL_law_431 (by decide) ?_
  refine lv_iadd hx hb dL_law_432 ?_
  refine lv_topi (nm_r (e' := 1) (by decide) ?_)
  refine va_sld hx hb hX hbl hbA hS (i := 1) (vs_vi (by decide)) dL_law_433 ?_
  refine W.eq (g2 := F0 m 434 ls [.int (xs 1), .ref ax]) rfl ?_
  refine lv_aload_n hx hb dL_law_434 rfl (lv_at hl 4 rfl) ?_
  refine lv_iload hx hb dL_law_435 (lv_at hl 0 rfl) ?_
  refine lv_iconst (v := 2) hx hb dL_law_437 (by decide) ?_
  refine lv_iadd hx hb dL_law_438 ?_
  refine lv_topi (nm_r (e' := 2) (by decide) ?_)
  refine va_sld hx hb hX hbl hbA hS (i := 2) (vs_vi (by decide)) dL_law_439 ?_
  refine W.eq (g2 := F0 m 440 ls [.int (xs 2), .int (xs 1), .ref ax]) rfl ?_
  refine lv_aload_n hx hb dL_law_440 rfl (lv_at hl 1 rfl) ?_
  have hPc := hP.sub (ws' := [(ax, .inr (3, [.ref av, .ref at_])), (av, .inr (1, [.int 0, .int 0, .ref adr, .ref ao, .ref aar])), (zo, .inl (cL, 1, .inr (.inl fo)))]) [0, 1, 9] rfl
  have hKc := hK.sub (tys' := [(cL, .long)]) [3] rfl
  have hDc := hD.sub (ws' := [(ax, .inr (3, [.ref av, .ref at_])), (av, .inr (1, [.int 0, .int 0, .ref adr, .ref ao, .ref aar])), (zo, .inl (cL, 1, .inr (.inl fo)))]) [0, 1, 9] (by decide) rfl
  have hFc := va_free (wc := [(ax, .inr (3, [.ref av, .ref at_])), (av, .inr (1, [.int 0, .int 0, .ref adr, .ref ao, .ref aar])), (zo, .inl (cL, 1, .inr (.inl fo)))]) hD hS hA [0, 1, 9] rfl
  have hTc := (hT.kept hS).narrow hFc
  refine vx_calli (vx_runSX (As := [.ref ax, .int (xs 1), .int (xs 2), .ref zo]) (rest := []) ⟨hx, hb, hml, hown, hts⟩ (cl_door l hnt dC dI (xs 1) (xs 2) ax av at_ adr ao aar zo cL fo H.size) (vx_cwSW 4 hts gL_law_L_door rfl rfl rfl (by decide +kernel) ⟨(Nat.le_of_ble_eq_true rfl), (Nat.le_of_ble_eq_true rfl)⟩) ⟨pY_blind, pY_pre hPc hDc hKc hTc⟩ rfl rfl hl.1 rfl (lv_room (Nat.le_of_ble_eq_true rfl)) dL_law_441 ⟨(Nat.le_of_ble_eq_true rfl), (Nat.le_of_ble_eq_true rfl)⟩) hS (fun q _ h => hFc q h) hFc (fun q _ h => hFc q h) (fun E ce q9 ux t H1 locs ht hvm hp hBX hz1 hk1 hS hce hcv hcl => ?_) (fun r_1 u_2 t H1 locs ht hvm hw hB hz1 hk1 hS => ?_)
  · exact hBX.elim
  obtain ⟨hP1, hK1, hD1⟩ := hB
  rw [ht] at hP1
  have hK1 := va_K.moved hvm.symm hK1
  obtain ⟨hP, hD⟩ := va_join (wr := [(adr, .inl (cD, 10, .inr (.inr (.inr (.inr (va_up fd 0 (some ad0))))))), (ad0, .inr (0, [.int 0, .int 0, .int 0, .int 0, .int 0, .int 0, .int 0, .int 0, .ref d1, .ref d2, .ref d3, .int 0, .ref d4, .ref d5])), (ao, .inr (2, [.int 0, .int 0, .ref o1, .ref o2, .ref o3, .ref o4, .ref o5])), (aar, .inr (2, [.int 0, .int 0, .ref r1, .ref r2, .ref r3, .ref r4, .ref r5])), (am, .inr (4, [.int 0, .int 0, .ref m1, .ref m2, .ref m3, .ref m4, .ref m5, .ref m6])), (m1, .inl (cM, 90, .inl g1)), (m5, .inl (cN, 3, .inl (fun _ => 0)))]) (w1 := []) hP hD [0, 1, 9] [2, 3, 4, 5, 6, 7, 8] rfl rfl (by decide) (by decide) hk1 hFc hP1 hD1
  generalize H1 = H at hP hS ⊢
  have hP : va_P (dC, dI) vwCl [(adr, .inl (cD, 10, .inr (.inr (.inr (.inr (va_up fd 0 (some ad0))))))), (ad0, .inr (0, [.int 0, .int 0, .int 0, .int 0, .int 0, .int 0, .int 0, .int 0, .ref d1, .ref d2, .ref d3, .int 0, .ref d4, .ref d5])), (ao, .inr (2, [.int 0, .int 0, .ref o1, .ref o2, .ref o3, .ref o4, .ref o5])), (aar, .inr (2, [.int 0, .int 0, .ref r1, .ref r2, .ref r3, .ref r4, .ref r5])), (am, .inr (4, [.int 0, .int 0, .ref m1, .ref m2, .ref m3, .ref m4, .ref m5, .ref m6])), (m1, .inl (cM, 90, .inl g1)), (m5, .inl (cN, 3, .inl (fun _ => 0)))] H := hP
  have hD : va_D A [(adr, .inl (cD, 10, .inr (.inr (.inr (.inr (va_up fd 0 (some ad0))))))), (ad0, .inr (0, [.int 0, .int 0, .int 0, .int 0, .int 0, .int 0, .int 0, .int 0, .ref d1, .ref d2, .ref d3, .int 0, .ref d4, .ref d5])), (ao, .inr (2, [.int 0, .int 0, .ref o1, .ref o2, .ref o3, .ref o4, .ref o5])), (aar, .inr (2, [.int 0, .int 0, .ref r1, .ref r2, .ref r3, .ref r4, .ref r5])), (am, .inr (4, [.int 0, .int 0, .ref m1, .ref m2, .ref m3, .ref m4, .ref m5, .ref m6])), (m1, .inl (cM, 90, .inl g1)), (m5, .inl (cN, 3, .inl (fun _ => 0)))] := hD
  have hK : va_K (dC, dI) vwCl [(cD, .object RX0), (cM, .int), (cN, .int), (cL, .long)] _ := hK
  refine W.widen (k := 158) (n := 7008) (by omega) (by omega) ?_
  have hw : r_1 = 1 := hw
  subst hw
  refine lv_istore (lv' := [(5, .int 1), (4, .int 0), (3, .ref zo), (2, .ref am), (1, .ref ax), (0, .ref b)]) hx hb dL_law_444 hl (by decide) rfl (fun ls hl => ?_)
  refine lv_aload_n hx hb dL_law_446 rfl (lv_at hl 3 rfl) ?_
  refine lv_aload_n hx hb dL_law_447 rfl (lv_at hl 5 rfl) ?_
  refine lv_iload hx hb dL_law_448 (lv_at hl 1 rfl) ?_
  refine lv_iconst (v := 1) hx hb dL_law_450 (by decide) ?_
  refine lv_iadd hx hb dL_law_451 ?_
  refine lv_topi (nm_r (e' := 1) (by decide) ?_)
  refine va_sld hx hb hX hbl hbA hS (i := 1) (vs_vi (by decide)) dL_law_452 ?_
  refine W.eq (g2 := F0 m 453 ls [.int (xs 1), .ref am]) rfl ?_
  refine lv_aload_n hx hb dL_law_453 rfl (lv_at hl 5 rfl) ?_
  refine lv_iload hx hb dL_law_454 (lv_at hl 1 rfl) ?_
  refine lv_iconst (v := 2) hx hb dL_law_456 (by decide) ?_
  refine lv_iadd hx hb dL_law_457 ?_
  refine lv_topi (nm_r (e' := 2) (by decide) ?_)
  refine va_sld hx hb hX hbl hbA hS (i := 2) (vs_vi (by decide)) dL_law_458 ?_
  refine W.eq (g2 := F0 m 459 ls [.int (xs 2), .int (xs 1), .ref am]) rfl ?_
  have hPc := hP.sub (ws' := [(am, .inr (4, [.int 0, .int 0, .ref m1, .ref m2, .ref m3, .ref m4, .ref m5, .ref m6]))]) [4] rfl
  have hKc := hK.sub (tys' := []) [] rfl
  have hDc := hD.sub (ws' := [(am, .inr (4, [.int 0, .int 0, .ref m1, .ref m2, .ref m3, .ref m4, .ref m5, .ref m6]))]) [4] (by decide) rfl
  have hFc := va_free (wc := [(am, .inr (4, [.int 0, .int 0, .ref m1, .ref m2, .ref m3, .ref m4, .ref m5, .ref m6]))]) hD hS hA [4] rfl
  refine va_calli (va_runV (As := [.int (xs 1), .int (xs 2)]) (rest := []) ⟨hx, hb, hml, hown, hts⟩ (ct_X4_door l dC dI 0 (xs 1) (xs 2) am m1 m2 m3 m4 m5 m6 H.size) (cwV 2 hts gL_law_X4_door rfl rfl rfl (by decide +kernel) ⟨(Nat.le_of_ble_eq_true rfl), (Nat.le_of_ble_eq_true rfl)⟩) ⟨pZ_blind, va_recv hKc hPc (ci := 4) (q0 := 0) rfl rfl, pZ_pre hPc hDc hKc⟩ rfl rfl hl.1 rfl (lv_room (Nat.le_of_ble_eq_true rfl)) dL_law_459 ⟨(Nat.le_of_ble_eq_true rfl), (Nat.le_of_ble_eq_true rfl)⟩) hS (fun q _ h => hFc q h) hFc (fun r_3 u_4 t H1 locs ht hvm hw hB hz1 hk1 hS => ?_)
  obtain ⟨hP1, hK1, hD1⟩ := hB
  rw [ht] at hP1
  have hK1 := va_K.moved hvm.symm hK1
  obtain ⟨hP, hD⟩ := va_join (wr := [(adr, .inl (cD, 10, .inr (.inr (.inr (.inr (va_up fd 0 (some ad0))))))), (ad0, .inr (0, [.int 0, .int 0, .int 0, .int 0, .int 0, .int 0, .int 0, .int 0, .ref d1, .ref d2, .ref d3, .int 0, .ref d4, .ref d5])), (ao, .inr (2, [.int 0, .int 0, .ref o1, .ref o2, .ref o3, .ref o4, .ref o5])), (aar, .inr (2, [.int 0, .int 0, .ref r1, .ref r2, .ref r3, .ref r4, .ref r5])), (m1, .inl (cM, 90, .inl g1)), (m5, .inl (cN, 3, .inl (fun _ => 0)))]) (w1 := [(am, .inr (4, [.int 1, .int 0, .ref m1, .ref m2, .ref m3, .ref m4, .ref m5, .ref m6]))]) hP hD [4] [0, 1, 2, 3, 5, 6] rfl rfl (by decide) (by decide) hk1 hFc hP1 hD1
  generalize H1 = H at hP hS ⊢
  have hP : va_P (dC, dI) vwCl [(adr, .inl (cD, 10, .inr (.inr (.inr (.inr (va_up fd 0 (some ad0))))))), (ad0, .inr (0, [.int 0, .int 0, .int 0, .int 0, .int 0, .int 0, .int 0, .int 0, .ref d1, .ref d2, .ref d3, .int 0, .ref d4, .ref d5])), (ao, .inr (2, [.int 0, .int 0, .ref o1, .ref o2, .ref o3, .ref o4, .ref o5])), (aar, .inr (2, [.int 0, .int 0, .ref r1, .ref r2, .ref r3, .ref r4, .ref r5])), (m1, .inl (cM, 90, .inl g1)), (m5, .inl (cN, 3, .inl (fun _ => 0))), (am, .inr (4, [.int 1, .int 0, .ref m1, .ref m2, .ref m3, .ref m4, .ref m5, .ref m6]))] H := hP
  have hD : va_D A [(adr, .inl (cD, 10, .inr (.inr (.inr (.inr (va_up fd 0 (some ad0))))))), (ad0, .inr (0, [.int 0, .int 0, .int 0, .int 0, .int 0, .int 0, .int 0, .int 0, .ref d1, .ref d2, .ref d3, .int 0, .ref d4, .ref d5])), (ao, .inr (2, [.int 0, .int 0, .ref o1, .ref o2, .ref o3, .ref o4, .ref o5])), (aar, .inr (2, [.int 0, .int 0, .ref r1, .ref r2, .ref r3, .ref r4, .ref r5])), (m1, .inl (cM, 90, .inl g1)), (m5, .inl (cN, 3, .inl (fun _ => 0))), (am, .inr (4, [.int 1, .int 0, .ref m1, .ref m2, .ref m3, .ref m4, .ref m5, .ref m6]))] := hD
  have hK : va_K (dC, dI) vwCl [(cD, .object RX0), (cM, .int), (cN, .int), (cL, .long)] _ := hK
  have hw : r_3 = 0 := hw
  subst hw
  refine lv_istore (lv' := [(6, .int 0), (5, .int 1), (4, .int 0), (3, .ref zo), (2, .ref am), (1, .ref ax), (0, .ref b)]) hx hb dL_law_462 hl (by decide) rfl (fun ls hl => ?_)
  refine lv_aload_n hx hb dL_law_464 rfl (lv_at hl 4 rfl) ?_
  have hPc := hP.sub (ws' := [(am, .inr (4, [.int 1, .int 0, .ref m1, .ref m2, .ref m3, .ref m4, .ref m5, .ref m6]))]) [6] rfl
  have hKc := hK.sub (tys' := []) [] rfl
  refine va_calli (va_runV (As := []) (rest := []) ⟨hx, hb, hml, hown, hts⟩ (ct_X4_thrown l dC dI 1 0 am m1 m2 m3 m4 m5 m6) (cwV 0 hts gL_law_X4_thrown rfl rfl rfl (by decide +kernel) ⟨(Nat.le_of_ble_eq_true rfl), (Nat.le_of_ble_eq_true rfl)⟩) ⟨pR_blind, va_recv hKc hPc (ci := 4) (q0 := 0) rfl rfl, pR_pre hPc hKc⟩ rfl rfl hl.1 rfl (lv_room (Nat.le_of_ble_eq_true rfl)) dL_law_465 ⟨(Nat.le_of_ble_eq_true rfl), (Nat.le_of_ble_eq_true rfl)⟩) hS (fun q _ h => h.elim) (fun q h => h.elim) (fun r_5 u_6 t H1 locs ht hvm hw hB hz1 hk1 hS => ?_)
  have hP := hP.kept (fun k q hk => hk1 q.1 (hP k q hk).lt (fun h => h))
  generalize H1 = H at hP hS ⊢
  have hw : r_5 = 1 := hw
  subst hw
  refine lv_iload hx hb dL_law_468 (lv_at hl 1 rfl) ?_
  refine lv_icmp_eq (tgt := 475) hx hb dL_law_470 (by decide) (fun _ => ?_) (fun h => absurd h (by decide))
  refine lv_iload hx hb dL_law_475 (lv_at hl 1 rfl) ?_
  refine lv_if_ne (tgt := 492) hx hb dL_law_477 (by decide) (fun _ => ?_) (fun h => absurd h (by decide))
  refine lv_goto (tgt := 1046) hx hb dL_law_492 (by decide) ?_
  refine W.widen (k := 1000) (n := 20000) (Nat.le_of_ble_eq_true rfl) (Nat.le_of_ble_eq_true rfl) ?_
  rw [hAq] at hS
  exact lw_tail l hnt C0 hS (lv_sub hl (l' := [(4, .int 0), (0, .ref b)]) [2, 6] rfl)
