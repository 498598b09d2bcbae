set_option maxHeartbeats 4000000 in
set_option maxRecDepth 100000 in
theorem whole_start {p : Program} {e : Env} {s : State} {m : MethodId} {below : List Frame} {meth : Method} {c : Code} (l : Launch) (hflags : l.flags = flags0) {b L : Nat} {xs : Nat → Int32} (hL : L ≤ 4) (C0 : lw_At p s m meth c b L xs) : W p l e room_1 s m #[Value.ref b] below meth c s.heap [] 0 0 (lw_Z below #[Value.ref b] s) (entryFrame m ([Value.ref b] : List Value).toArray 9) := by
  have hnt : l.stackTraces = false := vs_nt hflags
  obtain ⟨hx, hb, hr, hml, hown, hts0, hX, hbl, hlocks, hgv⟩ := id C0
  have hts1 : ∀ w ∈ wsL_law, w.before #[Value.ref b] s = true := fun w h => hts0 w (wsL_law_in w h)
  have hts := dr_words hts1 s.drawn
  have hA : ∀ q : Nat, s.heap.size ≤ q → (fun q : Nat => s.heap.size ≤ q) q := fun _ h => h
  have hbA : ¬ (fun q : Nat => s.heap.size ≤ q) b := Nat.not_le.mpr hbl
  have hd0 := Drawn.sameBut.refl s.drawn lw_cs
  obtain ⟨c0, iS0, hKn0⟩ := u_known (C := RX0) (T := TX0) (N := 14) (n := 14) hts0 inX0 (hts1 (.instantiable RX0 14) (List.mem_of_getElem? (i := 29) rfl))
  obtain ⟨c1, iS1, hKn1⟩ := u_known (C := RX1) (T := TX1) (N := 5) (n := 5) hts0 inX1 (hts1 (.instantiable RX1 5) (List.mem_of_getElem? (i := 14) rfl))
  obtain ⟨c2, iS2, hKn2⟩ := u_known (C := RX2) (T := TX2) (N := 7) (n := 7) hts0 inX2 (hts1 (.instantiable RX2 7) (List.mem_of_getElem? (i := 25) rfl))
  obtain ⟨c3, iS3, hKn3⟩ := u_known (C := RX3) (T := TX3) (N := 2) (n := 2) hts0 inX3 (hts1 (.instantiable RX3 2) (List.mem_of_getElem? (i := 1) rfl))
  obtain ⟨c4, iS4, hKn4⟩ := u_known (C := RX4) (T := TX4) (N := 8) (n := 8) hts0 inX4 (hts1 (.instantiable RX4 8) (List.mem_of_getElem? (i := 4) rfl))
  obtain ⟨dC, dI, hKc⟩ : ∃ (dC : Nat → ClassId) (dI : Nat → Nat → Nat), ∀ (k : Nat) (q : vw_C), vwCl[k]? = some q → u_Kn s q.1 q.2.1 q.2.2 (dC k) (dI k) := by
    refine ⟨fun k => if k = 0 then c0 else if k = 1 then c1 else if k = 2 then c2 else if k = 3 then c3 else c4, fun k => if k = 0 then iS0 else if k = 1 then iS1 else if k = 2 then iS2 else if k = 3 then iS3 else iS4, ?_⟩
    intro k q hq
    match k, hq with
    | 0, hq => cases hq; exact hKn0
    | 1, hq => cases hq; exact hKn1
    | 2, hq => cases hq; exact hKn2
    | 3, hq => cases hq; exact hKn3
    | 4, hq => cases hq; exact hKn4
    | k + 5, hq => simp [vwCl] at hq
  have hT0 := vs_T_of (A := (fun q : Nat => s.heap.size ≤ q)) hgv hts0 (fun a h => Nat.not_le.mpr h)
  have hT := hT0.same (U := s.setDrawn s.drawn) rfl
  have hAO : vs_O (s.setDrawn s.drawn) := (vs_O_of hts0).same rfl
  have hK : va_K (dC, dI) vwCl [] (s.setDrawn s.drawn) := ⟨hKc, fun k q h => by simp at h⟩
  have hP : va_P (dC, dI) vwCl [] s.heap := fun k q h => by simp at h
  refine W.base ?_
  obtain ⟨A, hAq⟩ : ∃ A : Nat → Prop, A = (fun q : Nat => s.heap.size ≤ q) := ⟨_, rfl⟩
  rw [← hAq] at hA hbA hT
  have hD : va_D A [] := ⟨fun i j p q h => by simp at h, fun k q h => by simp at h⟩
  have hS : va_S A s.heap s.heap [] := va_S.rf
  have hl := lv_entry ([.ref b]) (n := 9) (Nat.le_of_ble_eq_true rfl)
  rw [lg_entry_eq]
  generalize (lg_sl ([.ref b]) ++ List.replicate (9 - (lg_sl ([.ref b])).length) Slot.unset).toArray = ls at hl ⊢
  have hl : lv_has ls 9 [(0, .ref b)] := hl
  refine va_new (D := (dC, dI)) (ci := 3) (fs := [.null, .null]) (C := RX3) (T := TX3) (N := 2) hx hb hts inlX3 tyX3 tyX3_ok hown (hts (.classLink RL 8 RX3) (List.mem_of_getElem? (i := 0) rfl)) (hts (.instantiable RX3 2) (List.mem_of_getElem? (i := 1) rfl)) (hts (.initialized RX3) (List.mem_of_getElem? (i := 2) rfl)) hK hP hD hS hA rfl (by decide +kernel) (Nat.le_of_ble_eq_true rfl) (Nat.le_of_ble_eq_true rfl) dL_law_0 (fun q_1 H hP hD hS => ?_)
  have hP : va_P (dC, dI) vwCl [(q_1, .inr (3, [.null, .null]))] H := hP
  have hD : va_D A [(q_1, .inr (3, [.null, .null]))] := hD
  refine W.widen (k := 1) (n := 2) (by omega) (by omega) ?_
  refine lv_dup hx hb dL_law_3 rfl ?_
  have hPc := hP.sub (ws' := [(q_1, .inr (3, [.null, .null]))]) [0] rfl
  have hKc := hK.sub (tys' := []) [] rfl
  have hDc := hD.sub (ws' := [(q_1, .inr (3, [.null, .null]))]) [0] (by decide) rfl
  have hFc := va_free (wc := [(q_1, .inr (3, [.null, .null]))]) hD hS hA [0] rfl
  refine va_callv (va_runI (As := []) (rest := [.ref q_1]) ⟨hx, hb, hml, hown, hts⟩ (ct_X3_init l dC dI q_1 H.size) (cwI 0 hts gL_law_X3_init rfl rfl rfl (hts (.initialized RX3) (List.mem_of_getElem? (i := 2) rfl)) (hts (.methodLink RL 58 yX3_init) (List.mem_of_getElem? (i := 7) rfl)) (hts (.instanceMethod yX3_init) (List.mem_of_getElem? (i := 8) rfl)) rfl (by decide +kernel) ⟨(Nat.le_of_ble_eq_true rfl), (Nat.le_of_ble_eq_true rfl)⟩) ⟨pA_blind, pA_pre hPc hDc hKc hAO⟩ rfl rfl hl.1 rfl (lv_room (Nat.le_of_ble_eq_true rfl)) dL_law_4 ⟨(Nat.le_of_ble_eq_true rfl), (Nat.le_of_ble_eq_true rfl)⟩) hS (fun q _ h => hFc q h) hFc (fun u_3 t H1 locs ht hvm hw hB hz1 hk1 hS => ?_)
  obtain ⟨av_4, at__5, adr_6, ao_7, aar_8, ad0_9, d1_10, d2_11, d3_12, d4_13, d5_14, o1_15, o2_16, o3_17, o4_18, o5_19, r1_20, r2_21, r3_22, r4_23, r5_24, cD_25, fd_26, hP1, hK1, hD1⟩ := hB
  rw [ht] at hP1
  have hK1 := va_K.moved hvm.symm hK1
  obtain ⟨hP, hD⟩ := va_join (wr := []) (w1 := [(q_1, .inr (3, [.ref av_4, .ref at__5])), (av_4, .inr (1, [.int 0, .int 0, .ref adr_6, .ref ao_7, .ref aar_8])), (adr_6, .inl (cD_25, 10, .inr (.inr (.inr (.inr (va_up fd_26 0 (some ad0_9))))))), (ad0_9, .inr (0, [.int 0, .int 0, .int 0, .int 0, .int 0, .int 0, .int 0, .int 0, .ref d1_10, .ref d2_11, .ref d3_12, .int 0, .ref d4_13, .ref d5_14])), (ao_7, .inr (2, [.int 0, .int 0, .ref o1_15, .ref o2_16, .ref o3_17, .ref o4_18, .ref o5_19])), (aar_8, .inr (2, [.int 0, .int 0, .ref r1_20, .ref r2_21, .ref r3_22, .ref r4_23, .ref r5_24]))]) hP hD [0] [] rfl rfl (by decide) (by decide) hk1 hFc hP1 hD1
  have hK := hK.app (hK1.sub (tys' := [(cD_25, .object RX0)]) [0] rfl)
  generalize H1 = H at hP hS ⊢
  have hP : va_P (dC, dI) vwCl [(q_1, .inr (3, [.ref av_4, .ref at__5])), (av_4, .inr (1, [.int 0, .int 0, .ref adr_6, .ref ao_7, .ref aar_8])), (adr_6, .inl (cD_25, 10, .inr (.inr (.inr (.inr (va_up fd_26 0 (some ad0_9))))))), (ad0_9, .inr (0, [.int 0, .int 0, .int 0, .int 0, .int 0, .int 0, .int 0, .int 0, .ref d1_10, .ref d2_11, .ref d3_12, .int 0, .ref d4_13, .ref d5_14])), (ao_7, .inr (2, [.int 0, .int 0, .ref o1_15, .ref o2_16, .ref o3_17, .ref o4_18, .ref o5_19])), (aar_8, .inr (2, [.int 0, .int 0, .ref r1_20, .ref r2_21, .ref r3_22, .ref r4_23, .ref r5_24]))] H := hP
  have hD : va_D A [(q_1, .inr (3, [.ref av_4, .ref at__5])), (av_4, .inr (1, [.int 0, .int 0, .ref adr_6, .ref ao_7, .ref aar_8])), (adr_6, .inl (cD_25, 10, .inr (.inr (.inr (.inr (va_up fd_26 0 (some ad0_9))))))), (ad0_9, .inr (0, [.int 0, .int 0, .int 0, .int 0, .int 0, .int 0, .int 0, .int 0, .ref d1_10, .ref d2_11, .ref d3_12, .int 0, .ref d4_13, .ref d5_14])), (ao_7, .inr (2, [.int 0, .int 0, .ref o1_15, .ref o2_16, .ref o3_17, .ref o4_18, .ref o5_19])), (aar_8, .inr (2, [.int 0, .int 0, .ref r1_20, .ref r2_21, .ref r3_22, .ref r4_23, .ref r5_24]))] := hD
  have hK : va_K (dC, dI) vwCl [(cD_25, .object RX0)] _ := hK
  refine W.widen (k := 149) (n := 4180) (by omega) (by omega) ?_
  refine lv_astore_n (lv' := [(1, .ref q_1), (0, .ref b)]) hx hb dL_law_7 rfl hl (by decide) rfl (fun ls hl => ?_)
  refine va_new (D := (dC, dI)) (ci := 4) (fs := [.int 0, .int 0, .null, .null, .null, .null, .null, .null]) (C := RX4) (T := TX4) (N := 8) hx hb hts inlX4 tyX4 tyX4_ok hown (hts (.classLink RL 59 RX4) (List.mem_of_getElem? (i := 3) rfl)) (hts (.instantiable RX4 8) (List.mem_of_getElem? (i := 4) rfl)) (hts (.initialized RX4) (List.mem_of_getElem? (i := 5) rfl)) hK hP hD hS hA rfl (by decide +kernel) (Nat.le_of_ble_eq_true rfl) (Nat.le_of_ble_eq_true rfl) dL_law_8 (fun q_27 H hP hD hS => ?_)
  have hP : va_P (dC, dI) vwCl [(q_1, .inr (3, [.ref av_4, .ref at__5])), (av_4, .inr (1, [.int 0, .int 0, .ref adr_6, .ref ao_7, .ref aar_8])), (adr_6, .inl (cD_25, 10, .inr (.inr (.inr (.inr (va_up fd_26 0 (some ad0_9))))))), (ad0_9, .inr (0, [.int 0, .int 0, .int 0, .int 0, .int 0, .int 0, .int 0, .int 0, .ref d1_10, .ref d2_11, .ref d3_12, .int 0, .ref d4_13, .ref d5_14])), (ao_7, .inr (2, [.int 0, .int 0, .ref o1_15, .ref o2_16, .ref o3_17, .ref o4_18, .ref o5_19])), (aar_8, .inr (2, [.int 0, .int 0, .ref r1_20, .ref r2_21, .ref r3_22, .ref r4_23, .ref r5_24])), (q_27, .inr (4, [.int 0, .int 0, .null, .null, .null, .null, .null, .null]))] H := hP
  have hD : va_D A [(q_1, .inr (3, [.ref av_4, .ref at__5])), (av_4, .inr (1, [.int 0, .int 0, .ref adr_6, .ref ao_7, .ref aar_8])), (adr_6, .inl (cD_25, 10, .inr (.inr (.inr (.inr (va_up fd_26 0 (some ad0_9))))))), (ad0_9, .inr (0, [.int 0, .int 0, .int 0, .int 0, .int 0, .int 0, .int 0, .int 0, .ref d1_10, .ref d2_11, .ref d3_12, .int 0, .ref d4_13, .ref d5_14])), (ao_7, .inr (2, [.int 0, .int 0, .ref o1_15, .ref o2_16, .ref o3_17, .ref o4_18, .ref o5_19])), (aar_8, .inr (2, [.int 0, .int 0, .ref r1_20, .ref r2_21, .ref r3_22, .ref r4_23, .ref r5_24])), (q_27, .inr (4, [.int 0, .int 0, .null, .null, .null, .null, .null, .null]))] := hD
  refine W.widen (k := 150) (n := 4188) (by omega) (by omega) ?_
  refine lv_dup hx hb dL_law_11 rfl ?_
  have hPc := hP.sub (ws' := [(q_27, .inr (4, [.int 0, .int 0, .null, .null, .null, .null, .null, .null]))]) [6] rfl
  have hKc := hK.sub (tys' := []) [] rfl
  have hDc := hD.sub (ws' := [(q_27, .inr (4, [.int 0, .int 0, .null, .null, .null, .null, .null, .null]))]) [6] (by decide) rfl
  have hFc := va_free (wc := [(q_27, .inr (4, [.int 0, .int 0, .null, .null, .null, .null, .null, .null]))]) hD hS hA [6] rfl
  refine va_callv (va_runI (As := []) (rest := [.ref q_27]) ⟨hx, hb, hml, hown, hts⟩ (ct_X4_init l dC dI q_27 H.size) (cwI 0 hts gL_law_X4_init rfl rfl rfl (hts (.initialized RX4) (List.mem_of_getElem? (i := 5) rfl)) (hts (.methodLink RL 61 yX4_init) (List.mem_of_getElem? (i := 48) rfl)) (hts (.instanceMethod yX4_init) (List.mem_of_getElem? (i := 49) rfl)) rfl (by decide +kernel) ⟨(Nat.le_of_ble_eq_true rfl), (Nat.le_of_ble_eq_true rfl)⟩) ⟨pZ_blind, pZ_pre hPc hDc hKc⟩ rfl rfl hl.1 rfl (lv_room (Nat.le_of_ble_eq_true rfl)) dL_law_12 ⟨(Nat.le_of_ble_eq_true rfl), (Nat.le_of_ble_eq_true rfl)⟩) hS (fun q _ h => hFc q h) hFc (fun u_29 t H1 locs ht hvm hw hB hz1 hk1 hS => ?_)
  obtain ⟨m1_30, m2_31, m3_32, m4_33, m5_34, m6_35, cM_36, cN_37, hP1, hK1, hD1⟩ := hB
  rw [ht] at hP1
  have hK1 := va_K.moved hvm.symm hK1
  obtain ⟨hP, hD⟩ := va_join (wr := [(q_1, .inr (3, [.ref av_4, .ref at__5])), (av_4, .inr (1, [.int 0, .int 0, .ref adr_6, .ref ao_7, .ref aar_8])), (adr_6, .inl (cD_25, 10, .inr (.inr (.inr (.inr (va_up fd_26 0 (some ad0_9))))))), (ad0_9, .inr (0, [.int 0, .int 0, .int 0, .int 0, .int 0, .int 0, .int 0, .int 0, .ref d1_10, .ref d2_11, .ref d3_12, .int 0, .ref d4_13, .ref d5_14])), (ao_7, .inr (2, [.int 0, .int 0, .ref o1_15, .ref o2_16, .ref o3_17, .ref o4_18, .ref o5_19])), (aar_8, .inr (2, [.int 0, .int 0, .ref r1_20, .ref r2_21, .ref r3_22, .ref r4_23, .ref r5_24]))]) (w1 := [(q_27, .inr (4, [.int 0, .int 0, .ref m1_30, .ref m2_31, .ref m3_32, .ref m4_33, .ref m5_34, .ref m6_35])), (m1_30, .inl (cM_36, 90, .inl (fun _ => 0))), (m5_34, .inl (cN_37, 3, .inl (fun _ => 0)))]) hP hD [6] [0, 1, 2, 3, 4, 5] rfl rfl (by decide) (by decide) hk1 hFc hP1 hD1
  have hK := hK.app (hK1.sub (tys' := [(cM_36, .int), (cN_37, .int)]) [0, 1] rfl)
  generalize H1 = H at hP hS ⊢
  have hP : va_P (dC, dI) vwCl [(q_1, .inr (3, [.ref av_4, .ref at__5])), (av_4, .inr (1, [.int 0, .int 0, .ref adr_6, .ref ao_7, .ref aar_8])), (adr_6, .inl (cD_25, 10, .inr (.inr (.inr (.inr (va_up fd_26 0 (some ad0_9))))))), (ad0_9, .inr (0, [.int 0, .int 0, .int 0, .int 0, .int 0, .int 0, .int 0, .int 0, .ref d1_10, .ref d2_11, .ref d3_12, .int 0, .ref d4_13, .ref d5_14])), (ao_7, .inr (2, [.int 0, .int 0, .ref o1_15, .ref o2_16, .ref o3_17, .ref o4_18, .ref o5_19])), (aar_8, .inr (2, [.int 0, .int 0, .ref r1_20, .ref r2_21, .ref r3_22, .ref r4_23, .ref r5_24])), (q_27, .inr (4, [.int 0, .int 0, .ref m1_30, .ref m2_31, .ref m3_32, .ref m4_33, .ref m5_34, .ref m6_35])), (m1_30, .inl (cM_36, 90, .inl (fun _ => 0))), (m5_34, .inl (cN_37, 3, .inl (fun _ => 0)))] H := hP
  have hD : va_D A [(q_1, .inr (3, [.ref av_4, .ref at__5])), (av_4, .inr (1, [.int 0, .int 0, .ref adr_6, .ref ao_7, .ref aar_8])), (adr_6, .inl (cD_25, 10, .inr (.inr (.inr (.inr (va_up fd_26 0 (some ad0_9))))))), (ad0_9, .inr (0, [.int 0, .int 0, .int 0, .int 0, .int 0, .int 0, .int 0, .int 0, .ref d1_10, .ref d2_11, .ref d3_12, .int 0, .ref d4_13, .ref d5_14])), (ao_7, .inr (2, [.int 0, .int 0, .ref o1_15, .ref o2_16, .ref o3_17, .ref o4_18, .ref o5_19])), (aar_8, .inr (2, [.int 0, .int 0, .ref r1_20, .ref r2_21, .ref r3_22, .ref r4_23, .ref r5_24])), (q_27, .inr (4, [.int 0, .int 0, .ref m1_30, .ref m2_31, .ref m3_32, .ref m4_33, .ref m5_34, .ref m6_35])), (m1_30, .inl (cM_36, 90, .inl (fun _ => 0))), (m5_34, .inl (cN_37, 3, .inl (fun _ => 0)))] := hD
  have hK : va_K (dC, dI) vwCl [(cD_25, .object RX0), (cM_36, .int), (cN_37, .int)] _ := hK
  refine W.widen (k := 156) (n := 7001) (by omega) (by omega) ?_
  refine lv_astore_n (lv' := [(2, .ref q_27), (1, .ref q_1), (0, .ref b)]) hx hb dL_law_15 rfl hl (by decide) rfl (fun ls hl => ?_)
  refine lv_iconst (v := 1) hx hb dL_law_16 (by decide) ?_
  refine va_newa (D := (dC, dI)) (atype := .long) (ty := .long) (a0 := (1, .inr (.inl (fun _ => 0)))) (N' := 1) hx hb (hts (.arrayClass .long) (List.mem_of_getElem? (i := 6) rfl)) rfl hK hP hD hS hA (fun _ => rfl) (by decide) (by decide) (by decide) (Nat.le_of_ble_eq_true rfl) (Nat.le_of_ble_eq_true rfl) dL_law_17 (fun q_38 cA_39 H hK hP hD hS => ?_)
  have hP : va_P (dC, dI) vwCl [(q_1, .inr (3, [.ref av_4, .ref at__5])), (av_4, .inr (1, [.int 0, .int 0, .ref adr_6, .ref ao_7, .ref aar_8])), (adr_6, .inl (cD_25, 10, .inr (.inr (.inr (.inr (va_up fd_26 0 (some ad0_9))))))), (ad0_9, .inr (0, [.int 0, .int 0, .int 0, .int 0, .int 0, .int 0, .int 0, .int 0, .ref d1_10, .ref d2_11, .ref d3_12, .int 0, .ref d4_13, .ref d5_14])), (ao_7, .inr (2, [.int 0, .int 0, .ref o1_15, .ref o2_16, .ref o3_17, .ref o4_18, .ref o5_19])), (aar_8, .inr (2, [.int 0, .int 0, .ref r1_20, .ref r2_21, .ref r3_22, .ref r4_23, .ref r5_24])), (q_27, .inr (4, [.int 0, .int 0, .ref m1_30, .ref m2_31, .ref m3_32, .ref m4_33, .ref m5_34, .ref m6_35])), (m1_30, .inl (cM_36, 90, .inl (fun _ => 0))), (m5_34, .inl (cN_37, 3, .inl (fun _ => 0))), (q_38, .inl (cA_39, 1, .inr (.inl (fun _ => 0))))] H := hP
  have hD : va_D A [(q_1, .inr (3, [.ref av_4, .ref at__5])), (av_4, .inr (1, [.int 0, .int 0, .ref adr_6, .ref ao_7, .ref aar_8])), (adr_6, .inl (cD_25, 10, .inr (.inr (.inr (.inr (va_up fd_26 0 (some ad0_9))))))), (ad0_9, .inr (0, [.int 0, .int 0, .int 0, .int 0, .int 0, .int 0, .int 0, .int 0, .ref d1_10, .ref d2_11, .ref d3_12, .int 0, .ref d4_13, .ref d5_14])), (ao_7, .inr (2, [.int 0, .int 0, .ref o1_15, .ref o2_16, .ref o3_17, .ref o4_18, .ref o5_19])), (aar_8, .inr (2, [.int 0, .int 0, .ref r1_20, .ref r2_21, .ref r3_22, .ref r4_23, .ref r5_24])), (q_27, .inr (4, [.int 0, .int 0, .ref m1_30, .ref m2_31, .ref m3_32, .ref m4_33, .ref m5_34, .ref m6_35])), (m1_30, .inl (cM_36, 90, .inl (fun _ => 0))), (m5_34, .inl (cN_37, 3, .inl (fun _ => 0))), (q_38, .inl (cA_39, 1, .inr (.inl (fun _ => 0))))] := hD
  have hK : va_K (dC, dI) vwCl [(cD_25, .object RX0), (cM_36, .int), (cN_37, .int), (cA_39, .long)] _ := hK
  refine W.widen (k := 157) (n := 7002) (by omega) (by omega) ?_
  refine lv_astore_n (lv' := [(3, .ref q_38), (2, .ref q_27), (1, .ref q_1), (0, .ref b)]) hx hb dL_law_19 rfl hl (by decide) rfl (fun ls hl => ?_)
  refine lv_iconst (v := 0) hx hb dL_law_20 (by decide) ?_
  refine lv_istore (lv' := [(4, .int 0), (3, .ref q_38), (2, .ref q_27), (1, .ref q_1), (0, .ref b)]) hx hb dL_law_21 hl (by decide) rfl (fun ls hl => ?_)
  rcases (by omega : L = 0 ∨ L = 1 ∨ L = 2 ∨ L = 3 ∨ L = 4) with rfl | rfl | rfl | rfl | rfl
  · refine lv_iload hx hb dL_law_23 (lv_at hl 0 rfl) ?_
    refine lv_aload_n hx hb dL_law_25 rfl (lv_at hl 4 rfl) ?_
    refine va_slen hx hb hX hbl hbA hS dL_law_26 ?_
    refine lv_topi (nm_r (e' := 0) (by decide) ?_)
    refine lv_iconst (v := 4) hx hb dL_law_27 (by decide) ?_
    refine lv_isub hx hb dL_law_28 ?_
    refine lv_topi (nm_r (e' := (-4)) (by decide) ?_)
    refine lv_icmp_gt (tgt := 1052) hx hb dL_law_29 (by decide) (fun _ => ?_) (fun h => absurd h (by decide))
    refine lv_iconst (v := 1) hx hb dL_law_1052 (by decide) ?_
    refine va_forget (fun q hq => by have h9 := hS.2.2 q hq; rw [hAq] at h9; exact h9) ?_
    refine W.widen (k := 600002) (n := 7302232) (Nat.le_of_ble_eq_true rfl) (Nat.le_of_ble_eq_true rfl) ?_
    exact lw_ret hd0 hx hb hr hlocks dL_law_1053
  · refine lv_iload hx hb dL_law_23 (lv_at hl 0 rfl) ?_
    refine lv_aload_n hx hb dL_law_25 rfl (lv_at hl 4 rfl) ?_
    refine va_slen hx hb hX hbl hbA hS dL_law_26 ?_
    refine lv_topi (nm_r (e' := 1) (by decide) ?_)
    refine lv_iconst (v := 4) hx hb dL_law_27 (by decide) ?_
    refine lv_isub hx hb dL_law_28 ?_
    refine lv_topi (nm_r (e' := (-3)) (by decide) ?_)
    refine lv_icmp_gt (tgt := 1052) hx hb dL_law_29 (by decide) (fun _ => ?_) (fun h => absurd h (by decide))
    refine lv_iconst (v := 1) hx hb dL_law_1052 (by decide) ?_
    refine va_forget (fun q hq => by have h9 := hS.2.2 q hq; rw [hAq] at h9; exact h9) ?_
    refine W.widen (k := 600002) (n := 7302232) (Nat.le_of_ble_eq_true rfl) (Nat.le_of_ble_eq_true rfl) ?_
    exact lw_ret hd0 hx hb hr hlocks dL_law_1053
  · refine lv_iload hx hb dL_law_23 (lv_at hl 0 rfl) ?_
    refine lv_aload_n hx hb dL_law_25 rfl (lv_at hl 4 rfl) ?_
    refine va_slen hx hb hX hbl hbA hS dL_law_26 ?_
    refine lv_topi (nm_r (e' := 2) (by decide) ?_)
    refine lv_iconst (v := 4) hx hb dL_law_27 (by decide) ?_
    refine lv_isub hx hb dL_law_28 ?_
    refine lv_topi (nm_r (e' := (-2)) (by decide) ?_)
    refine lv_icmp_gt (tgt := 1052) hx hb dL_law_29 (by decide) (fun _ => ?_) (fun h => absurd h (by decide))
    refine lv_iconst (v := 1) hx hb dL_law_1052 (by decide) ?_
    refine va_forget (fun q hq => by have h9 := hS.2.2 q hq; rw [hAq] at h9; exact h9) ?_
    refine W.widen (k := 600002) (n := 7302232) (Nat.le_of_ble_eq_true rfl) (Nat.le_of_ble_eq_true rfl) ?_
    exact lw_ret hd0 hx hb hr hlocks dL_law_1053
  · refine lv_iload hx hb dL_law_23 (lv_at hl 0 rfl) ?_
    refine lv_aload_n hx hb dL_law_25 rfl (lv_at hl 4 rfl) ?_
    refine va_slen hx hb hX hbl hbA hS dL_law_26 ?_
    refine lv_topi (nm_r (e' := 3) (by decide) ?_)
    refine lv_iconst (v := 4) hx hb dL_law_27 (by decide) ?_
    refine lv_isub hx hb dL_law_28 ?_
    refine lv_topi (nm_r (e' := (-1)) (by decide) ?_)
    refine lv_icmp_gt (tgt := 1052) hx hb dL_law_29 (by decide) (fun _ => ?_) (fun h => absurd h (by decide))
    refine lv_iconst (v := 1) hx hb dL_law_1052 (by decide) ?_
    refine va_forget (fun q hq => by have h9 := hS.2.2 q hq; rw [hAq] at h9; exact h9) ?_
    refine W.widen (k := 600002) (n := 7302232) (Nat.le_of_ble_eq_true rfl) (Nat.le_of_ble_eq_true rfl) ?_
    exact lw_ret hd0 hx hb hr hlocks dL_law_1053
  · refine lv_iload hx hb dL_law_23 (lv_at hl 0 rfl) ?_
    refine lv_aload_n hx hb dL_law_25 rfl (lv_at hl 4 rfl) ?_
    refine va_slen hx hb hX hbl hbA hS dL_law_26 ?_
    refine lv_topi (nm_r (e' := 4) (by decide) ?_)
    refine lv_iconst (v := 4) hx hb dL_law_27 (by decide) ?_
    refine lv_isub hx hb dL_law_28 ?_
    refine lv_topi (nm_r (e' := 0) (by decide) ?_)
    refine lv_icmp_gt (tgt := 1052) hx hb dL_law_29 (by decide) (fun h => absurd h (by decide)) (fun _ => ?_)
    refine lv_aload_n hx hb dL_law_32 rfl (lv_at hl 4 rfl) ?_
    refine lv_iload hx hb dL_law_33 (lv_at hl 0 rfl) ?_
    refine va_sld hx hb hX hbl hbA hS (i := 0) (vs_vi (by decide)) dL_law_35 ?_
    refine W.eq (g2 := F0 m 36 ls [.int (xs 0)]) rfl ?_
    refine lv_bipush (v := 15) hx hb dL_law_36 (by decide) ?_
    refine lv_iand hx hb dL_law_38 ?_
    refine lv_topi (fun z ez => ?_)
    have hl9 := lv_sub hl (l' := [(4, .int 0), (3, .ref q_38), (2, .ref q_27), (1, .ref q_1), (0, .ref b)]) [0, 1, 2, 3, 4] rfl
    have hP9 := hP.sub (ws' := [(q_1, .inr (3, [.ref av_4, .ref at__5])), (av_4, .inr (1, [.int 0, .int 0, .ref adr_6, .ref ao_7, .ref aar_8])), (adr_6, .inl (cD_25, 10, .inr (.inr (.inr (.inr (va_up fd_26 0 (some ad0_9))))))), (ad0_9, .inr (0, [.int 0, .int 0, .int 0, .int 0, .int 0, .int 0, .int 0, .int 0, .ref d1_10, .ref d2_11, .ref d3_12, .int 0, .ref d4_13, .ref d5_14])), (ao_7, .inr (2, [.int 0, .int 0, .ref o1_15, .ref o2_16, .ref o3_17, .ref o4_18, .ref o5_19])), (aar_8, .inr (2, [.int 0, .int 0, .ref r1_20, .ref r2_21, .ref r3_22, .ref r4_23, .ref r5_24])), (q_27, .inr (4, [.int 0, .int 0, .ref m1_30, .ref m2_31, .ref m3_32, .ref m4_33, .ref m5_34, .ref m6_35])), (m1_30, .inl (cM_36, 90, .inl (fun _ => 0))), (m5_34, .inl (cN_37, 3, .inl (fun _ => 0))), (q_38, .inl (cA_39, 1, .inr (.inl (fun _ => 0))))]) [0, 1, 2, 3, 4, 5, 6, 7, 8, 9] rfl
    have hD9 := hD.sub (ws' := [(q_1, .inr (3, [.ref av_4, .ref at__5])), (av_4, .inr (1, [.int 0, .int 0, .ref adr_6, .ref ao_7, .ref aar_8])), (adr_6, .inl (cD_25, 10, .inr (.inr (.inr (.inr (va_up fd_26 0 (some ad0_9))))))), (ad0_9, .inr (0, [.int 0, .int 0, .int 0, .int 0, .int 0, .int 0, .int 0, .int 0, .ref d1_10, .ref d2_11, .ref d3_12, .int 0, .ref d4_13, .ref d5_14])), (ao_7, .inr (2, [.int 0, .int 0, .ref o1_15, .ref o2_16, .ref o3_17, .ref o4_18, .ref o5_19])), (aar_8, .inr (2, [.int 0, .int 0, .ref r1_20, .ref r2_21, .ref r3_22, .ref r4_23, .ref r5_24])), (q_27, .inr (4, [.int 0, .int 0, .ref m1_30, .ref m2_31, .ref m3_32, .ref m4_33, .ref m5_34, .ref m6_35])), (m1_30, .inl (cM_36, 90, .inl (fun _ => 0))), (m5_34, .inl (cN_37, 3, .inl (fun _ => 0))), (q_38, .inl (cA_39, 1, .inr (.inl (fun _ => 0))))]) [0, 1, 2, 3, 4, 5, 6, 7, 8, 9] (by decide) rfl
    have hK9 := hK.sub (tys' := [(cD_25, .object RX0), (cM_36, .int), (cN_37, .int), (cA_39, .long)]) [0, 1, 2, 3] rfl
    rw [hAq] at hD9 hS hT
    rcases vs_sw15 z with sw_40 | rfl | rfl | rfl | rfl | rfl | rfl | rfl | rfl | rfl | rfl | rfl | rfl | rfl | rfl | rfl
    · refine lv_tableOut (tgt := 1046) hx hb dL_law_39 sw_40 (by decide) ?_
      refine W.widen (k := 1000) (n := 20000) (Nat.le_of_ble_eq_true rfl) (Nat.le_of_ble_eq_true rfl) ?_
      exact lw_tail l hnt C0 hS (lv_sub hl9 (l' := [(4, .int 0), (0, .ref b)]) [0, 4] rfl)
    · refine lv_tableIn (off := 73) (tgt := 112) hx hb dL_law_39 (by decide) (by decide) (by decide) (by decide) ?_
      exact lw_case_0 l hnt C0 dC dI hT hK9 hP9 hD9 hS hl9
    · refine lv_tableIn (off := 153) (tgt := 192) hx hb dL_law_39 (by decide) (by decide) (by decide) (by decide) ?_
      exact lw_case_1 l hnt C0 dC dI hT hK9 hP9 hD9 hS hl9
    · refine lv_tableIn (off := 233) (tgt := 272) hx hb dL_law_39 (by decide) (by decide) (by decide) (by decide) ?_
      exact lw_case_2 l hnt C0 dC dI hT hK9 hP9 hD9 hS hl9
    · refine lv_tableIn (off := 313) (tgt := 352) hx hb dL_law_39 (by decide) (by decide) (by decide) (by decide) ?_
      exact lw_case_3 l hnt C0 dC dI hT hK9 hP9 hD9 hS hl9
    · refine lv_tableIn (off := 388) (tgt := 427) hx hb dL_law_39 (by decide) (by decide) (by decide) (by decide) ?_
      exact lw_case_4 l hnt C0 dC dI hT hK9 hP9 hD9 hS hl9
    · refine lv_tableIn (off := 456) (tgt := 495) hx hb dL_law_39 (by decide) (by decide) (by decide) (by decide) ?_
      exact lw_case_5 l hnt C0 dC dI hT hK9 hP9 hD9 hS hl9
    · refine lv_tableIn (off := 536) (tgt := 575) hx hb dL_law_39 (by decide) (by decide) (by decide) (by decide) ?_
      exact lw_case_6 l hnt C0 dC dI hT hK9 hP9 hD9 hS hl9
    · refine lv_tableIn (off := 604) (tgt := 643) hx hb dL_law_39 (by decide) (by decide) (by decide) (by decide) ?_
      exact lw_case_7 l hnt C0 dC dI hT hK9 hP9 hD9 hS hl9
    · refine lv_tableIn (off := 660) (tgt := 699) hx hb dL_law_39 (by decide) (by decide) (by decide) (by decide) ?_
      exact lw_case_8 l hnt C0 dC dI hT hK9 hP9 hD9 hS hl9
    · refine lv_tableIn (off := 716) (tgt := 755) hx hb dL_law_39 (by decide) (by decide) (by decide) (by decide) ?_
      exact lw_case_9 l hnt C0 dC dI hT hK9 hP9 hD9 hS hl9
    · refine lv_tableIn (off := 772) (tgt := 811) hx hb dL_law_39 (by decide) (by decide) (by decide) (by decide) ?_
      exact lw_case_10 l hnt C0 dC dI hT hK9 hP9 hD9 hS hl9
    · refine lv_tableIn (off := 828) (tgt := 867) hx hb dL_law_39 (by decide) (by decide) (by decide) (by decide) ?_
      exact lw_case_11 l hnt C0 dC dI hT hK9 hP9 hD9 hS hl9
    · refine lv_tableIn (off := 896) (tgt := 935) hx hb dL_law_39 (by decide) (by decide) (by decide) (by decide) ?_
      exact lw_case_12 l hnt C0 dC dI hT hK9 hP9 hD9 hS hl9
    · refine lv_tableIn (off := 952) (tgt := 991) hx hb dL_law_39 (by decide) (by decide) (by decide) (by decide) ?_
      exact lw_case_13 l hnt C0 dC dI hT hK9 hP9 hD9 hS hl9
    · refine lv_tableIn (off := 993) (tgt := 1032) hx hb dL_law_39 (by decide) (by decide) (by decide) (by decide) ?_
      exact lw_case_14 l hnt C0 dC dI hT hK9 hP9 hD9 hS hl9
