noncomputable def fB_L_build_24 (L : Nat) (xs : Nat → Int32) (rec : Nat → Nat → vM → Nat → Nat → Nat → Nat → Int32 → Int32 → Option (Option Nat × Nat × vM)) (N : Nat) (m : vM) (kc ks : Nat) (r0 : Nat) (r2 : Nat) (i3 : Int32) (i4 : Int32) : Option (Option Nat × Nat × vM) :=
  if i3 ≤ i4 then (
    rec 136 N m kc ks r0 r2 i3 (0 : Int32)
  ) else (
    Option.bind (f_L_cell L xs m ((1 : Int32))) fun q2 =>
    Option.bind (f_L_below m ((q2 >>> (i4 &&& 31))) ((100 : Int32))) fun q5 =>
    Option.bind (f_L_cell L xs m ((2 : Int32))) fun q8 =>
    Option.bind (f_L_cell L xs m ((3 : Int32))) fun q11 =>
    Option.bind (f_L_below m ((q11 >>> (i4 &&& 31))) ((2 : Int32))) fun q14 =>
    if q14 = 0 then (
      Option.bind (f_L_below m ((q8 >>> ((2 * i4) &&& 31))) ((20 : Int32))) fun q18 =>
      Option.bind (f_L_cell L xs m ((4 : Int32))) fun q21 =>
      Option.bind (f_L_below m ((q21 >>> ((2 * i4) &&& 31))) ((4 : Int32))) fun q24 =>
      if mk m r0 = 3 then
      Option.bind (f_X3_build m r0 q5 ((1 + q18)) q24) fun q28 =>
      if q28.1 = i4 then (
        if mk q28.2 r2 = 5 then
        Option.bind (f_X5_build N q28.2 r2 q5 ((1 + q18)) q24) fun q34 =>
        if (kc + 4) ≤ 91 then
        if (ks + 20) ≤ 1860 then
        rec 24 q34.1 q34.2 ((kc + 4)) ((ks + 20)) r0 r2 i3 (i4 + 1)
        else none
        else none
        else none
      ) else (
        some (none, N, q28.2)
      )
      else none
    ) else (
      Option.bind (f_L_below m ((q8 >>> ((2 * i4) &&& 31))) ((6 : Int32))) fun q47 =>
      Option.bind (f_L_cell L xs m ((4 : Int32))) fun q50 =>
      Option.bind (f_L_below m ((q50 >>> ((2 * i4) &&& 31))) ((4 : Int32))) fun q53 =>
      if mk m r0 = 3 then
      Option.bind (f_X3_build m r0 q5 ((1 + q47)) q53) fun q57 =>
      if q57.1 = i4 then (
        if mk q57.2 r2 = 5 then
        Option.bind (f_X5_build N q57.2 r2 q5 ((1 + q47)) q53) fun q63 =>
        if (kc + 4) ≤ 91 then
        if (ks + 20) ≤ 1860 then
        rec 24 q63.1 q63.2 ((kc + 4)) ((ks + 20)) r0 r2 i3 (i4 + 1)
        else none
        else none
        else none
      ) else (
        some (none, N, q57.2)
      )
      else none
    )
  )
noncomputable def fB_L_build_136 (L : Nat) (xs : Nat → Int32) (rec : Nat → Nat → vM → Nat → Nat → Nat → Nat → Int32 → Int32 → Option (Option Nat × Nat × vM)) (N : Nat) (m : vM) (kc ks : Nat) (r0 : Nat) (r2 : Nat) (i3 : Int32) (i4 : Int32) : Option (Option Nat × Nat × vM) :=
  if 24 ≤ i4 then (
    some ((some r2), N, m)
  ) else (
    if i3 ≤ 1 then (
      some ((some r2), N, m)
    ) else (
      if ¬ (6 : Int32) = 0 then
      Option.bind (f_L_cell L xs m ((5 + (i4 - i4 / 6 * 6)))) fun q4 =>
      if ¬ (6 : Int32) = 0 then
      Option.bind (f_L_below m (((q4 >>> (((i4 / 6) * 3) &&& 31)) + (31 * i4))) i3) fun q8 =>
      Option.bind (f_L_below m ((((q4 >>> (((i4 / 6) * 3) &&& 31)) + (31 * i4)) >>> (2 &&& 31))) i3) fun q11 =>
      Option.bind (f_L_below m ((((q4 >>> (((i4 / 6) * 3) &&& 31)) + (31 * i4)) >>> (4 &&& 31))) ((5 : Int32))) fun q14 =>
      Option.bind (f_L_link N m r0 r2 q8 q11 ((1 + q14))) fun q17 =>
      if (kc + 2) ≤ 91 then
      if (ks + 69) ≤ 1860 then
      if q17.1 = 0 then (
        some (none, q17.2.1, q17.2.2)
      ) else (
        rec 136 q17.2.1 q17.2.2 ((kc + 2)) ((ks + 69)) r0 r2 i3 (i4 + 1)
      )
      else none
      else none
      else none
      else none
    )
  )
noncomputable def fL_L_build (L : Nat) (xs : Nat → Int32) (n : Nat) : Nat → Nat → vM → Nat → Nat → Nat → Nat → Int32 → Int32 → Option (Option Nat × Nat × vM) := Nat.rec (fun _ _ _ _ _ _ _ _ _ => none) (fun _ rec pc N m kc ks r0 r2 i3 i4 => if pc = 24 then fB_L_build_24 L xs rec N m kc ks r0 r2 i3 i4 else if pc = 136 then fB_L_build_136 L xs rec N m kc ks r0 r2 i3 i4 else none) n
noncomputable def f_L_build (L : Nat) (xs : Nat → Int32) (N : Nat) (m : vM) (p0 : Nat) : Option (Option Nat × Nat × vM) :=
  Option.bind (f_X5_init ((N + 1)) ((mN m N 5 0)) N) fun q7 =>
  Option.bind (f_L_cell L xs q7.2 ((0 : Int32))) fun q18 =>
  Option.bind (f_L_below q7.2 q18 ((10 : Int32))) fun q21 =>
  fL_L_build L xs vF 24 q7.1 q7.2 (((0 + 1) + 2)) (((0 + 4) + 0)) p0 N (1 + q21) (0 : Int32)
theorem in_L_build_X5 : ∀ w ∈ wsX50, w ∈ wsL_build := by decide +kernel
set_option maxHeartbeats 1000000 in
set_option maxRecDepth 100000 in
theorem cm_L_build (l : Launch) (D : va_G) (tc : Nat → ClassId) (ad : Nat → Nat) {N : Nat} {m0 : vM} {sz : Nat} {b L : Nat} {xs : Nat → Int32} {p0 : Nat} (hO : vOK N m0) (n_p0 : p0 < N) {z : Option Nat × Nat × vM} (h : f_L_build L xs N m0 p0 = some z) : Met l yL_build wsL_build ({ frames := 3, cells := 91, slots := 1860, locals := 76 } : Room) (va_Pc [.ref (ad p0), .ref b] (qX D tc ad N m0 sz b L xs)) (va_Qq (fun (r9 : Option Nat) (ad2 : Nat → Nat) => r9 = z.1.map ad2) (fun ad2 t => vXq D (va_A (vW tc ad N m0) sz) tc ad N z.1 z.2.1 z.2.2 ad2 t) (va_A (vW tc ad N m0) sz)) 91 1860 (va_A (vW tc ad N m0) sz) := by
  refine Met.ofW (cc := cL_build) (maxL := 8) (ret := (some (.object "VaultDoorsLaw$Sim"))) (by decide) rfl ?_
  intro p e s m args below meth c s₁ B hml hv
  obtain ⟨rfl, hsz, hP, hK, hD0, hZ, hX, hbl, hbA⟩ := hv
  have hx := B.exec
  have hb := B.bytes
  have hr := B.returns
  have hts := atoms_spec (ws := wsL_build) B.pre
  have hown : s.vm.findClass RL = some m.cls := findClass_of_methodNamed B.named
  have hlocks := B.notSynchronized
  subst hsz
  have hD := hD0.self (sz := s.heap.size)
  generalize hAe : va_A (vW tc ad N m0) s.heap.size = A at hD hbA ⊢
  have hA : ∀ q : Nat, s.heap.size ≤ q → A q := fun q h => by rw [← hAe]; exact Or.inr h
  have hS : va_S A s.heap s.heap [] := va_S.rf
  have hl := lv_entry ([.ref (ad p0), .ref b]) (n := 8) (Nat.le_of_ble_eq_true rfl)
  rw [lg_entry_eq]
  generalize (lg_sl ([.ref (ad p0), .ref b]) ++ List.replicate (8 - (lg_sl ([.ref (ad p0), .ref b])).length) Slot.unset).toArray = ls at hl ⊢
  have hl : lv_has ls 8 [(0, .ref (ad p0)), (1, .ref b)] := hl
  have hL : ∀ n : Nat, (∀ (NL : Nat) (adL : Nat → Nat) (m1 : vM) (kc ks : Nat) (r0 : Nat) (r2 : Nat) (i3 : Int32) (i4 : Int32) (H : Heap) (locs : List Loc) (ls : Array Slot), N ≤ NL → (∀ k, k < N → adL k = ad k) → kc ≤ 91 → ks ≤ 1860 → vOK NL m1 → r0 < NL → r2 < NL → fL_L_build L xs n 24 NL m1 kc ks r0 r2 i3 i4 = some z → va_P D vwCl (vW tc adL NL m1) H → va_D A (vW tc adL NL m1) → va_S A s.heap H locs → lv_has ls 8 [(0, .ref (adL r0)), (2, .ref (adL r2)), (3, .int i3), (4, .int i4), (1, .ref b)] → W p l e (headSpec wsL_build ({ frames := 3, cells := 91, slots := 1860, locals := 76 } : Room)).room s m ([.ref (ad p0), .ref b] : List Value).toArray below meth c H locs kc ks (MQ below (va_Qq (fun (r9 : Option Nat) (ad2 : Nat → Nat) => r9 = z.1.map ad2) (fun ad2 t => vXq D A tc ad N z.1 z.2.1 z.2.2 ad2 t) A) ([.ref (ad p0), .ref b] : List Value).toArray s 91 1860 A) (F0 m 24 ls [])) ∧ (∀ (NL : Nat) (adL : Nat → Nat) (m1 : vM) (kc ks : Nat) (r0 : Nat) (r2 : Nat) (i3 : Int32) (i4 : Int32) (H : Heap) (locs : List Loc) (ls : Array Slot), N ≤ NL → (∀ k, k < N → adL k = ad k) → kc ≤ 91 → ks ≤ 1860 → vOK NL m1 → r0 < NL → r2 < NL → fL_L_build L xs n 136 NL m1 kc ks r0 r2 i3 i4 = some z → va_P D vwCl (vW tc adL NL m1) H → va_D A (vW tc adL NL m1) → va_S A s.heap H locs → lv_has ls 8 [(0, .ref (adL r0)), (2, .ref (adL r2)), (3, .int i3), (4, .int i4), (1, .ref b)] → W p l e (headSpec wsL_build ({ frames := 3, cells := 91, slots := 1860, locals := 76 } : Room)).room s m ([.ref (ad p0), .ref b] : List Value).toArray below meth c H locs kc ks (MQ below (va_Qq (fun (r9 : Option Nat) (ad2 : Nat → Nat) => r9 = z.1.map ad2) (fun ad2 t => vXq D A tc ad N z.1 z.2.1 z.2.2 ad2 t) A) ([.ref (ad p0), .ref b] : List Value).toArray s 91 1860 A) (F0 m 136 ls [])) := by
    intro n
    induction n with
    | zero => exact ⟨(fun _ _ _ _ _ _ _ _ _ _ _ _ _ _ _ _ _ _ _ h9 _ _ _ _ => by have h9 : (none : Option (Option Nat × Nat × vM)) = some z := h9; cases h9), (fun _ _ _ _ _ _ _ _ _ _ _ _ _ _ _ _ _ _ _ h9 _ _ _ _ => by have h9 : (none : Option (Option Nat × Nat × vM)) = some z := h9; cases h9)⟩
    | succ n ih =>
      refine ⟨?_, ?_⟩
      · intro NL adL m1 kc ks r0 r2 i3 i4 H locs ls hNN hE hc hs hO n_r0 n_r2 h hP hD hS hl
        have h : fB_L_build_24 L xs (fL_L_build L xs n) NL m1 kc ks r0 r2 i3 i4 = some z := h
        unfold fB_L_build_24 at h
        refine lv_iload hx hb dL_build_24 (lv_at hl 3 rfl) ?_
        refine lv_iload_n hx hb dL_build_26 rfl (lv_at hl 2 rfl) ?_
        refine lv_icmp_ge (tgt := 133) hx hb dL_build_27 (by decide) (fun c1 => ?_) (fun c1 => ?_)
        · rw [if_pos c1] at h
          refine lv_iconst (v := 0) hx hb dL_build_133 (by decide) ?_
          refine lv_istore (lv' := [(4, .int 0), (0, .ref (adL r0)), (2, .ref (adL r2)), (3, .int i3), (1, .ref b)]) hx hb dL_build_134 hl (by decide) rfl (fun ls hl => ?_)
          exact (ih.2) NL adL m1 kc ks r0 r2 i3 (0 : Int32) _ _ _ hNN hE hc hs hO n_r0 n_r2 h hP hD hS (lv_sub hl (l' := [(0, .ref (adL r0)), (2, .ref (adL r2)), (3, .int i3), (4, .int 0), (1, .ref b)]) [1, 2, 3, 0, 4] rfl)
        · rw [if_neg c1] at h
          refine lv_aload_n hx hb dL_build_30 rfl (lv_at hl 4 rfl) ?_
          refine lv_iconst (v := 1) hx hb dL_build_31 (by decide) ?_
          obtain ⟨q2, g3, h⟩ := vg_bind h
          refine va_calli (va_runS (As := [.ref b, .int 1]) (rest := []) ⟨hx, hb, hml, hown, hts⟩ (cm_L_cell (m0 := m1) l D tc adL hO g3) (va_cwS 2 hts gL_build_L_cell rfl rfl rfl (by decide +kernel) ⟨(Nat.le_of_ble_eq_true rfl), (Nat.le_of_ble_eq_true rfl)⟩) ⟨qS_blind, qS_pre hP hK hZ hX hbl hbA hS⟩ rfl rfl hl.1 rfl (lv_room (Nat.le_of_ble_eq_true rfl)) dL_build_32 ⟨hc, hs⟩) hS (fun q9 _ h9 => h9.elim) (fun q9 h9 => h9.elim) (fun w4 u t H1 locs ht hvm hw hB hz1 hk1 hS => ?_)
          have hP := hP.kept (fun k9 q9 hk9 => hk1 q9.1 (hP k9 q9 hk9).lt (fun h9 => h9))
          generalize H1 = H at hP hS ⊢
          clear hk1 hz1 ht hvm
          have hw : w4 = q2 := hw
          rw [hw]
          refine lv_iload hx hb dL_build_35 (lv_at hl 3 rfl) ?_
          refine lv_ishr hx hb dL_build_37 ?_
          refine lv_bipush (v := 100) hx hb dL_build_38 (by decide) ?_
          obtain ⟨q5, g6, h⟩ := vg_bind h
          refine va_calli (va_runS (As := [.int (q2 >>> (i4 &&& 31)), .int 100]) (rest := []) ⟨hx, hb, hml, hown, hts⟩ (cm_L_below (m0 := m1) l D tc adL hO g6) (va_cwS 2 hts gL_build_L_below rfl rfl rfl (by decide +kernel) ⟨(Nat.le_of_ble_eq_true rfl), (Nat.le_of_ble_eq_true rfl)⟩) ⟨qR_blind, qR_pre hP hK hZ⟩ rfl rfl hl.1 rfl (lv_room (Nat.le_of_ble_eq_true rfl)) dL_build_40 ⟨hc, hs⟩) hS (fun q9 _ h9 => h9.elim) (fun q9 h9 => h9.elim) (fun w7 u t H1 locs ht hvm hw hB hz1 hk1 hS => ?_)
          have hP := hP.kept (fun k9 q9 hk9 => hk1 q9.1 (hP k9 q9 hk9).lt (fun h9 => h9))
          generalize H1 = H at hP hS ⊢
          clear hk1 hz1 ht hvm
          have hw : w7 = q5 := hw
          rw [hw]
          refine lv_istore (lv' := [(5, .int q5), (0, .ref (adL r0)), (2, .ref (adL r2)), (3, .int i3), (4, .int i4), (1, .ref b)]) hx hb dL_build_43 hl (by decide) rfl (fun ls hl => ?_)
          refine lv_iconst (v := 1) hx hb dL_build_45 (by decide) ?_
          refine lv_aload_n hx hb dL_build_46 rfl (lv_at hl 5 rfl) ?_
          refine lv_iconst (v := 2) hx hb dL_build_47 (by decide) ?_
          obtain ⟨q8, g9, h⟩ := vg_bind h
          refine va_calli (va_runS (As := [.ref b, .int 2]) (rest := [.int 1]) ⟨hx, hb, hml, hown, hts⟩ (cm_L_cell (m0 := m1) l D tc adL hO g9) (va_cwS 2 hts gL_build_L_cell rfl rfl rfl (by decide +kernel) ⟨(Nat.le_of_ble_eq_true rfl), (Nat.le_of_ble_eq_true rfl)⟩) ⟨qS_blind, qS_pre hP hK hZ hX hbl hbA hS⟩ rfl rfl hl.1 rfl (lv_room (Nat.le_of_ble_eq_true rfl)) dL_build_48 ⟨hc, hs⟩) hS (fun q9 _ h9 => h9.elim) (fun q9 h9 => h9.elim) (fun w10 u t H1 locs ht hvm hw hB hz1 hk1 hS => ?_)
          have hP := hP.kept (fun k9 q9 hk9 => hk1 q9.1 (hP k9 q9 hk9).lt (fun h9 => h9))
          generalize H1 = H at hP hS ⊢
          clear hk1 hz1 ht hvm
          have hw : w10 = q8 := hw
          rw [hw]
          refine lv_iconst (v := 2) hx hb dL_build_51 (by decide) ?_
          refine lv_iload hx hb dL_build_52 (lv_at hl 4 rfl) ?_
          refine lv_imul hx hb dL_build_54 ?_
          refine lv_ishr hx hb dL_build_55 ?_
          refine lv_aload_n hx hb dL_build_56 rfl (lv_at hl 5 rfl) ?_
          refine lv_iconst (v := 3) hx hb dL_build_57 (by decide) ?_
          obtain ⟨q11, g12, h⟩ := vg_bind h
          refine va_calli (va_runS (As := [.ref b, .int 3]) (rest := [.int (q8 >>> ((2 * i4) &&& 31)), .int 1]) ⟨hx, hb, hml, hown, hts⟩ (cm_L_cell (m0 := m1) l D tc adL hO g12) (va_cwS 2 hts gL_build_L_cell rfl rfl rfl (by decide +kernel) ⟨(Nat.le_of_ble_eq_true rfl), (Nat.le_of_ble_eq_true rfl)⟩) ⟨qS_blind, qS_pre hP hK hZ hX hbl hbA hS⟩ rfl rfl hl.1 rfl (lv_room (Nat.le_of_ble_eq_true rfl)) dL_build_58 ⟨hc, hs⟩) hS (fun q9 _ h9 => h9.elim) (fun q9 h9 => h9.elim) (fun w13 u t H1 locs ht hvm hw hB hz1 hk1 hS => ?_)
          have hP := hP.kept (fun k9 q9 hk9 => hk1 q9.1 (hP k9 q9 hk9).lt (fun h9 => h9))
          generalize H1 = H at hP hS ⊢
          clear hk1 hz1 ht hvm
          have hw : w13 = q11 := hw
          rw [hw]
          refine lv_iload hx hb dL_build_61 (lv_at hl 4 rfl) ?_
          refine lv_ishr hx hb dL_build_63 ?_
          refine lv_iconst (v := 2) hx hb dL_build_64 (by decide) ?_
          obtain ⟨q14, g15, h⟩ := vg_bind h
          refine va_calli (va_runS (As := [.int (q11 >>> (i4 &&& 31)), .int 2]) (rest := [.int (q8 >>> ((2 * i4) &&& 31)), .int 1]) ⟨hx, hb, hml, hown, hts⟩ (cm_L_below (m0 := m1) l D tc adL hO g15) (va_cwS 2 hts gL_build_L_below rfl rfl rfl (by decide +kernel) ⟨(Nat.le_of_ble_eq_true rfl), (Nat.le_of_ble_eq_true rfl)⟩) ⟨qR_blind, qR_pre hP hK hZ⟩ rfl rfl hl.1 rfl (lv_room (Nat.le_of_ble_eq_true rfl)) dL_build_65 ⟨hc, hs⟩) hS (fun q9 _ h9 => h9.elim) (fun q9 h9 => h9.elim) (fun w16 u t H1 locs ht hvm hw hB hz1 hk1 hS => ?_)
          have hP := hP.kept (fun k9 q9 hk9 => hk1 q9.1 (hP k9 q9 hk9).lt (fun h9 => h9))
          generalize H1 = H at hP hS ⊢
          clear hk1 hz1 ht hvm
          have hw : w16 = q14 := hw
          rw [hw]
          refine lv_if_ne (tgt := 76) hx hb dL_build_68 (by decide) (fun c17 => ?_) (fun c17 => ?_)
          · rw [if_neg c17] at h
            refine lv_bipush (v := 6) hx hb dL_build_76 (by decide) ?_
            obtain ⟨q18, g19, h⟩ := vg_bind h
            refine va_calli (va_runS (As := [.int (q8 >>> ((2 * i4) &&& 31)), .int 6]) (rest := [.int 1]) ⟨hx, hb, hml, hown, hts⟩ (cm_L_below (m0 := m1) l D tc adL hO g19) (va_cwS 2 hts gL_build_L_below rfl rfl rfl (by decide +kernel) ⟨(Nat.le_of_ble_eq_true rfl), (Nat.le_of_ble_eq_true rfl)⟩) ⟨qR_blind, qR_pre hP hK hZ⟩ rfl rfl hl.1 rfl (lv_room (Nat.le_of_ble_eq_true rfl)) dL_build_78 ⟨hc, hs⟩) hS (fun q9 _ h9 => h9.elim) (fun q9 h9 => h9.elim) (fun w20 u t H1 locs ht hvm hw hB hz1 hk1 hS => ?_)
            have hP := hP.kept (fun k9 q9 hk9 => hk1 q9.1 (hP k9 q9 hk9).lt (fun h9 => h9))
            generalize H1 = H at hP hS ⊢
            clear hk1 hz1 ht hvm
            have hw : w20 = q18 := hw
            rw [hw]
            refine lv_iadd hx hb dL_build_81 ?_
            refine lv_istore (lv' := [(6, .int (1 + q18)), (5, .int q5), (0, .ref (adL r0)), (2, .ref (adL r2)), (3, .int i3), (4, .int i4), (1, .ref b)]) hx hb dL_build_82 hl (by decide) rfl (fun ls hl => ?_)
            refine lv_aload_n hx hb dL_build_84 rfl (lv_at hl 6 rfl) ?_
            refine lv_iconst (v := 4) hx hb dL_build_85 (by decide) ?_
            obtain ⟨q21, g22, h⟩ := vg_bind h
            refine va_calli (va_runS (As := [.ref b, .int 4]) (rest := []) ⟨hx, hb, hml, hown, hts⟩ (cm_L_cell (m0 := m1) l D tc adL hO g22) (va_cwS 2 hts gL_build_L_cell rfl rfl rfl (by decide +kernel) ⟨(Nat.le_of_ble_eq_true rfl), (Nat.le_of_ble_eq_true rfl)⟩) ⟨qS_blind, qS_pre hP hK hZ hX hbl hbA hS⟩ rfl rfl hl.1 rfl (lv_room (Nat.le_of_ble_eq_true rfl)) dL_build_86 ⟨hc, hs⟩) hS (fun q9 _ h9 => h9.elim) (fun q9 h9 => h9.elim) (fun w23 u t H1 locs ht hvm hw hB hz1 hk1 hS => ?_)
            have hP := hP.kept (fun k9 q9 hk9 => hk1 q9.1 (hP k9 q9 hk9).lt (fun h9 => h9))
            generalize H1 = H at hP hS ⊢
            clear hk1 hz1 ht hvm
            have hw : w23 = q21 := hw
            rw [hw]
            refine lv_iconst (v := 2) hx hb dL_build_89 (by decide) ?_
            refine lv_iload hx hb dL_build_90 (lv_at hl 5 rfl) ?_
            refine lv_imul hx hb dL_build_92 ?_
            refine lv_ishr hx hb dL_build_93 ?_
            refine lv_iconst (v := 4) hx hb dL_build_94 (by decide) ?_
            obtain ⟨q24, g25, h⟩ := vg_bind h
            refine va_calli (va_runS (As := [.int (q21 >>> ((2 * i4) &&& 31)), .int 4]) (rest := []) ⟨hx, hb, hml, hown, hts⟩ (cm_L_below (m0 := m1) l D tc adL hO g25) (va_cwS 2 hts gL_build_L_below rfl rfl rfl (by decide +kernel) ⟨(Nat.le_of_ble_eq_true rfl), (Nat.le_of_ble_eq_true rfl)⟩) ⟨qR_blind, qR_pre hP hK hZ⟩ rfl rfl hl.1 rfl (lv_room (Nat.le_of_ble_eq_true rfl)) dL_build_95 ⟨hc, hs⟩) hS (fun q9 _ h9 => h9.elim) (fun q9 h9 => h9.elim) (fun w26 u t H1 locs ht hvm hw hB hz1 hk1 hS => ?_)
            have hP := hP.kept (fun k9 q9 hk9 => hk1 q9.1 (hP k9 q9 hk9).lt (fun h9 => h9))
            generalize H1 = H at hP hS ⊢
            clear hk1 hz1 ht hvm
            have hw : w26 = q24 := hw
            rw [hw]
            refine lv_istore (lv' := [(7, .int q24), (6, .int (1 + q18)), (5, .int q5), (0, .ref (adL r0)), (2, .ref (adL r2)), (3, .int i3), (4, .int i4), (1, .ref b)]) hx hb dL_build_98 hl (by decide) rfl (fun ls hl => ?_)
            refine lv_aload_n hx hb dL_build_100 rfl (lv_at hl 3 rfl) ?_
            refine lv_iload hx hb dL_build_101 (lv_at hl 2 rfl) ?_
            refine lv_iload hx hb dL_build_103 (lv_at hl 1 rfl) ?_
            refine lv_iload hx hb dL_build_105 (lv_at hl 0 rfl) ?_
            obtain ⟨g27, h⟩ := vg_if h
            obtain ⟨q28, g29, h⟩ := vg_bind h
            have hFc := vm_free hD hS hA
            refine va_calli (va_runV (As := [.int q5, .int (1 + q18), .int q24]) (rest := []) ⟨hx, hb, hml, hown, hts⟩ (cm_X3_build (m0 := m1) l D tc adL hO n_r0 g29) (cwV 3 hts gL_build_X3_build rfl rfl rfl (by decide +kernel) ⟨(Nat.le_of_ble_eq_true rfl), (Nat.le_of_ble_eq_true rfl)⟩) ⟨qW_blind, va_recv hK hP (ci := 3) (q0 := r0) rfl (vW_k3 n_r0 g27), qW_pre hP hD hK hZ⟩ rfl rfl hl.1 rfl (lv_room (Nat.le_of_ble_eq_true rfl)) dL_build_107 ⟨hc, hs⟩) hS (fun q9 _ h9 => hFc q9 h9) hFc (fun w30 u t H1 locs ht hvm hw hB hz1 hk1 hS => ?_)
            obtain ⟨hO31, hP1, hK1, hD1⟩ := hB
            rw [ht] at hP1
            have hP := hP1
            have hD := hD1.weaken (fun _ q9 _ h9 => hFc q9.1 h9)
            generalize H1 = H at hP hS ⊢
            have hP : va_P D vwCl (vW tc adL NL q28.2) H := hP
            have hD : va_D A (vW tc adL NL q28.2) := hD
            clear hk1 hz1 ht hvm
            have hw : w30 = q28.1 := hw
            rw [hw]
            refine lv_iload hx hb dL_build_110 (lv_at hl 6 rfl) ?_
            refine lv_icmp_eq (tgt := 117) hx hb dL_build_112 (by decide) (fun c32 => ?_) (fun c32 => ?_)
            · rw [if_pos c32] at h
              refine lv_aload_n hx hb dL_build_117 rfl (lv_at hl 4 rfl) ?_
              refine lv_iload hx hb dL_build_118 (lv_at hl 2 rfl) ?_
              refine lv_iload hx hb dL_build_120 (lv_at hl 1 rfl) ?_
              refine lv_iload hx hb dL_build_122 (lv_at hl 0 rfl) ?_
              obtain ⟨g33, h⟩ := vg_if h
              obtain ⟨q34, g35, h⟩ := vg_bind h
              obtain ⟨g36, h⟩ := vg_if h
              obtain ⟨g37, h⟩ := vg_if h
              have hFc := vm_free hD hS hA
              refine va_callv (va_runV (As := [.int q5, .int (1 + q18), .int q24]) (rest := []) ⟨hx, hb, hml, hown, hts⟩ (cm_X5_build (m0 := q28.2) l D tc adL hO31 n_r2 g35) (cwV 3 hts gL_build_X5_build rfl rfl rfl (by decide +kernel) ⟨(Nat.le_of_ble_eq_true rfl), (Nat.le_of_ble_eq_true rfl)⟩) ⟨qW_blind, va_recv hK hP (ci := 5) (q0 := r2) rfl (vW_k5 n_r2 g33), qW_pre hP hD hK hZ⟩ rfl rfl hl.1 rfl (lv_room (Nat.le_of_ble_eq_true rfl)) dL_build_124 ⟨g36, g37⟩) hS (fun q9 _ h9 => hFc q9 h9) hFc (fun u t H1 locs ht hvm hw hB hz1 hk1 hS => ?_)
              obtain ⟨ad39, e40, e41, hO42, hP1, hK1, hD1⟩ := hB
              rw [ht] at hP1
              have hP := hP1
              have hD := hD1.weaken (fun _ q9 _ h9 => hFc q9.1 h9)
              generalize H1 = H at hP hS ⊢
              clear hk1 hz1 ht hvm
              have hl : lv_has ls 8 [(7, .int q24), (6, .int (1 + q18)), (5, .int q5), (0, .ref (ad39 r0)), (2, .ref (ad39 r2)), (3, .int i3), (4, .int i4), (1, .ref b)] := by rw [e40 r0 n_r0, e40 r2 n_r2]; exact hl
              have e43 : ∀ k, k < N → ad39 k = ad k := fun k hk => (e40 k (Nat.lt_of_lt_of_le hk hNN)).trans (hE k hk)
              have e44 : N ≤ q34.1 := Nat.le_trans hNN e41
              have n45 : r0 < q34.1 := Nat.lt_of_lt_of_le n_r0 e41
              have n46 : r2 < q34.1 := Nat.lt_of_lt_of_le n_r2 e41
              have hP : va_P D vwCl (vW tc ad39 q34.1 q34.2) H := hP
              have hD : va_D A (vW tc ad39 q34.1 q34.2) := hD
              refine lv_iinc (v := i4 + 1) (lv' := [(4, .int (i4 + 1)), (7, .int q24), (6, .int (1 + q18)), (5, .int q5), (0, .ref (ad39 r0)), (2, .ref (ad39 r2)), (3, .int i3), (1, .ref b)]) hx hb dL_build_127 hl (k := 6) rfl rfl (by decide) rfl (fun ls hl => ?_)
              refine lv_goto (tgt := 24) hx hb dL_build_130 (by decide) ?_
              exact (ih.1) q34.1 ad39 q34.2 ((kc + 4)) ((ks + 20)) r0 r2 i3 (i4 + 1) _ _ _ e44 e43 g36 g37 hO42 n45 n46 h hP hD hS (lv_sub hl (l' := [(0, .ref (ad39 r0)), (2, .ref (ad39 r2)), (3, .int i3), (4, .int (i4 + 1)), (1, .ref b)]) [4, 5, 6, 0, 7] rfl)
            · rw [if_neg c32] at h
              refine lv_null hx hb dL_build_115 ?_
              have hz := Option.some.inj h
              refine W.widen (k := 91) (n := 1860) hc hs ?_
              exact W.aret (v := .null) hx hb hr (Or.inl ⟨_, rfl⟩) (Or.inl rfl) (fun t ht hW => ⟨⟨none, adL, rfl, by rw [← hz]; rfl, by rw [← hz]; exact ⟨hE, hNN, hO31, by rw [ht]; exact hP, va_K.moved hW.alike hK, hD, fun _ h9 => by cases h9⟩⟩, hS.F ht⟩) hS.2.2 dL_build_116
          · rw [if_pos c17] at h
            refine lv_bipush (v := 20) hx hb dL_build_71 (by decide) ?_
            refine lv_goto (tgt := 78) hx hb dL_build_73 (by decide) ?_
            obtain ⟨q47, g48, h⟩ := vg_bind h
            refine va_calli (va_runS (As := [.int (q8 >>> ((2 * i4) &&& 31)), .int 20]) (rest := [.int 1]) ⟨hx, hb, hml, hown, hts⟩ (cm_L_below (m0 := m1) l D tc adL hO g48) (va_cwS 2 hts gL_build_L_below rfl rfl rfl (by decide +kernel) ⟨(Nat.le_of_ble_eq_true rfl), (Nat.le_of_ble_eq_true rfl)⟩) ⟨qR_blind, qR_pre hP hK hZ⟩ rfl rfl hl.1 rfl (lv_room (Nat.le_of_ble_eq_true rfl)) dL_build_78 ⟨hc, hs⟩) hS (fun q9 _ h9 => h9.elim) (fun q9 h9 => h9.elim) (fun w49 u t H1 locs ht hvm hw hB hz1 hk1 hS => ?_)
            have hP := hP.kept (fun k9 q9 hk9 => hk1 q9.1 (hP k9 q9 hk9).lt (fun h9 => h9))
            generalize H1 = H at hP hS ⊢
            clear hk1 hz1 ht hvm
            have hw : w49 = q47 := hw
            rw [hw]
            refine lv_iadd hx hb dL_build_81 ?_
            refine lv_istore (lv' := [(6, .int (1 + q47)), (5, .int q5), (0, .ref (adL r0)), (2, .ref (adL r2)), (3, .int i3), (4, .int i4), (1, .ref b)]) hx hb dL_build_82 hl (by decide) rfl (fun ls hl => ?_)
            refine lv_aload_n hx hb dL_build_84 rfl (lv_at hl 6 rfl) ?_
            refine lv_iconst (v := 4) hx hb dL_build_85 (by decide) ?_
            obtain ⟨q50, g51, h⟩ := vg_bind h
            refine va_calli (va_runS (As := [.ref b, .int 4]) (rest := []) ⟨hx, hb, hml, hown, hts⟩ (cm_L_cell (m0 := m1) l D tc adL hO g51) (va_cwS 2 hts gL_build_L_cell rfl rfl rfl (by decide +kernel) ⟨(Nat.le_of_ble_eq_true rfl), (Nat.le_of_ble_eq_true rfl)⟩) ⟨qS_blind, qS_pre hP hK hZ hX hbl hbA hS⟩ rfl rfl hl.1 rfl (lv_room (Nat.le_of_ble_eq_true rfl)) dL_build_86 ⟨hc, hs⟩) hS (fun q9 _ h9 => h9.elim) (fun q9 h9 => h9.elim) (fun w52 u t H1 locs ht hvm hw hB hz1 hk1 hS => ?_)
            have hP := hP.kept (fun k9 q9 hk9 => hk1 q9.1 (hP k9 q9 hk9).lt (fun h9 => h9))
            generalize H1 = H at hP hS ⊢
            clear hk1 hz1 ht hvm
            have hw : w52 = q50 := hw
            rw [hw]
            refine lv_iconst (v := 2) hx hb dL_build_89 (by decide) ?_
            refine lv_iload hx hb dL_build_90 (lv_at hl 5 rfl) ?_
            refine lv_imul hx hb dL_build_92 ?_
            refine lv_ishr hx hb dL_build_93 ?_
            refine lv_iconst (v := 4) hx hb dL_build_94 (by decide) ?_
            obtain ⟨q53, g54, h⟩ := vg_bind h
            refine va_calli (va_runS (As := [.int (q50 >>> ((2 * i4) &&& 31)), .int 4]) (rest := []) ⟨hx, hb, hml, hown, hts⟩ (cm_L_below (m0 := m1) l D tc adL hO g54) (va_cwS 2 hts gL_build_L_below rfl rfl rfl (by decide +kernel) ⟨(Nat.le_of_ble_eq_true rfl), (Nat.le_of_ble_eq_true rfl)⟩) ⟨qR_blind, qR_pre hP hK hZ⟩ rfl rfl hl.1 rfl (lv_room (Nat.le_of_ble_eq_true rfl)) dL_build_95 ⟨hc, hs⟩) hS (fun q9 _ h9 => h9.elim) (fun q9 h9 => h9.elim) (fun w55 u t H1 locs ht hvm hw hB hz1 hk1 hS => ?_)
            have hP := hP.kept (fun k9 q9 hk9 => hk1 q9.1 (hP k9 q9 hk9).lt (fun h9 => h9))
            generalize H1 = H at hP hS ⊢
            clear hk1 hz1 ht hvm
            have hw : w55 = q53 := hw
            rw [hw]
            refine lv_istore (lv' := [(7, .int q53), (6, .int (1 + q47)), (5, .int q5), (0, .ref (adL r0)), (2, .ref (adL r2)), (3, .int i3), (4, .int i4), (1, .ref b)]) hx hb dL_build_98 hl (by decide) rfl (fun ls hl => ?_)
            refine lv_aload_n hx hb dL_build_100 rfl (lv_at hl 3 rfl) ?_
            refine lv_iload hx hb dL_build_101 (lv_at hl 2 rfl) ?_
            refine lv_iload hx hb dL_build_103 (lv_at hl 1 rfl) ?_
            refine lv_iload hx hb dL_build_105 (lv_at hl 0 rfl) ?_
            obtain ⟨g56, h⟩ := vg_if h
            obtain ⟨q57, g58, h⟩ := vg_bind h
            have hFc := vm_free hD hS hA
            refine va_calli (va_runV (As := [.int q5, .int (1 + q47), .int q53]) (rest := []) ⟨hx, hb, hml, hown, hts⟩ (cm_X3_build (m0 := m1) l D tc adL hO n_r0 g58) (cwV 3 hts gL_build_X3_build rfl rfl rfl (by decide +kernel) ⟨(Nat.le_of_ble_eq_true rfl), (Nat.le_of_ble_eq_true rfl)⟩) ⟨qW_blind, va_recv hK hP (ci := 3) (q0 := r0) rfl (vW_k3 n_r0 g56), qW_pre hP hD hK hZ⟩ rfl rfl hl.1 rfl (lv_room (Nat.le_of_ble_eq_true rfl)) dL_build_107 ⟨hc, hs⟩) hS (fun q9 _ h9 => hFc q9 h9) hFc (fun w59 u t H1 locs ht hvm hw hB hz1 hk1 hS => ?_)
            obtain ⟨hO60, hP1, hK1, hD1⟩ := hB
            rw [ht] at hP1
            have hP := hP1
            have hD := hD1.weaken (fun _ q9 _ h9 => hFc q9.1 h9)
            generalize H1 = H at hP hS ⊢
            have hP : va_P D vwCl (vW tc adL NL q57.2) H := hP
            have hD : va_D A (vW tc adL NL q57.2) := hD
            clear hk1 hz1 ht hvm
            have hw : w59 = q57.1 := hw
            rw [hw]
            refine lv_iload hx hb dL_build_110 (lv_at hl 6 rfl) ?_
            refine lv_icmp_eq (tgt := 117) hx hb dL_build_112 (by decide) (fun c61 => ?_) (fun c61 => ?_)
            · rw [if_pos c61] at h
              refine lv_aload_n hx hb dL_build_117 rfl (lv_at hl 4 rfl) ?_
              refine lv_iload hx hb dL_build_118 (lv_at hl 2 rfl) ?_
              refine lv_iload hx hb dL_build_120 (lv_at hl 1 rfl) ?_
              refine lv_iload hx hb dL_build_122 (lv_at hl 0 rfl) ?_
              obtain ⟨g62, h⟩ := vg_if h
              obtain ⟨q63, g64, h⟩ := vg_bind h
              obtain ⟨g65, h⟩ := vg_if h
              obtain ⟨g66, h⟩ := vg_if h
              have hFc := vm_free hD hS hA
              refine va_callv (va_runV (As := [.int q5, .int (1 + q47), .int q53]) (rest := []) ⟨hx, hb, hml, hown, hts⟩ (cm_X5_build (m0 := q57.2) l D tc adL hO60 n_r2 g64) (cwV 3 hts gL_build_X5_build rfl rfl rfl (by decide +kernel) ⟨(Nat.le_of_ble_eq_true rfl), (Nat.le_of_ble_eq_true rfl)⟩) ⟨qW_blind, va_recv hK hP (ci := 5) (q0 := r2) rfl (vW_k5 n_r2 g62), qW_pre hP hD hK hZ⟩ rfl rfl hl.1 rfl (lv_room (Nat.le_of_ble_eq_true rfl)) dL_build_124 ⟨g65, g66⟩) hS (fun q9 _ h9 => hFc q9 h9) hFc (fun u t H1 locs ht hvm hw hB hz1 hk1 hS => ?_)
              obtain ⟨ad68, e69, e70, hO71, hP1, hK1, hD1⟩ := hB
              rw [ht] at hP1
              have hP := hP1
              have hD := hD1.weaken (fun _ q9 _ h9 => hFc q9.1 h9)
              generalize H1 = H at hP hS ⊢
              clear hk1 hz1 ht hvm
              have hl : lv_has ls 8 [(7, .int q53), (6, .int (1 + q47)), (5, .int q5), (0, .ref (ad68 r0)), (2, .ref (ad68 r2)), (3, .int i3), (4, .int i4), (1, .ref b)] := by rw [e69 r0 n_r0, e69 r2 n_r2]; exact hl
              have e72 : ∀ k, k < N → ad68 k = ad k := fun k hk => (e69 k (Nat.lt_of_lt_of_le hk hNN)).trans (hE k hk)
              have e73 : N ≤ q63.1 := Nat.le_trans hNN e70
              have n74 : r0 < q63.1 := Nat.lt_of_lt_of_le n_r0 e70
              have n75 : r2 < q63.1 := Nat.lt_of_lt_of_le n_r2 e70
              have hP : va_P D vwCl (vW tc ad68 q63.1 q63.2) H := hP
              have hD : va_D A (vW tc ad68 q63.1 q63.2) := hD
              refine lv_iinc (v := i4 + 1) (lv' := [(4, .int (i4 + 1)), (7, .int q53), (6, .int (1 + q47)), (5, .int q5), (0, .ref (ad68 r0)), (2, .ref (ad68 r2)), (3, .int i3), (1, .ref b)]) hx hb dL_build_127 hl (k := 6) rfl rfl (by decide) rfl (fun ls hl => ?_)
              refine lv_goto (tgt := 24) hx hb dL_build_130 (by decide) ?_
              exact (ih.1) q63.1 ad68 q63.2 ((kc + 4)) ((ks + 20)) r0 r2 i3 (i4 + 1) _ _ _ e73 e72 g65 g66 hO71 n74 n75 h hP hD hS (lv_sub hl (l' := [(0, .ref (ad68 r0)), (2, .ref (ad68 r2)), (3, .int i3), (4, .int (i4 + 1)), (1, .ref b)]) [4, 5, 6, 0, 7] rfl)
            · rw [if_neg c61] at h
              refine lv_null hx hb dL_build_115 ?_
              have hz := Option.some.inj h
              refine W.widen (k := 91) (n := 1860) hc hs ?_
              exact W.aret (v := .null) hx hb hr (Or.inl ⟨_, rfl⟩) (Or.inl rfl) (fun t ht hW => ⟨⟨none, adL, rfl, by rw [← hz]; rfl, by rw [← hz]; exact ⟨hE, hNN, hO60, by rw [ht]; exact hP, va_K.moved hW.alike hK, hD, fun _ h9 => by cases h9⟩⟩, hS.F ht⟩) hS.2.2 dL_build_116
      · intro NL adL m1 kc ks r0 r2 i3 i4 H locs ls hNN hE hc hs hO n_r0 n_r2 h hP hD hS hl
        have h : fB_L_build_136 L xs (fL_L_build L xs n) NL m1 kc ks r0 r2 i3 i4 = some z := h
        unfold fB_L_build_136 at h
        refine lv_iload hx hb dL_build_136 (lv_at hl 3 rfl) ?_
        refine lv_bipush (v := 24) hx hb dL_build_138 (by decide) ?_
        refine lv_icmp_ge (tgt := 215) hx hb dL_build_140 (by decide) (fun c76 => ?_) (fun c76 => ?_)
        · rw [if_pos c76] at h
          refine lv_aload_n hx hb dL_build_215 rfl (lv_at hl 1 rfl) ?_
          have hz := Option.some.inj h
          refine W.widen (k := 91) (n := 1860) hc hs ?_
          exact W.aret (v := .ref (adL r2)) hx hb hr (Or.inl ⟨_, rfl⟩) (Or.inr ⟨_, rfl⟩) (fun t ht hW => ⟨⟨some (adL r2), adL, rfl, by rw [← hz]; rfl, by rw [← hz]; exact ⟨hE, hNN, hO, by rw [ht]; exact hP, va_K.moved hW.alike hK, hD, fun _ h9 => by cases h9; exact n_r2⟩⟩, hS.F ht⟩) hS.2.2 dL_build_216
        · rw [if_neg c76] at h
          refine lv_iload_n hx hb dL_build_143 rfl (lv_at hl 2 rfl) ?_
          refine lv_iconst (v := 1) hx hb dL_build_144 (by decide) ?_
          refine lv_icmp_le (tgt := 215) hx hb dL_build_145 (by decide) (fun c77 => ?_) (fun c77 => ?_)
          · rw [if_pos c77] at h
            refine lv_aload_n hx hb dL_build_215 rfl (lv_at hl 1 rfl) ?_
            have hz := Option.some.inj h
            refine W.widen (k := 91) (n := 1860) hc hs ?_
            exact W.aret (v := .ref (adL r2)) hx hb hr (Or.inl ⟨_, rfl⟩) (Or.inr ⟨_, rfl⟩) (fun t ht hW => ⟨⟨some (adL r2), adL, rfl, by rw [← hz]; rfl, by rw [← hz]; exact ⟨hE, hNN, hO, by rw [ht]; exact hP, va_K.moved hW.alike hK, hD, fun _ h9 => by cases h9; exact n_r2⟩⟩, hS.F ht⟩) hS.2.2 dL_build_216
          · rw [if_neg c77] at h
            refine lv_aload_n hx hb dL_build_148 rfl (lv_at hl 4 rfl) ?_
            refine lv_iconst (v := 5) hx hb dL_build_149 (by decide) ?_
            refine lv_iload hx hb dL_build_150 (lv_at hl 3 rfl) ?_
            refine lv_bipush (v := 6) hx hb dL_build_152 (by decide) ?_
            obtain ⟨g78, h⟩ := vg_if h
            refine lv_irem hx hb dL_build_154 g78 ?_
            refine lv_iadd hx hb dL_build_155 ?_
            obtain ⟨q79, g80, h⟩ := vg_bind h
            refine va_calli (va_runS (As := [.ref b, .int (5 + (i4 - i4 / 6 * 6))]) (rest := []) ⟨hx, hb, hml, hown, hts⟩ (cm_L_cell (m0 := m1) l D tc adL hO g80) (va_cwS 2 hts gL_build_L_cell rfl rfl rfl (by decide +kernel) ⟨(Nat.le_of_ble_eq_true rfl), (Nat.le_of_ble_eq_true rfl)⟩) ⟨qS_blind, qS_pre hP hK hZ hX hbl hbA hS⟩ rfl rfl hl.1 rfl (lv_room (Nat.le_of_ble_eq_true rfl)) dL_build_156 ⟨hc, hs⟩) hS (fun q9 _ h9 => h9.elim) (fun q9 h9 => h9.elim) (fun w81 u t H1 locs ht hvm hw hB hz1 hk1 hS => ?_)
            have hP := hP.kept (fun k9 q9 hk9 => hk1 q9.1 (hP k9 q9 hk9).lt (fun h9 => h9))
            generalize H1 = H at hP hS ⊢
            clear hk1 hz1 ht hvm
            have hw : w81 = q79 := hw
            rw [hw]
            refine lv_iload hx hb dL_build_159 (lv_at hl 3 rfl) ?_
            refine lv_bipush (v := 6) hx hb dL_build_161 (by decide) ?_
            obtain ⟨g82, h⟩ := vg_if h
            refine lv_idiv hx hb dL_build_163 g82 ?_
            refine lv_iconst (v := 3) hx hb dL_build_164 (by decide) ?_
            refine lv_imul hx hb dL_build_165 ?_
            refine lv_ishr hx hb dL_build_166 ?_
            refine lv_bipush (v := 31) hx hb dL_build_167 (by decide) ?_
            refine lv_iload hx hb dL_build_169 (lv_at hl 3 rfl) ?_
            refine lv_imul hx hb dL_build_171 ?_
            refine lv_iadd hx hb dL_build_172 ?_
            refine lv_istore (lv' := [(5, .int ((q79 >>> (((i4 / 6) * 3) &&& 31)) + (31 * i4))), (0, .ref (adL r0)), (2, .ref (adL r2)), (3, .int i3), (4, .int i4), (1, .ref b)]) hx hb dL_build_173 hl (by decide) rfl (fun ls hl => ?_)
            refine lv_aload_n hx hb dL_build_175 rfl (lv_at hl 1 rfl) ?_
            refine lv_aload_n hx hb dL_build_176 rfl (lv_at hl 2 rfl) ?_
            refine lv_iload hx hb dL_build_177 (lv_at hl 0 rfl) ?_
            refine lv_iload_n hx hb dL_build_179 rfl (lv_at hl 3 rfl) ?_
            obtain ⟨q83, g84, h⟩ := vg_bind h
            refine va_calli (va_runS (As := [.int ((q79 >>> (((i4 / 6) * 3) &&& 31)) + (31 * i4)), .int i3]) (rest := [.ref (adL r2), .ref (adL r0)]) ⟨hx, hb, hml, hown, hts⟩ (cm_L_below (m0 := m1) l D tc adL hO g84) (va_cwS 2 hts gL_build_L_below rfl rfl rfl (by decide +kernel) ⟨(Nat.le_of_ble_eq_true rfl), (Nat.le_of_ble_eq_true rfl)⟩) ⟨qR_blind, qR_pre hP hK hZ⟩ rfl rfl hl.1 rfl (lv_room (Nat.le_of_ble_eq_true rfl)) dL_build_180 ⟨hc, hs⟩) hS (fun q9 _ h9 => h9.elim) (fun q9 h9 => h9.elim) (fun w85 u t H1 locs ht hvm hw hB hz1 hk1 hS => ?_)
            have hP := hP.kept (fun k9 q9 hk9 => hk1 q9.1 (hP k9 q9 hk9).lt (fun h9 => h9))
            generalize H1 = H at hP hS ⊢
            clear hk1 hz1 ht hvm
            have hw : w85 = q83 := hw
            rw [hw]
            refine lv_iload hx hb dL_build_183 (lv_at hl 0 rfl) ?_
            refine lv_iconst (v := 2) hx hb dL_build_185 (by decide) ?_
            refine lv_ishr hx hb dL_build_186 ?_
            refine lv_iload_n hx hb dL_build_187 rfl (lv_at hl 3 rfl) ?_
            obtain ⟨q86, g87, h⟩ := vg_bind h
            refine va_calli (va_runS (As := [.int (((q79 >>> (((i4 / 6) * 3) &&& 31)) + (31 * i4)) >>> (2 &&& 31)), .int i3]) (rest := [.int q83, .ref (adL r2), .ref (adL r0)]) ⟨hx, hb, hml, hown, hts⟩ (cm_L_below (m0 := m1) l D tc adL hO g87) (va_cwS 2 hts gL_build_L_below rfl rfl rfl (by decide +kernel) ⟨(Nat.le_of_ble_eq_true rfl), (Nat.le_of_ble_eq_true rfl)⟩) ⟨qR_blind, qR_pre hP hK hZ⟩ rfl rfl hl.1 rfl (lv_room (Nat.le_of_ble_eq_true rfl)) dL_build_188 ⟨hc, hs⟩) hS (fun q9 _ h9 => h9.elim) (fun q9 h9 => h9.elim) (fun w88 u t H1 locs ht hvm hw hB hz1 hk1 hS => ?_)
            have hP := hP.kept (fun k9 q9 hk9 => hk1 q9.1 (hP k9 q9 hk9).lt (fun h9 => h9))
            generalize H1 = H at hP hS ⊢
            clear hk1 hz1 ht hvm
            have hw : w88 = q86 := hw
            rw [hw]
            refine lv_iconst (v := 1) hx hb dL_build_191 (by decide) ?_
            refine lv_iload hx hb dL_build_192 (lv_at hl 0 rfl) ?_
            refine lv_iconst (v := 4) hx hb dL_build_194 (by decide) ?_
            refine lv_ishr hx hb dL_build_195 ?_
            refine lv_iconst (v := 5) hx hb dL_build_196 (by decide) ?_
            obtain ⟨q89, g90, h⟩ := vg_bind h
            refine va_calli (va_runS (As := [.int (((q79 >>> (((i4 / 6) * 3) &&& 31)) + (31 * i4)) >>> (4 &&& 31)), .int 5]) (rest := [.int 1, .int q86, .int q83, .ref (adL r2), .ref (adL r0)]) ⟨hx, hb, hml, hown, hts⟩ (cm_L_below (m0 := m1) l D tc adL hO g90) (va_cwS 2 hts gL_build_L_below rfl rfl rfl (by decide +kernel) ⟨(Nat.le_of_ble_eq_true rfl), (Nat.le_of_ble_eq_true rfl)⟩) ⟨qR_blind, qR_pre hP hK hZ⟩ rfl rfl hl.1 rfl (lv_room (Nat.le_of_ble_eq_true rfl)) dL_build_197 ⟨hc, hs⟩) hS (fun q9 _ h9 => h9.elim) (fun q9 h9 => h9.elim) (fun w91 u t H1 locs ht hvm hw hB hz1 hk1 hS => ?_)
            have hP := hP.kept (fun k9 q9 hk9 => hk1 q9.1 (hP k9 q9 hk9).lt (fun h9 => h9))
            generalize H1 = H at hP hS ⊢
            clear hk1 hz1 ht hvm
            have hw : w91 = q89 := hw
            rw [hw]
            refine lv_iadd hx hb dL_build_200 ?_
            obtain ⟨q92, g93, h⟩ := vg_bind h
            obtain ⟨g94, h⟩ := vg_if h
            obtain ⟨g95, h⟩ := vg_if h
            have hFc := vm_free hD hS hA
            refine va_calli (va_runS (As := [.ref (adL r0), .ref (adL r2), .int q83, .int q86, .int (1 + q89)]) (rest := []) ⟨hx, hb, hml, hown, hts⟩ (cm_L_link (m0 := m1) l D tc adL hO n_r0 n_r2 g93) (va_cwS 5 hts gL_build_L_link rfl rfl rfl (by decide +kernel) ⟨(Nat.le_of_ble_eq_true rfl), (Nat.le_of_ble_eq_true rfl)⟩) ⟨qW_blind, qW_pre hP hD hK hZ⟩ rfl rfl hl.1 rfl (lv_room (Nat.le_of_ble_eq_true rfl)) dL_build_201 ⟨g94, g95⟩) hS (fun q9 _ h9 => hFc q9 h9) hFc (fun w96 u t H1 locs ht hvm hw hB hz1 hk1 hS => ?_)
            obtain ⟨ad97, e98, e99, hO100, hP1, hK1, hD1⟩ := hB
            rw [ht] at hP1
            have hP := hP1
            have hD := hD1.weaken (fun _ q9 _ h9 => hFc q9.1 h9)
            generalize H1 = H at hP hS ⊢
            clear hk1 hz1 ht hvm
            have hl : lv_has ls 8 [(5, .int ((q79 >>> (((i4 / 6) * 3) &&& 31)) + (31 * i4))), (0, .ref (ad97 r0)), (2, .ref (ad97 r2)), (3, .int i3), (4, .int i4), (1, .ref b)] := by rw [e98 r0 n_r0, e98 r2 n_r2]; exact hl
            have e101 : ∀ k, k < N → ad97 k = ad k := fun k hk => (e98 k (Nat.lt_of_lt_of_le hk hNN)).trans (hE k hk)
            have e102 : N ≤ q92.2.1 := Nat.le_trans hNN e99
            have n103 : r0 < q92.2.1 := Nat.lt_of_lt_of_le n_r0 e99
            have n104 : r2 < q92.2.1 := Nat.lt_of_lt_of_le n_r2 e99
            have hw : w96 = q92.1 := hw
            rw [hw]
            have hP : va_P D vwCl (vW tc ad97 q92.2.1 q92.2.2) H := hP
            have hD : va_D A (vW tc ad97 q92.2.1 q92.2.2) := hD
            refine lv_if_ne (tgt := 209) hx hb dL_build_204 (by decide) (fun c105 => ?_) (fun c105 => ?_)
            · rw [if_neg c105] at h
              refine lv_iinc (v := i4 + 1) (lv' := [(4, .int (i4 + 1)), (5, .int ((q79 >>> (((i4 / 6) * 3) &&& 31)) + (31 * i4))), (0, .ref (ad97 r0)), (2, .ref (ad97 r2)), (3, .int i3), (1, .ref b)]) hx hb dL_build_209 hl (k := 4) rfl rfl (by decide) rfl (fun ls hl => ?_)
              refine lv_goto (tgt := 136) hx hb dL_build_212 (by decide) ?_
              exact (ih.2) q92.2.1 ad97 q92.2.2 ((kc + 2)) ((ks + 69)) r0 r2 i3 (i4 + 1) _ _ _ e102 e101 g94 g95 hO100 n103 n104 h hP hD hS (lv_sub hl (l' := [(0, .ref (ad97 r0)), (2, .ref (ad97 r2)), (3, .int i3), (4, .int (i4 + 1)), (1, .ref b)]) [2, 3, 4, 0, 5] rfl)
            · rw [if_pos c105] at h
              refine lv_null hx hb dL_build_207 ?_
              have hz := Option.some.inj h
              refine W.widen (k := 91) (n := 1860) g94 g95 ?_
              exact W.aret (v := .null) hx hb hr (Or.inl ⟨_, rfl⟩) (Or.inl rfl) (fun t ht hW => ⟨⟨none, ad97, rfl, by rw [← hz]; rfl, by rw [← hz]; exact ⟨e101, e102, hO100, by rw [ht]; exact hP, va_K.moved hW.alike hK, hD, fun _ h9 => by cases h9⟩⟩, hS.F ht⟩) hS.2.2 dL_build_208
  unfold f_L_build at h
  refine wm_obj5 hx hb hts in_L_build_X5 hown (hts (.classLink RL 9 RX5) (List.mem_of_getElem? (i := 1) rfl)) (hts (.instantiable RX5 4) (List.mem_of_getElem? (i := 2) rfl)) (hts (.initialized RX5) (List.mem_of_getElem? (i := 3) rfl)) hO hK hP hD hS hA (Nat.le_of_ble_eq_true rfl) (Nat.le_of_ble_eq_true rfl) dL_build_0 (fun ad106 H e107 hP hD hS => ?_)
  have hl : lv_has ls 8 [(0, .ref (ad106 p0)), (1, .ref b)] := by rw [e107 p0 n_p0]; exact hl
  have e108 : ∀ k, k < N → ad106 k = ad k := fun k hk => (e107 k (Nat.lt_of_lt_of_le hk (Nat.le_refl _))).trans ((fun _ _ => rfl) k hk)
  have e109 : N ≤ (N + 1) := Nat.le_trans (Nat.le_refl _) (Nat.le_succ _)
  have hO110 := vOK.N (k := 5) (n := 0) hO
  have n111 : p0 < (N + 1) := Nat.lt_of_lt_of_le n_p0 (Nat.le_succ _)
  have hP : va_P D vwCl (vW tc ad106 ((N + 1)) ((mN m0 N 5 0))) H := hP
  have hD : va_D A (vW tc ad106 ((N + 1)) ((mN m0 N 5 0))) := hD
  refine lv_dup hx hb dL_build_3 rfl ?_
  obtain ⟨q112, g113, h⟩ := vg_bind h
  have hFc := vm_free hD hS hA
  refine va_callv (va_runIN (As := []) (rest := [.ref (ad106 N)]) ⟨hx, hb, hml, hown, hts⟩ (cm_X5_init (m0 := (mN m0 N 5 0)) l D tc ad106 hO110 (Nat.lt_succ_self _) g113) (⟨va_cnB 0 hts gL_build_X5_init_n11 rfl rfl rfl hZ.2.2.2.2.2.2.1 (hts (.initialized RX5) (List.mem_of_getElem? (i := 3) rfl)) (by decide +kernel) ⟨(Nat.le_of_ble_eq_true rfl), (Nat.le_of_ble_eq_true rfl)⟩, rfl, (hts (.instanceMethod yX5_init) (List.mem_of_getElem? (i := 4) rfl))⟩) ⟨qW_blind, qW_pre hP hD hK hZ⟩ rfl rfl hl.1 rfl (lv_room (Nat.le_of_ble_eq_true rfl)) dL_build_4 ⟨(Nat.le_of_ble_eq_true rfl), (Nat.le_of_ble_eq_true rfl)⟩) hS (fun q9 _ h9 => hFc q9 h9) hFc (fun u t H1 locs ht hvm hw hB hz1 hk1 hS => ?_)
  obtain ⟨ad115, e116, e117, hO118, hP1, hK1, hD1⟩ := hB
  rw [ht] at hP1
  have hP := hP1
  have hD := hD1.weaken (fun _ q9 _ h9 => hFc q9.1 h9)
  generalize H1 = H at hP hS ⊢
  clear hk1 hz1 ht hvm
  have hl : lv_has ls 8 [(0, .ref (ad115 p0)), (1, .ref b)] := by rw [e116 p0 n111]; exact hl
  have e119 : ∀ k, k < N → ad115 k = ad k := fun k hk => (e116 k (Nat.lt_of_lt_of_le hk e109)).trans (e108 k hk)
  have e120 : N ≤ q112.1 := Nat.le_trans e109 e117
  have n121 : p0 < q112.1 := Nat.lt_of_lt_of_le n111 e117
  have n122 : N < q112.1 := Nat.lt_of_lt_of_le (Nat.lt_succ_self _) e117
  refine W.eq (g2 := F0 m 7 ls [.ref (ad115 N)]) (by rw [e116 N (Nat.lt_succ_self _)]) ?_
  have hP : va_P D vwCl (vW tc ad115 q112.1 q112.2) H := hP
  have hD : va_D A (vW tc ad115 q112.1 q112.2) := hD
  refine lv_astore_n (lv' := [(2, .ref (ad115 N)), (0, .ref (ad115 p0)), (1, .ref b)]) hx hb dL_build_7 rfl hl (by decide) rfl (fun ls hl => ?_)
  refine lv_iconst (v := 1) hx hb dL_build_8 (by decide) ?_
  refine lv_aload_n hx hb dL_build_9 rfl (lv_at hl 2 rfl) ?_
  refine lv_iconst (v := 0) hx hb dL_build_10 (by decide) ?_
  obtain ⟨q123, g124, h⟩ := vg_bind h
  refine va_calli (va_runS (As := [.ref b, .int 0]) (rest := [.int 1]) ⟨hx, hb, hml, hown, hts⟩ (cm_L_cell (m0 := q112.2) l D tc ad115 hO118 g124) (va_cwS 2 hts gL_build_L_cell rfl rfl rfl (by decide +kernel) ⟨(Nat.le_of_ble_eq_true rfl), (Nat.le_of_ble_eq_true rfl)⟩) ⟨qS_blind, qS_pre hP hK hZ hX hbl hbA hS⟩ rfl rfl hl.1 rfl (lv_room (Nat.le_of_ble_eq_true rfl)) dL_build_11 ⟨(Nat.le_of_ble_eq_true rfl), (Nat.le_of_ble_eq_true rfl)⟩) hS (fun q9 _ h9 => h9.elim) (fun q9 h9 => h9.elim) (fun w125 u t H1 locs ht hvm hw hB hz1 hk1 hS => ?_)
  have hP := hP.kept (fun k9 q9 hk9 => hk1 q9.1 (hP k9 q9 hk9).lt (fun h9 => h9))
  generalize H1 = H at hP hS ⊢
  clear hk1 hz1 ht hvm
  have hw : w125 = q123 := hw
  rw [hw]
  refine lv_bipush (v := 10) hx hb dL_build_14 (by decide) ?_
  obtain ⟨q126, g127, h⟩ := vg_bind h
  refine va_calli (va_runS (As := [.int q123, .int 10]) (rest := [.int 1]) ⟨hx, hb, hml, hown, hts⟩ (cm_L_below (m0 := q112.2) l D tc ad115 hO118 g127) (va_cwS 2 hts gL_build_L_below rfl rfl rfl (by decide +kernel) ⟨(Nat.le_of_ble_eq_true rfl), (Nat.le_of_ble_eq_true rfl)⟩) ⟨qR_blind, qR_pre hP hK hZ⟩ rfl rfl hl.1 rfl (lv_room (Nat.le_of_ble_eq_true rfl)) dL_build_16 ⟨(Nat.le_of_ble_eq_true rfl), (Nat.le_of_ble_eq_true rfl)⟩) hS (fun q9 _ h9 => h9.elim) (fun q9 h9 => h9.elim) (fun w128 u t H1 locs ht hvm hw hB hz1 hk1 hS => ?_)
  have hP := hP.kept (fun k9 q9 hk9 => hk1 q9.1 (hP k9 q9 hk9).lt (fun h9 => h9))
  generalize H1 = H at hP hS ⊢
  clear hk1 hz1 ht hvm
  have hw : w128 = q126 := hw
  rw [hw]
  refine lv_iadd hx hb dL_build_19 ?_
  refine lv_istore_n (lv' := [(3, .int (1 + q126)), (2, .ref (ad115 N)), (0, .ref (ad115 p0)), (1, .ref b)]) hx hb dL_build_20 rfl hl (by decide) rfl (fun ls hl => ?_)
  refine lv_iconst (v := 0) hx hb dL_build_21 (by decide) ?_
  refine lv_istore (lv' := [(4, .int 0), (3, .int (1 + q126)), (2, .ref (ad115 N)), (0, .ref (ad115 p0)), (1, .ref b)]) hx hb dL_build_22 hl (by decide) rfl (fun ls hl => ?_)
  exact ((hL vF).1) q112.1 ad115 q112.2 (((0 + 1) + 2)) (((0 + 4) + 0)) p0 N (1 + q126) (0 : Int32) _ _ _ e120 e119 (Nat.le_of_ble_eq_true rfl) (Nat.le_of_ble_eq_true rfl) hO118 n121 n122 h hP hD hS (lv_sub hl (l' := [(0, .ref (ad115 p0)), (2, .ref (ad115 N)), (3, .int (1 + q126)), (4, .int 0), (1, .ref b)]) [3, 2, 1, 0, 4] rfl)
