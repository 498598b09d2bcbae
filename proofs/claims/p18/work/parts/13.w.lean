noncomputable def f_L_below (m : vM) (p0 : Int32) (p1 : Int32) : Option (Int32) :=
  if ¬ p1 = 0 then
  some ((p0 &&& 2147483647) - (p0 &&& 2147483647) / p1 * p1)
  else none
set_option maxHeartbeats 1000000 in
set_option maxRecDepth 100000 in
theorem cm_L_below (l : Launch) (D : va_G) (tc : Nat → ClassId) (ad : Nat → Nat) {N : Nat} {m0 : vM} {p0 : Int32} {p1 : Int32} (hO : vOK N m0) {z : Int32} (h : f_L_below m0 p0 p1 = some z) : Met l yL_below wsL_below ({ frames := 0, cells := 0, slots := 0, locals := 0 } : Room) (va_Pc [.int p0, .int p1] (qR D tc ad N m0)) (va_Qi (fun (r9 : Int32) (_ : Unit) => r9 = z) (fun _ _ => True) (fun _ => False)) 0 0 (fun _ => False) := by
  refine Met.ofW (cc := cL_below) (maxL := 2) (ret := (some .int)) (by decide) rfl ?_
  intro p e s m args below meth c s₁ B hml hv
  obtain ⟨rfl, hP, hK, hZ⟩ := hv
  have hx := B.exec
  have hb := B.bytes
  have hr := B.returns
  have hts := atoms_spec (ws := wsL_below) B.pre
  have hown : s.vm.findClass RL = some m.cls := findClass_of_methodNamed B.named
  have hlocks := B.notSynchronized
  have hS : va_S (fun _ => False) s.heap s.heap [] := va_S.rf
  have hl := lv_entry ([.int p0, .int p1]) (n := 2) (Nat.le_of_ble_eq_true rfl)
  rw [lg_entry_eq]
  generalize (lg_sl ([.int p0, .int p1]) ++ List.replicate (2 - (lg_sl ([.int p0, .int p1])).length) Slot.unset).toArray = ls at hl ⊢
  have hl : lv_has ls 2 [(0, .int p0), (1, .int p1)] := hl
  unfold f_L_below at h
  refine lv_iload_n hx hb dL_below_0 rfl (lv_at hl 0 rfl) ?_
  refine lv_ldc (v := 2147483647) hx hb hown (hts (.constant RL 7 (2147483647)) (List.mem_of_getElem? (i := 1) rfl)) dL_below_1 ?_
  refine lv_iand hx hb dL_below_3 ?_
  refine lv_iload_n hx hb dL_below_4 rfl (lv_at hl 1 rfl) ?_
  obtain ⟨g1, h⟩ := vg_if h
  refine lv_irem hx hb dL_below_5 g1 ?_
  have hz := Option.some.inj h
  exact W.iret (v := (p0 &&& 2147483647) - (p0 &&& 2147483647) / p1 * p1) hx hb hr (fun t ht hW => ⟨⟨_, (), rfl, hz, trivial⟩, hS.F ht⟩) hS.2.2 dL_below_6

noncomputable def f_L_cell (L : Nat) (xs : Nat → Int32) (m : vM) (p1 : Int32) : Option (Int32) :=
  if (Int32.ofNat L) ≤ p1 then (
    some (790386105 * (p1 + 3))
  ) else (
    if vin p1 L then
    some (xs p1.toNatClampNeg)
    else none
  )
set_option maxHeartbeats 1000000 in
set_option maxRecDepth 100000 in
theorem cm_L_cell (l : Launch) (D : va_G) (tc : Nat → ClassId) (ad : Nat → Nat) {N : Nat} {m0 : vM} {b L : Nat} {xs : Nat → Int32} {p1 : Int32} (hO : vOK N m0) {z : Int32} (h : f_L_cell L xs m0 p1 = some z) : Met l yL_cell wsL_cell ({ frames := 0, cells := 0, slots := 0, locals := 0 } : Room) (va_Pc [.ref b, .int p1] (qS D tc ad N m0 b L xs)) (va_Qi (fun (r9 : Int32) (_ : Unit) => r9 = z) (fun _ _ => True) (fun _ => False)) 0 0 (fun _ => False) := by
  refine Met.ofW (cc := cL_cell) (maxL := 2) (ret := (some .int)) (by decide) rfl ?_
  intro p e s m args below meth c s₁ B hml hv
  obtain ⟨rfl, hP, hK, hZ, hX, hbl⟩ := hv
  have hbA : ¬ (fun _ : Nat => False) b := fun h9 => h9
  have hx := B.exec
  have hb := B.bytes
  have hr := B.returns
  have hts := atoms_spec (ws := wsL_cell) B.pre
  have hown : s.vm.findClass RL = some m.cls := findClass_of_methodNamed B.named
  have hlocks := B.notSynchronized
  have hS : va_S (fun _ => False) s.heap s.heap [] := va_S.rf
  have hl := lv_entry ([.ref b, .int p1]) (n := 2) (Nat.le_of_ble_eq_true rfl)
  rw [lg_entry_eq]
  generalize (lg_sl ([.ref b, .int p1]) ++ List.replicate (2 - (lg_sl ([.ref b, .int p1])).length) Slot.unset).toArray = ls at hl ⊢
  have hl : lv_has ls 2 [(0, .ref b), (1, .int p1)] := hl
  unfold f_L_cell at h
  refine lv_iload_n hx hb dL_cell_0 rfl (lv_at hl 1 rfl) ?_
  refine lv_aload_n hx hb dL_cell_1 rfl (lv_at hl 0 rfl) ?_
  refine va_slen hx hb hX hbl hbA hS dL_cell_2 ?_
  refine lv_icmp_ge (tgt := 12) hx hb dL_cell_3 (by decide) (fun c1 => ?_) (fun c1 => ?_)
  · rw [if_pos c1] at h
    refine lv_ldc (v := 790386105) hx hb hown (hts (.constant RL 8 (790386105)) (List.mem_of_getElem? (i := 1) rfl)) dL_cell_12 ?_
    refine lv_iload_n hx hb dL_cell_14 rfl (lv_at hl 1 rfl) ?_
    refine lv_iconst (v := 3) hx hb dL_cell_15 (by decide) ?_
    refine lv_iadd hx hb dL_cell_16 ?_
    refine lv_imul hx hb dL_cell_17 ?_
    have hz := Option.some.inj h
    exact W.iret (v := 790386105 * (p1 + 3)) hx hb hr (fun t ht hW => ⟨⟨_, (), rfl, hz, trivial⟩, hS.F ht⟩) hS.2.2 dL_cell_18
  · rw [if_neg c1] at h
    refine lv_aload_n hx hb dL_cell_6 rfl (lv_at hl 0 rfl) ?_
    refine lv_iload_n hx hb dL_cell_7 rfl (lv_at hl 1 rfl) ?_
    obtain ⟨g2, h⟩ := vg_if h
    refine va_sld hx hb hX hbl hbA hS g2 dL_cell_8 ?_
    refine W.eq (g2 := F0 m 9 ls [.int (xs p1.toNatClampNeg)]) rfl ?_
    refine lv_goto (tgt := 18) hx hb dL_cell_9 (by decide) ?_
    have hz := Option.some.inj h
    exact W.iret (v := xs p1.toNatClampNeg) hx hb hr (fun t ht hW => ⟨⟨_, (), rfl, hz, trivial⟩, hS.F ht⟩) hS.2.2 dL_cell_18

noncomputable def fB_L_link_53 (rec : Nat → Nat → vM → Nat → Nat → Nat → Nat → Int32 → Int32 → Int32 → Nat → Int32 → Nat → Int32 → Int32 → Option (Int32 × Nat × vM)) (N : Nat) (m : vM) (kc ks : Nat) (r0 : Nat) (r1 : Nat) (i2 : Int32) (i3 : Int32) (i4 : Int32) (r5 : Nat) (i6 : Int32) (r7 : Nat) (i8 : Int32) (i9 : Int32) : Option (Int32 × Nat × vM) :=
  if i8 ≤ i9 then (
    if i6 = 0 then (
      some ((1 : Int32), N, m)
    ) else (
      if mk m r5 = 4 then
      Option.bind (mr m r5 5) fun y4 =>
      if (kc + 1) ≤ 2 then
      if (ks + 3) ≤ 69 then
      if vin (0 : Int32) (ml ((mN m N 6 3)) N) then
      if vin (1 : Int32) (ml ((mI ((mN m N 6 3)) N 0 i3)) N) then
      if vin (2 : Int32) (ml ((mI ((mI ((mN m N 6 3)) N 0 i3)) N 1 i4)) N) then
      Option.bind (f_X5_more ((N + 1)) ((mI ((mI ((mI ((mN m N 6 3)) N 0 i3)) N 1 i4)) N 2 (-1))) y4 N) fun q24 =>
      if ((kc + 1) + 1) ≤ 2 then
      if ((ks + 3) + 66) ≤ 69 then
      if mk q24.2.2 r5 = 4 then
      if mk ((mR q24.2.2 r5 5 (some q24.1))) r0 = 3 then
      Option.bind (f_X3_ask ((mR q24.2.2 r5 5 (some q24.1))) r0 i2 i3 i4) fun q45 =>
      if mk q45.2 r5 = 4 then
      Option.bind (mr q45.2 r5 5) fun y50 =>
      if mk q45.2 y50 = 8 then
      if q45.1 = (Int32.ofNat (ml q45.2 y50)) then (
        some ((1 : Int32), q24.2.1, q45.2)
      ) else (
        some ((0 : Int32), q24.2.1, q45.2)
      )
      else none
      else none
      else none
      else none
      else none
      else none
      else none
      else none
      else none
      else none
      else none
      else none
    )
  ) else (
    if mk m r7 = 8 then
    if vin i9 (ml m r7) then
    Option.bind (mr m r7 i9.toNatClampNeg) fun y56 =>
    if i6 = 0 then (
      rec 53 N m kc ks r0 r1 i2 i3 i4 r5 (0 : Int32) r7 i8 (i9 + 1)
    ) else (
      if mk m y56 = 6 then
      if vin (0 : Int32) (ml m y56) then
      if (mi m y56 0) = i3 then (
        rec 53 N m kc ks r0 r1 i2 i3 i4 r5 (0 : Int32) r7 i8 (i9 + 1)
      ) else (
        rec 53 N m kc ks r0 r1 i2 i3 i4 r5 (1 : Int32) r7 i8 (i9 + 1)
      )
      else none
      else none
    )
    else none
    else none
  )
noncomputable def fL_L_link (n : Nat) : Nat → Nat → vM → Nat → Nat → Nat → Nat → Int32 → Int32 → Int32 → Nat → Int32 → Nat → Int32 → Int32 → Option (Int32 × Nat × vM) := Nat.rec (fun _ _ _ _ _ _ _ _ _ _ _ _ _ _ _ => none) (fun _ rec pc N m kc ks r0 r1 i2 i3 i4 r5 i6 r7 i8 i9 => if pc = 53 then fB_L_link_53 rec N m kc ks r0 r1 i2 i3 i4 r5 i6 r7 i8 i9 else none) n
noncomputable def f_L_link (N : Nat) (m : vM) (p0 : Nat) (p1 : Nat) (p2 : Int32) (p3 : Int32) (p4 : Int32) : Option (Int32 × Nat × vM) :=
  if mk m p1 = 5 then
  Option.bind (mr m p1 0) fun y2 =>
  if mk m y2 = 9 then
  if vin p2 (ml m y2) then
  Option.bind (mr m y2 p2.toNatClampNeg) fun y6 =>
  if p2 = p3 then (
    if mk m y6 = 4 then
    Option.bind (mr m y6 5) fun y10 =>
    if mk m y10 = 8 then
    fL_L_link vF 53 N m 0 0 p0 p1 p2 p3 p4 y6 (0 : Int32) y10 (Int32.ofNat (ml m y10)) (0 : Int32)
    else none
    else none
  ) else (
    if mk m y6 = 4 then
    if (mi m y6 3) = 0 then (
      Option.bind (mr m y6 5) fun y15 =>
      if mk m y15 = 8 then
      if 4 ≤ (Int32.ofNat (ml m y15)) then (
        Option.bind (mr m y6 5) fun y19 =>
        if mk m y19 = 8 then
        fL_L_link vF 53 N m 0 0 p0 p1 p2 p3 p4 y6 (0 : Int32) y19 (Int32.ofNat (ml m y19)) (0 : Int32)
        else none
      ) else (
        Option.bind (mr m y6 5) fun y22 =>
        if mk m y22 = 8 then
        fL_L_link vF 53 N m 0 0 p0 p1 p2 p3 p4 y6 (1 : Int32) y22 (Int32.ofNat (ml m y22)) (0 : Int32)
        else none
      )
      else none
    ) else (
      Option.bind (mr m y6 5) fun y25 =>
      if mk m y25 = 8 then
      fL_L_link vF 53 N m 0 0 p0 p1 p2 p3 p4 y6 (0 : Int32) y25 (Int32.ofNat (ml m y25)) (0 : Int32)
      else none
    )
    else none
  )
  else none
  else none
  else none
theorem in_L_link_X4 : ∀ w ∈ wsX40, w ∈ wsL_link := by decide +kernel
theorem in_L_link_X5 : ∀ w ∈ wsX50, w ∈ wsL_link := by decide +kernel
set_option maxHeartbeats 1000000 in
set_option maxRecDepth 100000 in
theorem cm_L_link (l : Launch) (D : va_G) (tc : Nat → ClassId) (ad : Nat → Nat) {N : Nat} {m0 : vM} {sz : Nat} {p0 : Nat} {p1 : Nat} {p2 : Int32} {p3 : Int32} {p4 : Int32} (hO : vOK N m0) (n_p0 : p0 < N) (n_p1 : p1 < N) {z : Int32 × Nat × vM} (h : f_L_link N m0 p0 p1 p2 p3 p4 = some z) : Met l yL_link wsL_link ({ frames := 2, cells := 2, slots := 69, locals := 46 } : Room) (va_Pc [.ref (ad p0), .ref (ad p1), .int p2, .int p3, .int p4] (qW D tc ad N m0 sz)) (va_Qi (fun (r9 : Int32) (_ : Unit) => r9 = z.1) (fun _ t => vX D (va_A (vW tc ad N m0) sz) tc ad N z.2.1 z.2.2 t) (va_A (vW tc ad N m0) sz)) 2 69 (va_A (vW tc ad N m0) sz) := by
  refine Met.ofW (cc := cL_link) (maxL := 11) (ret := (some .boolean)) (by decide) rfl ?_
  intro p e s m args below meth c s₁ B hml hv
  obtain ⟨rfl, hsz, hP, hK, hD0, hZ⟩ := hv
  have hx := B.exec
  have hb := B.bytes
  have hr := B.returns
  have hts := atoms_spec (ws := wsL_link) B.pre
  have hown : s.vm.findClass RL = some m.cls := findClass_of_methodNamed B.named
  have hlocks := B.notSynchronized
  subst hsz
  have hD := hD0.self (sz := s.heap.size)
  generalize hAe : va_A (vW tc ad N m0) s.heap.size = A at hD ⊢
  have hA : ∀ q : Nat, s.heap.size ≤ q → A q := fun q h => by rw [← hAe]; exact Or.inr h
  have hS : va_S A s.heap s.heap [] := va_S.rf
  have hl := lv_entry ([.ref (ad p0), .ref (ad p1), .int p2, .int p3, .int p4]) (n := 11) (Nat.le_of_ble_eq_true rfl)
  rw [lg_entry_eq]
  generalize (lg_sl ([.ref (ad p0), .ref (ad p1), .int p2, .int p3, .int p4]) ++ List.replicate (11 - (lg_sl ([.ref (ad p0), .ref (ad p1), .int p2, .int p3, .int p4])).length) Slot.unset).toArray = ls at hl ⊢
  have hl : lv_has ls 11 [(0, .ref (ad p0)), (1, .ref (ad p1)), (2, .int p2), (3, .int p3), (4, .int p4)] := hl
  have hL : ∀ n : Nat, (∀ (NL : Nat) (adL : Nat → Nat) (m1 : vM) (kc ks : Nat) (r0 : Nat) (r1 : Nat) (i2 : Int32) (i3 : Int32) (i4 : Int32) (r5 : Nat) (i6 : Int32) (r7 : Nat) (i8 : Int32) (i9 : Int32) (H : Heap) (locs : List Loc) (ls : Array Slot), N ≤ NL → (∀ k, k < N → adL k = ad k) → kc ≤ 2 → ks ≤ 69 → vOK NL m1 → r0 < NL → r1 < NL → r5 < NL → r7 < NL → fL_L_link n 53 NL m1 kc ks r0 r1 i2 i3 i4 r5 i6 r7 i8 i9 = some z → va_P D vwCl (vW tc adL NL m1) H → va_D A (vW tc adL NL m1) → va_S A s.heap H locs → lv_has ls 11 [(0, .ref (adL r0)), (1, .ref (adL r1)), (2, .int i2), (3, .int i3), (4, .int i4), (5, .ref (adL r5)), (6, .int i6), (7, .ref (adL r7)), (8, .int i8), (9, .int i9)] → W p l e (headSpec wsL_link ({ frames := 2, cells := 2, slots := 69, locals := 46 } : Room)).room s m ([.ref (ad p0), .ref (ad p1), .int p2, .int p3, .int p4] : List Value).toArray below meth c H locs kc ks (MQ below (va_Qi (fun (r9 : Int32) (_ : Unit) => r9 = z.1) (fun _ t => vX D A tc ad N z.2.1 z.2.2 t) A) ([.ref (ad p0), .ref (ad p1), .int p2, .int p3, .int p4] : List Value).toArray s 2 69 A) (F0 m 53 ls [])) := by
    intro n
    induction n with
    | zero => exact (fun _ _ _ _ _ _ _ _ _ _ _ _ _ _ _ _ _ _ _ _ _ _ _ _ _ _ _ h9 _ _ _ _ => by have h9 : (none : Option (Int32 × Nat × vM)) = some z := h9; cases h9)
    | succ n ih =>
      · intro NL adL m1 kc ks r0 r1 i2 i3 i4 r5 i6 r7 i8 i9 H locs ls hNN hE hc hs hO n_r0 n_r1 n_r5 n_r7 h hP hD hS hl
        have h : fB_L_link_53 (fL_L_link n) NL m1 kc ks r0 r1 i2 i3 i4 r5 i6 r7 i8 i9 = some z := h
        unfold fB_L_link_53 at h
        refine lv_iload hx hb dL_link_53 (lv_at hl 9 rfl) ?_
        refine lv_iload hx hb dL_link_55 (lv_at hl 8 rfl) ?_
        refine lv_icmp_ge (tgt := 93) hx hb dL_link_57 (by decide) (fun c1 => ?_) (fun c1 => ?_)
        · rw [if_pos c1] at h
          refine lv_iload hx hb dL_link_93 (lv_at hl 6 rfl) ?_
          refine lv_if_ne (tgt := 100) hx hb dL_link_95 (by decide) (fun c2 => ?_) (fun c2 => ?_)
          · rw [if_neg c2] at h
            refine lv_aload hx hb dL_link_100 (lv_at hl 5 rfl) ?_
            refine lv_aload hx hb dL_link_102 (lv_at hl 5 rfl) ?_
            obtain ⟨g3, h⟩ := vg_if h
            obtain ⟨y4, g5, h⟩ := vg_bind h
            have n_y4 := hO _ _ _ g5
            refine va_get (D := D) (ci := 4) (v := .ref (adL y4)) (C := RX4) (T := TX4) (N := 9) hx hb hts in_L_link_X4 hown hK hP r5 (vW_k4 n_r5 g3) rfl 5 (by decide) (hts (.fieldLink RL 45 "VaultDoorsLaw$Door" "asks" "[[I") (List.mem_of_getElem? (i := 3) rfl)) (fun _ h9 => h9) (by show some (va_rf (Option.map adL (mr m1 r5 5))) = _; rw [g5]; rfl) dL_link_104 ?_
            refine lv_iconst (v := 3) hx hb dL_link_107 (by decide) ?_
            obtain ⟨g6, h⟩ := vg_if h
            obtain ⟨g7, h⟩ := vg_if h
            refine wm_new6 (n := 3) (n' := 3) hx hb (hts (.arrayClass .int) (List.mem_of_getElem? (i := 4) rfl)) hO hK hP hD hS hA (by decide) (by decide) (Nat.le_of_ble_eq_true rfl) g6 g7 dL_link_108 (fun ad8 H e9 hP hD hS => ?_)
            have hl : lv_has ls 11 [(0, .ref (ad8 r0)), (1, .ref (ad8 r1)), (2, .int i2), (3, .int i3), (4, .int i4), (5, .ref (ad8 r5)), (6, .int i6), (7, .ref (ad8 r7)), (8, .int i8), (9, .int i9)] := by rw [e9 r0 n_r0, e9 r1 n_r1, e9 r5 n_r5, e9 r7 n_r7]; exact hl
            have e10 : ∀ k, k < N → ad8 k = ad k := fun k hk => (e9 k (Nat.lt_of_lt_of_le hk hNN)).trans (hE k hk)
            have e11 : N ≤ (NL + 1) := Nat.le_trans hNN (Nat.le_succ _)
            have hO12 := vOK.N (k := 6) (n := 3) hO
            have n13 : r0 < (NL + 1) := Nat.lt_of_lt_of_le n_r0 (Nat.le_succ _)
            have n14 : r1 < (NL + 1) := Nat.lt_of_lt_of_le n_r1 (Nat.le_succ _)
            have n15 : r5 < (NL + 1) := Nat.lt_of_lt_of_le n_r5 (Nat.le_succ _)
            have n16 : r7 < (NL + 1) := Nat.lt_of_lt_of_le n_r7 (Nat.le_succ _)
            have n17 : y4 < (NL + 1) := Nat.lt_of_lt_of_le n_y4 (Nat.le_succ _)
            refine W.eq (g2 := F0 m 110 ls [.ref (ad8 NL), .ref (ad8 y4), .ref (ad8 r5)]) (by rw [e9 y4 n_y4, e9 r5 n_r5]) ?_
            have hP : va_P D vwCl (vW tc ad8 ((NL + 1)) ((mN m1 NL 6 3))) H := hP
            have hD : va_D A (vW tc ad8 ((NL + 1)) ((mN m1 NL 6 3))) := hD
            refine lv_dup hx hb dL_link_110 rfl ?_
            refine lv_iconst (v := 0) hx hb dL_link_111 (by decide) ?_
            refine lv_iload_n hx hb dL_link_112 rfl (lv_at hl 3 rfl) ?_
            obtain ⟨g18, h⟩ := vg_if h
            refine va_iast (D := D) hx hb hK hP hD hS NL 0 (vW_k6 (Nat.lt_succ_self _) (mN_k1 (m := m1) (n := 3))) rfl (i := 0) (x := i3) g18 dL_link_113 (fun H locs hP hD hS => ?_)
            rw [vW_p6 (m := ((mN m1 NL 6 3))) (Nat.lt_succ_self _) (mN_k1 (m := m1) (n := 3))] at hP hD
            have hO19 := vOK.I (a := NL) (j := 0) (v := i3) hO12
            have hP : va_P D vwCl (vW tc ad8 ((NL + 1)) ((mI ((mN m1 NL 6 3)) NL 0 i3))) H := hP
            have hD : va_D A (vW tc ad8 ((NL + 1)) ((mI ((mN m1 NL 6 3)) NL 0 i3))) := hD
            refine lv_dup hx hb dL_link_114 rfl ?_
            refine lv_iconst (v := 1) hx hb dL_link_115 (by decide) ?_
            refine lv_iload hx hb dL_link_116 (lv_at hl 4 rfl) ?_
            obtain ⟨g20, h⟩ := vg_if h
            refine va_iast (D := D) hx hb hK hP hD hS NL 0 (vW_k6 (Nat.lt_succ_self _) (mN_k1 (m := m1) (n := 3))) rfl (i := 1) (x := i4) g20 dL_link_118 (fun H locs hP hD hS => ?_)
            rw [vW_p6 (m := ((mI ((mN m1 NL 6 3)) NL 0 i3))) (Nat.lt_succ_self _) (mN_k1 (m := m1) (n := 3))] at hP hD
            have hO21 := vOK.I (a := NL) (j := 1) (v := i4) hO19
            have hP : va_P D vwCl (vW tc ad8 ((NL + 1)) ((mI ((mI ((mN m1 NL 6 3)) NL 0 i3)) NL 1 i4))) H := hP
            have hD : va_D A (vW tc ad8 ((NL + 1)) ((mI ((mI ((mN m1 NL 6 3)) NL 0 i3)) NL 1 i4))) := hD
            refine lv_dup hx hb dL_link_119 rfl ?_
            refine lv_iconst (v := 2) hx hb dL_link_120 (by decide) ?_
            refine lv_iconst (v := (-1)) hx hb dL_link_121 (by decide) ?_
            obtain ⟨g22, h⟩ := vg_if h
            refine va_iast (D := D) hx hb hK hP hD hS NL 0 (vW_k6 (Nat.lt_succ_self _) (mN_k1 (m := m1) (n := 3))) rfl (i := 2) (x := (-1)) g22 dL_link_122 (fun H locs hP hD hS => ?_)
            rw [vW_p6 (m := ((mI ((mI ((mN m1 NL 6 3)) NL 0 i3)) NL 1 i4))) (Nat.lt_succ_self _) (mN_k1 (m := m1) (n := 3))] at hP hD
            have hO23 := vOK.I (a := NL) (j := 2) (v := (-1)) hO21
            have hP : va_P D vwCl (vW tc ad8 ((NL + 1)) ((mI ((mI ((mI ((mN m1 NL 6 3)) NL 0 i3)) NL 1 i4)) NL 2 (-1)))) H := hP
            have hD : va_D A (vW tc ad8 ((NL + 1)) ((mI ((mI ((mI ((mN m1 NL 6 3)) NL 0 i3)) NL 1 i4)) NL 2 (-1)))) := hD
            obtain ⟨q24, g25, h⟩ := vg_bind h
            obtain ⟨g26, h⟩ := vg_if h
            obtain ⟨g27, h⟩ := vg_if h
            have hFc := vm_free hD hS hA
            refine va_callr (va_runS (As := [.ref (ad8 y4), .ref (ad8 NL)]) (rest := [.ref (ad8 r5)]) ⟨hx, hb, hml, hown, hts⟩ (cm_X5_more (m0 := (mI ((mI ((mI ((mN m1 NL 6 3)) NL 0 i3)) NL 1 i4)) NL 2 (-1))) l D tc ad8 hO23 n17 (Nat.lt_succ_self _) g25) (va_cwS 2 hts gL_link_X5_more rfl rfl rfl (by decide +kernel) ⟨(Nat.le_of_ble_eq_true rfl), (Nat.le_of_ble_eq_true rfl)⟩) ⟨qW_blind, qW_pre hP hD hK hZ⟩ rfl rfl hl.1 rfl (lv_room (Nat.le_of_ble_eq_true rfl)) dL_link_123 ⟨g26, g27⟩) hS (fun q9 _ h9 => hFc q9 h9) hFc (fun u ra t H1 locs ht hvm hw hB hz1 hk1 hS => ?_)
            obtain ⟨ad29, e30, e31, hO32, hP1, hK1, hD1, hr1, hr2⟩ := hB
            rw [ht] at hP1
            have hP := hP1
            have hD := hD1.weaken (fun _ q9 _ h9 => hFc q9.1 h9)
            generalize H1 = H at hP hS ⊢
            clear hk1 hz1 ht hvm
            rw [hr1]
            have hl : lv_has ls 11 [(0, .ref (ad29 r0)), (1, .ref (ad29 r1)), (2, .int i2), (3, .int i3), (4, .int i4), (5, .ref (ad29 r5)), (6, .int i6), (7, .ref (ad29 r7)), (8, .int i8), (9, .int i9)] := by rw [e30 r0 n13, e30 r1 n14, e30 r5 n15, e30 r7 n16]; exact hl
            have e33 : ∀ k, k < N → ad29 k = ad k := fun k hk => (e30 k (Nat.lt_of_lt_of_le hk e11)).trans (e10 k hk)
            have e34 : N ≤ q24.2.1 := Nat.le_trans e11 e31
            have n35 : r0 < q24.2.1 := Nat.lt_of_lt_of_le n13 e31
            have n36 : r1 < q24.2.1 := Nat.lt_of_lt_of_le n14 e31
            have n37 : r5 < q24.2.1 := Nat.lt_of_lt_of_le n15 e31
            have n38 : r7 < q24.2.1 := Nat.lt_of_lt_of_le n16 e31
            have n39 : y4 < q24.2.1 := Nat.lt_of_lt_of_le n17 e31
            have n40 : NL < q24.2.1 := Nat.lt_of_lt_of_le (Nat.lt_succ_self _) e31
            have n41 : q24.1 < q24.2.1 := hr2
            refine W.eq (g2 := F0 m 126 ls [.ref (ad29 q24.1), .ref (ad29 r5)]) (by rw [e30 r5 n15]) ?_
            have hP : va_P D vwCl (vW tc ad29 q24.2.1 q24.2.2) H := hP
            have hD : va_D A (vW tc ad29 q24.2.1 q24.2.2) := hD
            obtain ⟨g42, h⟩ := vg_if h
            refine va_put (D := D) (ci := 4) (v := .ref (ad29 q24.1)) (ty := .array (.array .int)) (C := RX4) (T := TX4) (N := 9) hx hb hts in_L_link_X4 tyX4 tyX4_ok nmX4 hown hK hP hD hS r5 (vW_k4 n37 g42) rfl 5 (by decide) (hts (.fieldLink RL 45 "VaultDoorsLaw$Door" "asks" "[[I") (List.mem_of_getElem? (i := 3) rfl)) (fun _ h9 => h9) rfl (by decide +kernel) rfl rfl (Nat.le_of_ble_eq_true rfl) dL_link_126 (fun H locs hP hD hS => ?_)
            rw [vW_p4_5 (m := q24.2.2) n37 g42] at hP hD
            have hO43 := vOK.R (a := r5) (j := 5) hO32 n41
            have hP : va_P D vwCl (vW tc ad29 q24.2.1 ((mR q24.2.2 r5 5 (some q24.1)))) H := hP
            have hD : va_D A (vW tc ad29 q24.2.1 ((mR q24.2.2 r5 5 (some q24.1)))) := hD
            refine lv_aload_n hx hb dL_link_129 rfl (lv_at hl 0 rfl) ?_
            refine lv_iload_n hx hb dL_link_130 rfl (lv_at hl 2 rfl) ?_
            refine lv_iload_n hx hb dL_link_131 rfl (lv_at hl 3 rfl) ?_
            refine lv_iload hx hb dL_link_132 (lv_at hl 4 rfl) ?_
            obtain ⟨g44, h⟩ := vg_if h
            obtain ⟨q45, g46, h⟩ := vg_bind h
            have hFc := vm_free hD hS hA
            refine va_calli (va_runV (As := [.int i2, .int i3, .int i4]) (rest := []) ⟨hx, hb, hml, hown, hts⟩ (cm_X3_ask (m0 := (mR q24.2.2 r5 5 (some q24.1))) l D tc ad29 hO43 n35 g46) (cwV 3 hts gL_link_X3_ask rfl rfl rfl (by decide +kernel) ⟨(Nat.le_of_ble_eq_true rfl), (Nat.le_of_ble_eq_true rfl)⟩) ⟨qW_blind, va_recv hK hP (ci := 3) (q0 := r0) rfl (vW_k3 n35 g44), qW_pre hP hD hK hZ⟩ rfl rfl hl.1 rfl (lv_room (Nat.le_of_ble_eq_true rfl)) dL_link_134 ⟨g26, g27⟩) hS (fun q9 _ h9 => hFc q9 h9) hFc (fun w47 u t H1 locs ht hvm hw hB hz1 hk1 hS => ?_)
            obtain ⟨hO48, hP1, hK1, hD1⟩ := hB
            rw [ht] at hP1
            have hP := hP1
            have hD := hD1.weaken (fun _ q9 _ h9 => hFc q9.1 h9)
            generalize H1 = H at hP hS ⊢
            have hP : va_P D vwCl (vW tc ad29 q24.2.1 q45.2) H := hP
            have hD : va_D A (vW tc ad29 q24.2.1 q45.2) := hD
            clear hk1 hz1 ht hvm
            have hw : w47 = q45.1 := hw
            rw [hw]
            refine lv_aload hx hb dL_link_137 (lv_at hl 5 rfl) ?_
            obtain ⟨g49, h⟩ := vg_if h
            obtain ⟨y50, g51, h⟩ := vg_bind h
            have n_y50 := hO48 _ _ _ g51
            refine va_get (D := D) (ci := 4) (v := .ref (ad29 y50)) (C := RX4) (T := TX4) (N := 9) hx hb hts in_L_link_X4 hown hK hP r5 (vW_k4 n37 g49) rfl 5 (by decide) (hts (.fieldLink RL 45 "VaultDoorsLaw$Door" "asks" "[[I") (List.mem_of_getElem? (i := 3) rfl)) (fun _ h9 => h9) (by show some (va_rf (Option.map ad29 (mr q45.2 r5 5))) = _; rw [g51]; rfl) dL_link_139 ?_
            obtain ⟨g52, h⟩ := vg_if h
            refine va_alen (D := D) hx hb hK hP y50 2 (vW_k8 n_y50 g52) rfl rfl dL_link_142 ?_
            refine lv_icmp_ne (tgt := 150) hx hb dL_link_143 (by decide) (fun c53 => ?_) (fun c53 => ?_)
            · rw [if_neg c53] at h
              refine lv_iconst (v := 0) hx hb dL_link_150 (by decide) ?_
              have hz := Option.some.inj h
              refine W.widen (k := 2) (n := 69) g26 g27 ?_
              exact W.zret (v := 0) (ty := .boolean) hx hb hr (by decide) (fun t ht hW => ⟨⟨_, (), rfl, by rw [← hz], by rw [← hz]; exact ⟨ad29, e33, e34, hO48, by rw [ht]; exact hP, va_K.moved hW.alike hK, hD⟩⟩, hS.F ht⟩) hS.2.2 dL_link_151
            · rw [if_pos c53] at h
              refine lv_iconst (v := 1) hx hb dL_link_146 (by decide) ?_
              refine lv_goto (tgt := 151) hx hb dL_link_147 (by decide) ?_
              have hz := Option.some.inj h
              refine W.widen (k := 2) (n := 69) g26 g27 ?_
              exact W.zret (v := 1) (ty := .boolean) hx hb hr (by decide) (fun t ht hW => ⟨⟨_, (), rfl, by rw [← hz], by rw [← hz]; exact ⟨ad29, e33, e34, hO48, by rw [ht]; exact hP, va_K.moved hW.alike hK, hD⟩⟩, hS.F ht⟩) hS.2.2 dL_link_151
          · rw [if_pos c2] at h
            refine lv_iconst (v := 1) hx hb dL_link_98 (by decide) ?_
            have hz := Option.some.inj h
            refine W.widen (k := 2) (n := 69) hc hs ?_
            exact W.zret (v := 1) (ty := .boolean) hx hb hr (by decide) (fun t ht hW => ⟨⟨_, (), rfl, by rw [← hz], by rw [← hz]; exact ⟨adL, hE, hNN, hO, by rw [ht]; exact hP, va_K.moved hW.alike hK, hD⟩⟩, hS.F ht⟩) hS.2.2 dL_link_99
        · rw [if_neg c1] at h
          refine lv_aload hx hb dL_link_60 (lv_at hl 7 rfl) ?_
          refine lv_iload hx hb dL_link_62 (lv_at hl 9 rfl) ?_
          obtain ⟨g54, h⟩ := vg_if h
          obtain ⟨g55, h⟩ := vg_if h
          obtain ⟨y56, g57, h⟩ := vg_bind h
          have n_y56 := hO _ _ _ g57
          refine wm_aald8 hx hb hK hP n_r7 g54 (i := i9) g55 dL_link_64 ?_
          refine W.eq (g2 := F0 m 65 ls [.ref (adL y56)]) (by show F0 m 65 ls (va_rf (Option.map adL (mr m1 r7 i9.toNatClampNeg)) :: _) = _; rw [g57]; rfl) ?_
          refine lv_astore (lv' := [(10, .ref (adL y56)), (0, .ref (adL r0)), (1, .ref (adL r1)), (2, .int i2), (3, .int i3), (4, .int i4), (5, .ref (adL r5)), (6, .int i6), (7, .ref (adL r7)), (8, .int i8), (9, .int i9)]) hx hb dL_link_65 hl (by decide) rfl (fun ls hl => ?_)
          refine lv_iload hx hb dL_link_67 (lv_at hl 7 rfl) ?_
          refine lv_if_eq (tgt := 84) hx hb dL_link_69 (by decide) (fun c58 => ?_) (fun c58 => ?_)
          · rw [if_pos c58] at h
            refine lv_iconst (v := 0) hx hb dL_link_84 (by decide) ?_
            refine lv_istore (lv' := [(6, .int 0), (10, .ref (adL y56)), (0, .ref (adL r0)), (1, .ref (adL r1)), (2, .int i2), (3, .int i3), (4, .int i4), (5, .ref (adL r5)), (7, .ref (adL r7)), (8, .int i8), (9, .int i9)]) hx hb dL_link_85 hl (by decide) rfl (fun ls hl => ?_)
            refine lv_iinc (v := i9 + 1) (lv' := [(9, .int (i9 + 1)), (6, .int 0), (10, .ref (adL y56)), (0, .ref (adL r0)), (1, .ref (adL r1)), (2, .int i2), (3, .int i3), (4, .int i4), (5, .ref (adL r5)), (7, .ref (adL r7)), (8, .int i8)]) hx hb dL_link_87 hl (k := 10) rfl rfl (by decide) rfl (fun ls hl => ?_)
            refine lv_goto (tgt := 53) hx hb dL_link_90 (by decide) ?_
            exact (ih) NL adL m1 kc ks r0 r1 i2 i3 i4 r5 (0 : Int32) r7 i8 (i9 + 1) _ _ _ hNN hE hc hs hO n_r0 n_r1 n_r5 n_r7 h hP hD hS (lv_sub hl (l' := [(0, .ref (adL r0)), (1, .ref (adL r1)), (2, .int i2), (3, .int i3), (4, .int i4), (5, .ref (adL r5)), (6, .int 0), (7, .ref (adL r7)), (8, .int i8), (9, .int (i9 + 1))]) [3, 4, 5, 6, 7, 8, 1, 9, 10, 0] rfl)
          · rw [if_neg c58] at h
            refine lv_aload hx hb dL_link_72 (lv_at hl 0 rfl) ?_
            refine lv_iconst (v := 0) hx hb dL_link_74 (by decide) ?_
            obtain ⟨g59, h⟩ := vg_if h
            obtain ⟨g60, h⟩ := vg_if h
            refine va_iald (D := D) hx hb hK hP y56 0 (vW_k6 n_y56 g59) rfl (i := 0) g60 dL_link_75 ?_
            refine W.eq (g2 := F0 m 76 ls [.int (mi m1 y56 0)]) rfl ?_
            refine lv_iload_n hx hb dL_link_76 rfl (lv_at hl 4 rfl) ?_
            refine lv_icmp_eq (tgt := 84) hx hb dL_link_77 (by decide) (fun c61 => ?_) (fun c61 => ?_)
            · rw [if_pos c61] at h
              refine lv_iconst (v := 0) hx hb dL_link_84 (by decide) ?_
              refine lv_istore (lv' := [(6, .int 0), (10, .ref (adL y56)), (0, .ref (adL r0)), (1, .ref (adL r1)), (2, .int i2), (3, .int i3), (4, .int i4), (5, .ref (adL r5)), (7, .ref (adL r7)), (8, .int i8), (9, .int i9)]) hx hb dL_link_85 hl (by decide) rfl (fun ls hl => ?_)
              refine lv_iinc (v := i9 + 1) (lv' := [(9, .int (i9 + 1)), (6, .int 0), (10, .ref (adL y56)), (0, .ref (adL r0)), (1, .ref (adL r1)), (2, .int i2), (3, .int i3), (4, .int i4), (5, .ref (adL r5)), (7, .ref (adL r7)), (8, .int i8)]) hx hb dL_link_87 hl (k := 10) rfl rfl (by decide) rfl (fun ls hl => ?_)
              refine lv_goto (tgt := 53) hx hb dL_link_90 (by decide) ?_
              exact (ih) NL adL m1 kc ks r0 r1 i2 i3 i4 r5 (0 : Int32) r7 i8 (i9 + 1) _ _ _ hNN hE hc hs hO n_r0 n_r1 n_r5 n_r7 h hP hD hS (lv_sub hl (l' := [(0, .ref (adL r0)), (1, .ref (adL r1)), (2, .int i2), (3, .int i3), (4, .int i4), (5, .ref (adL r5)), (6, .int 0), (7, .ref (adL r7)), (8, .int i8), (9, .int (i9 + 1))]) [3, 4, 5, 6, 7, 8, 1, 9, 10, 0] rfl)
            · rw [if_neg c61] at h
              refine lv_iconst (v := 1) hx hb dL_link_80 (by decide) ?_
              refine lv_goto (tgt := 85) hx hb dL_link_81 (by decide) ?_
              refine lv_istore (lv' := [(6, .int 1), (10, .ref (adL y56)), (0, .ref (adL r0)), (1, .ref (adL r1)), (2, .int i2), (3, .int i3), (4, .int i4), (5, .ref (adL r5)), (7, .ref (adL r7)), (8, .int i8), (9, .int i9)]) hx hb dL_link_85 hl (by decide) rfl (fun ls hl => ?_)
              refine lv_iinc (v := i9 + 1) (lv' := [(9, .int (i9 + 1)), (6, .int 1), (10, .ref (adL y56)), (0, .ref (adL r0)), (1, .ref (adL r1)), (2, .int i2), (3, .int i3), (4, .int i4), (5, .ref (adL r5)), (7, .ref (adL r7)), (8, .int i8)]) hx hb dL_link_87 hl (k := 10) rfl rfl (by decide) rfl (fun ls hl => ?_)
              refine lv_goto (tgt := 53) hx hb dL_link_90 (by decide) ?_
              exact (ih) NL adL m1 kc ks r0 r1 i2 i3 i4 r5 (1 : Int32) r7 i8 (i9 + 1) _ _ _ hNN hE hc hs hO n_r0 n_r1 n_r5 n_r7 h hP hD hS (lv_sub hl (l' := [(0, .ref (adL r0)), (1, .ref (adL r1)), (2, .int i2), (3, .int i3), (4, .int i4), (5, .ref (adL r5)), (6, .int 1), (7, .ref (adL r7)), (8, .int i8), (9, .int (i9 + 1))]) [3, 4, 5, 6, 7, 8, 1, 9, 10, 0] rfl)
  unfold f_L_link at h
  refine lv_aload_n hx hb dL_link_0 rfl (lv_at hl 1 rfl) ?_
  obtain ⟨g62, h⟩ := vg_if h
  obtain ⟨y63, g64, h⟩ := vg_bind h
  have n_y63 := hO _ _ _ g64
  refine va_get (D := D) (ci := 5) (v := .ref (ad y63)) (C := RX5) (T := TX5) (N := 4) hx hb hts in_L_link_X5 hown hK hP p1 (vW_k5 n_p1 g62) rfl 0 (by decide) (hts (.fieldLink RL 35 "VaultDoorsLaw$Sim" "doors" "[LVaultDoorsLaw$Door;") (List.mem_of_getElem? (i := 1) rfl)) (fun _ h9 => h9) (by show some (va_rf (Option.map ad (mr m0 p1 0))) = _; rw [g64]; rfl) dL_link_1 ?_
  refine lv_iload_n hx hb dL_link_4 rfl (lv_at hl 2 rfl) ?_
  obtain ⟨g65, h⟩ := vg_if h
  obtain ⟨g66, h⟩ := vg_if h
  obtain ⟨y67, g68, h⟩ := vg_bind h
  have n_y67 := hO _ _ _ g68
  refine va_aldq (D := D) hx hb hK hP y63 3 (vW_k9 n_y63 g65) rfl (i := p2) g66 dL_link_5 ?_
  refine W.eq (g2 := F0 m 6 ls [.ref (ad y67)]) (by show F0 m 6 ls (va_rf (Option.map ad (mr m0 y63 p2.toNatClampNeg)) :: _) = _; rw [g68]; rfl) ?_
  refine lv_astore (lv' := [(5, .ref (ad y67)), (0, .ref (ad p0)), (1, .ref (ad p1)), (2, .int p2), (3, .int p3), (4, .int p4)]) hx hb dL_link_6 hl (by decide) rfl (fun ls hl => ?_)
  refine lv_iload_n hx hb dL_link_8 rfl (lv_at hl 3 rfl) ?_
  refine lv_iload_n hx hb dL_link_9 rfl (lv_at hl 4 rfl) ?_
  refine lv_icmp_eq (tgt := 35) hx hb dL_link_10 (by decide) (fun c69 => ?_) (fun c69 => ?_)
  · rw [if_pos c69] at h
    refine lv_iconst (v := 0) hx hb dL_link_35 (by decide) ?_
    refine lv_istore (lv' := [(6, .int 0), (5, .ref (ad y67)), (0, .ref (ad p0)), (1, .ref (ad p1)), (2, .int p2), (3, .int p3), (4, .int p4)]) hx hb dL_link_36 hl (by decide) rfl (fun ls hl => ?_)
    refine lv_aload hx hb dL_link_38 (lv_at hl 1 rfl) ?_
    obtain ⟨g70, h⟩ := vg_if h
    obtain ⟨y71, g72, h⟩ := vg_bind h
    have n_y71 := hO _ _ _ g72
    refine va_get (D := D) (ci := 4) (v := .ref (ad y71)) (C := RX4) (T := TX4) (N := 9) hx hb hts in_L_link_X4 hown hK hP y67 (vW_k4 n_y67 g70) rfl 5 (by decide) (hts (.fieldLink RL 45 "VaultDoorsLaw$Door" "asks" "[[I") (List.mem_of_getElem? (i := 3) rfl)) (fun _ h9 => h9) (by show some (va_rf (Option.map ad (mr m0 y67 5))) = _; rw [g72]; rfl) dL_link_40 ?_
    refine lv_astore (lv' := [(7, .ref (ad y71)), (6, .int 0), (5, .ref (ad y67)), (0, .ref (ad p0)), (1, .ref (ad p1)), (2, .int p2), (3, .int p3), (4, .int p4)]) hx hb dL_link_43 hl (by decide) rfl (fun ls hl => ?_)
    refine lv_aload hx hb dL_link_45 (lv_at hl 0 rfl) ?_
    obtain ⟨g73, h⟩ := vg_if h
    refine va_alen (D := D) hx hb hK hP y71 2 (vW_k8 n_y71 g73) rfl rfl dL_link_47 ?_
    refine lv_istore (lv' := [(8, .int (Int32.ofNat (ml m0 y71))), (7, .ref (ad y71)), (6, .int 0), (5, .ref (ad y67)), (0, .ref (ad p0)), (1, .ref (ad p1)), (2, .int p2), (3, .int p3), (4, .int p4)]) hx hb dL_link_48 hl (by decide) rfl (fun ls hl => ?_)
    refine lv_iconst (v := 0) hx hb dL_link_50 (by decide) ?_
    refine lv_istore (lv' := [(9, .int 0), (8, .int (Int32.ofNat (ml m0 y71))), (7, .ref (ad y71)), (6, .int 0), (5, .ref (ad y67)), (0, .ref (ad p0)), (1, .ref (ad p1)), (2, .int p2), (3, .int p3), (4, .int p4)]) hx hb dL_link_51 hl (by decide) rfl (fun ls hl => ?_)
    exact ((hL vF)) N ad m0 0 0 p0 p1 p2 p3 p4 y67 (0 : Int32) y71 (Int32.ofNat (ml m0 y71)) (0 : Int32) _ _ _ (Nat.le_refl _) (fun _ _ => rfl) (Nat.le_of_ble_eq_true rfl) (Nat.le_of_ble_eq_true rfl) hO n_p0 n_p1 n_y67 n_y71 h hP hD hS (lv_sub hl (l' := [(0, .ref (ad p0)), (1, .ref (ad p1)), (2, .int p2), (3, .int p3), (4, .int p4), (5, .ref (ad y67)), (6, .int 0), (7, .ref (ad y71)), (8, .int (Int32.ofNat (ml m0 y71))), (9, .int 0)]) [5, 6, 7, 8, 9, 4, 3, 2, 1, 0] rfl)
  · rw [if_neg c69] at h
    refine lv_aload hx hb dL_link_13 (lv_at hl 0 rfl) ?_
    obtain ⟨g74, h⟩ := vg_if h
    refine va_get (D := D) (ci := 4) (v := .int (mi m0 y67 3)) (C := RX4) (T := TX4) (N := 9) hx hb hts in_L_link_X4 hown hK hP y67 (vW_k4 n_y67 g74) rfl 3 (by decide) (hts (.fieldLink RL 39 "VaultDoorsLaw$Door" "state" "I") (List.mem_of_getElem? (i := 2) rfl)) (fun _ h9 => h9) rfl dL_link_15 ?_
    refine lv_if_ne (tgt := 35) hx hb dL_link_18 (by decide) (fun c75 => ?_) (fun c75 => ?_)
    · rw [if_neg c75] at h
      refine lv_iconst (v := 0) hx hb dL_link_35 (by decide) ?_
      refine lv_istore (lv' := [(6, .int 0), (5, .ref (ad y67)), (0, .ref (ad p0)), (1, .ref (ad p1)), (2, .int p2), (3, .int p3), (4, .int p4)]) hx hb dL_link_36 hl (by decide) rfl (fun ls hl => ?_)
      refine lv_aload hx hb dL_link_38 (lv_at hl 1 rfl) ?_
      obtain ⟨y76, g77, h⟩ := vg_bind h
      have n_y76 := hO _ _ _ g77
      refine va_get (D := D) (ci := 4) (v := .ref (ad y76)) (C := RX4) (T := TX4) (N := 9) hx hb hts in_L_link_X4 hown hK hP y67 (vW_k4 n_y67 g74) rfl 5 (by decide) (hts (.fieldLink RL 45 "VaultDoorsLaw$Door" "asks" "[[I") (List.mem_of_getElem? (i := 3) rfl)) (fun _ h9 => h9) (by show some (va_rf (Option.map ad (mr m0 y67 5))) = _; rw [g77]; rfl) dL_link_40 ?_
      refine lv_astore (lv' := [(7, .ref (ad y76)), (6, .int 0), (5, .ref (ad y67)), (0, .ref (ad p0)), (1, .ref (ad p1)), (2, .int p2), (3, .int p3), (4, .int p4)]) hx hb dL_link_43 hl (by decide) rfl (fun ls hl => ?_)
      refine lv_aload hx hb dL_link_45 (lv_at hl 0 rfl) ?_
      obtain ⟨g78, h⟩ := vg_if h
      refine va_alen (D := D) hx hb hK hP y76 2 (vW_k8 n_y76 g78) rfl rfl dL_link_47 ?_
      refine lv_istore (lv' := [(8, .int (Int32.ofNat (ml m0 y76))), (7, .ref (ad y76)), (6, .int 0), (5, .ref (ad y67)), (0, .ref (ad p0)), (1, .ref (ad p1)), (2, .int p2), (3, .int p3), (4, .int p4)]) hx hb dL_link_48 hl (by decide) rfl (fun ls hl => ?_)
      refine lv_iconst (v := 0) hx hb dL_link_50 (by decide) ?_
      refine lv_istore (lv' := [(9, .int 0), (8, .int (Int32.ofNat (ml m0 y76))), (7, .ref (ad y76)), (6, .int 0), (5, .ref (ad y67)), (0, .ref (ad p0)), (1, .ref (ad p1)), (2, .int p2), (3, .int p3), (4, .int p4)]) hx hb dL_link_51 hl (by decide) rfl (fun ls hl => ?_)
      exact ((hL vF)) N ad m0 0 0 p0 p1 p2 p3 p4 y67 (0 : Int32) y76 (Int32.ofNat (ml m0 y76)) (0 : Int32) _ _ _ (Nat.le_refl _) (fun _ _ => rfl) (Nat.le_of_ble_eq_true rfl) (Nat.le_of_ble_eq_true rfl) hO n_p0 n_p1 n_y67 n_y76 h hP hD hS (lv_sub hl (l' := [(0, .ref (ad p0)), (1, .ref (ad p1)), (2, .int p2), (3, .int p3), (4, .int p4), (5, .ref (ad y67)), (6, .int 0), (7, .ref (ad y76)), (8, .int (Int32.ofNat (ml m0 y76))), (9, .int 0)]) [5, 6, 7, 8, 9, 4, 3, 2, 1, 0] rfl)
    · rw [if_pos c75] at h
      refine lv_aload hx hb dL_link_21 (lv_at hl 0 rfl) ?_
      obtain ⟨y79, g80, h⟩ := vg_bind h
      have n_y79 := hO _ _ _ g80
      refine va_get (D := D) (ci := 4) (v := .ref (ad y79)) (C := RX4) (T := TX4) (N := 9) hx hb hts in_L_link_X4 hown hK hP y67 (vW_k4 n_y67 g74) rfl 5 (by decide) (hts (.fieldLink RL 45 "VaultDoorsLaw$Door" "asks" "[[I") (List.mem_of_getElem? (i := 3) rfl)) (fun _ h9 => h9) (by show some (va_rf (Option.map ad (mr m0 y67 5))) = _; rw [g80]; rfl) dL_link_23 ?_
      obtain ⟨g81, h⟩ := vg_if h
      refine va_alen (D := D) hx hb hK hP y79 2 (vW_k8 n_y79 g81) rfl rfl dL_link_26 ?_
      refine lv_iconst (v := 4) hx hb dL_link_27 (by decide) ?_
      refine lv_icmp_ge (tgt := 35) hx hb dL_link_28 (by decide) (fun c82 => ?_) (fun c82 => ?_)
      · rw [if_pos c82] at h
        refine lv_iconst (v := 0) hx hb dL_link_35 (by decide) ?_
        refine lv_istore (lv' := [(6, .int 0), (5, .ref (ad y67)), (0, .ref (ad p0)), (1, .ref (ad p1)), (2, .int p2), (3, .int p3), (4, .int p4)]) hx hb dL_link_36 hl (by decide) rfl (fun ls hl => ?_)
        refine lv_aload hx hb dL_link_38 (lv_at hl 1 rfl) ?_
        obtain ⟨y83, g84, h⟩ := vg_bind h
        have n_y83 := hO _ _ _ g84
        refine va_get (D := D) (ci := 4) (v := .ref (ad y83)) (C := RX4) (T := TX4) (N := 9) hx hb hts in_L_link_X4 hown hK hP y67 (vW_k4 n_y67 g74) rfl 5 (by decide) (hts (.fieldLink RL 45 "VaultDoorsLaw$Door" "asks" "[[I") (List.mem_of_getElem? (i := 3) rfl)) (fun _ h9 => h9) (by show some (va_rf (Option.map ad (mr m0 y67 5))) = _; rw [g84]; rfl) dL_link_40 ?_
        refine lv_astore (lv' := [(7, .ref (ad y83)), (6, .int 0), (5, .ref (ad y67)), (0, .ref (ad p0)), (1, .ref (ad p1)), (2, .int p2), (3, .int p3), (4, .int p4)]) hx hb dL_link_43 hl (by decide) rfl (fun ls hl => ?_)
        refine lv_aload hx hb dL_link_45 (lv_at hl 0 rfl) ?_
        obtain ⟨g85, h⟩ := vg_if h
        refine va_alen (D := D) hx hb hK hP y83 2 (vW_k8 n_y83 g85) rfl rfl dL_link_47 ?_
        refine lv_istore (lv' := [(8, .int (Int32.ofNat (ml m0 y83))), (7, .ref (ad y83)), (6, .int 0), (5, .ref (ad y67)), (0, .ref (ad p0)), (1, .ref (ad p1)), (2, .int p2), (3, .int p3), (4, .int p4)]) hx hb dL_link_48 hl (by decide) rfl (fun ls hl => ?_)
        refine lv_iconst (v := 0) hx hb dL_link_50 (by decide) ?_
        refine lv_istore (lv' := [(9, .int 0), (8, .int (Int32.ofNat (ml m0 y83))), (7, .ref (ad y83)), (6, .int 0), (5, .ref (ad y67)), (0, .ref (ad p0)), (1, .ref (ad p1)), (2, .int p2), (3, .int p3), (4, .int p4)]) hx hb dL_link_51 hl (by decide) rfl (fun ls hl => ?_)
        exact ((hL vF)) N ad m0 0 0 p0 p1 p2 p3 p4 y67 (0 : Int32) y83 (Int32.ofNat (ml m0 y83)) (0 : Int32) _ _ _ (Nat.le_refl _) (fun _ _ => rfl) (Nat.le_of_ble_eq_true rfl) (Nat.le_of_ble_eq_true rfl) hO n_p0 n_p1 n_y67 n_y83 h hP hD hS (lv_sub hl (l' := [(0, .ref (ad p0)), (1, .ref (ad p1)), (2, .int p2), (3, .int p3), (4, .int p4), (5, .ref (ad y67)), (6, .int 0), (7, .ref (ad y83)), (8, .int (Int32.ofNat (ml m0 y83))), (9, .int 0)]) [5, 6, 7, 8, 9, 4, 3, 2, 1, 0] rfl)
      · rw [if_neg c82] at h
        refine lv_iconst (v := 1) hx hb dL_link_31 (by decide) ?_
        refine lv_goto (tgt := 36) hx hb dL_link_32 (by decide) ?_
        refine lv_istore (lv' := [(6, .int 1), (5, .ref (ad y67)), (0, .ref (ad p0)), (1, .ref (ad p1)), (2, .int p2), (3, .int p3), (4, .int p4)]) hx hb dL_link_36 hl (by decide) rfl (fun ls hl => ?_)
        refine lv_aload hx hb dL_link_38 (lv_at hl 1 rfl) ?_
        obtain ⟨y86, g87, h⟩ := vg_bind h
        have n_y86 := hO _ _ _ g87
        refine va_get (D := D) (ci := 4) (v := .ref (ad y86)) (C := RX4) (T := TX4) (N := 9) hx hb hts in_L_link_X4 hown hK hP y67 (vW_k4 n_y67 g74) rfl 5 (by decide) (hts (.fieldLink RL 45 "VaultDoorsLaw$Door" "asks" "[[I") (List.mem_of_getElem? (i := 3) rfl)) (fun _ h9 => h9) (by show some (va_rf (Option.map ad (mr m0 y67 5))) = _; rw [g87]; rfl) dL_link_40 ?_
        refine lv_astore (lv' := [(7, .ref (ad y86)), (6, .int 1), (5, .ref (ad y67)), (0, .ref (ad p0)), (1, .ref (ad p1)), (2, .int p2), (3, .int p3), (4, .int p4)]) hx hb dL_link_43 hl (by decide) rfl (fun ls hl => ?_)
        refine lv_aload hx hb dL_link_45 (lv_at hl 0 rfl) ?_
        obtain ⟨g88, h⟩ := vg_if h
        refine va_alen (D := D) hx hb hK hP y86 2 (vW_k8 n_y86 g88) rfl rfl dL_link_47 ?_
        refine lv_istore (lv' := [(8, .int (Int32.ofNat (ml m0 y86))), (7, .ref (ad y86)), (6, .int 1), (5, .ref (ad y67)), (0, .ref (ad p0)), (1, .ref (ad p1)), (2, .int p2), (3, .int p3), (4, .int p4)]) hx hb dL_link_48 hl (by decide) rfl (fun ls hl => ?_)
        refine lv_iconst (v := 0) hx hb dL_link_50 (by decide) ?_
        refine lv_istore (lv' := [(9, .int 0), (8, .int (Int32.ofNat (ml m0 y86))), (7, .ref (ad y86)), (6, .int 1), (5, .ref (ad y67)), (0, .ref (ad p0)), (1, .ref (ad p1)), (2, .int p2), (3, .int p3), (4, .int p4)]) hx hb dL_link_51 hl (by decide) rfl (fun ls hl => ?_)
        exact ((hL vF)) N ad m0 0 0 p0 p1 p2 p3 p4 y67 (1 : Int32) y86 (Int32.ofNat (ml m0 y86)) (0 : Int32) _ _ _ (Nat.le_refl _) (fun _ _ => rfl) (Nat.le_of_ble_eq_true rfl) (Nat.le_of_ble_eq_true rfl) hO n_p0 n_p1 n_y67 n_y86 h hP hD hS (lv_sub hl (l' := [(0, .ref (ad p0)), (1, .ref (ad p1)), (2, .int p2), (3, .int p3), (4, .int p4), (5, .ref (ad y67)), (6, .int 1), (7, .ref (ad y86)), (8, .int (Int32.ofNat (ml m0 y86))), (9, .int 0)]) [5, 6, 7, 8, 9, 4, 3, 2, 1, 0] rfl)

noncomputable def f_L_act (N : Nat) (m : vM) (p0 : Nat) (p1 : Nat) (p2 : Int32) : Option (Int32 × Nat × vM) :=
  if mk m p1 = 5 then
  Option.bind (mr m p1 0) fun y2 =>
  if mk m y2 = 9 then
  Option.bind (f_L_below m p2 ((Int32.ofNat (ml m y2)))) fun q5 =>
  Option.bind (f_L_below m ((p2 >>> (8 &&& 31))) ((6 : Int32))) fun q8 =>
  if q8 = 0 then (
    Option.bind (mr m p1 0) fun y11 =>
    if mk m y11 = 9 then
    if vin q5 (ml m y11) then
    Option.bind (mr m y11 q5.toNatClampNeg) fun y15 =>
    if mk m y15 = 4 then
    if mk m p0 = 3 then
    Option.bind (f_X3_whisper m p0 q5 ((mi m y15 0))) fun q19 =>
    if mk q19.2 p1 = 5 then
    Option.bind (mr q19.2 p1 0) fun y24 =>
    if mk q19.2 y24 = 9 then
    if vin q5 (ml q19.2 y24) then
    Option.bind (mr q19.2 y24 q5.toNatClampNeg) fun y28 =>
    if mk q19.2 y28 = 4 then
    Option.bind (f_X5_whisper N q19.2 p1 q5 ((mi q19.2 y28 0))) fun q31 =>
    if q19.1 = q31.1 then (
      some ((1 : Int32), q31.2.1, q31.2.2)
    ) else (
      some ((0 : Int32), q31.2.1, q31.2.2)
    )
    else none
    else none
    else none
    else none
    else none
    else none
    else none
    else none
  ) else (
    if q8 = 1 then (
      Option.bind (mr m p1 0) fun y48 =>
      if mk m y48 = 9 then
      if vin q5 (ml m y48) then
      Option.bind (mr m y48 q5.toNatClampNeg) fun y52 =>
      if mk m y52 = 4 then
      if mk m p0 = 3 then
      Option.bind (f_X3_whisper m p0 q5 ((mi m y52 0))) fun q56 =>
      if mk q56.2 p1 = 5 then
      Option.bind (mr q56.2 p1 0) fun y61 =>
      if mk q56.2 y61 = 9 then
      if vin q5 (ml q56.2 y61) then
      Option.bind (mr q56.2 y61 q5.toNatClampNeg) fun y65 =>
      if mk q56.2 y65 = 4 then
      Option.bind (f_X5_whisper N q56.2 p1 q5 ((mi q56.2 y65 0))) fun q68 =>
      if q56.1 = q68.1 then (
        some ((1 : Int32), q68.2.1, q68.2.2)
      ) else (
        some ((0 : Int32), q68.2.1, q68.2.2)
      )
      else none
      else none
      else none
      else none
      else none
      else none
      else none
      else none
    ) else (
      if q8 = 2 then (
        Option.bind (mr m p1 0) fun y85 =>
        if mk m y85 = 9 then
        if vin q5 (ml m y85) then
        Option.bind (mr m y85 q5.toNatClampNeg) fun y89 =>
        if mk m y89 = 4 then
        if mk m p0 = 3 then
        Option.bind (f_X3_whisper m p0 q5 ((mi m y89 0))) fun q93 =>
        if mk q93.2 p1 = 5 then
        Option.bind (mr q93.2 p1 0) fun y98 =>
        if mk q93.2 y98 = 9 then
        if vin q5 (ml q93.2 y98) then
        Option.bind (mr q93.2 y98 q5.toNatClampNeg) fun y102 =>
        if mk q93.2 y102 = 4 then
        Option.bind (f_X5_whisper N q93.2 p1 q5 ((mi q93.2 y102 0))) fun q105 =>
        if q93.1 = q105.1 then (
          some ((1 : Int32), q105.2.1, q105.2.2)
        ) else (
          some ((0 : Int32), q105.2.1, q105.2.2)
        )
        else none
        else none
        else none
        else none
        else none
        else none
        else none
        else none
      ) else (
        if q8 = 3 then (
          Option.bind (f_L_below m ((p2 >>> (4 &&& 31))) ((2 : Int32))) fun q122 =>
          if q122 = 0 then (
            some ((1 : Int32), N, m)
          ) else (
            Option.bind (f_L_below m ((p2 >>> (2 &&& 31))) ((100 : Int32))) fun q126 =>
            if mk m p0 = 3 then
            Option.bind (f_X3_whisper m p0 q5 q126) fun q130 =>
            Option.bind (f_L_below q130.2 ((p2 >>> (2 &&& 31))) ((100 : Int32))) fun q134 =>
            if mk q130.2 p1 = 5 then
            Option.bind (f_X5_whisper N q130.2 p1 q5 q134) fun q138 =>
            if q130.1 = q138.1 then (
              some ((1 : Int32), q138.2.1, q138.2.2)
            ) else (
              some ((0 : Int32), q138.2.1, q138.2.2)
            )
            else none
            else none
          )
        ) else (
          if q8 = 4 then (
            Option.bind (mr m p1 0) fun y151 =>
            if mk m y151 = 9 then
            if vin q5 (ml m y151) then
            Option.bind (mr m y151 q5.toNatClampNeg) fun y155 =>
            if mk m y155 = 4 then
            Option.bind (mr m p1 0) fun y158 =>
            if mk m y158 = 9 then
            if vin q5 (ml m y158) then
            Option.bind (mr m y158 q5.toNatClampNeg) fun y162 =>
            if mk m y162 = 4 then
            Option.bind (mr m p1 0) fun y165 =>
            if mk m y165 = 9 then
            if vin q5 (ml m y165) then
            Option.bind (mr m y165 q5.toNatClampNeg) fun y169 =>
            Option.bind (f_L_below m ((p2 >>> (3 &&& 31))) ((4 : Int32))) fun q171 =>
            if mk m y169 = 4 then
            Option.bind (mr ((mI m y169 2 q171)) p1 0) fun y176 =>
            if mk ((mI m y169 2 q171)) y176 = 9 then
            if vin q5 (ml ((mI m y169 2 q171)) y176) then
            Option.bind (mr ((mI m y169 2 q171)) y176 q5.toNatClampNeg) fun y180 =>
            Option.bind (f_L_below ((mI m y169 2 q171)) ((p2 >>> (5 &&& 31))) ((20 : Int32))) fun q182 =>
            if mk ((mI m y169 2 q171)) y180 = 4 then
            Option.bind (mr ((mI ((mI m y169 2 q171)) y180 1 (1 + q182))) p1 0) fun y187 =>
            if mk ((mI ((mI m y169 2 q171)) y180 1 (1 + q182))) y187 = 9 then
            if vin q5 (ml ((mI ((mI m y169 2 q171)) y180 1 (1 + q182))) y187) then
            Option.bind (mr ((mI ((mI m y169 2 q171)) y180 1 (1 + q182))) y187 q5.toNatClampNeg) fun y191 =>
            if mk ((mI ((mI m y169 2 q171)) y180 1 (1 + q182))) y191 = 4 then
            Option.bind (mr ((mI ((mI m y169 2 q171)) y180 1 (1 + q182))) p1 0) fun y194 =>
            if mk ((mI ((mI m y169 2 q171)) y180 1 (1 + q182))) y194 = 9 then
            if vin q5 (ml ((mI ((mI m y169 2 q171)) y180 1 (1 + q182))) y194) then
            Option.bind (mr ((mI ((mI m y169 2 q171)) y180 1 (1 + q182))) y194 q5.toNatClampNeg) fun y198 =>
            if mk ((mI ((mI m y169 2 q171)) y180 1 (1 + q182))) y198 = 4 then
            if mk ((mI ((mI m y169 2 q171)) y180 1 (1 + q182))) p0 = 3 then
            Option.bind (f_X3_set ((mI ((mI m y169 2 q171)) y180 1 (1 + q182))) p0 q5 ((mi ((mI ((mI m y169 2 q171)) y180 1 (1 + q182))) y191 2)) ((mi ((mI ((mI m y169 2 q171)) y180 1 (1 + q182))) y198 1))) fun q202 =>
            if q202.1 = ((100 * (mi m y155 2)) + (mi m y162 1)) then (
              some ((1 : Int32), N, q202.2)
            ) else (
              some ((0 : Int32), N, q202.2)
            )
            else none
            else none
            else none
            else none
            else none
            else none
            else none
            else none
            else none
            else none
            else none
            else none
            else none
            else none
            else none
            else none
            else none
            else none
            else none
          ) else (
            Option.bind (f_L_below m ((p2 >>> (3 &&& 31))) ((Int32.ofNat (ml m y2)))) fun q207 =>
            Option.bind (f_L_below m ((p2 >>> (5 &&& 31))) ((5 : Int32))) fun q210 =>
            Option.bind (f_L_link N m p0 p1 q5 q207 ((1 + q210))) fun q213 =>
            if q213.1 = 0 ∨ q213.1 = 1 then
            some (q213.1, q213.2.1, q213.2.2)
            else none
          )
        )
      )
    )
  )
  else none
  else none
theorem in_L_act_X4 : ∀ w ∈ wsX40, w ∈ wsL_act := by decide +kernel
theorem in_L_act_X5 : ∀ w ∈ wsX50, w ∈ wsL_act := by decide +kernel
set_option maxHeartbeats 1000000 in
set_option maxRecDepth 100000 in
theorem cm_L_act (l : Launch) (D : va_G) (tc : Nat → ClassId) (ad : Nat → Nat) {N : Nat} {m0 : vM} {sz : Nat} {p0 : Nat} {p1 : Nat} {p2 : Int32} (hO : vOK N m0) (n_p0 : p0 < N) (n_p1 : p1 < N) {z : Int32 × Nat × vM} (h : f_L_act N m0 p0 p1 p2 = some z) : Met l yL_act wsL_act ({ frames := 4, cells := 9, slots := 284, locals := 95 } : Room) (va_Pc [.ref (ad p0), .ref (ad p1), .int p2] (qW D tc ad N m0 sz)) (va_Qi (fun (r9 : Int32) (_ : Unit) => r9 = z.1) (fun _ t => vX D (va_A (vW tc ad N m0) sz) tc ad N z.2.1 z.2.2 t) (va_A (vW tc ad N m0) sz)) 9 284 (va_A (vW tc ad N m0) sz) := by
  refine Met.ofW (cc := cL_act) (maxL := 6) (ret := (some .boolean)) (by decide) rfl ?_
  intro p e s m args below meth c s₁ B hml hv
  obtain ⟨rfl, hsz, hP, hK, hD0, hZ⟩ := hv
  have hx := B.exec
  have hb := B.bytes
  have hr := B.returns
  have hts := atoms_spec (ws := wsL_act) B.pre
  have hown : s.vm.findClass RL = some m.cls := findClass_of_methodNamed B.named
  have hlocks := B.notSynchronized
  subst hsz
  have hD := hD0.self (sz := s.heap.size)
  generalize hAe : va_A (vW tc ad N m0) s.heap.size = A at hD ⊢
  have hA : ∀ q : Nat, s.heap.size ≤ q → A q := fun q h => by rw [← hAe]; exact Or.inr h
  have hS : va_S A s.heap s.heap [] := va_S.rf
  have hl := lv_entry ([.ref (ad p0), .ref (ad p1), .int p2]) (n := 6) (Nat.le_of_ble_eq_true rfl)
  rw [lg_entry_eq]
  generalize (lg_sl ([.ref (ad p0), .ref (ad p1), .int p2]) ++ List.replicate (6 - (lg_sl ([.ref (ad p0), .ref (ad p1), .int p2])).length) Slot.unset).toArray = ls at hl ⊢
  have hl : lv_has ls 6 [(0, .ref (ad p0)), (1, .ref (ad p1)), (2, .int p2)] := hl
  unfold f_L_act at h
  refine lv_aload_n hx hb dL_act_0 rfl (lv_at hl 1 rfl) ?_
  obtain ⟨g1, h⟩ := vg_if h
  obtain ⟨y2, g3, h⟩ := vg_bind h
  have n_y2 := hO _ _ _ g3
  refine va_get (D := D) (ci := 5) (v := .ref (ad y2)) (C := RX5) (T := TX5) (N := 4) hx hb hts in_L_act_X5 hown hK hP p1 (vW_k5 n_p1 g1) rfl 0 (by decide) (hts (.fieldLink RL 35 "VaultDoorsLaw$Sim" "doors" "[LVaultDoorsLaw$Door;") (List.mem_of_getElem? (i := 1) rfl)) (fun _ h9 => h9) (by show some (va_rf (Option.map ad (mr m0 p1 0))) = _; rw [g3]; rfl) dL_act_1 ?_
  obtain ⟨g4, h⟩ := vg_if h
  refine va_alen (D := D) hx hb hK hP y2 3 (vW_k9 n_y2 g4) rfl rfl dL_act_4 ?_
  refine lv_istore_n (lv' := [(3, .int (Int32.ofNat (ml m0 y2))), (0, .ref (ad p0)), (1, .ref (ad p1)), (2, .int p2)]) hx hb dL_act_5 rfl hl (by decide) rfl (fun ls hl => ?_)
  refine lv_iload_n hx hb dL_act_6 rfl (lv_at hl 3 rfl) ?_
  refine lv_iload_n hx hb dL_act_7 rfl (lv_at hl 0 rfl) ?_
  obtain ⟨q5, g6, h⟩ := vg_bind h
  refine va_calli (va_runS (As := [.int p2, .int (Int32.ofNat (ml m0 y2))]) (rest := []) ⟨hx, hb, hml, hown, hts⟩ (cm_L_below (m0 := m0) l D tc ad hO g6) (va_cwS 2 hts gL_act_L_below rfl rfl rfl (by decide +kernel) ⟨(Nat.le_of_ble_eq_true rfl), (Nat.le_of_ble_eq_true rfl)⟩) ⟨qR_blind, qR_pre hP hK hZ⟩ rfl rfl hl.1 rfl (lv_room (Nat.le_of_ble_eq_true rfl)) dL_act_8 ⟨(Nat.le_of_ble_eq_true rfl), (Nat.le_of_ble_eq_true rfl)⟩) hS (fun q9 _ h9 => h9.elim) (fun q9 h9 => h9.elim) (fun w7 u t H1 locs ht hvm hw hB hz1 hk1 hS => ?_)
  have hP := hP.kept (fun k9 q9 hk9 => hk1 q9.1 (hP k9 q9 hk9).lt (fun h9 => h9))
  generalize H1 = H at hP hS ⊢
  clear hk1 hz1 ht hvm
  have hw : w7 = q5 := hw
  rw [hw]
  refine lv_istore (lv' := [(4, .int q5), (3, .int (Int32.ofNat (ml m0 y2))), (0, .ref (ad p0)), (1, .ref (ad p1)), (2, .int p2)]) hx hb dL_act_11 hl (by decide) rfl (fun ls hl => ?_)
  refine lv_iload_n hx hb dL_act_13 rfl (lv_at hl 4 rfl) ?_
  refine lv_bipush (v := 8) hx hb dL_act_14 (by decide) ?_
  refine lv_ishr hx hb dL_act_16 ?_
  refine lv_bipush (v := 6) hx hb dL_act_17 (by decide) ?_
  obtain ⟨q8, g9, h⟩ := vg_bind h
  refine va_calli (va_runS (As := [.int (p2 >>> (8 &&& 31)), .int 6]) (rest := []) ⟨hx, hb, hml, hown, hts⟩ (cm_L_below (m0 := m0) l D tc ad hO g9) (va_cwS 2 hts gL_act_L_below rfl rfl rfl (by decide +kernel) ⟨(Nat.le_of_ble_eq_true rfl), (Nat.le_of_ble_eq_true rfl)⟩) ⟨qR_blind, qR_pre hP hK hZ⟩ rfl rfl hl.1 rfl (lv_room (Nat.le_of_ble_eq_true rfl)) dL_act_19 ⟨(Nat.le_of_ble_eq_true rfl), (Nat.le_of_ble_eq_true rfl)⟩) hS (fun q9 _ h9 => h9.elim) (fun q9 h9 => h9.elim) (fun w10 u t H1 locs ht hvm hw hB hz1 hk1 hS => ?_)
  have hP := hP.kept (fun k9 q9 hk9 => hk1 q9.1 (hP k9 q9 hk9).lt (fun h9 => h9))
  generalize H1 = H at hP hS ⊢
  clear hk1 hz1 ht hvm
  have hw : w10 = q8 := hw
  rw [hw]
  by_cases c11 : q8 = 0
  · rw [if_pos c11] at h
    refine W.eq (g2 := F0 m 22 ls [.int 0]) (by rw [c11]) ?_
    refine lv_tableIn (off := 34) (tgt := 56) hx hb dL_act_22 (by decide) (by decide) (by decide) (by decide) ?_
    refine lv_aload_n hx hb dL_act_56 rfl (lv_at hl 2 rfl) ?_
    refine lv_iload hx hb dL_act_57 (lv_at hl 0 rfl) ?_
    refine lv_aload_n hx hb dL_act_59 rfl (lv_at hl 3 rfl) ?_
    obtain ⟨y12, g13, h⟩ := vg_bind h
    have n_y12 := hO _ _ _ g13
    refine va_get (D := D) (ci := 5) (v := .ref (ad y12)) (C := RX5) (T := TX5) (N := 4) hx hb hts in_L_act_X5 hown hK hP p1 (vW_k5 n_p1 g1) rfl 0 (by decide) (hts (.fieldLink RL 35 "VaultDoorsLaw$Sim" "doors" "[LVaultDoorsLaw$Door;") (List.mem_of_getElem? (i := 1) rfl)) (fun _ h9 => h9) (by show some (va_rf (Option.map ad (mr m0 p1 0))) = _; rw [g13]; rfl) dL_act_60 ?_
    refine lv_iload hx hb dL_act_63 (lv_at hl 0 rfl) ?_
    obtain ⟨g14, h⟩ := vg_if h
    obtain ⟨g15, h⟩ := vg_if h
    obtain ⟨y16, g17, h⟩ := vg_bind h
    have n_y16 := hO _ _ _ g17
    refine va_aldq (D := D) hx hb hK hP y12 3 (vW_k9 n_y12 g14) rfl (i := q5) g15 dL_act_65 ?_
    refine W.eq (g2 := F0 m 66 ls [.ref (ad y16), .int q5, .ref (ad p0)]) (by show F0 m 66 ls (va_rf (Option.map ad (mr m0 y12 q5.toNatClampNeg)) :: _) = _; rw [g17]; rfl) ?_
    obtain ⟨g18, h⟩ := vg_if h
    refine va_get (D := D) (ci := 4) (v := .int (mi m0 y16 0)) (C := RX4) (T := TX4) (N := 9) hx hb hts in_L_act_X4 hown hK hP y16 (vW_k4 n_y16 g18) rfl 0 (by decide) (hts (.fieldLink RL 56 "VaultDoorsLaw$Door" "secret" "I") (List.mem_of_getElem? (i := 2) rfl)) (fun _ h9 => h9) rfl dL_act_66 ?_
    obtain ⟨g19, h⟩ := vg_if h
    obtain ⟨q20, g21, h⟩ := vg_bind h
    have hFc := vm_free hD hS hA
    refine va_calli (va_runV (As := [.int q5, .int (mi m0 y16 0)]) (rest := []) ⟨hx, hb, hml, hown, hts⟩ (cm_X3_whisper (m0 := m0) l D tc ad hO n_p0 g21) (cwV 2 hts gL_act_X3_whisper rfl rfl rfl (by decide +kernel) ⟨(Nat.le_of_ble_eq_true rfl), (Nat.le_of_ble_eq_true rfl)⟩) ⟨qW_blind, va_recv hK hP (ci := 3) (q0 := p0) rfl (vW_k3 n_p0 g19), qW_pre hP hD hK hZ⟩ rfl rfl hl.1 rfl (lv_room (Nat.le_of_ble_eq_true rfl)) dL_act_69 ⟨(Nat.le_of_ble_eq_true rfl), (Nat.le_of_ble_eq_true rfl)⟩) hS (fun q9 _ h9 => hFc q9 h9) hFc (fun w22 u t H1 locs ht hvm hw hB hz1 hk1 hS => ?_)
    obtain ⟨hO23, hP1, hK1, hD1⟩ := hB
    rw [ht] at hP1
    have hP := hP1
    have hD := hD1.weaken (fun _ q9 _ h9 => hFc q9.1 h9)
    generalize H1 = H at hP hS ⊢
    have hP : va_P D vwCl (vW tc ad N q20.2) H := hP
    have hD : va_D A (vW tc ad N q20.2) := hD
    clear hk1 hz1 ht hvm
    have hw : w22 = q20.1 := hw
    rw [hw]
    refine lv_aload_n hx hb dL_act_72 rfl (lv_at hl 3 rfl) ?_
    refine lv_iload hx hb dL_act_73 (lv_at hl 0 rfl) ?_
    refine lv_aload_n hx hb dL_act_75 rfl (lv_at hl 3 rfl) ?_
    obtain ⟨g24, h⟩ := vg_if h
    obtain ⟨y25, g26, h⟩ := vg_bind h
    have n_y25 := hO23 _ _ _ g26
    refine va_get (D := D) (ci := 5) (v := .ref (ad y25)) (C := RX5) (T := TX5) (N := 4) hx hb hts in_L_act_X5 hown hK hP p1 (vW_k5 n_p1 g24) rfl 0 (by decide) (hts (.fieldLink RL 35 "VaultDoorsLaw$Sim" "doors" "[LVaultDoorsLaw$Door;") (List.mem_of_getElem? (i := 1) rfl)) (fun _ h9 => h9) (by show some (va_rf (Option.map ad (mr q20.2 p1 0))) = _; rw [g26]; rfl) dL_act_76 ?_
    refine lv_iload hx hb dL_act_79 (lv_at hl 0 rfl) ?_
    obtain ⟨g27, h⟩ := vg_if h
    obtain ⟨g28, h⟩ := vg_if h
    obtain ⟨y29, g30, h⟩ := vg_bind h
    have n_y29 := hO23 _ _ _ g30
    refine va_aldq (D := D) hx hb hK hP y25 3 (vW_k9 n_y25 g27) rfl (i := q5) g28 dL_act_81 ?_
    refine W.eq (g2 := F0 m 82 ls [.ref (ad y29), .int q5, .ref (ad p1), .int q20.1]) (by show F0 m 82 ls (va_rf (Option.map ad (mr q20.2 y25 q5.toNatClampNeg)) :: _) = _; rw [g30]; rfl) ?_
    obtain ⟨g31, h⟩ := vg_if h
    refine va_get (D := D) (ci := 4) (v := .int (mi q20.2 y29 0)) (C := RX4) (T := TX4) (N := 9) hx hb hts in_L_act_X4 hown hK hP y29 (vW_k4 n_y29 g31) rfl 0 (by decide) (hts (.fieldLink RL 56 "VaultDoorsLaw$Door" "secret" "I") (List.mem_of_getElem? (i := 2) rfl)) (fun _ h9 => h9) rfl dL_act_82 ?_
    obtain ⟨q32, g33, h⟩ := vg_bind h
    have hFc := vm_free hD hS hA
    refine va_calli (va_runV (As := [.int q5, .int (mi q20.2 y29 0)]) (rest := [.int q20.1]) ⟨hx, hb, hml, hown, hts⟩ (cm_X5_whisper (m0 := q20.2) l D tc ad hO23 n_p1 g33) (cwV 2 hts gL_act_X5_whisper rfl rfl rfl (by decide +kernel) ⟨(Nat.le_of_ble_eq_true rfl), (Nat.le_of_ble_eq_true rfl)⟩) ⟨qW_blind, va_recv hK hP (ci := 5) (q0 := p1) rfl (vW_k5 n_p1 g24), qW_pre hP hD hK hZ⟩ rfl rfl hl.1 rfl (lv_room (Nat.le_of_ble_eq_true rfl)) dL_act_85 ⟨(Nat.le_of_ble_eq_true rfl), (Nat.le_of_ble_eq_true rfl)⟩) hS (fun q9 _ h9 => hFc q9 h9) hFc (fun w34 u t H1 locs ht hvm hw hB hz1 hk1 hS => ?_)
    obtain ⟨ad35, e36, e37, hO38, hP1, hK1, hD1⟩ := hB
    rw [ht] at hP1
    have hP := hP1
    have hD := hD1.weaken (fun _ q9 _ h9 => hFc q9.1 h9)
    generalize H1 = H at hP hS ⊢
    clear hk1 hz1 ht hvm
    have hl : lv_has ls 6 [(4, .int q5), (3, .int (Int32.ofNat (ml m0 y2))), (0, .ref (ad35 p0)), (1, .ref (ad35 p1)), (2, .int p2)] := by rw [e36 p0 n_p0, e36 p1 n_p1]; exact hl
    have e39 : ∀ k, k < N → ad35 k = ad k := fun k hk => (e36 k (Nat.lt_of_lt_of_le hk (Nat.le_refl _))).trans ((fun _ _ => rfl) k hk)
    have e40 : N ≤ q32.2.1 := Nat.le_trans (Nat.le_refl _) e37
    have n41 : p0 < q32.2.1 := Nat.lt_of_lt_of_le n_p0 e37
    have n42 : p1 < q32.2.1 := Nat.lt_of_lt_of_le n_p1 e37
    have n43 : y2 < q32.2.1 := Nat.lt_of_lt_of_le n_y2 e37
    have n44 : y12 < q32.2.1 := Nat.lt_of_lt_of_le n_y12 e37
    have n45 : y16 < q32.2.1 := Nat.lt_of_lt_of_le n_y16 e37
    have n46 : y25 < q32.2.1 := Nat.lt_of_lt_of_le n_y25 e37
    have n47 : y29 < q32.2.1 := Nat.lt_of_lt_of_le n_y29 e37
    have hw : w34 = q32.1 := hw
    rw [hw]
    have hP : va_P D vwCl (vW tc ad35 q32.2.1 q32.2.2) H := hP
    have hD : va_D A (vW tc ad35 q32.2.1 q32.2.2) := hD
    refine lv_icmp_ne (tgt := 95) hx hb dL_act_88 (by decide) (fun c48 => ?_) (fun c48 => ?_)
    · rw [if_neg c48] at h
      refine lv_iconst (v := 0) hx hb dL_act_95 (by decide) ?_
      have hz := Option.some.inj h
      refine W.widen (k := 9) (n := 284) (Nat.le_of_ble_eq_true rfl) (Nat.le_of_ble_eq_true rfl) ?_
      exact W.zret (v := 0) (ty := .boolean) hx hb hr (by decide) (fun t ht hW => ⟨⟨_, (), rfl, by rw [← hz], by rw [← hz]; exact ⟨ad35, e39, e40, hO38, by rw [ht]; exact hP, va_K.moved hW.alike hK, hD⟩⟩, hS.F ht⟩) hS.2.2 dL_act_96
    · rw [if_pos c48] at h
      refine lv_iconst (v := 1) hx hb dL_act_91 (by decide) ?_
      refine lv_goto (tgt := 96) hx hb dL_act_92 (by decide) ?_
      have hz := Option.some.inj h
      refine W.widen (k := 9) (n := 284) (Nat.le_of_ble_eq_true rfl) (Nat.le_of_ble_eq_true rfl) ?_
      exact W.zret (v := 1) (ty := .boolean) hx hb hr (by decide) (fun t ht hW => ⟨⟨_, (), rfl, by rw [← hz], by rw [← hz]; exact ⟨ad35, e39, e40, hO38, by rw [ht]; exact hP, va_K.moved hW.alike hK, hD⟩⟩, hS.F ht⟩) hS.2.2 dL_act_96
  rw [if_neg c11] at h
  by_cases c49 : q8 = 1
  · rw [if_pos c49] at h
    refine W.eq (g2 := F0 m 22 ls [.int 1]) (by rw [c49]) ?_
    refine lv_tableIn (off := 34) (tgt := 56) hx hb dL_act_22 (by decide) (by decide) (by decide) (by decide) ?_
    refine lv_aload_n hx hb dL_act_56 rfl (lv_at hl 2 rfl) ?_
    refine lv_iload hx hb dL_act_57 (lv_at hl 0 rfl) ?_
    refine lv_aload_n hx hb dL_act_59 rfl (lv_at hl 3 rfl) ?_
    obtain ⟨y50, g51, h⟩ := vg_bind h
    have n_y50 := hO _ _ _ g51
    refine va_get (D := D) (ci := 5) (v := .ref (ad y50)) (C := RX5) (T := TX5) (N := 4) hx hb hts in_L_act_X5 hown hK hP p1 (vW_k5 n_p1 g1) rfl 0 (by decide) (hts (.fieldLink RL 35 "VaultDoorsLaw$Sim" "doors" "[LVaultDoorsLaw$Door;") (List.mem_of_getElem? (i := 1) rfl)) (fun _ h9 => h9) (by show some (va_rf (Option.map ad (mr m0 p1 0))) = _; rw [g51]; rfl) dL_act_60 ?_
    refine lv_iload hx hb dL_act_63 (lv_at hl 0 rfl) ?_
    obtain ⟨g52, h⟩ := vg_if h
    obtain ⟨g53, h⟩ := vg_if h
    obtain ⟨y54, g55, h⟩ := vg_bind h
    have n_y54 := hO _ _ _ g55
    refine va_aldq (D := D) hx hb hK hP y50 3 (vW_k9 n_y50 g52) rfl (i := q5) g53 dL_act_65 ?_
    refine W.eq (g2 := F0 m 66 ls [.ref (ad y54), .int q5, .ref (ad p0)]) (by show F0 m 66 ls (va_rf (Option.map ad (mr m0 y50 q5.toNatClampNeg)) :: _) = _; rw [g55]; rfl) ?_
    obtain ⟨g56, h⟩ := vg_if h
    refine va_get (D := D) (ci := 4) (v := .int (mi m0 y54 0)) (C := RX4) (T := TX4) (N := 9) hx hb hts in_L_act_X4 hown hK hP y54 (vW_k4 n_y54 g56) rfl 0 (by decide) (hts (.fieldLink RL 56 "VaultDoorsLaw$Door" "secret" "I") (List.mem_of_getElem? (i := 2) rfl)) (fun _ h9 => h9) rfl dL_act_66 ?_
    obtain ⟨g57, h⟩ := vg_if h
    obtain ⟨q58, g59, h⟩ := vg_bind h
    have hFc := vm_free hD hS hA
    refine va_calli (va_runV (As := [.int q5, .int (mi m0 y54 0)]) (rest := []) ⟨hx, hb, hml, hown, hts⟩ (cm_X3_whisper (m0 := m0) l D tc ad hO n_p0 g59) (cwV 2 hts gL_act_X3_whisper rfl rfl rfl (by decide +kernel) ⟨(Nat.le_of_ble_eq_true rfl), (Nat.le_of_ble_eq_true rfl)⟩) ⟨qW_blind, va_recv hK hP (ci := 3) (q0 := p0) rfl (vW_k3 n_p0 g57), qW_pre hP hD hK hZ⟩ rfl rfl hl.1 rfl (lv_room (Nat.le_of_ble_eq_true rfl)) dL_act_69 ⟨(Nat.le_of_ble_eq_true rfl), (Nat.le_of_ble_eq_true rfl)⟩) hS (fun q9 _ h9 => hFc q9 h9) hFc (fun w60 u t H1 locs ht hvm hw hB hz1 hk1 hS => ?_)
    obtain ⟨hO61, hP1, hK1, hD1⟩ := hB
    rw [ht] at hP1
    have hP := hP1
    have hD := hD1.weaken (fun _ q9 _ h9 => hFc q9.1 h9)
    generalize H1 = H at hP hS ⊢
    have hP : va_P D vwCl (vW tc ad N q58.2) H := hP
    have hD : va_D A (vW tc ad N q58.2) := hD
    clear hk1 hz1 ht hvm
    have hw : w60 = q58.1 := hw
    rw [hw]
    refine lv_aload_n hx hb dL_act_72 rfl (lv_at hl 3 rfl) ?_
    refine lv_iload hx hb dL_act_73 (lv_at hl 0 rfl) ?_
    refine lv_aload_n hx hb dL_act_75 rfl (lv_at hl 3 rfl) ?_
    obtain ⟨g62, h⟩ := vg_if h
    obtain ⟨y63, g64, h⟩ := vg_bind h
    have n_y63 := hO61 _ _ _ g64
    refine va_get (D := D) (ci := 5) (v := .ref (ad y63)) (C := RX5) (T := TX5) (N := 4) hx hb hts in_L_act_X5 hown hK hP p1 (vW_k5 n_p1 g62) rfl 0 (by decide) (hts (.fieldLink RL 35 "VaultDoorsLaw$Sim" "doors" "[LVaultDoorsLaw$Door;") (List.mem_of_getElem? (i := 1) rfl)) (fun _ h9 => h9) (by show some (va_rf (Option.map ad (mr q58.2 p1 0))) = _; rw [g64]; rfl) dL_act_76 ?_
    refine lv_iload hx hb dL_act_79 (lv_at hl 0 rfl) ?_
    obtain ⟨g65, h⟩ := vg_if h
    obtain ⟨g66, h⟩ := vg_if h
    obtain ⟨y67, g68, h⟩ := vg_bind h
    have n_y67 := hO61 _ _ _ g68
    refine va_aldq (D := D) hx hb hK hP y63 3 (vW_k9 n_y63 g65) rfl (i := q5) g66 dL_act_81 ?_
    refine W.eq (g2 := F0 m 82 ls [.ref (ad y67), .int q5, .ref (ad p1), .int q58.1]) (by show F0 m 82 ls (va_rf (Option.map ad (mr q58.2 y63 q5.toNatClampNeg)) :: _) = _; rw [g68]; rfl) ?_
    obtain ⟨g69, h⟩ := vg_if h
    refine va_get (D := D) (ci := 4) (v := .int (mi q58.2 y67 0)) (C := RX4) (T := TX4) (N := 9) hx hb hts in_L_act_X4 hown hK hP y67 (vW_k4 n_y67 g69) rfl 0 (by decide) (hts (.fieldLink RL 56 "VaultDoorsLaw$Door" "secret" "I") (List.mem_of_getElem? (i := 2) rfl)) (fun _ h9 => h9) rfl dL_act_82 ?_
    obtain ⟨q70, g71, h⟩ := vg_bind h
    have hFc := vm_free hD hS hA
    refine va_calli (va_runV (As := [.int q5, .int (mi q58.2 y67 0)]) (rest := [.int q58.1]) ⟨hx, hb, hml, hown, hts⟩ (cm_X5_whisper (m0 := q58.2) l D tc ad hO61 n_p1 g71) (cwV 2 hts gL_act_X5_whisper rfl rfl rfl (by decide +kernel) ⟨(Nat.le_of_ble_eq_true rfl), (Nat.le_of_ble_eq_true rfl)⟩) ⟨qW_blind, va_recv hK hP (ci := 5) (q0 := p1) rfl (vW_k5 n_p1 g62), qW_pre hP hD hK hZ⟩ rfl rfl hl.1 rfl (lv_room (Nat.le_of_ble_eq_true rfl)) dL_act_85 ⟨(Nat.le_of_ble_eq_true rfl), (Nat.le_of_ble_eq_true rfl)⟩) hS (fun q9 _ h9 => hFc q9 h9) hFc (fun w72 u t H1 locs ht hvm hw hB hz1 hk1 hS => ?_)
    obtain ⟨ad73, e74, e75, hO76, hP1, hK1, hD1⟩ := hB
    rw [ht] at hP1
    have hP := hP1
    have hD := hD1.weaken (fun _ q9 _ h9 => hFc q9.1 h9)
    generalize H1 = H at hP hS ⊢
    clear hk1 hz1 ht hvm
    have hl : lv_has ls 6 [(4, .int q5), (3, .int (Int32.ofNat (ml m0 y2))), (0, .ref (ad73 p0)), (1, .ref (ad73 p1)), (2, .int p2)] := by rw [e74 p0 n_p0, e74 p1 n_p1]; exact hl
    have e77 : ∀ k, k < N → ad73 k = ad k := fun k hk => (e74 k (Nat.lt_of_lt_of_le hk (Nat.le_refl _))).trans ((fun _ _ => rfl) k hk)
    have e78 : N ≤ q70.2.1 := Nat.le_trans (Nat.le_refl _) e75
    have n79 : p0 < q70.2.1 := Nat.lt_of_lt_of_le n_p0 e75
    have n80 : p1 < q70.2.1 := Nat.lt_of_lt_of_le n_p1 e75
    have n81 : y2 < q70.2.1 := Nat.lt_of_lt_of_le n_y2 e75
    have n82 : y50 < q70.2.1 := Nat.lt_of_lt_of_le n_y50 e75
    have n83 : y54 < q70.2.1 := Nat.lt_of_lt_of_le n_y54 e75
    have n84 : y63 < q70.2.1 := Nat.lt_of_lt_of_le n_y63 e75
    have n85 : y67 < q70.2.1 := Nat.lt_of_lt_of_le n_y67 e75
    have hw : w72 = q70.1 := hw
    rw [hw]
    have hP : va_P D vwCl (vW tc ad73 q70.2.1 q70.2.2) H := hP
    have hD : va_D A (vW tc ad73 q70.2.1 q70.2.2) := hD
    refine lv_icmp_ne (tgt := 95) hx hb dL_act_88 (by decide) (fun c86 => ?_) (fun c86 => ?_)
    · rw [if_neg c86] at h
      refine lv_iconst (v := 0) hx hb dL_act_95 (by decide) ?_
      have hz := Option.some.inj h
      refine W.widen (k := 9) (n := 284) (Nat.le_of_ble_eq_true rfl) (Nat.le_of_ble_eq_true rfl) ?_
      exact W.zret (v := 0) (ty := .boolean) hx hb hr (by decide) (fun t ht hW => ⟨⟨_, (), rfl, by rw [← hz], by rw [← hz]; exact ⟨ad73, e77, e78, hO76, by rw [ht]; exact hP, va_K.moved hW.alike hK, hD⟩⟩, hS.F ht⟩) hS.2.2 dL_act_96
    · rw [if_pos c86] at h
      refine lv_iconst (v := 1) hx hb dL_act_91 (by decide) ?_
      refine lv_goto (tgt := 96) hx hb dL_act_92 (by decide) ?_
      have hz := Option.some.inj h
      refine W.widen (k := 9) (n := 284) (Nat.le_of_ble_eq_true rfl) (Nat.le_of_ble_eq_true rfl) ?_
      exact W.zret (v := 1) (ty := .boolean) hx hb hr (by decide) (fun t ht hW => ⟨⟨_, (), rfl, by rw [← hz], by rw [← hz]; exact ⟨ad73, e77, e78, hO76, by rw [ht]; exact hP, va_K.moved hW.alike hK, hD⟩⟩, hS.F ht⟩) hS.2.2 dL_act_96
  rw [if_neg c49] at h
  by_cases c87 : q8 = 2
  · rw [if_pos c87] at h
    refine W.eq (g2 := F0 m 22 ls [.int 2]) (by rw [c87]) ?_
    refine lv_tableIn (off := 34) (tgt := 56) hx hb dL_act_22 (by decide) (by decide) (by decide) (by decide) ?_
    refine lv_aload_n hx hb dL_act_56 rfl (lv_at hl 2 rfl) ?_
    refine lv_iload hx hb dL_act_57 (lv_at hl 0 rfl) ?_
    refine lv_aload_n hx hb dL_act_59 rfl (lv_at hl 3 rfl) ?_
    obtain ⟨y88, g89, h⟩ := vg_bind h
    have n_y88 := hO _ _ _ g89
    refine va_get (D := D) (ci := 5) (v := .ref (ad y88)) (C := RX5) (T := TX5) (N := 4) hx hb hts in_L_act_X5 hown hK hP p1 (vW_k5 n_p1 g1) rfl 0 (by decide) (hts (.fieldLink RL 35 "VaultDoorsLaw$Sim" "doors" "[LVaultDoorsLaw$Door;") (List.mem_of_getElem? (i := 1) rfl)) (fun _ h9 => h9) (by show some (va_rf (Option.map ad (mr m0 p1 0))) = _; rw [g89]; rfl) dL_act_60 ?_
    refine lv_iload hx hb dL_act_63 (lv_at hl 0 rfl) ?_
    obtain ⟨g90, h⟩ := vg_if h
    obtain ⟨g91, h⟩ := vg_if h
    obtain ⟨y92, g93, h⟩ := vg_bind h
    have n_y92 := hO _ _ _ g93
    refine va_aldq (D := D) hx hb hK hP y88 3 (vW_k9 n_y88 g90) rfl (i := q5) g91 dL_act_65 ?_
    refine W.eq (g2 := F0 m 66 ls [.ref (ad y92), .int q5, .ref (ad p0)]) (by show F0 m 66 ls (va_rf (Option.map ad (mr m0 y88 q5.toNatClampNeg)) :: _) = _; rw [g93]; rfl) ?_
    obtain ⟨g94, h⟩ := vg_if h
    refine va_get (D := D) (ci := 4) (v := .int (mi m0 y92 0)) (C := RX4) (T := TX4) (N := 9) hx hb hts in_L_act_X4 hown hK hP y92 (vW_k4 n_y92 g94) rfl 0 (by decide) (hts (.fieldLink RL 56 "VaultDoorsLaw$Door" "secret" "I") (List.mem_of_getElem? (i := 2) rfl)) (fun _ h9 => h9) rfl dL_act_66 ?_
    obtain ⟨g95, h⟩ := vg_if h
    obtain ⟨q96, g97, h⟩ := vg_bind h
    have hFc := vm_free hD hS hA
    refine va_calli (va_runV (As := [.int q5, .int (mi m0 y92 0)]) (rest := []) ⟨hx, hb, hml, hown, hts⟩ (cm_X3_whisper (m0 := m0) l D tc ad hO n_p0 g97) (cwV 2 hts gL_act_X3_whisper rfl rfl rfl (by decide +kernel) ⟨(Nat.le_of_ble_eq_true rfl), (Nat.le_of_ble_eq_true rfl)⟩) ⟨qW_blind, va_recv hK hP (ci := 3) (q0 := p0) rfl (vW_k3 n_p0 g95), qW_pre hP hD hK hZ⟩ rfl rfl hl.1 rfl (lv_room (Nat.le_of_ble_eq_true rfl)) dL_act_69 ⟨(Nat.le_of_ble_eq_true rfl), (Nat.le_of_ble_eq_true rfl)⟩) hS (fun q9 _ h9 => hFc q9 h9) hFc (fun w98 u t H1 locs ht hvm hw hB hz1 hk1 hS => ?_)
    obtain ⟨hO99, hP1, hK1, hD1⟩ := hB
    rw [ht] at hP1
    have hP := hP1
    have hD := hD1.weaken (fun _ q9 _ h9 => hFc q9.1 h9)
    generalize H1 = H at hP hS ⊢
    have hP : va_P D vwCl (vW tc ad N q96.2) H := hP
    have hD : va_D A (vW tc ad N q96.2) := hD
    clear hk1 hz1 ht hvm
    have hw : w98 = q96.1 := hw
    rw [hw]
    refine lv_aload_n hx hb dL_act_72 rfl (lv_at hl 3 rfl) ?_
    refine lv_iload hx hb dL_act_73 (lv_at hl 0 rfl) ?_
    refine lv_aload_n hx hb dL_act_75 rfl (lv_at hl 3 rfl) ?_
    obtain ⟨g100, h⟩ := vg_if h
    obtain ⟨y101, g102, h⟩ := vg_bind h
    have n_y101 := hO99 _ _ _ g102
    refine va_get (D := D) (ci := 5) (v := .ref (ad y101)) (C := RX5) (T := TX5) (N := 4) hx hb hts in_L_act_X5 hown hK hP p1 (vW_k5 n_p1 g100) rfl 0 (by decide) (hts (.fieldLink RL 35 "VaultDoorsLaw$Sim" "doors" "[LVaultDoorsLaw$Door;") (List.mem_of_getElem? (i := 1) rfl)) (fun _ h9 => h9) (by show some (va_rf (Option.map ad (mr q96.2 p1 0))) = _; rw [g102]; rfl) dL_act_76 ?_
    refine lv_iload hx hb dL_act_79 (lv_at hl 0 rfl) ?_
    obtain ⟨g103, h⟩ := vg_if h
    obtain ⟨g104, h⟩ := vg_if h
    obtain ⟨y105, g106, h⟩ := vg_bind h
    have n_y105 := hO99 _ _ _ g106
    refine va_aldq (D := D) hx hb hK hP y101 3 (vW_k9 n_y101 g103) rfl (i := q5) g104 dL_act_81 ?_
    refine W.eq (g2 := F0 m 82 ls [.ref (ad y105), .int q5, .ref (ad p1), .int q96.1]) (by show F0 m 82 ls (va_rf (Option.map ad (mr q96.2 y101 q5.toNatClampNeg)) :: _) = _; rw [g106]; rfl) ?_
    obtain ⟨g107, h⟩ := vg_if h
    refine va_get (D := D) (ci := 4) (v := .int (mi q96.2 y105 0)) (C := RX4) (T := TX4) (N := 9) hx hb hts in_L_act_X4 hown hK hP y105 (vW_k4 n_y105 g107) rfl 0 (by decide) (hts (.fieldLink RL 56 "VaultDoorsLaw$Door" "secret" "I") (List.mem_of_getElem? (i := 2) rfl)) (fun _ h9 => h9) rfl dL_act_82 ?_
    obtain ⟨q108, g109, h⟩ := vg_bind h
    have hFc := vm_free hD hS hA
    refine va_calli (va_runV (As := [.int q5, .int (mi q96.2 y105 0)]) (rest := [.int q96.1]) ⟨hx, hb, hml, hown, hts⟩ (cm_X5_whisper (m0 := q96.2) l D tc ad hO99 n_p1 g109) (cwV 2 hts gL_act_X5_whisper rfl rfl rfl (by decide +kernel) ⟨(Nat.le_of_ble_eq_true rfl), (Nat.le_of_ble_eq_true rfl)⟩) ⟨qW_blind, va_recv hK hP (ci := 5) (q0 := p1) rfl (vW_k5 n_p1 g100), qW_pre hP hD hK hZ⟩ rfl rfl hl.1 rfl (lv_room (Nat.le_of_ble_eq_true rfl)) dL_act_85 ⟨(Nat.le_of_ble_eq_true rfl), (Nat.le_of_ble_eq_true rfl)⟩) hS (fun q9 _ h9 => hFc q9 h9) hFc (fun w110 u t H1 locs ht hvm hw hB hz1 hk1 hS => ?_)
    obtain ⟨ad111, e112, e113, hO114, hP1, hK1, hD1⟩ := hB
    rw [ht] at hP1
    have hP := hP1
    have hD := hD1.weaken (fun _ q9 _ h9 => hFc q9.1 h9)
    generalize H1 = H at hP hS ⊢
    clear hk1 hz1 ht hvm
    have hl : lv_has ls 6 [(4, .int q5), (3, .int (Int32.ofNat (ml m0 y2))), (0, .ref (ad111 p0)), (1, .ref (ad111 p1)), (2, .int p2)] := by rw [e112 p0 n_p0, e112 p1 n_p1]; exact hl
    have e115 : ∀ k, k < N → ad111 k = ad k := fun k hk => (e112 k (Nat.lt_of_lt_of_le hk (Nat.le_refl _))).trans ((fun _ _ => rfl) k hk)
    have e116 : N ≤ q108.2.1 := Nat.le_trans (Nat.le_refl _) e113
    have n117 : p0 < q108.2.1 := Nat.lt_of_lt_of_le n_p0 e113
    have n118 : p1 < q108.2.1 := Nat.lt_of_lt_of_le n_p1 e113
    have n119 : y2 < q108.2.1 := Nat.lt_of_lt_of_le n_y2 e113
    have n120 : y88 < q108.2.1 := Nat.lt_of_lt_of_le n_y88 e113
    have n121 : y92 < q108.2.1 := Nat.lt_of_lt_of_le n_y92 e113
    have n122 : y101 < q108.2.1 := Nat.lt_of_lt_of_le n_y101 e113
    have n123 : y105 < q108.2.1 := Nat.lt_of_lt_of_le n_y105 e113
    have hw : w110 = q108.1 := hw
    rw [hw]
    have hP : va_P D vwCl (vW tc ad111 q108.2.1 q108.2.2) H := hP
    have hD : va_D A (vW tc ad111 q108.2.1 q108.2.2) := hD
    refine lv_icmp_ne (tgt := 95) hx hb dL_act_88 (by decide) (fun c124 => ?_) (fun c124 => ?_)
    · rw [if_neg c124] at h
      refine lv_iconst (v := 0) hx hb dL_act_95 (by decide) ?_
      have hz := Option.some.inj h
      refine W.widen (k := 9) (n := 284) (Nat.le_of_ble_eq_true rfl) (Nat.le_of_ble_eq_true rfl) ?_
      exact W.zret (v := 0) (ty := .boolean) hx hb hr (by decide) (fun t ht hW => ⟨⟨_, (), rfl, by rw [← hz], by rw [← hz]; exact ⟨ad111, e115, e116, hO114, by rw [ht]; exact hP, va_K.moved hW.alike hK, hD⟩⟩, hS.F ht⟩) hS.2.2 dL_act_96
    · rw [if_pos c124] at h
      refine lv_iconst (v := 1) hx hb dL_act_91 (by decide) ?_
      refine lv_goto (tgt := 96) hx hb dL_act_92 (by decide) ?_
      have hz := Option.some.inj h
      refine W.widen (k := 9) (n := 284) (Nat.le_of_ble_eq_true rfl) (Nat.le_of_ble_eq_true rfl) ?_
      exact W.zret (v := 1) (ty := .boolean) hx hb hr (by decide) (fun t ht hW => ⟨⟨_, (), rfl, by rw [← hz], by rw [← hz]; exact ⟨ad111, e115, e116, hO114, by rw [ht]; exact hP, va_K.moved hW.alike hK, hD⟩⟩, hS.F ht⟩) hS.2.2 dL_act_96
  rw [if_neg c87] at h
  by_cases c125 : q8 = 3
  · rw [if_pos c125] at h
    refine W.eq (g2 := F0 m 22 ls [.int 3]) (by rw [c125]) ?_
    refine lv_tableIn (off := 75) (tgt := 97) hx hb dL_act_22 (by decide) (by decide) (by decide) (by decide) ?_
    refine lv_iload_n hx hb dL_act_97 rfl (lv_at hl 4 rfl) ?_
    refine lv_iconst (v := 4) hx hb dL_act_98 (by decide) ?_
    refine lv_ishr hx hb dL_act_99 ?_
    refine lv_iconst (v := 2) hx hb dL_act_100 (by decide) ?_
    obtain ⟨q126, g127, h⟩ := vg_bind h
    refine va_calli (va_runS (As := [.int (p2 >>> (4 &&& 31)), .int 2]) (rest := []) ⟨hx, hb, hml, hown, hts⟩ (cm_L_below (m0 := m0) l D tc ad hO g127) (va_cwS 2 hts gL_act_L_below rfl rfl rfl (by decide +kernel) ⟨(Nat.le_of_ble_eq_true rfl), (Nat.le_of_ble_eq_true rfl)⟩) ⟨qR_blind, qR_pre hP hK hZ⟩ rfl rfl hl.1 rfl (lv_room (Nat.le_of_ble_eq_true rfl)) dL_act_101 ⟨(Nat.le_of_ble_eq_true rfl), (Nat.le_of_ble_eq_true rfl)⟩) hS (fun q9 _ h9 => h9.elim) (fun q9 h9 => h9.elim) (fun w128 u t H1 locs ht hvm hw hB hz1 hk1 hS => ?_)
    have hP := hP.kept (fun k9 q9 hk9 => hk1 q9.1 (hP k9 q9 hk9).lt (fun h9 => h9))
    generalize H1 = H at hP hS ⊢
    clear hk1 hz1 ht hvm
    have hw : w128 = q126 := hw
    rw [hw]
    refine lv_if_eq (tgt := 138) hx hb dL_act_104 (by decide) (fun c129 => ?_) (fun c129 => ?_)
    · rw [if_pos c129] at h
      refine lv_iconst (v := 1) hx hb dL_act_138 (by decide) ?_
      refine lv_goto (tgt := 143) hx hb dL_act_139 (by decide) ?_
      have hz := Option.some.inj h
      refine W.widen (k := 9) (n := 284) (Nat.le_of_ble_eq_true rfl) (Nat.le_of_ble_eq_true rfl) ?_
      exact W.zret (v := 1) (ty := .boolean) hx hb hr (by decide) (fun t ht hW => ⟨⟨_, (), rfl, by rw [← hz], by rw [← hz]; exact ⟨ad, (fun _ _ => rfl), (Nat.le_refl _), hO, by rw [ht]; exact hP, va_K.moved hW.alike hK, hD⟩⟩, hS.F ht⟩) hS.2.2 dL_act_143
    · rw [if_neg c129] at h
      refine lv_aload_n hx hb dL_act_107 rfl (lv_at hl 2 rfl) ?_
      refine lv_iload hx hb dL_act_108 (lv_at hl 0 rfl) ?_
      refine lv_iload_n hx hb dL_act_110 rfl (lv_at hl 4 rfl) ?_
      refine lv_iconst (v := 2) hx hb dL_act_111 (by decide) ?_
      refine lv_ishr hx hb dL_act_112 ?_
      refine lv_bipush (v := 100) hx hb dL_act_113 (by decide) ?_
      obtain ⟨q130, g131, h⟩ := vg_bind h
      refine va_calli (va_runS (As := [.int (p2 >>> (2 &&& 31)), .int 100]) (rest := [.int q5, .ref (ad p0)]) ⟨hx, hb, hml, hown, hts⟩ (cm_L_below (m0 := m0) l D tc ad hO g131) (va_cwS 2 hts gL_act_L_below rfl rfl rfl (by decide +kernel) ⟨(Nat.le_of_ble_eq_true rfl), (Nat.le_of_ble_eq_true rfl)⟩) ⟨qR_blind, qR_pre hP hK hZ⟩ rfl rfl hl.1 rfl (lv_room (Nat.le_of_ble_eq_true rfl)) dL_act_115 ⟨(Nat.le_of_ble_eq_true rfl), (Nat.le_of_ble_eq_true rfl)⟩) hS (fun q9 _ h9 => h9.elim) (fun q9 h9 => h9.elim) (fun w132 u t H1 locs ht hvm hw hB hz1 hk1 hS => ?_)
      have hP := hP.kept (fun k9 q9 hk9 => hk1 q9.1 (hP k9 q9 hk9).lt (fun h9 => h9))
      generalize H1 = H at hP hS ⊢
      clear hk1 hz1 ht hvm
      have hw : w132 = q130 := hw
      rw [hw]
      obtain ⟨g133, h⟩ := vg_if h
      obtain ⟨q134, g135, h⟩ := vg_bind h
      have hFc := vm_free hD hS hA
      refine va_calli (va_runV (As := [.int q5, .int q130]) (rest := []) ⟨hx, hb, hml, hown, hts⟩ (cm_X3_whisper (m0 := m0) l D tc ad hO n_p0 g135) (cwV 2 hts gL_act_X3_whisper rfl rfl rfl (by decide +kernel) ⟨(Nat.le_of_ble_eq_true rfl), (Nat.le_of_ble_eq_true rfl)⟩) ⟨qW_blind, va_recv hK hP (ci := 3) (q0 := p0) rfl (vW_k3 n_p0 g133), qW_pre hP hD hK hZ⟩ rfl rfl hl.1 rfl (lv_room (Nat.le_of_ble_eq_true rfl)) dL_act_118 ⟨(Nat.le_of_ble_eq_true rfl), (Nat.le_of_ble_eq_true rfl)⟩) hS (fun q9 _ h9 => hFc q9 h9) hFc (fun w136 u t H1 locs ht hvm hw hB hz1 hk1 hS => ?_)
      obtain ⟨hO137, hP1, hK1, hD1⟩ := hB
      rw [ht] at hP1
      have hP := hP1
      have hD := hD1.weaken (fun _ q9 _ h9 => hFc q9.1 h9)
      generalize H1 = H at hP hS ⊢
      have hP : va_P D vwCl (vW tc ad N q134.2) H := hP
      have hD : va_D A (vW tc ad N q134.2) := hD
      clear hk1 hz1 ht hvm
      have hw : w136 = q134.1 := hw
      rw [hw]
      refine lv_aload_n hx hb dL_act_121 rfl (lv_at hl 3 rfl) ?_
      refine lv_iload hx hb dL_act_122 (lv_at hl 0 rfl) ?_
      refine lv_iload_n hx hb dL_act_124 rfl (lv_at hl 4 rfl) ?_
      refine lv_iconst (v := 2) hx hb dL_act_125 (by decide) ?_
      refine lv_ishr hx hb dL_act_126 ?_
      refine lv_bipush (v := 100) hx hb dL_act_127 (by decide) ?_
      obtain ⟨q138, g139, h⟩ := vg_bind h
      refine va_calli (va_runS (As := [.int (p2 >>> (2 &&& 31)), .int 100]) (rest := [.int q5, .ref (ad p1), .int q134.1]) ⟨hx, hb, hml, hown, hts⟩ (cm_L_below (m0 := q134.2) l D tc ad hO137 g139) (va_cwS 2 hts gL_act_L_below rfl rfl rfl (by decide +kernel) ⟨(Nat.le_of_ble_eq_true rfl), (Nat.le_of_ble_eq_true rfl)⟩) ⟨qR_blind, qR_pre hP hK hZ⟩ rfl rfl hl.1 rfl (lv_room (Nat.le_of_ble_eq_true rfl)) dL_act_129 ⟨(Nat.le_of_ble_eq_true rfl), (Nat.le_of_ble_eq_true rfl)⟩) hS (fun q9 _ h9 => h9.elim) (fun q9 h9 => h9.elim) (fun w140 u t H1 locs ht hvm hw hB hz1 hk1 hS => ?_)
      have hP := hP.kept (fun k9 q9 hk9 => hk1 q9.1 (hP k9 q9 hk9).lt (fun h9 => h9))
      generalize H1 = H at hP hS ⊢
      clear hk1 hz1 ht hvm
      have hw : w140 = q138 := hw
      rw [hw]
      obtain ⟨g141, h⟩ := vg_if h
      obtain ⟨q142, g143, h⟩ := vg_bind h
      have hFc := vm_free hD hS hA
      refine va_calli (va_runV (As := [.int q5, .int q138]) (rest := [.int q134.1]) ⟨hx, hb, hml, hown, hts⟩ (cm_X5_whisper (m0 := q134.2) l D tc ad hO137 n_p1 g143) (cwV 2 hts gL_act_X5_whisper rfl rfl rfl (by decide +kernel) ⟨(Nat.le_of_ble_eq_true rfl), (Nat.le_of_ble_eq_true rfl)⟩) ⟨qW_blind, va_recv hK hP (ci := 5) (q0 := p1) rfl (vW_k5 n_p1 g141), qW_pre hP hD hK hZ⟩ rfl rfl hl.1 rfl (lv_room (Nat.le_of_ble_eq_true rfl)) dL_act_132 ⟨(Nat.le_of_ble_eq_true rfl), (Nat.le_of_ble_eq_true rfl)⟩) hS (fun q9 _ h9 => hFc q9 h9) hFc (fun w144 u t H1 locs ht hvm hw hB hz1 hk1 hS => ?_)
      obtain ⟨ad145, e146, e147, hO148, hP1, hK1, hD1⟩ := hB
      rw [ht] at hP1
      have hP := hP1
      have hD := hD1.weaken (fun _ q9 _ h9 => hFc q9.1 h9)
      generalize H1 = H at hP hS ⊢
      clear hk1 hz1 ht hvm
      have hl : lv_has ls 6 [(4, .int q5), (3, .int (Int32.ofNat (ml m0 y2))), (0, .ref (ad145 p0)), (1, .ref (ad145 p1)), (2, .int p2)] := by rw [e146 p0 n_p0, e146 p1 n_p1]; exact hl
      have e149 : ∀ k, k < N → ad145 k = ad k := fun k hk => (e146 k (Nat.lt_of_lt_of_le hk (Nat.le_refl _))).trans ((fun _ _ => rfl) k hk)
      have e150 : N ≤ q142.2.1 := Nat.le_trans (Nat.le_refl _) e147
      have n151 : p0 < q142.2.1 := Nat.lt_of_lt_of_le n_p0 e147
      have n152 : p1 < q142.2.1 := Nat.lt_of_lt_of_le n_p1 e147
      have n153 : y2 < q142.2.1 := Nat.lt_of_lt_of_le n_y2 e147
      have hw : w144 = q142.1 := hw
      rw [hw]
      have hP : va_P D vwCl (vW tc ad145 q142.2.1 q142.2.2) H := hP
      have hD : va_D A (vW tc ad145 q142.2.1 q142.2.2) := hD
      refine lv_icmp_ne (tgt := 142) hx hb dL_act_135 (by decide) (fun c154 => ?_) (fun c154 => ?_)
      · rw [if_neg c154] at h
        refine lv_iconst (v := 0) hx hb dL_act_142 (by decide) ?_
        have hz := Option.some.inj h
        refine W.widen (k := 9) (n := 284) (Nat.le_of_ble_eq_true rfl) (Nat.le_of_ble_eq_true rfl) ?_
        exact W.zret (v := 0) (ty := .boolean) hx hb hr (by decide) (fun t ht hW => ⟨⟨_, (), rfl, by rw [← hz], by rw [← hz]; exact ⟨ad145, e149, e150, hO148, by rw [ht]; exact hP, va_K.moved hW.alike hK, hD⟩⟩, hS.F ht⟩) hS.2.2 dL_act_143
      · rw [if_pos c154] at h
        refine lv_iconst (v := 1) hx hb dL_act_138 (by decide) ?_
        refine lv_goto (tgt := 143) hx hb dL_act_139 (by decide) ?_
        have hz := Option.some.inj h
        refine W.widen (k := 9) (n := 284) (Nat.le_of_ble_eq_true rfl) (Nat.le_of_ble_eq_true rfl) ?_
        exact W.zret (v := 1) (ty := .boolean) hx hb hr (by decide) (fun t ht hW => ⟨⟨_, (), rfl, by rw [← hz], by rw [← hz]; exact ⟨ad145, e149, e150, hO148, by rw [ht]; exact hP, va_K.moved hW.alike hK, hD⟩⟩, hS.F ht⟩) hS.2.2 dL_act_143
  rw [if_neg c125] at h
  by_cases c155 : q8 = 4
  · rw [if_pos c155] at h
    refine W.eq (g2 := F0 m 22 ls [.int 4]) (by rw [c155]) ?_
    refine lv_tableIn (off := 122) (tgt := 144) hx hb dL_act_22 (by decide) (by decide) (by decide) (by decide) ?_
    refine lv_bipush (v := 100) hx hb dL_act_144 (by decide) ?_
    refine lv_aload_n hx hb dL_act_146 rfl (lv_at hl 3 rfl) ?_
    obtain ⟨y156, g157, h⟩ := vg_bind h
    have n_y156 := hO _ _ _ g157
    refine va_get (D := D) (ci := 5) (v := .ref (ad y156)) (C := RX5) (T := TX5) (N := 4) hx hb hts in_L_act_X5 hown hK hP p1 (vW_k5 n_p1 g1) rfl 0 (by decide) (hts (.fieldLink RL 35 "VaultDoorsLaw$Sim" "doors" "[LVaultDoorsLaw$Door;") (List.mem_of_getElem? (i := 1) rfl)) (fun _ h9 => h9) (by show some (va_rf (Option.map ad (mr m0 p1 0))) = _; rw [g157]; rfl) dL_act_147 ?_
    refine lv_iload hx hb dL_act_150 (lv_at hl 0 rfl) ?_
    obtain ⟨g158, h⟩ := vg_if h
    obtain ⟨g159, h⟩ := vg_if h
    obtain ⟨y160, g161, h⟩ := vg_bind h
    have n_y160 := hO _ _ _ g161
    refine va_aldq (D := D) hx hb hK hP y156 3 (vW_k9 n_y156 g158) rfl (i := q5) g159 dL_act_152 ?_
    refine W.eq (g2 := F0 m 153 ls [.ref (ad y160), .int 100]) (by show F0 m 153 ls (va_rf (Option.map ad (mr m0 y156 q5.toNatClampNeg)) :: _) = _; rw [g161]; rfl) ?_
    obtain ⟨g162, h⟩ := vg_if h
    refine va_get (D := D) (ci := 4) (v := .int (mi m0 y160 2)) (C := RX4) (T := TX4) (N := 9) hx hb hts in_L_act_X4 hown hK hP y160 (vW_k4 n_y160 g162) rfl 2 (by decide) (hts (.fieldLink RL 64 "VaultDoorsLaw$Door" "rule" "I") (List.mem_of_getElem? (i := 3) rfl)) (fun _ h9 => h9) rfl dL_act_153 ?_
    refine lv_imul hx hb dL_act_156 ?_
    refine lv_aload_n hx hb dL_act_157 rfl (lv_at hl 3 rfl) ?_
    obtain ⟨y163, g164, h⟩ := vg_bind h
    have n_y163 := hO _ _ _ g164
    refine va_get (D := D) (ci := 5) (v := .ref (ad y163)) (C := RX5) (T := TX5) (N := 4) hx hb hts in_L_act_X5 hown hK hP p1 (vW_k5 n_p1 g1) rfl 0 (by decide) (hts (.fieldLink RL 35 "VaultDoorsLaw$Sim" "doors" "[LVaultDoorsLaw$Door;") (List.mem_of_getElem? (i := 1) rfl)) (fun _ h9 => h9) (by show some (va_rf (Option.map ad (mr m0 p1 0))) = _; rw [g164]; rfl) dL_act_158 ?_
    refine lv_iload hx hb dL_act_161 (lv_at hl 0 rfl) ?_
    obtain ⟨g165, h⟩ := vg_if h
    obtain ⟨g166, h⟩ := vg_if h
    obtain ⟨y167, g168, h⟩ := vg_bind h
    have n_y167 := hO _ _ _ g168
    refine va_aldq (D := D) hx hb hK hP y163 3 (vW_k9 n_y163 g165) rfl (i := q5) g166 dL_act_163 ?_
    refine W.eq (g2 := F0 m 164 ls [.ref (ad y167), .int (100 * (mi m0 y160 2))]) (by show F0 m 164 ls (va_rf (Option.map ad (mr m0 y163 q5.toNatClampNeg)) :: _) = _; rw [g168]; rfl) ?_
    obtain ⟨g169, h⟩ := vg_if h
    refine va_get (D := D) (ci := 4) (v := .int (mi m0 y167 1)) (C := RX4) (T := TX4) (N := 9) hx hb hts in_L_act_X4 hown hK hP y167 (vW_k4 n_y167 g169) rfl 1 (by decide) (hts (.fieldLink RL 67 "VaultDoorsLaw$Door" "patience" "I") (List.mem_of_getElem? (i := 4) rfl)) (fun _ h9 => h9) rfl dL_act_164 ?_
    refine lv_iadd hx hb dL_act_167 ?_
    refine lv_istore (lv' := [(5, .int ((100 * (mi m0 y160 2)) + (mi m0 y167 1))), (4, .int q5), (3, .int (Int32.ofNat (ml m0 y2))), (0, .ref (ad p0)), (1, .ref (ad p1)), (2, .int p2)]) hx hb dL_act_168 hl (by decide) rfl (fun ls hl => ?_)
    refine lv_aload_n hx hb dL_act_170 rfl (lv_at hl 4 rfl) ?_
    obtain ⟨y170, g171, h⟩ := vg_bind h
    have n_y170 := hO _ _ _ g171
    refine va_get (D := D) (ci := 5) (v := .ref (ad y170)) (C := RX5) (T := TX5) (N := 4) hx hb hts in_L_act_X5 hown hK hP p1 (vW_k5 n_p1 g1) rfl 0 (by decide) (hts (.fieldLink RL 35 "VaultDoorsLaw$Sim" "doors" "[LVaultDoorsLaw$Door;") (List.mem_of_getElem? (i := 1) rfl)) (fun _ h9 => h9) (by show some (va_rf (Option.map ad (mr m0 p1 0))) = _; rw [g171]; rfl) dL_act_171 ?_
    refine lv_iload hx hb dL_act_174 (lv_at hl 1 rfl) ?_
    obtain ⟨g172, h⟩ := vg_if h
    obtain ⟨g173, h⟩ := vg_if h
    obtain ⟨y174, g175, h⟩ := vg_bind h
    have n_y174 := hO _ _ _ g175
    refine va_aldq (D := D) hx hb hK hP y170 3 (vW_k9 n_y170 g172) rfl (i := q5) g173 dL_act_176 ?_
    refine W.eq (g2 := F0 m 177 ls [.ref (ad y174)]) (by show F0 m 177 ls (va_rf (Option.map ad (mr m0 y170 q5.toNatClampNeg)) :: _) = _; rw [g175]; rfl) ?_
    refine lv_iload_n hx hb dL_act_177 rfl (lv_at hl 5 rfl) ?_
    refine lv_iconst (v := 3) hx hb dL_act_178 (by decide) ?_
    refine lv_ishr hx hb dL_act_179 ?_
    refine lv_iconst (v := 4) hx hb dL_act_180 (by decide) ?_
    obtain ⟨q176, g177, h⟩ := vg_bind h
    refine va_calli (va_runS (As := [.int (p2 >>> (3 &&& 31)), .int 4]) (rest := [.ref (ad y174)]) ⟨hx, hb, hml, hown, hts⟩ (cm_L_below (m0 := m0) l D tc ad hO g177) (va_cwS 2 hts gL_act_L_below rfl rfl rfl (by decide +kernel) ⟨(Nat.le_of_ble_eq_true rfl), (Nat.le_of_ble_eq_true rfl)⟩) ⟨qR_blind, qR_pre hP hK hZ⟩ rfl rfl hl.1 rfl (lv_room (Nat.le_of_ble_eq_true rfl)) dL_act_181 ⟨(Nat.le_of_ble_eq_true rfl), (Nat.le_of_ble_eq_true rfl)⟩) hS (fun q9 _ h9 => h9.elim) (fun q9 h9 => h9.elim) (fun w178 u t H1 locs ht hvm hw hB hz1 hk1 hS => ?_)
    have hP := hP.kept (fun k9 q9 hk9 => hk1 q9.1 (hP k9 q9 hk9).lt (fun h9 => h9))
    generalize H1 = H at hP hS ⊢
    clear hk1 hz1 ht hvm
    have hw : w178 = q176 := hw
    rw [hw]
    obtain ⟨g179, h⟩ := vg_if h
    refine va_put (D := D) (ci := 4) (v := .int q176) (ty := .int) (C := RX4) (T := TX4) (N := 9) hx hb hts in_L_act_X4 tyX4 tyX4_ok nmX4 hown hK hP hD hS y174 (vW_k4 n_y174 g179) rfl 2 (by decide) (hts (.fieldLink RL 64 "VaultDoorsLaw$Door" "rule" "I") (List.mem_of_getElem? (i := 3) rfl)) (fun _ h9 => h9) rfl (by decide +kernel) rfl rfl (Nat.le_of_ble_eq_true rfl) dL_act_184 (fun H locs hP hD hS => ?_)
    have hO180 := vOK.I (a := y174) (j := 2) (v := q176) hO
    rw [vW_p4_2 (m := m0) n_y174 g179] at hP hD
    have hP : va_P D vwCl (vW tc ad N ((mI m0 y174 2 q176))) H := hP
    have hD : va_D A (vW tc ad N ((mI m0 y174 2 q176))) := hD
    refine lv_aload_n hx hb dL_act_187 rfl (lv_at hl 4 rfl) ?_
    obtain ⟨y181, g182, h⟩ := vg_bind h
    have n_y181 := hO180 _ _ _ g182
    refine va_get (D := D) (ci := 5) (v := .ref (ad y181)) (C := RX5) (T := TX5) (N := 4) hx hb hts in_L_act_X5 hown hK hP p1 (vW_k5 n_p1 g1) rfl 0 (by decide) (hts (.fieldLink RL 35 "VaultDoorsLaw$Sim" "doors" "[LVaultDoorsLaw$Door;") (List.mem_of_getElem? (i := 1) rfl)) (fun _ h9 => h9) (by show some (va_rf (Option.map ad (mr ((mI m0 y174 2 q176)) p1 0))) = _; rw [g182]; rfl) dL_act_188 ?_
    refine lv_iload hx hb dL_act_191 (lv_at hl 1 rfl) ?_
    obtain ⟨g183, h⟩ := vg_if h
    obtain ⟨g184, h⟩ := vg_if h
    obtain ⟨y185, g186, h⟩ := vg_bind h
    have n_y185 := hO180 _ _ _ g186
    refine va_aldq (D := D) hx hb hK hP y181 3 (vW_k9 n_y181 g183) rfl (i := q5) g184 dL_act_193 ?_
    refine W.eq (g2 := F0 m 194 ls [.ref (ad y185)]) (by show F0 m 194 ls (va_rf (Option.map ad (mr ((mI m0 y174 2 q176)) y181 q5.toNatClampNeg)) :: _) = _; rw [g186]; rfl) ?_
    refine lv_iconst (v := 1) hx hb dL_act_194 (by decide) ?_
    refine lv_iload_n hx hb dL_act_195 rfl (lv_at hl 5 rfl) ?_
    refine lv_iconst (v := 5) hx hb dL_act_196 (by decide) ?_
    refine lv_ishr hx hb dL_act_197 ?_
    refine lv_bipush (v := 20) hx hb dL_act_198 (by decide) ?_
    obtain ⟨q187, g188, h⟩ := vg_bind h
    refine va_calli (va_runS (As := [.int (p2 >>> (5 &&& 31)), .int 20]) (rest := [.int 1, .ref (ad y185)]) ⟨hx, hb, hml, hown, hts⟩ (cm_L_below (m0 := (mI m0 y174 2 q176)) l D tc ad hO180 g188) (va_cwS 2 hts gL_act_L_below rfl rfl rfl (by decide +kernel) ⟨(Nat.le_of_ble_eq_true rfl), (Nat.le_of_ble_eq_true rfl)⟩) ⟨qR_blind, qR_pre hP hK hZ⟩ rfl rfl hl.1 rfl (lv_room (Nat.le_of_ble_eq_true rfl)) dL_act_200 ⟨(Nat.le_of_ble_eq_true rfl), (Nat.le_of_ble_eq_true rfl)⟩) hS (fun q9 _ h9 => h9.elim) (fun q9 h9 => h9.elim) (fun w189 u t H1 locs ht hvm hw hB hz1 hk1 hS => ?_)
    have hP := hP.kept (fun k9 q9 hk9 => hk1 q9.1 (hP k9 q9 hk9).lt (fun h9 => h9))
    generalize H1 = H at hP hS ⊢
    clear hk1 hz1 ht hvm
    have hw : w189 = q187 := hw
    rw [hw]
    refine lv_iadd hx hb dL_act_203 ?_
    obtain ⟨g190, h⟩ := vg_if h
    refine va_put (D := D) (ci := 4) (v := .int (1 + q187)) (ty := .int) (C := RX4) (T := TX4) (N := 9) hx hb hts in_L_act_X4 tyX4 tyX4_ok nmX4 hown hK hP hD hS y185 (vW_k4 n_y185 g190) rfl 1 (by decide) (hts (.fieldLink RL 67 "VaultDoorsLaw$Door" "patience" "I") (List.mem_of_getElem? (i := 4) rfl)) (fun _ h9 => h9) rfl (by decide +kernel) rfl rfl (Nat.le_of_ble_eq_true rfl) dL_act_204 (fun H locs hP hD hS => ?_)
    have hO191 := vOK.I (a := y185) (j := 1) (v := (1 + q187)) hO180
    rw [vW_p4_1 (m := ((mI m0 y174 2 q176))) n_y185 g190] at hP hD
    have hP : va_P D vwCl (vW tc ad N ((mI ((mI m0 y174 2 q176)) y185 1 (1 + q187)))) H := hP
    have hD : va_D A (vW tc ad N ((mI ((mI m0 y174 2 q176)) y185 1 (1 + q187)))) := hD
    refine lv_aload_n hx hb dL_act_207 rfl (lv_at hl 3 rfl) ?_
    refine lv_iload hx hb dL_act_208 (lv_at hl 1 rfl) ?_
    refine lv_aload_n hx hb dL_act_210 rfl (lv_at hl 4 rfl) ?_
    obtain ⟨y192, g193, h⟩ := vg_bind h
    have n_y192 := hO191 _ _ _ g193
    refine va_get (D := D) (ci := 5) (v := .ref (ad y192)) (C := RX5) (T := TX5) (N := 4) hx hb hts in_L_act_X5 hown hK hP p1 (vW_k5 n_p1 g1) rfl 0 (by decide) (hts (.fieldLink RL 35 "VaultDoorsLaw$Sim" "doors" "[LVaultDoorsLaw$Door;") (List.mem_of_getElem? (i := 1) rfl)) (fun _ h9 => h9) (by show some (va_rf (Option.map ad (mr ((mI ((mI m0 y174 2 q176)) y185 1 (1 + q187))) p1 0))) = _; rw [g193]; rfl) dL_act_211 ?_
    refine lv_iload hx hb dL_act_214 (lv_at hl 1 rfl) ?_
    obtain ⟨g194, h⟩ := vg_if h
    obtain ⟨g195, h⟩ := vg_if h
    obtain ⟨y196, g197, h⟩ := vg_bind h
    have n_y196 := hO191 _ _ _ g197
    refine va_aldq (D := D) hx hb hK hP y192 3 (vW_k9 n_y192 g194) rfl (i := q5) g195 dL_act_216 ?_
    refine W.eq (g2 := F0 m 217 ls [.ref (ad y196), .int q5, .ref (ad p0)]) (by show F0 m 217 ls (va_rf (Option.map ad (mr ((mI ((mI m0 y174 2 q176)) y185 1 (1 + q187))) y192 q5.toNatClampNeg)) :: _) = _; rw [g197]; rfl) ?_
    obtain ⟨g198, h⟩ := vg_if h
    refine va_get (D := D) (ci := 4) (v := .int (mi ((mI ((mI m0 y174 2 q176)) y185 1 (1 + q187))) y196 2)) (C := RX4) (T := TX4) (N := 9) hx hb hts in_L_act_X4 hown hK hP y196 (vW_k4 n_y196 g198) rfl 2 (by decide) (hts (.fieldLink RL 64 "VaultDoorsLaw$Door" "rule" "I") (List.mem_of_getElem? (i := 3) rfl)) (fun _ h9 => h9) rfl dL_act_217 ?_
    refine lv_aload_n hx hb dL_act_220 rfl (lv_at hl 4 rfl) ?_
    obtain ⟨y199, g200, h⟩ := vg_bind h
    have n_y199 := hO191 _ _ _ g200
    refine va_get (D := D) (ci := 5) (v := .ref (ad y199)) (C := RX5) (T := TX5) (N := 4) hx hb hts in_L_act_X5 hown hK hP p1 (vW_k5 n_p1 g1) rfl 0 (by decide) (hts (.fieldLink RL 35 "VaultDoorsLaw$Sim" "doors" "[LVaultDoorsLaw$Door;") (List.mem_of_getElem? (i := 1) rfl)) (fun _ h9 => h9) (by show some (va_rf (Option.map ad (mr ((mI ((mI m0 y174 2 q176)) y185 1 (1 + q187))) p1 0))) = _; rw [g200]; rfl) dL_act_221 ?_
    refine lv_iload hx hb dL_act_224 (lv_at hl 1 rfl) ?_
    obtain ⟨g201, h⟩ := vg_if h
    obtain ⟨g202, h⟩ := vg_if h
    obtain ⟨y203, g204, h⟩ := vg_bind h
    have n_y203 := hO191 _ _ _ g204
    refine va_aldq (D := D) hx hb hK hP y199 3 (vW_k9 n_y199 g201) rfl (i := q5) g202 dL_act_226 ?_
    refine W.eq (g2 := F0 m 227 ls [.ref (ad y203), .int (mi ((mI ((mI m0 y174 2 q176)) y185 1 (1 + q187))) y196 2), .int q5, .ref (ad p0)]) (by show F0 m 227 ls (va_rf (Option.map ad (mr ((mI ((mI m0 y174 2 q176)) y185 1 (1 + q187))) y199 q5.toNatClampNeg)) :: _) = _; rw [g204]; rfl) ?_
    obtain ⟨g205, h⟩ := vg_if h
    refine va_get (D := D) (ci := 4) (v := .int (mi ((mI ((mI m0 y174 2 q176)) y185 1 (1 + q187))) y203 1)) (C := RX4) (T := TX4) (N := 9) hx hb hts in_L_act_X4 hown hK hP y203 (vW_k4 n_y203 g205) rfl 1 (by decide) (hts (.fieldLink RL 67 "VaultDoorsLaw$Door" "patience" "I") (List.mem_of_getElem? (i := 4) rfl)) (fun _ h9 => h9) rfl dL_act_227 ?_
    obtain ⟨g206, h⟩ := vg_if h
    obtain ⟨q207, g208, h⟩ := vg_bind h
    have hFc := vm_free hD hS hA
    refine va_calli (va_runV (As := [.int q5, .int (mi ((mI ((mI m0 y174 2 q176)) y185 1 (1 + q187))) y196 2), .int (mi ((mI ((mI m0 y174 2 q176)) y185 1 (1 + q187))) y203 1)]) (rest := []) ⟨hx, hb, hml, hown, hts⟩ (cm_X3_set (m0 := (mI ((mI m0 y174 2 q176)) y185 1 (1 + q187))) l D tc ad hO191 n_p0 g208) (cwV 3 hts gL_act_X3_set rfl rfl rfl (by decide +kernel) ⟨(Nat.le_of_ble_eq_true rfl), (Nat.le_of_ble_eq_true rfl)⟩) ⟨qW_blind, va_recv hK hP (ci := 3) (q0 := p0) rfl (vW_k3 n_p0 g206), qW_pre hP hD hK hZ⟩ rfl rfl hl.1 rfl (lv_room (Nat.le_of_ble_eq_true rfl)) dL_act_230 ⟨(Nat.le_of_ble_eq_true rfl), (Nat.le_of_ble_eq_true rfl)⟩) hS (fun q9 _ h9 => hFc q9 h9) hFc (fun w209 u t H1 locs ht hvm hw hB hz1 hk1 hS => ?_)
    obtain ⟨hO210, hP1, hK1, hD1⟩ := hB
    rw [ht] at hP1
    have hP := hP1
    have hD := hD1.weaken (fun _ q9 _ h9 => hFc q9.1 h9)
    generalize H1 = H at hP hS ⊢
    have hP : va_P D vwCl (vW tc ad N q207.2) H := hP
    have hD : va_D A (vW tc ad N q207.2) := hD
    clear hk1 hz1 ht hvm
    have hw : w209 = q207.1 := hw
    rw [hw]
    refine lv_iload hx hb dL_act_233 (lv_at hl 0 rfl) ?_
    refine lv_icmp_ne (tgt := 242) hx hb dL_act_235 (by decide) (fun c211 => ?_) (fun c211 => ?_)
    · rw [if_neg c211] at h
      refine lv_iconst (v := 0) hx hb dL_act_242 (by decide) ?_
      have hz := Option.some.inj h
      refine W.widen (k := 9) (n := 284) (Nat.le_of_ble_eq_true rfl) (Nat.le_of_ble_eq_true rfl) ?_
      exact W.zret (v := 0) (ty := .boolean) hx hb hr (by decide) (fun t ht hW => ⟨⟨_, (), rfl, by rw [← hz], by rw [← hz]; exact ⟨ad, (fun _ _ => rfl), (Nat.le_refl _), hO210, by rw [ht]; exact hP, va_K.moved hW.alike hK, hD⟩⟩, hS.F ht⟩) hS.2.2 dL_act_243
    · rw [if_pos c211] at h
      refine lv_iconst (v := 1) hx hb dL_act_238 (by decide) ?_
      refine lv_goto (tgt := 243) hx hb dL_act_239 (by decide) ?_
      have hz := Option.some.inj h
      refine W.widen (k := 9) (n := 284) (Nat.le_of_ble_eq_true rfl) (Nat.le_of_ble_eq_true rfl) ?_
      exact W.zret (v := 1) (ty := .boolean) hx hb hr (by decide) (fun t ht hW => ⟨⟨_, (), rfl, by rw [← hz], by rw [← hz]; exact ⟨ad, (fun _ _ => rfl), (Nat.le_refl _), hO210, by rw [ht]; exact hP, va_K.moved hW.alike hK, hD⟩⟩, hS.F ht⟩) hS.2.2 dL_act_243
  rw [if_neg c155] at h
  refine lv_tableOut (tgt := 244) hx hb dL_act_22 ((vs_sw5 q8).resolve_right (by simp [c11, c49, c87, c125, c155])) (by decide) ?_
  refine lv_aload_n hx hb dL_act_244 rfl (lv_at hl 2 rfl) ?_
  refine lv_aload_n hx hb dL_act_245 rfl (lv_at hl 3 rfl) ?_
  refine lv_iload hx hb dL_act_246 (lv_at hl 0 rfl) ?_
  refine lv_iload_n hx hb dL_act_248 rfl (lv_at hl 4 rfl) ?_
  refine lv_iconst (v := 3) hx hb dL_act_249 (by decide) ?_
  refine lv_ishr hx hb dL_act_250 ?_
  refine lv_iload_n hx hb dL_act_251 rfl (lv_at hl 1 rfl) ?_
  obtain ⟨q212, g213, h⟩ := vg_bind h
  refine va_calli (va_runS (As := [.int (p2 >>> (3 &&& 31)), .int (Int32.ofNat (ml m0 y2))]) (rest := [.int q5, .ref (ad p1), .ref (ad p0)]) ⟨hx, hb, hml, hown, hts⟩ (cm_L_below (m0 := m0) l D tc ad hO g213) (va_cwS 2 hts gL_act_L_below rfl rfl rfl (by decide +kernel) ⟨(Nat.le_of_ble_eq_true rfl), (Nat.le_of_ble_eq_true rfl)⟩) ⟨qR_blind, qR_pre hP hK hZ⟩ rfl rfl hl.1 rfl (lv_room (Nat.le_of_ble_eq_true rfl)) dL_act_252 ⟨(Nat.le_of_ble_eq_true rfl), (Nat.le_of_ble_eq_true rfl)⟩) hS (fun q9 _ h9 => h9.elim) (fun q9 h9 => h9.elim) (fun w214 u t H1 locs ht hvm hw hB hz1 hk1 hS => ?_)
  have hP := hP.kept (fun k9 q9 hk9 => hk1 q9.1 (hP k9 q9 hk9).lt (fun h9 => h9))
  generalize H1 = H at hP hS ⊢
  clear hk1 hz1 ht hvm
  have hw : w214 = q212 := hw
  rw [hw]
  refine lv_iconst (v := 1) hx hb dL_act_255 (by decide) ?_
  refine lv_iload_n hx hb dL_act_256 rfl (lv_at hl 4 rfl) ?_
  refine lv_iconst (v := 5) hx hb dL_act_257 (by decide) ?_
  refine lv_ishr hx hb dL_act_258 ?_
  refine lv_iconst (v := 5) hx hb dL_act_259 (by decide) ?_
  obtain ⟨q215, g216, h⟩ := vg_bind h
  refine va_calli (va_runS (As := [.int (p2 >>> (5 &&& 31)), .int 5]) (rest := [.int 1, .int q212, .int q5, .ref (ad p1), .ref (ad p0)]) ⟨hx, hb, hml, hown, hts⟩ (cm_L_below (m0 := m0) l D tc ad hO g216) (va_cwS 2 hts gL_act_L_below rfl rfl rfl (by decide +kernel) ⟨(Nat.le_of_ble_eq_true rfl), (Nat.le_of_ble_eq_true rfl)⟩) ⟨qR_blind, qR_pre hP hK hZ⟩ rfl rfl hl.1 rfl (lv_room (Nat.le_of_ble_eq_true rfl)) dL_act_260 ⟨(Nat.le_of_ble_eq_true rfl), (Nat.le_of_ble_eq_true rfl)⟩) hS (fun q9 _ h9 => h9.elim) (fun q9 h9 => h9.elim) (fun w217 u t H1 locs ht hvm hw hB hz1 hk1 hS => ?_)
  have hP := hP.kept (fun k9 q9 hk9 => hk1 q9.1 (hP k9 q9 hk9).lt (fun h9 => h9))
  generalize H1 = H at hP hS ⊢
  clear hk1 hz1 ht hvm
  have hw : w217 = q215 := hw
  rw [hw]
  refine lv_iadd hx hb dL_act_263 ?_
  obtain ⟨q218, g219, h⟩ := vg_bind h
  have hFc := vm_free hD hS hA
  refine va_calli (va_runS (As := [.ref (ad p0), .ref (ad p1), .int q5, .int q212, .int (1 + q215)]) (rest := []) ⟨hx, hb, hml, hown, hts⟩ (cm_L_link (m0 := m0) l D tc ad hO n_p0 n_p1 g219) (va_cwS 5 hts gL_act_L_link rfl rfl rfl (by decide +kernel) ⟨(Nat.le_of_ble_eq_true rfl), (Nat.le_of_ble_eq_true rfl)⟩) ⟨qW_blind, qW_pre hP hD hK hZ⟩ rfl rfl hl.1 rfl (lv_room (Nat.le_of_ble_eq_true rfl)) dL_act_264 ⟨(Nat.le_of_ble_eq_true rfl), (Nat.le_of_ble_eq_true rfl)⟩) hS (fun q9 _ h9 => hFc q9 h9) hFc (fun w220 u t H1 locs ht hvm hw hB hz1 hk1 hS => ?_)
  obtain ⟨ad221, e222, e223, hO224, hP1, hK1, hD1⟩ := hB
  rw [ht] at hP1
  have hP := hP1
  have hD := hD1.weaken (fun _ q9 _ h9 => hFc q9.1 h9)
  generalize H1 = H at hP hS ⊢
  clear hk1 hz1 ht hvm
  have hl : lv_has ls 6 [(4, .int q5), (3, .int (Int32.ofNat (ml m0 y2))), (0, .ref (ad221 p0)), (1, .ref (ad221 p1)), (2, .int p2)] := by rw [e222 p0 n_p0, e222 p1 n_p1]; exact hl
  have e225 : ∀ k, k < N → ad221 k = ad k := fun k hk => (e222 k (Nat.lt_of_lt_of_le hk (Nat.le_refl _))).trans ((fun _ _ => rfl) k hk)
  have e226 : N ≤ q218.2.1 := Nat.le_trans (Nat.le_refl _) e223
  have n227 : p0 < q218.2.1 := Nat.lt_of_lt_of_le n_p0 e223
  have n228 : p1 < q218.2.1 := Nat.lt_of_lt_of_le n_p1 e223
  have n229 : y2 < q218.2.1 := Nat.lt_of_lt_of_le n_y2 e223
  have hw : w220 = q218.1 := hw
  rw [hw]
  have hP : va_P D vwCl (vW tc ad221 q218.2.1 q218.2.2) H := hP
  have hD : va_D A (vW tc ad221 q218.2.1 q218.2.2) := hD
  obtain ⟨g230, h⟩ := vg_if h
  have hz := Option.some.inj h
  refine W.widen (k := 9) (n := 284) (Nat.le_of_ble_eq_true rfl) (Nat.le_of_ble_eq_true rfl) ?_
  exact W.zret (v := q218.1) (ty := .boolean) hx hb hr (vm_z g230) (fun t ht hW => ⟨⟨_, (), rfl, by rw [← hz], by rw [← hz]; exact ⟨ad221, e225, e226, hO224, by rw [ht]; exact hP, va_K.moved hW.alike hK, hD⟩⟩, hS.F ht⟩) hS.2.2 dL_act_267
