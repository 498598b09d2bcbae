noncomputable def fB_X4_answers_14 (rec : Nat → vM → Nat → Int32 → Int32 → Nat → Int32 → Int32 → Option (Int32)) (m : vM) (r0 : Nat) (i1 : Int32) (i2 : Int32) (r3 : Nat) (i4 : Int32) (i5 : Int32) : Option (Int32) :=
  if i4 ≤ i5 then (
    some i2
  ) else (
    if mk m r3 = 8 then
    if vin i5 (ml m r3) then
    Option.bind (mr m r3 i5.toNatClampNeg) fun y4 =>
    if mk m r0 = 4 then
    if (mi m r0 3) = 1 then (
      if 0 ≤ i1 then (
        if mk m y4 = 6 then
        if vin (2 : Int32) (ml m y4) then
        if (mi m y4 2) = i1 then (
          rec 14 m r0 i1 (i2 + 1) r3 i4 (i5 + 1)
        ) else (
          rec 14 m r0 i1 (i2 + 0) r3 i4 (i5 + 1)
        )
        else none
        else none
      ) else (
        if mk m y4 = 6 then
        if vin (2 : Int32) (ml m y4) then
        if (mi m y4 2) < 0 then (
          rec 14 m r0 i1 (i2 + 0) r3 i4 (i5 + 1)
        ) else (
          rec 14 m r0 i1 (i2 + 1) r3 i4 (i5 + 1)
        )
        else none
        else none
      )
    ) else (
      rec 14 m r0 i1 (i2 + 0) r3 i4 (i5 + 1)
    )
    else none
    else none
    else none
  )
noncomputable def fL_X4_answers (n : Nat) : Nat → vM → Nat → Int32 → Int32 → Nat → Int32 → Int32 → Option (Int32) := Nat.rec (fun _ _ _ _ _ _ _ _ => none) (fun _ rec pc m r0 i1 i2 r3 i4 i5 => if pc = 14 then fB_X4_answers_14 rec m r0 i1 i2 r3 i4 i5 else none) n
noncomputable def f_X4_answers (m : vM) (p0 : Nat) (p1 : Int32) : Option (Int32) :=
  if mk m p0 = 4 then
  Option.bind (mr m p0 5) fun y2 =>
  if mk m y2 = 8 then
  fL_X4_answers vF 14 m p0 p1 (0 : Int32) y2 (Int32.ofNat (ml m y2)) (0 : Int32)
  else none
  else none
theorem in_X4_answers_X4 : ∀ w ∈ wsX40, w ∈ wsX4_answers := by decide +kernel
set_option maxHeartbeats 1000000 in
set_option maxRecDepth 100000 in
theorem cm_X4_answers (l : Launch) (D : va_G) (tc : Nat → ClassId) (ad : Nat → Nat) {N : Nat} {m0 : vM} {p0 : Nat} {p1 : Int32} (hO : vOK N m0) (n_p0 : p0 < N) {z : Int32} (h : f_X4_answers m0 p0 p1 = some z) : Met l yX4_answers wsX4_answers ({ frames := 0, cells := 0, slots := 0, locals := 0 } : Room) (va_Pc [.ref (ad p0), .int p1] (qR D tc ad N m0)) (va_Qi (fun (r9 : Int32) (_ : Unit) => r9 = z) (fun _ _ => True) (fun _ => False)) 0 0 (fun _ => False) := by
  refine Met.ofW (cc := cX4_answers) (maxL := 7) (ret := (some .int)) (by decide) rfl ?_
  intro p e s m args below meth c s₁ B hml hv
  obtain ⟨rfl, hP, hK, hZ⟩ := hv
  have hx := B.exec
  have hb := B.bytes
  have hr := B.returns
  have hts := atoms_spec (ws := wsX4_answers) B.pre
  have hown : s.vm.findClass RX4 = some m.cls := findClass_of_methodNamed B.named
  have hlocks := B.notSynchronized
  have hS : va_S (fun _ => False) s.heap s.heap [] := va_S.rf
  have hl := lv_entry ([.ref (ad p0), .int p1]) (n := 7) (Nat.le_of_ble_eq_true rfl)
  rw [lg_entry_eq]
  generalize (lg_sl ([.ref (ad p0), .int p1]) ++ List.replicate (7 - (lg_sl ([.ref (ad p0), .int p1])).length) Slot.unset).toArray = ls at hl ⊢
  have hl : lv_has ls 7 [(0, .ref (ad p0)), (1, .int p1)] := hl
  have hL : ∀ n : Nat, (∀ (m1 : vM) (r0 : Nat) (i1 : Int32) (i2 : Int32) (r3 : Nat) (i4 : Int32) (i5 : Int32) (H : Heap) (locs : List Loc) (ls : Array Slot), vOK N m1 → r0 < N → r3 < N → fL_X4_answers n 14 m1 r0 i1 i2 r3 i4 i5 = some z → va_P D vwCl (vW tc ad N m1) H → va_S (fun _ => False) s.heap H locs → lv_has ls 7 [(0, .ref (ad r0)), (1, .int i1), (2, .int i2), (3, .ref (ad r3)), (4, .int i4), (5, .int i5)] → W p l e (headSpec wsX4_answers ({ frames := 0, cells := 0, slots := 0, locals := 0 } : Room)).room s m ([.ref (ad p0), .int p1] : List Value).toArray below meth c H locs 0 0 (MQ below (va_Qi (fun (r9 : Int32) (_ : Unit) => r9 = z) (fun _ _ => True) (fun _ => False)) ([.ref (ad p0), .int p1] : List Value).toArray s 0 0 (fun _ => False)) (F0 m 14 ls [])) := by
    intro n
    induction n with
    | zero => exact (fun _ _ _ _ _ _ _ _ _ _ _ _ _ h9 _ _ _ => by have h9 : (none : Option (Int32)) = some z := h9; cases h9)
    | succ n ih =>
      · intro m1 r0 i1 i2 r3 i4 i5 H locs ls hO n_r0 n_r3 h hP hS hl
        have h : fB_X4_answers_14 (fL_X4_answers n) m1 r0 i1 i2 r3 i4 i5 = some z := h
        unfold fB_X4_answers_14 at h
        refine lv_iload hx hb dX4_answers_14 (lv_at hl 5 rfl) ?_
        refine lv_iload hx hb dX4_answers_16 (lv_at hl 4 rfl) ?_
        refine lv_icmp_ge (tgt := 71) hx hb dX4_answers_18 (by decide) (fun c1 => ?_) (fun c1 => ?_)
        · rw [if_pos c1] at h
          refine lv_iload_n hx hb dX4_answers_71 rfl (lv_at hl 2 rfl) ?_
          have hz := Option.some.inj h
          exact W.iret (v := i2) hx hb hr (fun t ht hW => ⟨⟨_, (), rfl, hz, trivial⟩, hS.F ht⟩) hS.2.2 dX4_answers_72
        · rw [if_neg c1] at h
          refine lv_aload_n hx hb dX4_answers_21 rfl (lv_at hl 3 rfl) ?_
          refine lv_iload hx hb dX4_answers_22 (lv_at hl 5 rfl) ?_
          obtain ⟨g2, h⟩ := vg_if h
          obtain ⟨g3, h⟩ := vg_if h
          obtain ⟨y4, g5, h⟩ := vg_bind h
          have n_y4 := hO _ _ _ g5
          refine wm_aald8 hx hb hK hP n_r3 g2 (i := i5) g3 dX4_answers_24 ?_
          refine W.eq (g2 := F0 m 25 ls [.ref (ad y4)]) (by show F0 m 25 ls (va_rf (Option.map ad (mr m1 r3 i5.toNatClampNeg)) :: _) = _; rw [g5]; rfl) ?_
          refine lv_astore (lv' := [(6, .ref (ad y4)), (0, .ref (ad r0)), (1, .int i1), (2, .int i2), (3, .ref (ad r3)), (4, .int i4), (5, .int i5)]) hx hb dX4_answers_25 hl (by decide) rfl (fun ls hl => ?_)
          refine lv_iload_n hx hb dX4_answers_27 rfl (lv_at hl 3 rfl) ?_
          refine lv_aload_n hx hb dX4_answers_28 rfl (lv_at hl 1 rfl) ?_
          obtain ⟨g6, h⟩ := vg_if h
          refine va_get (D := D) (ci := 4) (v := .int (mi m1 r0 3)) (C := RX4) (T := TX4) (N := 9) hx hb hts in_X4_answers_X4 hown hK hP r0 (vW_k4 n_r0 g6) rfl 3 (by decide) (hts (.fieldLink RX4 29 "VaultDoorsLaw$Door" "state" "I") (List.mem_of_getElem? (i := 2) rfl)) (fun _ h9 => h9) rfl dX4_answers_29 ?_
          refine lv_iconst (v := 1) hx hb dX4_answers_32 (by decide) ?_
          refine lv_icmp_ne (tgt := 62) hx hb dX4_answers_33 (by decide) (fun c7 => ?_) (fun c7 => ?_)
          · rw [if_neg c7] at h
            refine lv_iconst (v := 0) hx hb dX4_answers_62 (by decide) ?_
            refine lv_iadd hx hb dX4_answers_63 ?_
            refine lv_istore_n (lv' := [(2, .int (i2 + 0)), (6, .ref (ad y4)), (0, .ref (ad r0)), (1, .int i1), (3, .ref (ad r3)), (4, .int i4), (5, .int i5)]) hx hb dX4_answers_64 rfl hl (by decide) rfl (fun ls hl => ?_)
            refine lv_iinc (v := i5 + 1) (lv' := [(5, .int (i5 + 1)), (2, .int (i2 + 0)), (6, .ref (ad y4)), (0, .ref (ad r0)), (1, .int i1), (3, .ref (ad r3)), (4, .int i4)]) hx hb dX4_answers_65 hl (k := 6) rfl rfl (by decide) rfl (fun ls hl => ?_)
            refine lv_goto (tgt := 14) hx hb dX4_answers_68 (by decide) ?_
            exact (ih) m1 r0 i1 (i2 + 0) r3 i4 (i5 + 1) _ _ _ hO n_r0 n_r3 h hP hS (lv_sub hl (l' := [(0, .ref (ad r0)), (1, .int i1), (2, .int (i2 + 0)), (3, .ref (ad r3)), (4, .int i4), (5, .int (i5 + 1))]) [3, 4, 1, 5, 6, 0] rfl)
          · rw [if_pos c7] at h
            refine lv_iload_n hx hb dX4_answers_36 rfl (lv_at hl 2 rfl) ?_
            refine lv_if_ge (tgt := 50) hx hb dX4_answers_37 (by decide) (fun c8 => ?_) (fun c8 => ?_)
            · rw [if_pos c8] at h
              refine lv_aload hx hb dX4_answers_50 (lv_at hl 0 rfl) ?_
              refine lv_iconst (v := 2) hx hb dX4_answers_52 (by decide) ?_
              obtain ⟨g9, h⟩ := vg_if h
              obtain ⟨g10, h⟩ := vg_if h
              refine va_iald (D := D) hx hb hK hP y4 0 (vW_k6 n_y4 g9) rfl (i := 2) g10 dX4_answers_53 ?_
              refine W.eq (g2 := F0 m 54 ls [.int (mi m1 y4 2), .int i2]) rfl ?_
              refine lv_iload_n hx hb dX4_answers_54 rfl (lv_at hl 2 rfl) ?_
              refine lv_icmp_ne (tgt := 62) hx hb dX4_answers_55 (by decide) (fun c11 => ?_) (fun c11 => ?_)
              · rw [if_neg c11] at h
                refine lv_iconst (v := 0) hx hb dX4_answers_62 (by decide) ?_
                refine lv_iadd hx hb dX4_answers_63 ?_
                refine lv_istore_n (lv' := [(2, .int (i2 + 0)), (6, .ref (ad y4)), (0, .ref (ad r0)), (1, .int i1), (3, .ref (ad r3)), (4, .int i4), (5, .int i5)]) hx hb dX4_answers_64 rfl hl (by decide) rfl (fun ls hl => ?_)
                refine lv_iinc (v := i5 + 1) (lv' := [(5, .int (i5 + 1)), (2, .int (i2 + 0)), (6, .ref (ad y4)), (0, .ref (ad r0)), (1, .int i1), (3, .ref (ad r3)), (4, .int i4)]) hx hb dX4_answers_65 hl (k := 6) rfl rfl (by decide) rfl (fun ls hl => ?_)
                refine lv_goto (tgt := 14) hx hb dX4_answers_68 (by decide) ?_
                exact (ih) m1 r0 i1 (i2 + 0) r3 i4 (i5 + 1) _ _ _ hO n_r0 n_r3 h hP hS (lv_sub hl (l' := [(0, .ref (ad r0)), (1, .int i1), (2, .int (i2 + 0)), (3, .ref (ad r3)), (4, .int i4), (5, .int (i5 + 1))]) [3, 4, 1, 5, 6, 0] rfl)
              · rw [if_pos c11] at h
                refine lv_iconst (v := 1) hx hb dX4_answers_58 (by decide) ?_
                refine lv_goto (tgt := 63) hx hb dX4_answers_59 (by decide) ?_
                refine lv_iadd hx hb dX4_answers_63 ?_
                refine lv_istore_n (lv' := [(2, .int (i2 + 1)), (6, .ref (ad y4)), (0, .ref (ad r0)), (1, .int i1), (3, .ref (ad r3)), (4, .int i4), (5, .int i5)]) hx hb dX4_answers_64 rfl hl (by decide) rfl (fun ls hl => ?_)
                refine lv_iinc (v := i5 + 1) (lv' := [(5, .int (i5 + 1)), (2, .int (i2 + 1)), (6, .ref (ad y4)), (0, .ref (ad r0)), (1, .int i1), (3, .ref (ad r3)), (4, .int i4)]) hx hb dX4_answers_65 hl (k := 6) rfl rfl (by decide) rfl (fun ls hl => ?_)
                refine lv_goto (tgt := 14) hx hb dX4_answers_68 (by decide) ?_
                exact (ih) m1 r0 i1 (i2 + 1) r3 i4 (i5 + 1) _ _ _ hO n_r0 n_r3 h hP hS (lv_sub hl (l' := [(0, .ref (ad r0)), (1, .int i1), (2, .int (i2 + 1)), (3, .ref (ad r3)), (4, .int i4), (5, .int (i5 + 1))]) [3, 4, 1, 5, 6, 0] rfl)
            · rw [if_neg c8] at h
              refine lv_aload hx hb dX4_answers_40 (lv_at hl 0 rfl) ?_
              refine lv_iconst (v := 2) hx hb dX4_answers_42 (by decide) ?_
              obtain ⟨g12, h⟩ := vg_if h
              obtain ⟨g13, h⟩ := vg_if h
              refine va_iald (D := D) hx hb hK hP y4 0 (vW_k6 n_y4 g12) rfl (i := 2) g13 dX4_answers_43 ?_
              refine W.eq (g2 := F0 m 44 ls [.int (mi m1 y4 2), .int i2]) rfl ?_
              refine lv_if_lt (tgt := 62) hx hb dX4_answers_44 (by decide) (fun c14 => ?_) (fun c14 => ?_)
              · rw [if_pos c14] at h
                refine lv_iconst (v := 0) hx hb dX4_answers_62 (by decide) ?_
                refine lv_iadd hx hb dX4_answers_63 ?_
                refine lv_istore_n (lv' := [(2, .int (i2 + 0)), (6, .ref (ad y4)), (0, .ref (ad r0)), (1, .int i1), (3, .ref (ad r3)), (4, .int i4), (5, .int i5)]) hx hb dX4_answers_64 rfl hl (by decide) rfl (fun ls hl => ?_)
                refine lv_iinc (v := i5 + 1) (lv' := [(5, .int (i5 + 1)), (2, .int (i2 + 0)), (6, .ref (ad y4)), (0, .ref (ad r0)), (1, .int i1), (3, .ref (ad r3)), (4, .int i4)]) hx hb dX4_answers_65 hl (k := 6) rfl rfl (by decide) rfl (fun ls hl => ?_)
                refine lv_goto (tgt := 14) hx hb dX4_answers_68 (by decide) ?_
                exact (ih) m1 r0 i1 (i2 + 0) r3 i4 (i5 + 1) _ _ _ hO n_r0 n_r3 h hP hS (lv_sub hl (l' := [(0, .ref (ad r0)), (1, .int i1), (2, .int (i2 + 0)), (3, .ref (ad r3)), (4, .int i4), (5, .int (i5 + 1))]) [3, 4, 1, 5, 6, 0] rfl)
              · rw [if_neg c14] at h
                refine lv_goto (tgt := 58) hx hb dX4_answers_47 (by decide) ?_
                refine lv_iconst (v := 1) hx hb dX4_answers_58 (by decide) ?_
                refine lv_goto (tgt := 63) hx hb dX4_answers_59 (by decide) ?_
                refine lv_iadd hx hb dX4_answers_63 ?_
                refine lv_istore_n (lv' := [(2, .int (i2 + 1)), (6, .ref (ad y4)), (0, .ref (ad r0)), (1, .int i1), (3, .ref (ad r3)), (4, .int i4), (5, .int i5)]) hx hb dX4_answers_64 rfl hl (by decide) rfl (fun ls hl => ?_)
                refine lv_iinc (v := i5 + 1) (lv' := [(5, .int (i5 + 1)), (2, .int (i2 + 1)), (6, .ref (ad y4)), (0, .ref (ad r0)), (1, .int i1), (3, .ref (ad r3)), (4, .int i4)]) hx hb dX4_answers_65 hl (k := 6) rfl rfl (by decide) rfl (fun ls hl => ?_)
                refine lv_goto (tgt := 14) hx hb dX4_answers_68 (by decide) ?_
                exact (ih) m1 r0 i1 (i2 + 1) r3 i4 (i5 + 1) _ _ _ hO n_r0 n_r3 h hP hS (lv_sub hl (l' := [(0, .ref (ad r0)), (1, .int i1), (2, .int (i2 + 1)), (3, .ref (ad r3)), (4, .int i4), (5, .int (i5 + 1))]) [3, 4, 1, 5, 6, 0] rfl)
  unfold f_X4_answers at h
  refine lv_iconst (v := 0) hx hb dX4_answers_0 (by decide) ?_
  refine lv_istore_n (lv' := [(2, .int 0), (0, .ref (ad p0)), (1, .int p1)]) hx hb dX4_answers_1 rfl hl (by decide) rfl (fun ls hl => ?_)
  refine lv_aload_n hx hb dX4_answers_2 rfl (lv_at hl 1 rfl) ?_
  obtain ⟨g15, h⟩ := vg_if h
  obtain ⟨y16, g17, h⟩ := vg_bind h
  have n_y16 := hO _ _ _ g17
  refine va_get (D := D) (ci := 4) (v := .ref (ad y16)) (C := RX4) (T := TX4) (N := 9) hx hb hts in_X4_answers_X4 hown hK hP p0 (vW_k4 n_p0 g15) rfl 5 (by decide) (hts (.fieldLink RX4 9 "VaultDoorsLaw$Door" "asks" "[[I") (List.mem_of_getElem? (i := 1) rfl)) (fun _ h9 => h9) (by show some (va_rf (Option.map ad (mr m0 p0 5))) = _; rw [g17]; rfl) dX4_answers_3 ?_
  refine lv_astore_n (lv' := [(3, .ref (ad y16)), (2, .int 0), (0, .ref (ad p0)), (1, .int p1)]) hx hb dX4_answers_6 rfl hl (by decide) rfl (fun ls hl => ?_)
  refine lv_aload_n hx hb dX4_answers_7 rfl (lv_at hl 0 rfl) ?_
  obtain ⟨g18, h⟩ := vg_if h
  refine va_alen (D := D) hx hb hK hP y16 2 (vW_k8 n_y16 g18) rfl rfl dX4_answers_8 ?_
  refine lv_istore (lv' := [(4, .int (Int32.ofNat (ml m0 y16))), (3, .ref (ad y16)), (2, .int 0), (0, .ref (ad p0)), (1, .int p1)]) hx hb dX4_answers_9 hl (by decide) rfl (fun ls hl => ?_)
  refine lv_iconst (v := 0) hx hb dX4_answers_11 (by decide) ?_
  refine lv_istore (lv' := [(5, .int 0), (4, .int (Int32.ofNat (ml m0 y16))), (3, .ref (ad y16)), (2, .int 0), (0, .ref (ad p0)), (1, .int p1)]) hx hb dX4_answers_12 hl (by decide) rfl (fun ls hl => ?_)
  exact ((hL vF)) m0 p0 p1 (0 : Int32) y16 (Int32.ofNat (ml m0 y16)) (0 : Int32) _ _ _ hO n_p0 n_y16 h hP hS (lv_sub hl (l' := [(0, .ref (ad p0)), (1, .int p1), (2, .int 0), (3, .ref (ad y16)), (4, .int (Int32.ofNat (ml m0 y16))), (5, .int 0)]) [4, 5, 3, 2, 1, 0] rfl)

noncomputable def fB_X5_more_10 (rec : Nat → Nat → vM → Nat → Nat → Nat → Nat → Nat → Int32 → Option (Nat × Nat × vM)) (N : Nat) (m : vM) (kc ks : Nat) (r0 : Nat) (r1 : Nat) (r2 : Nat) (i3 : Int32) : Option (Nat × Nat × vM) :=
  if mk m r0 = 8 then
  if (Int32.ofNat (ml m r0)) ≤ i3 then (
    if mk m r2 = 8 then
    if mk m r1 = 6 then
    if vin (Int32.ofNat (ml m r0)) (ml m r2) then
    some (r2, N, (mR m r2 (Int32.ofNat (ml m r0)).toNatClampNeg (some r1)))
    else none
    else none
    else none
  ) else (
    if vin i3 (ml m r0) then
    Option.bind (mr m r0 i3.toNatClampNeg) fun y8 =>
    if mk m r2 = 8 then
    if mk m y8 = 6 then
    if vin i3 (ml m r2) then
    rec 10 N ((mR m r2 i3.toNatClampNeg (some y8))) kc ks r0 r1 r2 (i3 + 1)
    else none
    else none
    else none
    else none
  )
  else none
noncomputable def fL_X5_more (n : Nat) : Nat → Nat → vM → Nat → Nat → Nat → Nat → Nat → Int32 → Option (Nat × Nat × vM) := Nat.rec (fun _ _ _ _ _ _ _ _ _ => none) (fun _ rec pc N m kc ks r0 r1 r2 i3 => if pc = 10 then fB_X5_more_10 rec N m kc ks r0 r1 r2 i3 else none) n
noncomputable def f_X5_more (N : Nat) (m : vM) (p0 : Nat) (p1 : Nat) : Option (Nat × Nat × vM) :=
  if mk m p0 = 8 then
  if ¬ ((Int32.ofNat (ml m p0)) + 1) < 0 then
  if ((Int32.ofNat (ml m p0)) + 1).toNatClampNeg ≤ 1000 then
  if (0 + (((Int32.ofNat (ml m p0)) + 1).toNatClampNeg)) ≤ 66 then
  fL_X5_more vF 10 ((N + 1)) ((mN m N 8 (((Int32.ofNat (ml m p0)) + 1).toNatClampNeg))) ((0 + 1)) ((0 + (((Int32.ofNat (ml m p0)) + 1).toNatClampNeg))) p0 p1 N (0 : Int32)
  else none
  else none
  else none
  else none
set_option maxHeartbeats 1000000 in
set_option maxRecDepth 100000 in
theorem cm_X5_more (l : Launch) (D : va_G) (tc : Nat → ClassId) (ad : Nat → Nat) {N : Nat} {m0 : vM} {sz : Nat} {p0 : Nat} {p1 : Nat} (hO : vOK N m0) (n_p0 : p0 < N) (n_p1 : p1 < N) {z : Nat × Nat × vM} (h : f_X5_more N m0 p0 p1 = some z) : Met l yX5_more wsX5_more ({ frames := 0, cells := 1, slots := 66, locals := 0 } : Room) (va_Pc [.ref (ad p0), .ref (ad p1)] (qW D tc ad N m0 sz)) (va_Qr (fun (_ : Unit) => True) (fun _ ra t => vXr D (va_A (vW tc ad N m0) sz) tc ad N z.1 z.2.1 z.2.2 ra t) (va_A (vW tc ad N m0) sz)) 1 66 (va_A (vW tc ad N m0) sz) := by
  refine Met.ofW (cc := cX5_more) (maxL := 4) (ret := (some (.array (.array .int)))) (by decide) rfl ?_
  intro p e s m args below meth c s₁ B hml hv
  obtain ⟨rfl, hsz, hP, hK, hD0, hZ⟩ := hv
  have hx := B.exec
  have hb := B.bytes
  have hr := B.returns
  have hts := atoms_spec (ws := wsX5_more) B.pre
  have hown : s.vm.findClass RX5 = some m.cls := findClass_of_methodNamed B.named
  have hlocks := B.notSynchronized
  subst hsz
  have hD := hD0.self (sz := s.heap.size)
  generalize hAe : va_A (vW tc ad N m0) s.heap.size = A at hD ⊢
  have hA : ∀ q : Nat, s.heap.size ≤ q → A q := fun q h => by rw [← hAe]; exact Or.inr h
  have hS : va_S A s.heap s.heap [] := va_S.rf
  have hl := lv_entry ([.ref (ad p0), .ref (ad p1)]) (n := 4) (Nat.le_of_ble_eq_true rfl)
  rw [lg_entry_eq]
  generalize (lg_sl ([.ref (ad p0), .ref (ad p1)]) ++ List.replicate (4 - (lg_sl ([.ref (ad p0), .ref (ad p1)])).length) Slot.unset).toArray = ls at hl ⊢
  have hl : lv_has ls 4 [(0, .ref (ad p0)), (1, .ref (ad p1))] := hl
  have hL : ∀ n : Nat, (∀ (NL : Nat) (adL : Nat → Nat) (m1 : vM) (kc ks : Nat) (r0 : Nat) (r1 : Nat) (r2 : Nat) (i3 : Int32) (H : Heap) (locs : List Loc) (ls : Array Slot), N ≤ NL → (∀ k, k < N → adL k = ad k) → kc ≤ 1 → ks ≤ 66 → vOK NL m1 → r0 < NL → r1 < NL → r2 < NL → fL_X5_more n 10 NL m1 kc ks r0 r1 r2 i3 = some z → va_P D vwCl (vW tc adL NL m1) H → va_D A (vW tc adL NL m1) → va_S A s.heap H locs → lv_has ls 4 [(0, .ref (adL r0)), (1, .ref (adL r1)), (2, .ref (adL r2)), (3, .int i3)] → W p l e (headSpec wsX5_more ({ frames := 0, cells := 1, slots := 66, locals := 0 } : Room)).room s m ([.ref (ad p0), .ref (ad p1)] : List Value).toArray below meth c H locs kc ks (MQ below (va_Qr (fun (_ : Unit) => True) (fun _ ra t => vXr D A tc ad N z.1 z.2.1 z.2.2 ra t) A) ([.ref (ad p0), .ref (ad p1)] : List Value).toArray s 1 66 A) (F0 m 10 ls [])) := by
    intro n
    induction n with
    | zero => exact (fun _ _ _ _ _ _ _ _ _ _ _ _ _ _ _ _ _ _ _ _ h9 _ _ _ _ => by have h9 : (none : Option (Nat × Nat × vM)) = some z := h9; cases h9)
    | succ n ih =>
      · intro NL adL m1 kc ks r0 r1 r2 i3 H locs ls hNN hE hc hs hO n_r0 n_r1 n_r2 h hP hD hS hl
        have h : fB_X5_more_10 (fL_X5_more n) NL m1 kc ks r0 r1 r2 i3 = some z := h
        unfold fB_X5_more_10 at h
        refine lv_iload_n hx hb dX5_more_10 rfl (lv_at hl 3 rfl) ?_
        refine lv_aload_n hx hb dX5_more_11 rfl (lv_at hl 0 rfl) ?_
        obtain ⟨g1, h⟩ := vg_if h
        refine va_alen (D := D) hx hb hK hP r0 2 (vW_k8 n_r0 g1) rfl rfl dX5_more_12 ?_
        refine lv_icmp_ge (tgt := 28) hx hb dX5_more_13 (by decide) (fun c2 => ?_) (fun c2 => ?_)
        · rw [if_pos c2] at h
          refine lv_aload_n hx hb dX5_more_28 rfl (lv_at hl 2 rfl) ?_
          refine lv_aload_n hx hb dX5_more_29 rfl (lv_at hl 0 rfl) ?_
          refine va_alen (D := D) hx hb hK hP r0 2 (vW_k8 n_r0 g1) rfl rfl dX5_more_30 ?_
          refine lv_aload_n hx hb dX5_more_31 rfl (lv_at hl 1 rfl) ?_
          obtain ⟨g3, h⟩ := vg_if h
          obtain ⟨g4, h⟩ := vg_if h
          obtain ⟨g5, h⟩ := vg_if h
          refine wm_aast8 hx hb hZ.1 hP hD hS n_r2 g3 n_r1 g4 (i := Int32.ofNat (ml m1 r0)) g5 dX5_more_32 (fun H locs hP hD hS => ?_)
          have hO6 := vOK.R (a := r2) (j := (Int32.ofNat (ml m1 r0)).toNatClampNeg) hO n_r1
          have hP : va_P D vwCl (vW tc adL NL ((mR m1 r2 (Int32.ofNat (ml m1 r0)).toNatClampNeg (some r1)))) H := hP
          have hD : va_D A (vW tc adL NL ((mR m1 r2 (Int32.ofNat (ml m1 r0)).toNatClampNeg (some r1)))) := hD
          refine lv_aload_n hx hb dX5_more_33 rfl (lv_at hl 2 rfl) ?_
          have hz := Option.some.inj h
          refine W.widen (k := 1) (n := 66) hc hs ?_
          exact W.aret (v := .ref (adL r2)) hx hb hr (Or.inr ⟨_, rfl⟩) (Or.inr ⟨_, rfl⟩) (fun t ht hW => ⟨⟨(), _, rfl, trivial, by rw [← hz]; exact ⟨adL, hE, hNN, hO6, by rw [ht]; exact hP, va_K.moved hW.alike hK, hD, rfl, n_r2⟩⟩, hS.F ht⟩) hS.2.2 dX5_more_34
        · rw [if_neg c2] at h
          refine lv_aload_n hx hb dX5_more_16 rfl (lv_at hl 2 rfl) ?_
          refine lv_iload_n hx hb dX5_more_17 rfl (lv_at hl 3 rfl) ?_
          refine lv_aload_n hx hb dX5_more_18 rfl (lv_at hl 0 rfl) ?_
          refine lv_iload_n hx hb dX5_more_19 rfl (lv_at hl 3 rfl) ?_
          obtain ⟨g7, h⟩ := vg_if h
          obtain ⟨y8, g9, h⟩ := vg_bind h
          have n_y8 := hO _ _ _ g9
          refine wm_aald8 hx hb hK hP n_r0 g1 (i := i3) g7 dX5_more_20 ?_
          refine W.eq (g2 := F0 m 21 ls [.ref (adL y8), .int i3, .ref (adL r2)]) (by show F0 m 21 ls (va_rf (Option.map adL (mr m1 r0 i3.toNatClampNeg)) :: _) = _; rw [g9]; rfl) ?_
          obtain ⟨g10, h⟩ := vg_if h
          obtain ⟨g11, h⟩ := vg_if h
          obtain ⟨g12, h⟩ := vg_if h
          refine wm_aast8 hx hb hZ.1 hP hD hS n_r2 g10 n_y8 g11 (i := i3) g12 dX5_more_21 (fun H locs hP hD hS => ?_)
          have hO13 := vOK.R (a := r2) (j := i3.toNatClampNeg) hO n_y8
          have hP : va_P D vwCl (vW tc adL NL ((mR m1 r2 i3.toNatClampNeg (some y8)))) H := hP
          have hD : va_D A (vW tc adL NL ((mR m1 r2 i3.toNatClampNeg (some y8)))) := hD
          refine lv_iinc (v := i3 + 1) (lv' := [(3, .int (i3 + 1)), (0, .ref (adL r0)), (1, .ref (adL r1)), (2, .ref (adL r2))]) hx hb dX5_more_22 hl (k := 3) rfl rfl (by decide) rfl (fun ls hl => ?_)
          refine lv_goto (tgt := 10) hx hb dX5_more_25 (by decide) ?_
          exact (ih) NL adL ((mR m1 r2 i3.toNatClampNeg (some y8))) kc ks r0 r1 r2 (i3 + 1) _ _ _ hNN hE hc hs hO13 n_r0 n_r1 n_r2 h hP hD hS (lv_sub hl (l' := [(0, .ref (adL r0)), (1, .ref (adL r1)), (2, .ref (adL r2)), (3, .int (i3 + 1))]) [1, 2, 3, 0] rfl)
  unfold f_X5_more at h
  refine lv_aload_n hx hb dX5_more_0 rfl (lv_at hl 0 rfl) ?_
  obtain ⟨g14, h⟩ := vg_if h
  refine va_alen (D := D) hx hb hK hP p0 2 (vW_k8 n_p0 g14) rfl rfl dX5_more_1 ?_
  refine lv_iconst (v := 1) hx hb dX5_more_2 (by decide) ?_
  refine lv_iadd hx hb dX5_more_3 ?_
  obtain ⟨g15, h⟩ := vg_if h
  obtain ⟨g16, h⟩ := vg_if h
  obtain ⟨g17, h⟩ := vg_if h
  refine wm_new8 (n := (Int32.ofNat (ml m0 p0)) + 1) (n' := ((Int32.ofNat (ml m0 p0)) + 1).toNatClampNeg) hx hb hown (hts (.classLink RX5 15 "[I") (List.mem_of_getElem? (i := 1) rfl)) hZ.2.1 hO hK hP hD hS hA g15 rfl (Nat.le_trans g16 (Nat.le_of_ble_eq_true rfl)) (Nat.le_of_ble_eq_true rfl) g17 dX5_more_4 (fun ad18 H e19 hP hD hS => ?_)
  have hl : lv_has ls 4 [(0, .ref (ad18 p0)), (1, .ref (ad18 p1))] := by rw [e19 p0 n_p0, e19 p1 n_p1]; exact hl
  have e20 : ∀ k, k < N → ad18 k = ad k := fun k hk => (e19 k (Nat.lt_of_lt_of_le hk (Nat.le_refl _))).trans ((fun _ _ => rfl) k hk)
  have e21 : N ≤ (N + 1) := Nat.le_trans (Nat.le_refl _) (Nat.le_succ _)
  have hO22 := vOK.N (k := 8) (n := ((Int32.ofNat (ml m0 p0)) + 1).toNatClampNeg) hO
  have n23 : p0 < (N + 1) := Nat.lt_of_lt_of_le n_p0 (Nat.le_succ _)
  have n24 : p1 < (N + 1) := Nat.lt_of_lt_of_le n_p1 (Nat.le_succ _)
  have hP : va_P D vwCl (vW tc ad18 ((N + 1)) ((mN m0 N 8 (((Int32.ofNat (ml m0 p0)) + 1).toNatClampNeg)))) H := hP
  have hD : va_D A (vW tc ad18 ((N + 1)) ((mN m0 N 8 (((Int32.ofNat (ml m0 p0)) + 1).toNatClampNeg)))) := hD
  refine lv_astore_n (lv' := [(2, .ref (ad18 N)), (0, .ref (ad18 p0)), (1, .ref (ad18 p1))]) hx hb dX5_more_7 rfl hl (by decide) rfl (fun ls hl => ?_)
  refine lv_iconst (v := 0) hx hb dX5_more_8 (by decide) ?_
  refine lv_istore_n (lv' := [(3, .int 0), (2, .ref (ad18 N)), (0, .ref (ad18 p0)), (1, .ref (ad18 p1))]) hx hb dX5_more_9 rfl hl (by decide) rfl (fun ls hl => ?_)
  exact ((hL vF)) ((N + 1)) ad18 ((mN m0 N 8 (((Int32.ofNat (ml m0 p0)) + 1).toNatClampNeg))) ((0 + 1)) ((0 + (((Int32.ofNat (ml m0 p0)) + 1).toNatClampNeg))) p0 p1 N (0 : Int32) _ _ _ e21 e20 (Nat.le_of_ble_eq_true rfl) g17 hO22 n23 n24 (Nat.lt_succ_self _) h hP hD hS (lv_sub hl (l' := [(0, .ref (ad18 p0)), (1, .ref (ad18 p1)), (2, .ref (ad18 N)), (3, .int 0)]) [2, 3, 1, 0] rfl)

noncomputable def fB_X5_build_15 (rec : Nat → Nat → vM → Nat → Nat → Nat → Int32 → Int32 → Int32 → Nat → Int32 → Option (Nat × vM)) (N : Nat) (m : vM) (kc ks : Nat) (r0 : Nat) (i1 : Int32) (i2 : Int32) (i3 : Int32) (r4 : Nat) (i5 : Int32) : Option (Nat × vM) :=
  if mk m r0 = 5 then
  Option.bind (mr m r0 0) fun y2 =>
  if mk m y2 = 9 then
  if (Int32.ofNat (ml m y2)) ≤ i5 then (
    if (kc + 1) ≤ 4 then
    if (ks + 9) ≤ 20 then
    Option.bind (f_X4_init ((N + 1)) ((mN m N 4 0)) N) fun q16 =>
    if ((kc + 1) + 2) ≤ 4 then
    if ((ks + 9) + 0) ≤ 20 then
    if mk q16.2 N = 4 then
    if mk ((mI ((mI ((mI q16.2 N 0 i1)) N 1 i2)) N 2 i3)) r0 = 5 then
    Option.bind (mr ((mI ((mI ((mI q16.2 N 0 i1)) N 1 i2)) N 2 i3)) r0 0) fun y36 =>
    if mk ((mI ((mI ((mI q16.2 N 0 i1)) N 1 i2)) N 2 i3)) y36 = 9 then
    if mk ((mI ((mI ((mI q16.2 N 0 i1)) N 1 i2)) N 2 i3)) r4 = 9 then
    if vin (Int32.ofNat (ml ((mI ((mI ((mI q16.2 N 0 i1)) N 1 i2)) N 2 i3)) y36)) (ml ((mI ((mI ((mI q16.2 N 0 i1)) N 1 i2)) N 2 i3)) r4) then
    some (q16.1, (mR ((mR ((mI ((mI ((mI q16.2 N 0 i1)) N 1 i2)) N 2 i3)) r4 (Int32.ofNat (ml ((mI ((mI ((mI q16.2 N 0 i1)) N 1 i2)) N 2 i3)) y36)).toNatClampNeg (some N))) r0 0 (some r4)))
    else none
    else none
    else none
    else none
    else none
    else none
    else none
    else none
    else none
  ) else (
    Option.bind (mr m r0 0) fun y43 =>
    if mk m y43 = 9 then
    if vin i5 (ml m y43) then
    Option.bind (mr m y43 i5.toNatClampNeg) fun y47 =>
    if mk m r4 = 9 then
    if mk m y47 = 4 then
    if vin i5 (ml m r4) then
    rec 15 N ((mR m r4 i5.toNatClampNeg (some y47))) kc ks r0 i1 i2 i3 r4 (i5 + 1)
    else none
    else none
    else none
    else none
    else none
  )
  else none
  else none
noncomputable def fL_X5_build (n : Nat) : Nat → Nat → vM → Nat → Nat → Nat → Int32 → Int32 → Int32 → Nat → Int32 → Option (Nat × vM) := Nat.rec (fun _ _ _ _ _ _ _ _ _ _ _ => none) (fun _ rec pc N m kc ks r0 i1 i2 i3 r4 i5 => if pc = 15 then fB_X5_build_15 rec N m kc ks r0 i1 i2 i3 r4 i5 else none) n
noncomputable def f_X5_build (N : Nat) (m : vM) (p0 : Nat) (p1 : Int32) (p2 : Int32) (p3 : Int32) : Option (Nat × vM) :=
  if mk m p0 = 5 then
  Option.bind (mr m p0 0) fun y2 =>
  if mk m y2 = 9 then
  if ¬ ((Int32.ofNat (ml m y2)) + 1) < 0 then
  if ((Int32.ofNat (ml m y2)) + 1).toNatClampNeg ≤ 1000 then
  if (0 + (((Int32.ofNat (ml m y2)) + 1).toNatClampNeg)) ≤ 20 then
  fL_X5_build vF 15 ((N + 1)) ((mN m N 9 (((Int32.ofNat (ml m y2)) + 1).toNatClampNeg))) ((0 + 1)) ((0 + (((Int32.ofNat (ml m y2)) + 1).toNatClampNeg))) p0 p1 p2 p3 N (0 : Int32)
  else none
  else none
  else none
  else none
  else none
theorem in_X5_build_X4 : ∀ w ∈ wsX40, w ∈ wsX5_build := by decide +kernel
theorem in_X5_build_X5 : ∀ w ∈ wsX50, w ∈ wsX5_build := by decide +kernel
set_option maxHeartbeats 1000000 in
set_option maxRecDepth 100000 in
theorem cm_X5_build (l : Launch) (D : va_G) (tc : Nat → ClassId) (ad : Nat → Nat) {N : Nat} {m0 : vM} {sz : Nat} {p0 : Nat} {p1 : Int32} {p2 : Int32} {p3 : Int32} (hO : vOK N m0) (n_p0 : p0 < N) {z : Nat × vM} (h : f_X5_build N m0 p0 p1 p2 p3 = some z) : Met l yX5_build wsX5_build ({ frames := 2, cells := 4, slots := 20, locals := 40 } : Room) (va_Pc [.ref (ad p0), .int p1, .int p2, .int p3] (qW D tc ad N m0 sz)) (va_Qv (fun (_ : Unit) => True) (fun _ t => vX D (va_A (vW tc ad N m0) sz) tc ad N z.1 z.2 t) (va_A (vW tc ad N m0) sz)) 4 20 (va_A (vW tc ad N m0) sz) := by
  refine Met.ofW (cc := cX5_build) (maxL := 6) (ret := none) (by decide) rfl ?_
  intro p e s m args below meth c s₁ B hml hv
  obtain ⟨rfl, hsz, hP, hK, hD0, hZ⟩ := hv
  have hx := B.exec
  have hb := B.bytes
  have hr := B.returns
  have hts := atoms_spec (ws := wsX5_build) B.pre
  have hown : s.vm.findClass RX5 = some m.cls := findClass_of_methodNamed B.named
  have hlocks := B.notSynchronized
  subst hsz
  have hD := hD0.self (sz := s.heap.size)
  generalize hAe : va_A (vW tc ad N m0) s.heap.size = A at hD ⊢
  have hA : ∀ q : Nat, s.heap.size ≤ q → A q := fun q h => by rw [← hAe]; exact Or.inr h
  have hS : va_S A s.heap s.heap [] := va_S.rf
  have hl := lv_entry ([.ref (ad p0), .int p1, .int p2, .int p3]) (n := 6) (Nat.le_of_ble_eq_true rfl)
  rw [lg_entry_eq]
  generalize (lg_sl ([.ref (ad p0), .int p1, .int p2, .int p3]) ++ List.replicate (6 - (lg_sl ([.ref (ad p0), .int p1, .int p2, .int p3])).length) Slot.unset).toArray = ls at hl ⊢
  have hl : lv_has ls 6 [(0, .ref (ad p0)), (1, .int p1), (2, .int p2), (3, .int p3)] := hl
  have hL : ∀ n : Nat, (∀ (NL : Nat) (adL : Nat → Nat) (m1 : vM) (kc ks : Nat) (r0 : Nat) (i1 : Int32) (i2 : Int32) (i3 : Int32) (r4 : Nat) (i5 : Int32) (H : Heap) (locs : List Loc) (ls : Array Slot), N ≤ NL → (∀ k, k < N → adL k = ad k) → kc ≤ 4 → ks ≤ 20 → vOK NL m1 → r0 < NL → r4 < NL → fL_X5_build n 15 NL m1 kc ks r0 i1 i2 i3 r4 i5 = some z → va_P D vwCl (vW tc adL NL m1) H → va_D A (vW tc adL NL m1) → va_S A s.heap H locs → lv_has ls 6 [(0, .ref (adL r0)), (1, .int i1), (2, .int i2), (3, .int i3), (4, .ref (adL r4)), (5, .int i5)] → W p l e (headSpec wsX5_build ({ frames := 2, cells := 4, slots := 20, locals := 40 } : Room)).room s m ([.ref (ad p0), .int p1, .int p2, .int p3] : List Value).toArray below meth c H locs kc ks (MQ below (va_Qv (fun (_ : Unit) => True) (fun _ t => vX D A tc ad N z.1 z.2 t) A) ([.ref (ad p0), .int p1, .int p2, .int p3] : List Value).toArray s 4 20 A) (F0 m 15 ls [])) := by
    intro n
    induction n with
    | zero => exact (fun _ _ _ _ _ _ _ _ _ _ _ _ _ _ _ _ _ _ _ _ _ h9 _ _ _ _ => by have h9 : (none : Option (Nat × vM)) = some z := h9; cases h9)
    | succ n ih =>
      · intro NL adL m1 kc ks r0 i1 i2 i3 r4 i5 H locs ls hNN hE hc hs hO n_r0 n_r4 h hP hD hS hl
        have h : fB_X5_build_15 (fL_X5_build n) NL m1 kc ks r0 i1 i2 i3 r4 i5 = some z := h
        unfold fB_X5_build_15 at h
        refine lv_iload hx hb dX5_build_15 (lv_at hl 5 rfl) ?_
        refine lv_aload_n hx hb dX5_build_17 rfl (lv_at hl 0 rfl) ?_
        obtain ⟨g1, h⟩ := vg_if h
        obtain ⟨y2, g3, h⟩ := vg_bind h
        have n_y2 := hO _ _ _ g3
        refine va_get (D := D) (ci := 5) (v := .ref (adL y2)) (C := RX5) (T := TX5) (N := 4) hx hb hts in_X5_build_X5 hown hK hP r0 (vW_k5 n_r0 g1) rfl 0 (by decide) (hts (.fieldLink RX5 9 "VaultDoorsLaw$Sim" "doors" "[LVaultDoorsLaw$Door;") (List.mem_of_getElem? (i := 1) rfl)) (fun _ h9 => h9) (by show some (va_rf (Option.map adL (mr m1 r0 0))) = _; rw [g3]; rfl) dX5_build_18 ?_
        obtain ⟨g4, h⟩ := vg_if h
        refine va_alen (D := D) hx hb hK hP y2 3 (vW_k9 n_y2 g4) rfl rfl dX5_build_21 ?_
        refine lv_icmp_ge (tgt := 43) hx hb dX5_build_22 (by decide) (fun c5 => ?_) (fun c5 => ?_)
        · rw [if_pos c5] at h
          obtain ⟨g6, h⟩ := vg_if h
          obtain ⟨g7, h⟩ := vg_if h
          refine wm_obj4 hx hb hts in_X5_build_X4 hown (hts (.classLink RX5 7 RX4) (List.mem_of_getElem? (i := 2) rfl)) (hts (.instantiable RX4 9) (List.mem_of_getElem? (i := 3) rfl)) (hts (.initialized RX4) (List.mem_of_getElem? (i := 4) rfl)) hO hK hP hD hS hA g6 g7 dX5_build_43 (fun ad8 H e9 hP hD hS => ?_)
          have hl : lv_has ls 6 [(0, .ref (ad8 r0)), (1, .int i1), (2, .int i2), (3, .int i3), (4, .ref (ad8 r4)), (5, .int i5)] := by rw [e9 r0 n_r0, e9 r4 n_r4]; exact hl
          have e10 : ∀ k, k < N → ad8 k = ad k := fun k hk => (e9 k (Nat.lt_of_lt_of_le hk hNN)).trans (hE k hk)
          have e11 : N ≤ (NL + 1) := Nat.le_trans hNN (Nat.le_succ _)
          have hO12 := vOK.N (k := 4) (n := 0) hO
          have n13 : r0 < (NL + 1) := Nat.lt_of_lt_of_le n_r0 (Nat.le_succ _)
          have n14 : r4 < (NL + 1) := Nat.lt_of_lt_of_le n_r4 (Nat.le_succ _)
          have n15 : y2 < (NL + 1) := Nat.lt_of_lt_of_le n_y2 (Nat.le_succ _)
          have hP : va_P D vwCl (vW tc ad8 ((NL + 1)) ((mN m1 NL 4 0))) H := hP
          have hD : va_D A (vW tc ad8 ((NL + 1)) ((mN m1 NL 4 0))) := hD
          refine lv_dup hx hb dX5_build_46 rfl ?_
          obtain ⟨q16, g17, h⟩ := vg_bind h
          obtain ⟨g18, h⟩ := vg_if h
          obtain ⟨g19, h⟩ := vg_if h
          have hFc := vm_free hD hS hA
          refine va_callv (va_runIN (As := []) (rest := [.ref (ad8 NL)]) ⟨hx, hb, hml, hown, hts⟩ (cm_X4_init (m0 := (mN m1 NL 4 0)) l D tc ad8 hO12 (Nat.lt_succ_self _) g17) (⟨va_cnB 0 hts gX5_build_X4_init_n30 rfl rfl rfl hZ.2.2.2.2.2.2.2 (hts (.initialized RX4) (List.mem_of_getElem? (i := 4) rfl)) (by decide +kernel) ⟨(Nat.le_of_ble_eq_true rfl), (Nat.le_of_ble_eq_true rfl)⟩, rfl, (hts (.instanceMethod yX4_init) (List.mem_of_getElem? (i := 8) rfl))⟩) ⟨qW_blind, qW_pre hP hD hK hZ⟩ rfl rfl hl.1 rfl (lv_room (Nat.le_of_ble_eq_true rfl)) dX5_build_47 ⟨g18, g19⟩) hS (fun q9 _ h9 => hFc q9 h9) hFc (fun u t H1 locs ht hvm hw hB hz1 hk1 hS => ?_)
          obtain ⟨ad21, e22, e23, hO24, hP1, hK1, hD1⟩ := hB
          rw [ht] at hP1
          have hP := hP1
          have hD := hD1.weaken (fun _ q9 _ h9 => hFc q9.1 h9)
          generalize H1 = H at hP hS ⊢
          clear hk1 hz1 ht hvm
          have hl : lv_has ls 6 [(0, .ref (ad21 r0)), (1, .int i1), (2, .int i2), (3, .int i3), (4, .ref (ad21 r4)), (5, .int i5)] := by rw [e22 r0 n13, e22 r4 n14]; exact hl
          have e25 : ∀ k, k < N → ad21 k = ad k := fun k hk => (e22 k (Nat.lt_of_lt_of_le hk e11)).trans (e10 k hk)
          have e26 : N ≤ q16.1 := Nat.le_trans e11 e23
          have n27 : r0 < q16.1 := Nat.lt_of_lt_of_le n13 e23
          have n28 : r4 < q16.1 := Nat.lt_of_lt_of_le n14 e23
          have n29 : y2 < q16.1 := Nat.lt_of_lt_of_le n15 e23
          have n30 : NL < q16.1 := Nat.lt_of_lt_of_le (Nat.lt_succ_self _) e23
          refine W.eq (g2 := F0 m 50 ls [.ref (ad21 NL)]) (by rw [e22 NL (Nat.lt_succ_self _)]) ?_
          have hP : va_P D vwCl (vW tc ad21 q16.1 q16.2) H := hP
          have hD : va_D A (vW tc ad21 q16.1 q16.2) := hD
          refine lv_astore (lv' := [(5, .ref (ad21 NL)), (0, .ref (ad21 r0)), (1, .int i1), (2, .int i2), (3, .int i3), (4, .ref (ad21 r4))]) hx hb dX5_build_50 hl (by decide) rfl (fun ls hl => ?_)
          refine lv_aload hx hb dX5_build_52 (lv_at hl 0 rfl) ?_
          refine lv_iload_n hx hb dX5_build_54 rfl (lv_at hl 2 rfl) ?_
          obtain ⟨g31, h⟩ := vg_if h
          refine va_put (D := D) (ci := 4) (v := .int i1) (ty := .int) (C := RX4) (T := TX4) (N := 9) hx hb hts in_X5_build_X4 tyX4 tyX4_ok nmX4 hown hK hP hD hS NL (vW_k4 n30 g31) rfl 0 (by decide) (hts (.fieldLink RX5 31 "VaultDoorsLaw$Door" "secret" "I") (List.mem_of_getElem? (i := 5) rfl)) (fun _ h9 => h9) rfl (by decide +kernel) rfl rfl (Nat.le_of_ble_eq_true rfl) dX5_build_55 (fun H locs hP hD hS => ?_)
          have hO32 := vOK.I (a := NL) (j := 0) (v := i1) hO24
          rw [vW_p4_0 (m := q16.2) n30 g31] at hP hD
          have hP : va_P D vwCl (vW tc ad21 q16.1 ((mI q16.2 NL 0 i1))) H := hP
          have hD : va_D A (vW tc ad21 q16.1 ((mI q16.2 NL 0 i1))) := hD
          refine lv_aload hx hb dX5_build_58 (lv_at hl 0 rfl) ?_
          refine lv_iload_n hx hb dX5_build_60 rfl (lv_at hl 3 rfl) ?_
          refine va_put (D := D) (ci := 4) (v := .int i2) (ty := .int) (C := RX4) (T := TX4) (N := 9) hx hb hts in_X5_build_X4 tyX4 tyX4_ok nmX4 hown hK hP hD hS NL (vW_k4 n30 g31) rfl 1 (by decide) (hts (.fieldLink RX5 35 "VaultDoorsLaw$Door" "patience" "I") (List.mem_of_getElem? (i := 6) rfl)) (fun _ h9 => h9) rfl (by decide +kernel) rfl rfl (Nat.le_of_ble_eq_true rfl) dX5_build_61 (fun H locs hP hD hS => ?_)
          have hO33 := vOK.I (a := NL) (j := 1) (v := i2) hO32
          rw [vW_p4_1 (m := ((mI q16.2 NL 0 i1))) n30 g31] at hP hD
          have hP : va_P D vwCl (vW tc ad21 q16.1 ((mI ((mI q16.2 NL 0 i1)) NL 1 i2))) H := hP
          have hD : va_D A (vW tc ad21 q16.1 ((mI ((mI q16.2 NL 0 i1)) NL 1 i2))) := hD
          refine lv_aload hx hb dX5_build_64 (lv_at hl 0 rfl) ?_
          refine lv_iload_n hx hb dX5_build_66 rfl (lv_at hl 4 rfl) ?_
          refine va_put (D := D) (ci := 4) (v := .int i3) (ty := .int) (C := RX4) (T := TX4) (N := 9) hx hb hts in_X5_build_X4 tyX4 tyX4_ok nmX4 hown hK hP hD hS NL (vW_k4 n30 g31) rfl 2 (by decide) (hts (.fieldLink RX5 38 "VaultDoorsLaw$Door" "rule" "I") (List.mem_of_getElem? (i := 7) rfl)) (fun _ h9 => h9) rfl (by decide +kernel) rfl rfl (Nat.le_of_ble_eq_true rfl) dX5_build_67 (fun H locs hP hD hS => ?_)
          have hO34 := vOK.I (a := NL) (j := 2) (v := i3) hO33
          rw [vW_p4_2 (m := ((mI ((mI q16.2 NL 0 i1)) NL 1 i2))) n30 g31] at hP hD
          have hP : va_P D vwCl (vW tc ad21 q16.1 ((mI ((mI ((mI q16.2 NL 0 i1)) NL 1 i2)) NL 2 i3))) H := hP
          have hD : va_D A (vW tc ad21 q16.1 ((mI ((mI ((mI q16.2 NL 0 i1)) NL 1 i2)) NL 2 i3))) := hD
          refine lv_aload hx hb dX5_build_70 (lv_at hl 5 rfl) ?_
          refine lv_aload_n hx hb dX5_build_72 rfl (lv_at hl 1 rfl) ?_
          obtain ⟨g35, h⟩ := vg_if h
          obtain ⟨y36, g37, h⟩ := vg_bind h
          have n_y36 := hO34 _ _ _ g37
          refine va_get (D := D) (ci := 5) (v := .ref (ad21 y36)) (C := RX5) (T := TX5) (N := 4) hx hb hts in_X5_build_X5 hown hK hP r0 (vW_k5 n27 g35) rfl 0 (by decide) (hts (.fieldLink RX5 9 "VaultDoorsLaw$Sim" "doors" "[LVaultDoorsLaw$Door;") (List.mem_of_getElem? (i := 1) rfl)) (fun _ h9 => h9) (by show some (va_rf (Option.map ad21 (mr ((mI ((mI ((mI q16.2 NL 0 i1)) NL 1 i2)) NL 2 i3)) r0 0))) = _; rw [g37]; rfl) dX5_build_73 ?_
          obtain ⟨g38, h⟩ := vg_if h
          refine va_alen (D := D) hx hb hK hP y36 3 (vW_k9 n_y36 g38) rfl rfl dX5_build_76 ?_
          refine lv_aload hx hb dX5_build_77 (lv_at hl 0 rfl) ?_
          obtain ⟨g39, h⟩ := vg_if h
          obtain ⟨g40, h⟩ := vg_if h
          refine va_astq (D := D) hx hb hK hP hD hS r4 3 NL 4 (vW_k9 n28 g39) rfl (vW_k4 n30 g31) rfl (i := Int32.ofNat (ml ((mI ((mI ((mI q16.2 NL 0 i1)) NL 1 i2)) NL 2 i3)) y36)) g40 dX5_build_79 (fun H locs hP hD hS => ?_)
          rw [vW_p9 (m := ((mI ((mI ((mI q16.2 NL 0 i1)) NL 1 i2)) NL 2 i3))) n28 g39] at hP hD
          have hO41 := vOK.R (a := r4) (j := (Int32.ofNat (ml ((mI ((mI ((mI q16.2 NL 0 i1)) NL 1 i2)) NL 2 i3)) y36)).toNatClampNeg) hO34 n30
          have hP : va_P D vwCl (vW tc ad21 q16.1 ((mR ((mI ((mI ((mI q16.2 NL 0 i1)) NL 1 i2)) NL 2 i3)) r4 (Int32.ofNat (ml ((mI ((mI ((mI q16.2 NL 0 i1)) NL 1 i2)) NL 2 i3)) y36)).toNatClampNeg (some NL)))) H := hP
          have hD : va_D A (vW tc ad21 q16.1 ((mR ((mI ((mI ((mI q16.2 NL 0 i1)) NL 1 i2)) NL 2 i3)) r4 (Int32.ofNat (ml ((mI ((mI ((mI q16.2 NL 0 i1)) NL 1 i2)) NL 2 i3)) y36)).toNatClampNeg (some NL)))) := hD
          refine lv_aload_n hx hb dX5_build_80 rfl (lv_at hl 1 rfl) ?_
          refine lv_aload hx hb dX5_build_81 (lv_at hl 5 rfl) ?_
          refine va_put (D := D) (ci := 5) (v := .ref (ad21 r4)) (ty := .array (.object "VaultDoorsLaw$Door")) (C := RX5) (T := TX5) (N := 4) hx hb hts in_X5_build_X5 tyX5 tyX5_ok nmX5 hown hK hP hD hS r0 (vW_k5 n27 g35) rfl 0 (by decide) (hts (.fieldLink RX5 9 "VaultDoorsLaw$Sim" "doors" "[LVaultDoorsLaw$Door;") (List.mem_of_getElem? (i := 1) rfl)) (fun _ h9 => h9) rfl (by decide +kernel) rfl rfl (Nat.le_of_ble_eq_true rfl) dX5_build_83 (fun H locs hP hD hS => ?_)
          rw [vW_p5_0 (m := ((mR ((mI ((mI ((mI q16.2 NL 0 i1)) NL 1 i2)) NL 2 i3)) r4 (Int32.ofNat (ml ((mI ((mI ((mI q16.2 NL 0 i1)) NL 1 i2)) NL 2 i3)) y36)).toNatClampNeg (some NL)))) n27 g35] at hP hD
          have hO42 := vOK.R (a := r0) (j := 0) hO41 n28
          have hP : va_P D vwCl (vW tc ad21 q16.1 ((mR ((mR ((mI ((mI ((mI q16.2 NL 0 i1)) NL 1 i2)) NL 2 i3)) r4 (Int32.ofNat (ml ((mI ((mI ((mI q16.2 NL 0 i1)) NL 1 i2)) NL 2 i3)) y36)).toNatClampNeg (some NL))) r0 0 (some r4)))) H := hP
          have hD : va_D A (vW tc ad21 q16.1 ((mR ((mR ((mI ((mI ((mI q16.2 NL 0 i1)) NL 1 i2)) NL 2 i3)) r4 (Int32.ofNat (ml ((mI ((mI ((mI q16.2 NL 0 i1)) NL 1 i2)) NL 2 i3)) y36)).toNatClampNeg (some NL))) r0 0 (some r4)))) := hD
          have hz := Option.some.inj h
          refine W.widen (k := 4) (n := 20) g18 g19 ?_
          exact W.vret hx hb hr (fun t ht hW => ⟨⟨(), rfl, trivial, by rw [← hz]; exact ⟨ad21, e25, e26, hO42, by rw [ht]; exact hP, va_K.moved hW.alike hK, hD⟩⟩, hS.F ht⟩) hS.2.2 dX5_build_86
        · rw [if_neg c5] at h
          refine lv_aload hx hb dX5_build_25 (lv_at hl 4 rfl) ?_
          refine lv_iload hx hb dX5_build_27 (lv_at hl 5 rfl) ?_
          refine lv_aload_n hx hb dX5_build_29 rfl (lv_at hl 0 rfl) ?_
          obtain ⟨y43, g44, h⟩ := vg_bind h
          have n_y43 := hO _ _ _ g44
          refine va_get (D := D) (ci := 5) (v := .ref (adL y43)) (C := RX5) (T := TX5) (N := 4) hx hb hts in_X5_build_X5 hown hK hP r0 (vW_k5 n_r0 g1) rfl 0 (by decide) (hts (.fieldLink RX5 9 "VaultDoorsLaw$Sim" "doors" "[LVaultDoorsLaw$Door;") (List.mem_of_getElem? (i := 1) rfl)) (fun _ h9 => h9) (by show some (va_rf (Option.map adL (mr m1 r0 0))) = _; rw [g44]; rfl) dX5_build_30 ?_
          refine lv_iload hx hb dX5_build_33 (lv_at hl 5 rfl) ?_
          obtain ⟨g45, h⟩ := vg_if h
          obtain ⟨g46, h⟩ := vg_if h
          obtain ⟨y47, g48, h⟩ := vg_bind h
          have n_y47 := hO _ _ _ g48
          refine va_aldq (D := D) hx hb hK hP y43 3 (vW_k9 n_y43 g45) rfl (i := i5) g46 dX5_build_35 ?_
          refine W.eq (g2 := F0 m 36 ls [.ref (adL y47), .int i5, .ref (adL r4)]) (by show F0 m 36 ls (va_rf (Option.map adL (mr m1 y43 i5.toNatClampNeg)) :: _) = _; rw [g48]; rfl) ?_
          obtain ⟨g49, h⟩ := vg_if h
          obtain ⟨g50, h⟩ := vg_if h
          obtain ⟨g51, h⟩ := vg_if h
          refine va_astq (D := D) hx hb hK hP hD hS r4 3 y47 4 (vW_k9 n_r4 g49) rfl (vW_k4 n_y47 g50) rfl (i := i5) g51 dX5_build_36 (fun H locs hP hD hS => ?_)
          rw [vW_p9 (m := m1) n_r4 g49] at hP hD
          have hO52 := vOK.R (a := r4) (j := i5.toNatClampNeg) hO n_y47
          have hP : va_P D vwCl (vW tc adL NL ((mR m1 r4 i5.toNatClampNeg (some y47)))) H := hP
          have hD : va_D A (vW tc adL NL ((mR m1 r4 i5.toNatClampNeg (some y47)))) := hD
          refine lv_iinc (v := i5 + 1) (lv' := [(5, .int (i5 + 1)), (0, .ref (adL r0)), (1, .int i1), (2, .int i2), (3, .int i3), (4, .ref (adL r4))]) hx hb dX5_build_37 hl (k := 5) rfl rfl (by decide) rfl (fun ls hl => ?_)
          refine lv_goto (tgt := 15) hx hb dX5_build_40 (by decide) ?_
          exact (ih) NL adL ((mR m1 r4 i5.toNatClampNeg (some y47))) kc ks r0 i1 i2 i3 r4 (i5 + 1) _ _ _ hNN hE hc hs hO52 n_r0 n_r4 h hP hD hS (lv_sub hl (l' := [(0, .ref (adL r0)), (1, .int i1), (2, .int i2), (3, .int i3), (4, .ref (adL r4)), (5, .int (i5 + 1))]) [1, 2, 3, 4, 5, 0] rfl)
  unfold f_X5_build at h
  refine lv_aload_n hx hb dX5_build_0 rfl (lv_at hl 0 rfl) ?_
  obtain ⟨g53, h⟩ := vg_if h
  obtain ⟨y54, g55, h⟩ := vg_bind h
  have n_y54 := hO _ _ _ g55
  refine va_get (D := D) (ci := 5) (v := .ref (ad y54)) (C := RX5) (T := TX5) (N := 4) hx hb hts in_X5_build_X5 hown hK hP p0 (vW_k5 n_p0 g53) rfl 0 (by decide) (hts (.fieldLink RX5 9 "VaultDoorsLaw$Sim" "doors" "[LVaultDoorsLaw$Door;") (List.mem_of_getElem? (i := 1) rfl)) (fun _ h9 => h9) (by show some (va_rf (Option.map ad (mr m0 p0 0))) = _; rw [g55]; rfl) dX5_build_1 ?_
  obtain ⟨g56, h⟩ := vg_if h
  refine va_alen (D := D) hx hb hK hP y54 3 (vW_k9 n_y54 g56) rfl rfl dX5_build_4 ?_
  refine lv_iconst (v := 1) hx hb dX5_build_5 (by decide) ?_
  refine lv_iadd hx hb dX5_build_6 ?_
  obtain ⟨g57, h⟩ := vg_if h
  obtain ⟨g58, h⟩ := vg_if h
  obtain ⟨g59, h⟩ := vg_if h
  refine wm_new9 (n := (Int32.ofNat (ml m0 y54)) + 1) (n' := ((Int32.ofNat (ml m0 y54)) + 1).toNatClampNeg) hx hb hown (hts (.classLink RX5 7 RX4) (List.mem_of_getElem? (i := 2) rfl)) hZ.2.1 hO hK hP hD hS hA g57 rfl (Nat.le_trans g58 (Nat.le_of_ble_eq_true rfl)) (Nat.le_of_ble_eq_true rfl) g59 dX5_build_7 (fun ad60 H e61 hP hD hS => ?_)
  have hl : lv_has ls 6 [(0, .ref (ad60 p0)), (1, .int p1), (2, .int p2), (3, .int p3)] := by rw [e61 p0 n_p0]; exact hl
  have e62 : ∀ k, k < N → ad60 k = ad k := fun k hk => (e61 k (Nat.lt_of_lt_of_le hk (Nat.le_refl _))).trans ((fun _ _ => rfl) k hk)
  have e63 : N ≤ (N + 1) := Nat.le_trans (Nat.le_refl _) (Nat.le_succ _)
  have hO64 := vOK.N (k := 9) (n := ((Int32.ofNat (ml m0 y54)) + 1).toNatClampNeg) hO
  have n65 : p0 < (N + 1) := Nat.lt_of_lt_of_le n_p0 (Nat.le_succ _)
  have n66 : y54 < (N + 1) := Nat.lt_of_lt_of_le n_y54 (Nat.le_succ _)
  have hP : va_P D vwCl (vW tc ad60 ((N + 1)) ((mN m0 N 9 (((Int32.ofNat (ml m0 y54)) + 1).toNatClampNeg)))) H := hP
  have hD : va_D A (vW tc ad60 ((N + 1)) ((mN m0 N 9 (((Int32.ofNat (ml m0 y54)) + 1).toNatClampNeg)))) := hD
  refine lv_astore (lv' := [(4, .ref (ad60 N)), (0, .ref (ad60 p0)), (1, .int p1), (2, .int p2), (3, .int p3)]) hx hb dX5_build_10 hl (by decide) rfl (fun ls hl => ?_)
  refine lv_iconst (v := 0) hx hb dX5_build_12 (by decide) ?_
  refine lv_istore (lv' := [(5, .int 0), (4, .ref (ad60 N)), (0, .ref (ad60 p0)), (1, .int p1), (2, .int p2), (3, .int p3)]) hx hb dX5_build_13 hl (by decide) rfl (fun ls hl => ?_)
  exact ((hL vF)) ((N + 1)) ad60 ((mN m0 N 9 (((Int32.ofNat (ml m0 y54)) + 1).toNatClampNeg))) ((0 + 1)) ((0 + (((Int32.ofNat (ml m0 y54)) + 1).toNatClampNeg))) p0 p1 p2 p3 N (0 : Int32) _ _ _ e63 e62 (Nat.le_of_ble_eq_true rfl) g59 hO64 n65 (Nat.lt_succ_self _) h hP hD hS (lv_sub hl (l' := [(0, .ref (ad60 p0)), (1, .int p1), (2, .int p2), (3, .int p3), (4, .ref (ad60 N)), (5, .int 0)]) [2, 3, 4, 5, 1, 0] rfl)

noncomputable def f_X5_send (N : Nat) (m : vM) (p0 : Nat) (p1 : Int32) (p2 : Int32) (p3 : Int32) (p4 : Int32) : Option (Nat × vM) :=
  if mk m p0 = 5 then
  Option.bind (mr m p0 1) fun y2 =>
  if mk m y2 = 8 then
  if 60 ≤ (Int32.ofNat (ml m y2)) then (
    some (N, (mI m p0 3 ((mi m p0 3) + 1)))
  ) else (
    Option.bind (mr m p0 1) fun y7 =>
    if vin (0 : Int32) (ml ((mN m N 6 5)) N) then
    if vin (1 : Int32) (ml ((mI ((mN m N 6 5)) N 0 p1)) N) then
    if vin (2 : Int32) (ml ((mI ((mI ((mN m N 6 5)) N 0 p1)) N 1 p2)) N) then
    if vin (3 : Int32) (ml ((mI ((mI ((mI ((mN m N 6 5)) N 0 p1)) N 1 p2)) N 2 p3)) N) then
    if vin (4 : Int32) (ml ((mI ((mI ((mI ((mI ((mN m N 6 5)) N 0 p1)) N 1 p2)) N 2 p3)) N 3 p4)) N) then
    Option.bind (f_X5_more ((N + 1)) ((mI ((mI ((mI ((mI ((mI ((mN m N 6 5)) N 0 p1)) N 1 p2)) N 2 p3)) N 3 p4)) N 4 p4)) y7 N) fun q27 =>
    if mk q27.2.2 p0 = 5 then
    some (q27.2.1, (mR q27.2.2 p0 1 (some q27.1)))
    else none
    else none
    else none
    else none
    else none
    else none
  )
  else none
  else none
theorem in_X5_send_X5 : ∀ w ∈ wsX50, w ∈ wsX5_send := by decide +kernel
set_option maxHeartbeats 1000000 in
set_option maxRecDepth 100000 in
theorem cm_X5_send (l : Launch) (D : va_G) (tc : Nat → ClassId) (ad : Nat → Nat) {N : Nat} {m0 : vM} {sz : Nat} {p0 : Nat} {p1 : Int32} {p2 : Int32} {p3 : Int32} {p4 : Int32} (hO : vOK N m0) (n_p0 : p0 < N) {z : Nat × vM} (h : f_X5_send N m0 p0 p1 p2 p3 p4 = some z) : Met l yX5_send wsX5_send ({ frames := 1, cells := 2, slots := 71, locals := 23 } : Room) (va_Pc [.ref (ad p0), .int p1, .int p2, .int p3, .int p4] (qW D tc ad N m0 sz)) (va_Qv (fun (_ : Unit) => True) (fun _ t => vX D (va_A (vW tc ad N m0) sz) tc ad N z.1 z.2 t) (va_A (vW tc ad N m0) sz)) 2 71 (va_A (vW tc ad N m0) sz) := by
  refine Met.ofW (cc := cX5_send) (maxL := 5) (ret := none) (by decide) rfl ?_
  intro p e s m args below meth c s₁ B hml hv
  obtain ⟨rfl, hsz, hP, hK, hD0, hZ⟩ := hv
  have hx := B.exec
  have hb := B.bytes
  have hr := B.returns
  have hts := atoms_spec (ws := wsX5_send) B.pre
  have hown : s.vm.findClass RX5 = some m.cls := findClass_of_methodNamed B.named
  have hlocks := B.notSynchronized
  subst hsz
  have hD := hD0.self (sz := s.heap.size)
  generalize hAe : va_A (vW tc ad N m0) s.heap.size = A at hD ⊢
  have hA : ∀ q : Nat, s.heap.size ≤ q → A q := fun q h => by rw [← hAe]; exact Or.inr h
  have hS : va_S A s.heap s.heap [] := va_S.rf
  have hl := lv_entry ([.ref (ad p0), .int p1, .int p2, .int p3, .int p4]) (n := 5) (Nat.le_of_ble_eq_true rfl)
  rw [lg_entry_eq]
  generalize (lg_sl ([.ref (ad p0), .int p1, .int p2, .int p3, .int p4]) ++ List.replicate (5 - (lg_sl ([.ref (ad p0), .int p1, .int p2, .int p3, .int p4])).length) Slot.unset).toArray = ls at hl ⊢
  have hl : lv_has ls 5 [(0, .ref (ad p0)), (1, .int p1), (2, .int p2), (3, .int p3), (4, .int p4)] := hl
  unfold f_X5_send at h
  refine lv_aload_n hx hb dX5_send_0 rfl (lv_at hl 0 rfl) ?_
  obtain ⟨g1, h⟩ := vg_if h
  obtain ⟨y2, g3, h⟩ := vg_bind h
  have n_y2 := hO _ _ _ g3
  refine va_get (D := D) (ci := 5) (v := .ref (ad y2)) (C := RX5) (T := TX5) (N := 4) hx hb hts in_X5_send_X5 hown hK hP p0 (vW_k5 n_p0 g1) rfl 1 (by decide) (hts (.fieldLink RX5 17 "VaultDoorsLaw$Sim" "voices" "[[I") (List.mem_of_getElem? (i := 1) rfl)) (fun _ h9 => h9) (by show some (va_rf (Option.map ad (mr m0 p0 1))) = _; rw [g3]; rfl) dX5_send_1 ?_
  obtain ⟨g4, h⟩ := vg_if h
  refine va_alen (D := D) hx hb hK hP y2 2 (vW_k8 n_y2 g4) rfl rfl dX5_send_4 ?_
  refine lv_bipush (v := 60) hx hb dX5_send_5 (by decide) ?_
  refine lv_icmp_ge (tgt := 49) hx hb dX5_send_7 (by decide) (fun c5 => ?_) (fun c5 => ?_)
  · rw [if_pos c5] at h
    refine lv_aload_n hx hb dX5_send_49 rfl (lv_at hl 0 rfl) ?_
    refine lv_dup hx hb dX5_send_50 rfl ?_
    refine va_get (D := D) (ci := 5) (v := .int (mi m0 p0 3)) (C := RX5) (T := TX5) (N := 4) hx hb hts in_X5_send_X5 hown hK hP p0 (vW_k5 n_p0 g1) rfl 3 (by decide) (hts (.fieldLink RX5 45 "VaultDoorsLaw$Sim" "lost" "I") (List.mem_of_getElem? (i := 3) rfl)) (fun _ h9 => h9) rfl dX5_send_51 ?_
    refine lv_iconst (v := 1) hx hb dX5_send_54 (by decide) ?_
    refine lv_iadd hx hb dX5_send_55 ?_
    refine va_put (D := D) (ci := 5) (v := .int ((mi m0 p0 3) + 1)) (ty := .int) (C := RX5) (T := TX5) (N := 4) hx hb hts in_X5_send_X5 tyX5 tyX5_ok nmX5 hown hK hP hD hS p0 (vW_k5 n_p0 g1) rfl 3 (by decide) (hts (.fieldLink RX5 45 "VaultDoorsLaw$Sim" "lost" "I") (List.mem_of_getElem? (i := 3) rfl)) (fun _ h9 => h9) rfl (by decide +kernel) rfl rfl (Nat.le_of_ble_eq_true rfl) dX5_send_56 (fun H locs hP hD hS => ?_)
    have hO6 := vOK.I (a := p0) (j := 3) (v := ((mi m0 p0 3) + 1)) hO
    rw [vW_p5_3 (m := m0) n_p0 g1] at hP hD
    have hP : va_P D vwCl (vW tc ad N ((mI m0 p0 3 ((mi m0 p0 3) + 1)))) H := hP
    have hD : va_D A (vW tc ad N ((mI m0 p0 3 ((mi m0 p0 3) + 1)))) := hD
    have hz := Option.some.inj h
    refine W.widen (k := 2) (n := 71) (Nat.le_of_ble_eq_true rfl) (Nat.le_of_ble_eq_true rfl) ?_
    exact W.vret hx hb hr (fun t ht hW => ⟨⟨(), rfl, trivial, by rw [← hz]; exact ⟨ad, (fun _ _ => rfl), (Nat.le_refl _), hO6, by rw [ht]; exact hP, va_K.moved hW.alike hK, hD⟩⟩, hS.F ht⟩) hS.2.2 dX5_send_59
  · rw [if_neg c5] at h
    refine lv_aload_n hx hb dX5_send_10 rfl (lv_at hl 0 rfl) ?_
    refine lv_aload_n hx hb dX5_send_11 rfl (lv_at hl 0 rfl) ?_
    obtain ⟨y7, g8, h⟩ := vg_bind h
    have n_y7 := hO _ _ _ g8
    refine va_get (D := D) (ci := 5) (v := .ref (ad y7)) (C := RX5) (T := TX5) (N := 4) hx hb hts in_X5_send_X5 hown hK hP p0 (vW_k5 n_p0 g1) rfl 1 (by decide) (hts (.fieldLink RX5 17 "VaultDoorsLaw$Sim" "voices" "[[I") (List.mem_of_getElem? (i := 1) rfl)) (fun _ h9 => h9) (by show some (va_rf (Option.map ad (mr m0 p0 1))) = _; rw [g8]; rfl) dX5_send_12 ?_
    refine lv_iconst (v := 5) hx hb dX5_send_15 (by decide) ?_
    refine wm_new6 (n := 5) (n' := 5) hx hb (hts (.arrayClass .int) (List.mem_of_getElem? (i := 2) rfl)) hO hK hP hD hS hA (by decide) (by decide) (Nat.le_of_ble_eq_true rfl) (Nat.le_of_ble_eq_true rfl) (Nat.le_of_ble_eq_true rfl) dX5_send_16 (fun ad9 H e10 hP hD hS => ?_)
    have hl : lv_has ls 5 [(0, .ref (ad9 p0)), (1, .int p1), (2, .int p2), (3, .int p3), (4, .int p4)] := by rw [e10 p0 n_p0]; exact hl
    have e11 : ∀ k, k < N → ad9 k = ad k := fun k hk => (e10 k (Nat.lt_of_lt_of_le hk (Nat.le_refl _))).trans ((fun _ _ => rfl) k hk)
    have e12 : N ≤ (N + 1) := Nat.le_trans (Nat.le_refl _) (Nat.le_succ _)
    have hO13 := vOK.N (k := 6) (n := 5) hO
    have n14 : p0 < (N + 1) := Nat.lt_of_lt_of_le n_p0 (Nat.le_succ _)
    have n15 : y2 < (N + 1) := Nat.lt_of_lt_of_le n_y2 (Nat.le_succ _)
    have n16 : y7 < (N + 1) := Nat.lt_of_lt_of_le n_y7 (Nat.le_succ _)
    refine W.eq (g2 := F0 m 18 ls [.ref (ad9 N), .ref (ad9 y7), .ref (ad9 p0)]) (by rw [e10 y7 n_y7, e10 p0 n_p0]) ?_
    have hP : va_P D vwCl (vW tc ad9 ((N + 1)) ((mN m0 N 6 5))) H := hP
    have hD : va_D A (vW tc ad9 ((N + 1)) ((mN m0 N 6 5))) := hD
    refine lv_dup hx hb dX5_send_18 rfl ?_
    refine lv_iconst (v := 0) hx hb dX5_send_19 (by decide) ?_
    refine lv_iload_n hx hb dX5_send_20 rfl (lv_at hl 1 rfl) ?_
    obtain ⟨g17, h⟩ := vg_if h
    refine va_iast (D := D) hx hb hK hP hD hS N 0 (vW_k6 (Nat.lt_succ_self _) (mN_k1 (m := m0) (n := 5))) rfl (i := 0) (x := p1) g17 dX5_send_21 (fun H locs hP hD hS => ?_)
    rw [vW_p6 (m := ((mN m0 N 6 5))) (Nat.lt_succ_self _) (mN_k1 (m := m0) (n := 5))] at hP hD
    have hO18 := vOK.I (a := N) (j := 0) (v := p1) hO13
    have hP : va_P D vwCl (vW tc ad9 ((N + 1)) ((mI ((mN m0 N 6 5)) N 0 p1))) H := hP
    have hD : va_D A (vW tc ad9 ((N + 1)) ((mI ((mN m0 N 6 5)) N 0 p1))) := hD
    refine lv_dup hx hb dX5_send_22 rfl ?_
    refine lv_iconst (v := 1) hx hb dX5_send_23 (by decide) ?_
    refine lv_iload_n hx hb dX5_send_24 rfl (lv_at hl 2 rfl) ?_
    obtain ⟨g19, h⟩ := vg_if h
    refine va_iast (D := D) hx hb hK hP hD hS N 0 (vW_k6 (Nat.lt_succ_self _) (mN_k1 (m := m0) (n := 5))) rfl (i := 1) (x := p2) g19 dX5_send_25 (fun H locs hP hD hS => ?_)
    rw [vW_p6 (m := ((mI ((mN m0 N 6 5)) N 0 p1))) (Nat.lt_succ_self _) (mN_k1 (m := m0) (n := 5))] at hP hD
    have hO20 := vOK.I (a := N) (j := 1) (v := p2) hO18
    have hP : va_P D vwCl (vW tc ad9 ((N + 1)) ((mI ((mI ((mN m0 N 6 5)) N 0 p1)) N 1 p2))) H := hP
    have hD : va_D A (vW tc ad9 ((N + 1)) ((mI ((mI ((mN m0 N 6 5)) N 0 p1)) N 1 p2))) := hD
    refine lv_dup hx hb dX5_send_26 rfl ?_
    refine lv_iconst (v := 2) hx hb dX5_send_27 (by decide) ?_
    refine lv_iload_n hx hb dX5_send_28 rfl (lv_at hl 3 rfl) ?_
    obtain ⟨g21, h⟩ := vg_if h
    refine va_iast (D := D) hx hb hK hP hD hS N 0 (vW_k6 (Nat.lt_succ_self _) (mN_k1 (m := m0) (n := 5))) rfl (i := 2) (x := p3) g21 dX5_send_29 (fun H locs hP hD hS => ?_)
    rw [vW_p6 (m := ((mI ((mI ((mN m0 N 6 5)) N 0 p1)) N 1 p2))) (Nat.lt_succ_self _) (mN_k1 (m := m0) (n := 5))] at hP hD
    have hO22 := vOK.I (a := N) (j := 2) (v := p3) hO20
    have hP : va_P D vwCl (vW tc ad9 ((N + 1)) ((mI ((mI ((mI ((mN m0 N 6 5)) N 0 p1)) N 1 p2)) N 2 p3))) H := hP
    have hD : va_D A (vW tc ad9 ((N + 1)) ((mI ((mI ((mI ((mN m0 N 6 5)) N 0 p1)) N 1 p2)) N 2 p3))) := hD
    refine lv_dup hx hb dX5_send_30 rfl ?_
    refine lv_iconst (v := 3) hx hb dX5_send_31 (by decide) ?_
    refine lv_iload hx hb dX5_send_32 (lv_at hl 4 rfl) ?_
    obtain ⟨g23, h⟩ := vg_if h
    refine va_iast (D := D) hx hb hK hP hD hS N 0 (vW_k6 (Nat.lt_succ_self _) (mN_k1 (m := m0) (n := 5))) rfl (i := 3) (x := p4) g23 dX5_send_34 (fun H locs hP hD hS => ?_)
    rw [vW_p6 (m := ((mI ((mI ((mI ((mN m0 N 6 5)) N 0 p1)) N 1 p2)) N 2 p3))) (Nat.lt_succ_self _) (mN_k1 (m := m0) (n := 5))] at hP hD
    have hO24 := vOK.I (a := N) (j := 3) (v := p4) hO22
    have hP : va_P D vwCl (vW tc ad9 ((N + 1)) ((mI ((mI ((mI ((mI ((mN m0 N 6 5)) N 0 p1)) N 1 p2)) N 2 p3)) N 3 p4))) H := hP
    have hD : va_D A (vW tc ad9 ((N + 1)) ((mI ((mI ((mI ((mI ((mN m0 N 6 5)) N 0 p1)) N 1 p2)) N 2 p3)) N 3 p4))) := hD
    refine lv_dup hx hb dX5_send_35 rfl ?_
    refine lv_iconst (v := 4) hx hb dX5_send_36 (by decide) ?_
    refine lv_iload hx hb dX5_send_37 (lv_at hl 4 rfl) ?_
    obtain ⟨g25, h⟩ := vg_if h
    refine va_iast (D := D) hx hb hK hP hD hS N 0 (vW_k6 (Nat.lt_succ_self _) (mN_k1 (m := m0) (n := 5))) rfl (i := 4) (x := p4) g25 dX5_send_39 (fun H locs hP hD hS => ?_)
    rw [vW_p6 (m := ((mI ((mI ((mI ((mI ((mN m0 N 6 5)) N 0 p1)) N 1 p2)) N 2 p3)) N 3 p4))) (Nat.lt_succ_self _) (mN_k1 (m := m0) (n := 5))] at hP hD
    have hO26 := vOK.I (a := N) (j := 4) (v := p4) hO24
    have hP : va_P D vwCl (vW tc ad9 ((N + 1)) ((mI ((mI ((mI ((mI ((mI ((mN m0 N 6 5)) N 0 p1)) N 1 p2)) N 2 p3)) N 3 p4)) N 4 p4))) H := hP
    have hD : va_D A (vW tc ad9 ((N + 1)) ((mI ((mI ((mI ((mI ((mI ((mN m0 N 6 5)) N 0 p1)) N 1 p2)) N 2 p3)) N 3 p4)) N 4 p4))) := hD
    obtain ⟨q27, g28, h⟩ := vg_bind h
    have hFc := vm_free hD hS hA
    refine va_callr (va_runS (As := [.ref (ad9 y7), .ref (ad9 N)]) (rest := [.ref (ad9 p0)]) ⟨hx, hb, hml, hown, hts⟩ (cm_X5_more (m0 := (mI ((mI ((mI ((mI ((mI ((mN m0 N 6 5)) N 0 p1)) N 1 p2)) N 2 p3)) N 3 p4)) N 4 p4)) l D tc ad9 hO26 n16 (Nat.lt_succ_self _) g28) (va_cwS 2 hts gX5_send_X5_more rfl rfl rfl (by decide +kernel) ⟨(Nat.le_of_ble_eq_true rfl), (Nat.le_of_ble_eq_true rfl)⟩) ⟨qW_blind, qW_pre hP hD hK hZ⟩ rfl rfl hl.1 rfl (lv_room (Nat.le_of_ble_eq_true rfl)) dX5_send_40 ⟨(Nat.le_of_ble_eq_true rfl), (Nat.le_of_ble_eq_true rfl)⟩) hS (fun q9 _ h9 => hFc q9 h9) hFc (fun u ra t H1 locs ht hvm hw hB hz1 hk1 hS => ?_)
    obtain ⟨ad30, e31, e32, hO33, hP1, hK1, hD1, hr1, hr2⟩ := hB
    rw [ht] at hP1
    have hP := hP1
    have hD := hD1.weaken (fun _ q9 _ h9 => hFc q9.1 h9)
    generalize H1 = H at hP hS ⊢
    clear hk1 hz1 ht hvm
    rw [hr1]
    have hl : lv_has ls 5 [(0, .ref (ad30 p0)), (1, .int p1), (2, .int p2), (3, .int p3), (4, .int p4)] := by rw [e31 p0 n14]; exact hl
    have e34 : ∀ k, k < N → ad30 k = ad k := fun k hk => (e31 k (Nat.lt_of_lt_of_le hk e12)).trans (e11 k hk)
    have e35 : N ≤ q27.2.1 := Nat.le_trans e12 e32
    have n36 : p0 < q27.2.1 := Nat.lt_of_lt_of_le n14 e32
    have n37 : y2 < q27.2.1 := Nat.lt_of_lt_of_le n15 e32
    have n38 : y7 < q27.2.1 := Nat.lt_of_lt_of_le n16 e32
    have n39 : N < q27.2.1 := Nat.lt_of_lt_of_le (Nat.lt_succ_self _) e32
    have n40 : q27.1 < q27.2.1 := hr2
    refine W.eq (g2 := F0 m 43 ls [.ref (ad30 q27.1), .ref (ad30 p0)]) (by rw [e31 p0 n14]) ?_
    have hP : va_P D vwCl (vW tc ad30 q27.2.1 q27.2.2) H := hP
    have hD : va_D A (vW tc ad30 q27.2.1 q27.2.2) := hD
    obtain ⟨g41, h⟩ := vg_if h
    refine va_put (D := D) (ci := 5) (v := .ref (ad30 q27.1)) (ty := .array (.array .int)) (C := RX5) (T := TX5) (N := 4) hx hb hts in_X5_send_X5 tyX5 tyX5_ok nmX5 hown hK hP hD hS p0 (vW_k5 n36 g41) rfl 1 (by decide) (hts (.fieldLink RX5 17 "VaultDoorsLaw$Sim" "voices" "[[I") (List.mem_of_getElem? (i := 1) rfl)) (fun _ h9 => h9) rfl (by decide +kernel) rfl rfl (Nat.le_of_ble_eq_true rfl) dX5_send_43 (fun H locs hP hD hS => ?_)
    rw [vW_p5_1 (m := q27.2.2) n36 g41] at hP hD
    have hO42 := vOK.R (a := p0) (j := 1) hO33 n40
    have hP : va_P D vwCl (vW tc ad30 q27.2.1 ((mR q27.2.2 p0 1 (some q27.1)))) H := hP
    have hD : va_D A (vW tc ad30 q27.2.1 ((mR q27.2.2 p0 1 (some q27.1)))) := hD
    refine lv_goto (tgt := 59) hx hb dX5_send_46 (by decide) ?_
    have hz := Option.some.inj h
    refine W.widen (k := 2) (n := 71) (Nat.le_of_ble_eq_true rfl) (Nat.le_of_ble_eq_true rfl) ?_
    exact W.vret hx hb hr (fun t ht hW => ⟨⟨(), rfl, trivial, by rw [← hz]; exact ⟨ad30, e34, e35, hO42, by rw [ht]; exact hP, va_K.moved hW.alike hK, hD⟩⟩, hS.F ht⟩) hS.2.2 dX5_send_59

noncomputable def fB_X5_wake_40 (rec : Nat → Nat → vM → Nat → Nat → Nat → Int32 → Nat → Nat → Int32 → Int32 → Option (Nat × vM)) (N : Nat) (m : vM) (kc ks : Nat) (r0 : Nat) (i1 : Int32) (r2 : Nat) (r3 : Nat) (i4 : Int32) (i5 : Int32) : Option (Nat × vM) :=
  if i4 ≤ i5 then (
    some (N, m)
  ) else (
    if mk m r3 = 8 then
    if vin i5 (ml m r3) then
    Option.bind (mr m r3 i5.toNatClampNeg) fun y4 =>
    if mk m y4 = 6 then
    if vin (2 : Int32) (ml m y4) then
    if vin (0 : Int32) (ml ((mI m y4 2 (-1))) y4) then
    if vin (1 : Int32) (ml ((mI m y4 2 (-1))) y4) then
    if mk ((mI m y4 2 (-1))) r0 = 5 then
    Option.bind (f_X5_send N ((mI m y4 2 (-1))) r0 i1 ((mi ((mI m y4 2 (-1))) y4 0)) ((0 : Int32)) ((mi ((mI m y4 2 (-1))) y4 1))) fun q12 =>
    if (kc + 2) ≤ 9 then
    if (ks + 71) ≤ 284 then
    rec 40 q12.1 q12.2 ((kc + 2)) ((ks + 71)) r0 i1 r2 r3 i4 (i5 + 1)
    else none
    else none
    else none
    else none
    else none
    else none
    else none
    else none
    else none
  )
noncomputable def fL_X5_wake (n : Nat) : Nat → Nat → vM → Nat → Nat → Nat → Int32 → Nat → Nat → Int32 → Int32 → Option (Nat × vM) := Nat.rec (fun _ _ _ _ _ _ _ _ _ _ _ => none) (fun _ rec pc N m kc ks r0 i1 r2 r3 i4 i5 => if pc = 40 then fB_X5_wake_40 rec N m kc ks r0 i1 r2 r3 i4 i5 else none) n
noncomputable def f_X5_wake (N : Nat) (m : vM) (p0 : Nat) (p1 : Int32) : Option (Nat × vM) :=
  if mk m p0 = 5 then
  Option.bind (mr m p0 0) fun y2 =>
  if mk m y2 = 9 then
  if vin p1 (ml m y2) then
  Option.bind (mr m y2 p1.toNatClampNeg) fun y6 =>
  if mk m y6 = 4 then
  Option.bind (mr ((mR ((mN ((mI ((mI m y6 3 1)) y6 4 (mi ((mI m y6 3 1)) y6 1))) N 8 0)) y6 6 (some N))) y6 5) fun y20 =>
  if mk ((mR ((mN ((mI ((mI m y6 3 1)) y6 4 (mi ((mI m y6 3 1)) y6 1))) N 8 0)) y6 6 (some N))) y20 = 8 then
  fL_X5_wake vF 40 ((N + 1)) ((mR ((mN ((mI ((mI m y6 3 1)) y6 4 (mi ((mI m y6 3 1)) y6 1))) N 8 0)) y6 6 (some N))) ((0 + 1)) ((0 + 0)) p0 p1 y6 y20 (Int32.ofNat (ml ((mR ((mN ((mI ((mI m y6 3 1)) y6 4 (mi ((mI m y6 3 1)) y6 1))) N 8 0)) y6 6 (some N))) y20)) (0 : Int32)
  else none
  else none
  else none
  else none
  else none
theorem in_X5_wake_X4 : ∀ w ∈ wsX40, w ∈ wsX5_wake := by decide +kernel
theorem in_X5_wake_X5 : ∀ w ∈ wsX50, w ∈ wsX5_wake := by decide +kernel
set_option maxHeartbeats 1000000 in
set_option maxRecDepth 100000 in
theorem cm_X5_wake (l : Launch) (D : va_G) (tc : Nat → ClassId) (ad : Nat → Nat) {N : Nat} {m0 : vM} {sz : Nat} {p0 : Nat} {p1 : Int32} (hO : vOK N m0) (n_p0 : p0 < N) {z : Nat × vM} (h : f_X5_wake N m0 p0 p1 = some z) : Met l yX5_wake wsX5_wake ({ frames := 2, cells := 9, slots := 284, locals := 47 } : Room) (va_Pc [.ref (ad p0), .int p1] (qW D tc ad N m0 sz)) (va_Qv (fun (_ : Unit) => True) (fun _ t => vX D (va_A (vW tc ad N m0) sz) tc ad N z.1 z.2 t) (va_A (vW tc ad N m0) sz)) 9 284 (va_A (vW tc ad N m0) sz) := by
  refine Met.ofW (cc := cX5_wake) (maxL := 7) (ret := none) (by decide) rfl ?_
  intro p e s m args below meth c s₁ B hml hv
  obtain ⟨rfl, hsz, hP, hK, hD0, hZ⟩ := hv
  have hx := B.exec
  have hb := B.bytes
  have hr := B.returns
  have hts := atoms_spec (ws := wsX5_wake) B.pre
  have hown : s.vm.findClass RX5 = some m.cls := findClass_of_methodNamed B.named
  have hlocks := B.notSynchronized
  subst hsz
  have hD := hD0.self (sz := s.heap.size)
  generalize hAe : va_A (vW tc ad N m0) s.heap.size = A at hD ⊢
  have hA : ∀ q : Nat, s.heap.size ≤ q → A q := fun q h => by rw [← hAe]; exact Or.inr h
  have hS : va_S A s.heap s.heap [] := va_S.rf
  have hl := lv_entry ([.ref (ad p0), .int p1]) (n := 7) (Nat.le_of_ble_eq_true rfl)
  rw [lg_entry_eq]
  generalize (lg_sl ([.ref (ad p0), .int p1]) ++ List.replicate (7 - (lg_sl ([.ref (ad p0), .int p1])).length) Slot.unset).toArray = ls at hl ⊢
  have hl : lv_has ls 7 [(0, .ref (ad p0)), (1, .int p1)] := hl
  have hL : ∀ n : Nat, (∀ (NL : Nat) (adL : Nat → Nat) (m1 : vM) (kc ks : Nat) (r0 : Nat) (i1 : Int32) (r2 : Nat) (r3 : Nat) (i4 : Int32) (i5 : Int32) (H : Heap) (locs : List Loc) (ls : Array Slot), N ≤ NL → (∀ k, k < N → adL k = ad k) → kc ≤ 9 → ks ≤ 284 → vOK NL m1 → r0 < NL → r2 < NL → r3 < NL → fL_X5_wake n 40 NL m1 kc ks r0 i1 r2 r3 i4 i5 = some z → va_P D vwCl (vW tc adL NL m1) H → va_D A (vW tc adL NL m1) → va_S A s.heap H locs → lv_has ls 7 [(0, .ref (adL r0)), (1, .int i1), (2, .ref (adL r2)), (3, .ref (adL r3)), (4, .int i4), (5, .int i5)] → W p l e (headSpec wsX5_wake ({ frames := 2, cells := 9, slots := 284, locals := 47 } : Room)).room s m ([.ref (ad p0), .int p1] : List Value).toArray below meth c H locs kc ks (MQ below (va_Qv (fun (_ : Unit) => True) (fun _ t => vX D A tc ad N z.1 z.2 t) A) ([.ref (ad p0), .int p1] : List Value).toArray s 9 284 A) (F0 m 40 ls [])) := by
    intro n
    induction n with
    | zero => exact (fun _ _ _ _ _ _ _ _ _ _ _ _ _ _ _ _ _ _ _ _ _ _ h9 _ _ _ _ => by have h9 : (none : Option (Nat × vM)) = some z := h9; cases h9)
    | succ n ih =>
      · intro NL adL m1 kc ks r0 i1 r2 r3 i4 i5 H locs ls hNN hE hc hs hO n_r0 n_r2 n_r3 h hP hD hS hl
        have h : fB_X5_wake_40 (fL_X5_wake n) NL m1 kc ks r0 i1 r2 r3 i4 i5 = some z := h
        unfold fB_X5_wake_40 at h
        refine lv_iload hx hb dX5_wake_40 (lv_at hl 5 rfl) ?_
        refine lv_iload hx hb dX5_wake_42 (lv_at hl 4 rfl) ?_
        refine lv_icmp_ge (tgt := 78) hx hb dX5_wake_44 (by decide) (fun c1 => ?_) (fun c1 => ?_)
        · rw [if_pos c1] at h
          have hz := Option.some.inj h
          refine W.widen (k := 9) (n := 284) hc hs ?_
          exact W.vret hx hb hr (fun t ht hW => ⟨⟨(), rfl, trivial, by rw [← hz]; exact ⟨adL, hE, hNN, hO, by rw [ht]; exact hP, va_K.moved hW.alike hK, hD⟩⟩, hS.F ht⟩) hS.2.2 dX5_wake_78
        · rw [if_neg c1] at h
          refine lv_aload_n hx hb dX5_wake_47 rfl (lv_at hl 3 rfl) ?_
          refine lv_iload hx hb dX5_wake_48 (lv_at hl 5 rfl) ?_
          obtain ⟨g2, h⟩ := vg_if h
          obtain ⟨g3, h⟩ := vg_if h
          obtain ⟨y4, g5, h⟩ := vg_bind h
          have n_y4 := hO _ _ _ g5
          refine wm_aald8 hx hb hK hP n_r3 g2 (i := i5) g3 dX5_wake_50 ?_
          refine W.eq (g2 := F0 m 51 ls [.ref (adL y4)]) (by show F0 m 51 ls (va_rf (Option.map adL (mr m1 r3 i5.toNatClampNeg)) :: _) = _; rw [g5]; rfl) ?_
          refine lv_astore (lv' := [(6, .ref (adL y4)), (0, .ref (adL r0)), (1, .int i1), (2, .ref (adL r2)), (3, .ref (adL r3)), (4, .int i4), (5, .int i5)]) hx hb dX5_wake_51 hl (by decide) rfl (fun ls hl => ?_)
          refine lv_aload hx hb dX5_wake_53 (lv_at hl 0 rfl) ?_
          refine lv_iconst (v := 2) hx hb dX5_wake_55 (by decide) ?_
          refine lv_iconst (v := (-1)) hx hb dX5_wake_56 (by decide) ?_
          obtain ⟨g6, h⟩ := vg_if h
          obtain ⟨g7, h⟩ := vg_if h
          refine va_iast (D := D) hx hb hK hP hD hS y4 0 (vW_k6 n_y4 g6) rfl (i := 2) (x := (-1)) g7 dX5_wake_57 (fun H locs hP hD hS => ?_)
          rw [vW_p6 (m := m1) n_y4 g6] at hP hD
          have hO8 := vOK.I (a := y4) (j := 2) (v := (-1)) hO
          have hP : va_P D vwCl (vW tc adL NL ((mI m1 y4 2 (-1)))) H := hP
          have hD : va_D A (vW tc adL NL ((mI m1 y4 2 (-1)))) := hD
          refine lv_aload_n hx hb dX5_wake_58 rfl (lv_at hl 1 rfl) ?_
          refine lv_iload_n hx hb dX5_wake_59 rfl (lv_at hl 2 rfl) ?_
          refine lv_aload hx hb dX5_wake_60 (lv_at hl 0 rfl) ?_
          refine lv_iconst (v := 0) hx hb dX5_wake_62 (by decide) ?_
          obtain ⟨g9, h⟩ := vg_if h
          refine va_iald (D := D) hx hb hK hP y4 0 (vW_k6 n_y4 g6) rfl (i := 0) g9 dX5_wake_63 ?_
          refine W.eq (g2 := F0 m 64 ls [.int (mi ((mI m1 y4 2 (-1))) y4 0), .int i1, .ref (adL r0)]) rfl ?_
          refine lv_iconst (v := 0) hx hb dX5_wake_64 (by decide) ?_
          refine lv_aload hx hb dX5_wake_65 (lv_at hl 0 rfl) ?_
          refine lv_iconst (v := 1) hx hb dX5_wake_67 (by decide) ?_
          obtain ⟨g10, h⟩ := vg_if h
          refine va_iald (D := D) hx hb hK hP y4 0 (vW_k6 n_y4 g6) rfl (i := 1) g10 dX5_wake_68 ?_
          refine W.eq (g2 := F0 m 69 ls [.int (mi ((mI m1 y4 2 (-1))) y4 1), .int 0, .int (mi ((mI m1 y4 2 (-1))) y4 0), .int i1, .ref (adL r0)]) rfl ?_
          obtain ⟨g11, h⟩ := vg_if h
          obtain ⟨q12, g13, h⟩ := vg_bind h
          obtain ⟨g14, h⟩ := vg_if h
          obtain ⟨g15, h⟩ := vg_if h
          have hFc := vm_free hD hS hA
          refine va_callv (va_runV (As := [.int i1, .int (mi ((mI m1 y4 2 (-1))) y4 0), .int 0, .int (mi ((mI m1 y4 2 (-1))) y4 1)]) (rest := []) ⟨hx, hb, hml, hown, hts⟩ (cm_X5_send (m0 := (mI m1 y4 2 (-1))) l D tc adL hO8 n_r0 g13) (cwV 4 hts gX5_wake_X5_send rfl rfl rfl (by decide +kernel) ⟨(Nat.le_of_ble_eq_true rfl), (Nat.le_of_ble_eq_true rfl)⟩) ⟨qW_blind, va_recv hK hP (ci := 5) (q0 := r0) rfl (vW_k5 n_r0 g11), qW_pre hP hD hK hZ⟩ rfl rfl hl.1 rfl (lv_room (Nat.le_of_ble_eq_true rfl)) dX5_wake_69 ⟨g14, g15⟩) hS (fun q9 _ h9 => hFc q9 h9) hFc (fun u t H1 locs ht hvm hw hB hz1 hk1 hS => ?_)
          obtain ⟨ad17, e18, e19, hO20, hP1, hK1, hD1⟩ := hB
          rw [ht] at hP1
          have hP := hP1
          have hD := hD1.weaken (fun _ q9 _ h9 => hFc q9.1 h9)
          generalize H1 = H at hP hS ⊢
          clear hk1 hz1 ht hvm
          have hl : lv_has ls 7 [(6, .ref (ad17 y4)), (0, .ref (ad17 r0)), (1, .int i1), (2, .ref (ad17 r2)), (3, .ref (ad17 r3)), (4, .int i4), (5, .int i5)] := by rw [e18 y4 n_y4, e18 r0 n_r0, e18 r2 n_r2, e18 r3 n_r3]; exact hl
          have e21 : ∀ k, k < N → ad17 k = ad k := fun k hk => (e18 k (Nat.lt_of_lt_of_le hk hNN)).trans (hE k hk)
          have e22 : N ≤ q12.1 := Nat.le_trans hNN e19
          have n23 : r0 < q12.1 := Nat.lt_of_lt_of_le n_r0 e19
          have n24 : r2 < q12.1 := Nat.lt_of_lt_of_le n_r2 e19
          have n25 : r3 < q12.1 := Nat.lt_of_lt_of_le n_r3 e19
          have n26 : y4 < q12.1 := Nat.lt_of_lt_of_le n_y4 e19
          have hP : va_P D vwCl (vW tc ad17 q12.1 q12.2) H := hP
          have hD : va_D A (vW tc ad17 q12.1 q12.2) := hD
          refine lv_iinc (v := i5 + 1) (lv' := [(5, .int (i5 + 1)), (6, .ref (ad17 y4)), (0, .ref (ad17 r0)), (1, .int i1), (2, .ref (ad17 r2)), (3, .ref (ad17 r3)), (4, .int i4)]) hx hb dX5_wake_72 hl (k := 6) rfl rfl (by decide) rfl (fun ls hl => ?_)
          refine lv_goto (tgt := 40) hx hb dX5_wake_75 (by decide) ?_
          exact (ih) q12.1 ad17 q12.2 ((kc + 2)) ((ks + 71)) r0 i1 r2 r3 i4 (i5 + 1) _ _ _ e22 e21 g14 g15 hO20 n23 n24 n25 h hP hD hS (lv_sub hl (l' := [(0, .ref (ad17 r0)), (1, .int i1), (2, .ref (ad17 r2)), (3, .ref (ad17 r3)), (4, .int i4), (5, .int (i5 + 1))]) [2, 3, 4, 5, 6, 0] rfl)
  unfold f_X5_wake at h
  refine lv_aload_n hx hb dX5_wake_0 rfl (lv_at hl 0 rfl) ?_
  obtain ⟨g27, h⟩ := vg_if h
  obtain ⟨y28, g29, h⟩ := vg_bind h
  have n_y28 := hO _ _ _ g29
  refine va_get (D := D) (ci := 5) (v := .ref (ad y28)) (C := RX5) (T := TX5) (N := 4) hx hb hts in_X5_wake_X5 hown hK hP p0 (vW_k5 n_p0 g27) rfl 0 (by decide) (hts (.fieldLink RX5 9 "VaultDoorsLaw$Sim" "doors" "[LVaultDoorsLaw$Door;") (List.mem_of_getElem? (i := 1) rfl)) (fun _ h9 => h9) (by show some (va_rf (Option.map ad (mr m0 p0 0))) = _; rw [g29]; rfl) dX5_wake_1 ?_
  refine lv_iload_n hx hb dX5_wake_4 rfl (lv_at hl 1 rfl) ?_
  obtain ⟨g30, h⟩ := vg_if h
  obtain ⟨g31, h⟩ := vg_if h
  obtain ⟨y32, g33, h⟩ := vg_bind h
  have n_y32 := hO _ _ _ g33
  refine va_aldq (D := D) hx hb hK hP y28 3 (vW_k9 n_y28 g30) rfl (i := p1) g31 dX5_wake_5 ?_
  refine W.eq (g2 := F0 m 6 ls [.ref (ad y32)]) (by show F0 m 6 ls (va_rf (Option.map ad (mr m0 y28 p1.toNatClampNeg)) :: _) = _; rw [g33]; rfl) ?_
  refine lv_astore_n (lv' := [(2, .ref (ad y32)), (0, .ref (ad p0)), (1, .int p1)]) hx hb dX5_wake_6 rfl hl (by decide) rfl (fun ls hl => ?_)
  refine lv_aload_n hx hb dX5_wake_7 rfl (lv_at hl 0 rfl) ?_
  refine lv_iconst (v := 1) hx hb dX5_wake_8 (by decide) ?_
  obtain ⟨g34, h⟩ := vg_if h
  refine va_put (D := D) (ci := 4) (v := .int 1) (ty := .int) (C := RX4) (T := TX4) (N := 9) hx hb hts in_X5_wake_X4 tyX4 tyX4_ok nmX4 hown hK hP hD hS y32 (vW_k4 n_y32 g34) rfl 3 (by decide) (hts (.fieldLink RX5 48 "VaultDoorsLaw$Door" "state" "I") (List.mem_of_getElem? (i := 2) rfl)) (fun _ h9 => h9) rfl (by decide +kernel) rfl rfl (Nat.le_of_ble_eq_true rfl) dX5_wake_9 (fun H locs hP hD hS => ?_)
  have hO35 := vOK.I (a := y32) (j := 3) (v := 1) hO
  rw [vW_p4_3 (m := m0) n_y32 g34] at hP hD
  have hP : va_P D vwCl (vW tc ad N ((mI m0 y32 3 1))) H := hP
  have hD : va_D A (vW tc ad N ((mI m0 y32 3 1))) := hD
  refine lv_aload_n hx hb dX5_wake_12 rfl (lv_at hl 0 rfl) ?_
  refine lv_aload_n hx hb dX5_wake_13 rfl (lv_at hl 0 rfl) ?_
  refine va_get (D := D) (ci := 4) (v := .int (mi ((mI m0 y32 3 1)) y32 1)) (C := RX4) (T := TX4) (N := 9) hx hb hts in_X5_wake_X4 hown hK hP y32 (vW_k4 n_y32 g34) rfl 1 (by decide) (hts (.fieldLink RX5 35 "VaultDoorsLaw$Door" "patience" "I") (List.mem_of_getElem? (i := 3) rfl)) (fun _ h9 => h9) rfl dX5_wake_14 ?_
  refine va_put (D := D) (ci := 4) (v := .int (mi ((mI m0 y32 3 1)) y32 1)) (ty := .int) (C := RX4) (T := TX4) (N := 9) hx hb hts in_X5_wake_X4 tyX4 tyX4_ok nmX4 hown hK hP hD hS y32 (vW_k4 n_y32 g34) rfl 4 (by decide) (hts (.fieldLink RX5 51 "VaultDoorsLaw$Door" "left" "I") (List.mem_of_getElem? (i := 4) rfl)) (fun _ h9 => h9) rfl (by decide +kernel) rfl rfl (Nat.le_of_ble_eq_true rfl) dX5_wake_17 (fun H locs hP hD hS => ?_)
  have hO36 := vOK.I (a := y32) (j := 4) (v := (mi ((mI m0 y32 3 1)) y32 1)) hO35
  rw [vW_p4_4 (m := ((mI m0 y32 3 1))) n_y32 g34] at hP hD
  have hP : va_P D vwCl (vW tc ad N ((mI ((mI m0 y32 3 1)) y32 4 (mi ((mI m0 y32 3 1)) y32 1)))) H := hP
  have hD : va_D A (vW tc ad N ((mI ((mI m0 y32 3 1)) y32 4 (mi ((mI m0 y32 3 1)) y32 1)))) := hD
  refine lv_aload_n hx hb dX5_wake_20 rfl (lv_at hl 0 rfl) ?_
  refine lv_iconst (v := 0) hx hb dX5_wake_21 (by decide) ?_
  refine wm_new8 (n := 0) (n' := 0) hx hb hown (hts (.classLink RX5 15 "[I") (List.mem_of_getElem? (i := 5) rfl)) hZ.2.1 hO36 hK hP hD hS hA (by decide) (by decide) (Nat.le_of_ble_eq_true rfl) (Nat.le_of_ble_eq_true rfl) (Nat.le_of_ble_eq_true rfl) dX5_wake_22 (fun ad37 H e38 hP hD hS => ?_)
  have hl : lv_has ls 7 [(2, .ref (ad37 y32)), (0, .ref (ad37 p0)), (1, .int p1)] := by rw [e38 y32 n_y32, e38 p0 n_p0]; exact hl
  have e39 : ∀ k, k < N → ad37 k = ad k := fun k hk => (e38 k (Nat.lt_of_lt_of_le hk (Nat.le_refl _))).trans ((fun _ _ => rfl) k hk)
  have e40 : N ≤ (N + 1) := Nat.le_trans (Nat.le_refl _) (Nat.le_succ _)
  have hO41 := vOK.N (k := 8) (n := 0) hO36
  have n42 : p0 < (N + 1) := Nat.lt_of_lt_of_le n_p0 (Nat.le_succ _)
  have n43 : y28 < (N + 1) := Nat.lt_of_lt_of_le n_y28 (Nat.le_succ _)
  have n44 : y32 < (N + 1) := Nat.lt_of_lt_of_le n_y32 (Nat.le_succ _)
  refine W.eq (g2 := F0 m 25 ls [.ref (ad37 N), .ref (ad37 y32)]) (by rw [e38 y32 n_y32]) ?_
  have hP : va_P D vwCl (vW tc ad37 ((N + 1)) ((mN ((mI ((mI m0 y32 3 1)) y32 4 (mi ((mI m0 y32 3 1)) y32 1))) N 8 0))) H := hP
  have hD : va_D A (vW tc ad37 ((N + 1)) ((mN ((mI ((mI m0 y32 3 1)) y32 4 (mi ((mI m0 y32 3 1)) y32 1))) N 8 0))) := hD
  refine va_put (D := D) (ci := 4) (v := .ref (ad37 N)) (ty := .array (.array .int)) (C := RX4) (T := TX4) (N := 9) hx hb hts in_X5_wake_X4 tyX4 tyX4_ok nmX4 hown hK hP hD hS y32 (vW_k4 n44 (mN_k2 (m := ((mI ((mI m0 y32 3 1)) y32 4 (mi ((mI m0 y32 3 1)) y32 1)))) (n := 0) n_y32 g34)) rfl 6 (by decide) (hts (.fieldLink RX5 54 "VaultDoorsLaw$Door" "kept" "[[I") (List.mem_of_getElem? (i := 6) rfl)) (fun _ h9 => h9) rfl (by decide +kernel) rfl rfl (Nat.le_of_ble_eq_true rfl) dX5_wake_25 (fun H locs hP hD hS => ?_)
  rw [vW_p4_6 (m := ((mN ((mI ((mI m0 y32 3 1)) y32 4 (mi ((mI m0 y32 3 1)) y32 1))) N 8 0))) n44 (mN_k2 (m := ((mI ((mI m0 y32 3 1)) y32 4 (mi ((mI m0 y32 3 1)) y32 1)))) (n := 0) n_y32 g34)] at hP hD
  have hO45 := vOK.R (a := y32) (j := 6) hO41 (Nat.lt_succ_self _)
  have hP : va_P D vwCl (vW tc ad37 ((N + 1)) ((mR ((mN ((mI ((mI m0 y32 3 1)) y32 4 (mi ((mI m0 y32 3 1)) y32 1))) N 8 0)) y32 6 (some N)))) H := hP
  have hD : va_D A (vW tc ad37 ((N + 1)) ((mR ((mN ((mI ((mI m0 y32 3 1)) y32 4 (mi ((mI m0 y32 3 1)) y32 1))) N 8 0)) y32 6 (some N)))) := hD
  refine lv_aload_n hx hb dX5_wake_28 rfl (lv_at hl 0 rfl) ?_
  obtain ⟨y46, g47, h⟩ := vg_bind h
  have n_y46 := hO45 _ _ _ g47
  refine va_get (D := D) (ci := 4) (v := .ref (ad37 y46)) (C := RX4) (T := TX4) (N := 9) hx hb hts in_X5_wake_X4 hown hK hP y32 (vW_k4 n44 (mN_k2 (m := ((mI ((mI m0 y32 3 1)) y32 4 (mi ((mI m0 y32 3 1)) y32 1)))) (n := 0) n_y32 g34)) rfl 5 (by decide) (hts (.fieldLink RX5 57 "VaultDoorsLaw$Door" "asks" "[[I") (List.mem_of_getElem? (i := 7) rfl)) (fun _ h9 => h9) (by show some (va_rf (Option.map ad37 (mr ((mR ((mN ((mI ((mI m0 y32 3 1)) y32 4 (mi ((mI m0 y32 3 1)) y32 1))) N 8 0)) y32 6 (some N))) y32 5))) = _; rw [g47]; rfl) dX5_wake_29 ?_
  refine lv_astore_n (lv' := [(3, .ref (ad37 y46)), (2, .ref (ad37 y32)), (0, .ref (ad37 p0)), (1, .int p1)]) hx hb dX5_wake_32 rfl hl (by decide) rfl (fun ls hl => ?_)
  refine lv_aload_n hx hb dX5_wake_33 rfl (lv_at hl 0 rfl) ?_
  obtain ⟨g48, h⟩ := vg_if h
  refine va_alen (D := D) hx hb hK hP y46 2 (vW_k8 n_y46 g48) rfl rfl dX5_wake_34 ?_
  refine lv_istore (lv' := [(4, .int (Int32.ofNat (ml ((mR ((mN ((mI ((mI m0 y32 3 1)) y32 4 (mi ((mI m0 y32 3 1)) y32 1))) N 8 0)) y32 6 (some N))) y46))), (3, .ref (ad37 y46)), (2, .ref (ad37 y32)), (0, .ref (ad37 p0)), (1, .int p1)]) hx hb dX5_wake_35 hl (by decide) rfl (fun ls hl => ?_)
  refine lv_iconst (v := 0) hx hb dX5_wake_37 (by decide) ?_
  refine lv_istore (lv' := [(5, .int 0), (4, .int (Int32.ofNat (ml ((mR ((mN ((mI ((mI m0 y32 3 1)) y32 4 (mi ((mI m0 y32 3 1)) y32 1))) N 8 0)) y32 6 (some N))) y46))), (3, .ref (ad37 y46)), (2, .ref (ad37 y32)), (0, .ref (ad37 p0)), (1, .int p1)]) hx hb dX5_wake_38 hl (by decide) rfl (fun ls hl => ?_)
  exact ((hL vF)) ((N + 1)) ad37 ((mR ((mN ((mI ((mI m0 y32 3 1)) y32 4 (mi ((mI m0 y32 3 1)) y32 1))) N 8 0)) y32 6 (some N))) ((0 + 1)) ((0 + 0)) p0 p1 y32 y46 (Int32.ofNat (ml ((mR ((mN ((mI ((mI m0 y32 3 1)) y32 4 (mi ((mI m0 y32 3 1)) y32 1))) N 8 0)) y32 6 (some N))) y46)) (0 : Int32) _ _ _ e40 e39 (Nat.le_of_ble_eq_true rfl) (Nat.le_of_ble_eq_true rfl) hO45 n42 n44 n_y46 h hP hD hS (lv_sub hl (l' := [(0, .ref (ad37 p0)), (1, .int p1), (2, .ref (ad37 y32)), (3, .ref (ad37 y46)), (4, .int (Int32.ofNat (ml ((mR ((mN ((mI ((mI m0 y32 3 1)) y32 4 (mi ((mI m0 y32 3 1)) y32 1))) N 8 0)) y32 6 (some N))) y46))), (5, .int 0)]) [4, 5, 3, 2, 1, 0] rfl)

noncomputable def f_X5_turn (m : vM) (p0 : Nat) (p1 : Nat) (p2 : Int32) : Option (vM) :=
  if p2 = 0 then (
    if mk m p1 = 4 then
    if p2 = 0 then (
      if p2 = 0 then (
        if p2 = 0 then (
          some ((mI ((mI ((mI ((mI m p1 3 3)) p1 4 4)) p1 7 ((mi ((mI ((mI m p1 3 3)) p1 4 4)) p1 7) + 0))) p1 8 ((mi ((mI ((mI ((mI m p1 3 3)) p1 4 4)) p1 7 ((mi ((mI ((mI m p1 3 3)) p1 4 4)) p1 7) + 0))) p1 8) + 1)))
        ) else (
          some ((mI ((mI ((mI ((mI m p1 3 3)) p1 4 4)) p1 7 ((mi ((mI ((mI m p1 3 3)) p1 4 4)) p1 7) + 0))) p1 8 ((mi ((mI ((mI ((mI m p1 3 3)) p1 4 4)) p1 7 ((mi ((mI ((mI m p1 3 3)) p1 4 4)) p1 7) + 0))) p1 8) + 0)))
        )
      ) else (
        if p2 = 0 then (
          some ((mI ((mI ((mI ((mI m p1 3 3)) p1 4 4)) p1 7 ((mi ((mI ((mI m p1 3 3)) p1 4 4)) p1 7) + 1))) p1 8 ((mi ((mI ((mI ((mI m p1 3 3)) p1 4 4)) p1 7 ((mi ((mI ((mI m p1 3 3)) p1 4 4)) p1 7) + 1))) p1 8) + 1)))
        ) else (
          some ((mI ((mI ((mI ((mI m p1 3 3)) p1 4 4)) p1 7 ((mi ((mI ((mI m p1 3 3)) p1 4 4)) p1 7) + 1))) p1 8 ((mi ((mI ((mI ((mI m p1 3 3)) p1 4 4)) p1 7 ((mi ((mI ((mI m p1 3 3)) p1 4 4)) p1 7) + 1))) p1 8) + 0)))
        )
      )
    ) else (
      if p2 = 0 then (
        if p2 = 0 then (
          some ((mI ((mI ((mI ((mI m p1 3 3)) p1 4 12)) p1 7 ((mi ((mI ((mI m p1 3 3)) p1 4 12)) p1 7) + 0))) p1 8 ((mi ((mI ((mI ((mI m p1 3 3)) p1 4 12)) p1 7 ((mi ((mI ((mI m p1 3 3)) p1 4 12)) p1 7) + 0))) p1 8) + 1)))
        ) else (
          some ((mI ((mI ((mI ((mI m p1 3 3)) p1 4 12)) p1 7 ((mi ((mI ((mI m p1 3 3)) p1 4 12)) p1 7) + 0))) p1 8 ((mi ((mI ((mI ((mI m p1 3 3)) p1 4 12)) p1 7 ((mi ((mI ((mI m p1 3 3)) p1 4 12)) p1 7) + 0))) p1 8) + 0)))
        )
      ) else (
        if p2 = 0 then (
          some ((mI ((mI ((mI ((mI m p1 3 3)) p1 4 12)) p1 7 ((mi ((mI ((mI m p1 3 3)) p1 4 12)) p1 7) + 1))) p1 8 ((mi ((mI ((mI ((mI m p1 3 3)) p1 4 12)) p1 7 ((mi ((mI ((mI m p1 3 3)) p1 4 12)) p1 7) + 1))) p1 8) + 1)))
        ) else (
          some ((mI ((mI ((mI ((mI m p1 3 3)) p1 4 12)) p1 7 ((mi ((mI ((mI m p1 3 3)) p1 4 12)) p1 7) + 1))) p1 8 ((mi ((mI ((mI ((mI m p1 3 3)) p1 4 12)) p1 7 ((mi ((mI ((mI m p1 3 3)) p1 4 12)) p1 7) + 1))) p1 8) + 0)))
        )
      )
    )
    else none
  ) else (
    if mk m p1 = 4 then
    if p2 = 0 then (
      if p2 = 0 then (
        if p2 = 0 then (
          some ((mI ((mI ((mI ((mI m p1 3 2)) p1 4 4)) p1 7 ((mi ((mI ((mI m p1 3 2)) p1 4 4)) p1 7) + 0))) p1 8 ((mi ((mI ((mI ((mI m p1 3 2)) p1 4 4)) p1 7 ((mi ((mI ((mI m p1 3 2)) p1 4 4)) p1 7) + 0))) p1 8) + 1)))
        ) else (
          some ((mI ((mI ((mI ((mI m p1 3 2)) p1 4 4)) p1 7 ((mi ((mI ((mI m p1 3 2)) p1 4 4)) p1 7) + 0))) p1 8 ((mi ((mI ((mI ((mI m p1 3 2)) p1 4 4)) p1 7 ((mi ((mI ((mI m p1 3 2)) p1 4 4)) p1 7) + 0))) p1 8) + 0)))
        )
      ) else (
        if p2 = 0 then (
          some ((mI ((mI ((mI ((mI m p1 3 2)) p1 4 4)) p1 7 ((mi ((mI ((mI m p1 3 2)) p1 4 4)) p1 7) + 1))) p1 8 ((mi ((mI ((mI ((mI m p1 3 2)) p1 4 4)) p1 7 ((mi ((mI ((mI m p1 3 2)) p1 4 4)) p1 7) + 1))) p1 8) + 1)))
        ) else (
          some ((mI ((mI ((mI ((mI m p1 3 2)) p1 4 4)) p1 7 ((mi ((mI ((mI m p1 3 2)) p1 4 4)) p1 7) + 1))) p1 8 ((mi ((mI ((mI ((mI m p1 3 2)) p1 4 4)) p1 7 ((mi ((mI ((mI m p1 3 2)) p1 4 4)) p1 7) + 1))) p1 8) + 0)))
        )
      )
    ) else (
      if p2 = 0 then (
        if p2 = 0 then (
          some ((mI ((mI ((mI ((mI m p1 3 2)) p1 4 12)) p1 7 ((mi ((mI ((mI m p1 3 2)) p1 4 12)) p1 7) + 0))) p1 8 ((mi ((mI ((mI ((mI m p1 3 2)) p1 4 12)) p1 7 ((mi ((mI ((mI m p1 3 2)) p1 4 12)) p1 7) + 0))) p1 8) + 1)))
        ) else (
          some ((mI ((mI ((mI ((mI m p1 3 2)) p1 4 12)) p1 7 ((mi ((mI ((mI m p1 3 2)) p1 4 12)) p1 7) + 0))) p1 8 ((mi ((mI ((mI ((mI m p1 3 2)) p1 4 12)) p1 7 ((mi ((mI ((mI m p1 3 2)) p1 4 12)) p1 7) + 0))) p1 8) + 0)))
        )
      ) else (
        if p2 = 0 then (
          some ((mI ((mI ((mI ((mI m p1 3 2)) p1 4 12)) p1 7 ((mi ((mI ((mI m p1 3 2)) p1 4 12)) p1 7) + 1))) p1 8 ((mi ((mI ((mI ((mI m p1 3 2)) p1 4 12)) p1 7 ((mi ((mI ((mI m p1 3 2)) p1 4 12)) p1 7) + 1))) p1 8) + 1)))
        ) else (
          some ((mI ((mI ((mI ((mI m p1 3 2)) p1 4 12)) p1 7 ((mi ((mI ((mI m p1 3 2)) p1 4 12)) p1 7) + 1))) p1 8 ((mi ((mI ((mI ((mI m p1 3 2)) p1 4 12)) p1 7 ((mi ((mI ((mI m p1 3 2)) p1 4 12)) p1 7) + 1))) p1 8) + 0)))
        )
      )
    )
    else none
  )
theorem in_X5_turn_X4 : ∀ w ∈ wsX40, w ∈ wsX5_turn := by decide +kernel
set_option maxHeartbeats 1000000 in
set_option maxRecDepth 100000 in
theorem cm_X5_turn (l : Launch) (D : va_G) (tc : Nat → ClassId) (ad : Nat → Nat) {N : Nat} {m0 : vM} {sz : Nat} {p0 : Nat} {p1 : Nat} {p2 : Int32} (hO : vOK N m0) (n_p0 : p0 < N) (n_p1 : p1 < N) {z : vM} (h : f_X5_turn m0 p0 p1 p2 = some z) : Met l yX5_turn wsX5_turn ({ frames := 0, cells := 0, slots := 0, locals := 0 } : Room) (va_Pc [.ref (ad p0), .ref (ad p1), .int p2] (qW D tc ad N m0 sz)) (va_Qv (fun (_ : Unit) => True) (fun _ t => vOK N z ∧ pB D (va_A (vW tc ad N m0) sz) (vW tc ad N z) (vT tc) t) (va_A (vW tc ad N m0) sz)) 0 0 (va_A (vW tc ad N m0) sz) := by
  refine Met.ofW (cc := cX5_turn) (maxL := 3) (ret := none) (by decide) rfl ?_
  intro p e s m args below meth c s₁ B hml hv
  obtain ⟨rfl, hsz, hP, hK, hD0, hZ⟩ := hv
  have hx := B.exec
  have hb := B.bytes
  have hr := B.returns
  have hts := atoms_spec (ws := wsX5_turn) B.pre
  have hown : s.vm.findClass RX5 = some m.cls := findClass_of_methodNamed B.named
  have hlocks := B.notSynchronized
  subst hsz
  have hD := hD0.self (sz := s.heap.size)
  generalize hAe : va_A (vW tc ad N m0) s.heap.size = A at hD ⊢
  have hA : ∀ q : Nat, s.heap.size ≤ q → A q := fun q h => by rw [← hAe]; exact Or.inr h
  have hS : va_S A s.heap s.heap [] := va_S.rf
  have hl := lv_entry ([.ref (ad p0), .ref (ad p1), .int p2]) (n := 3) (Nat.le_of_ble_eq_true rfl)
  rw [lg_entry_eq]
  generalize (lg_sl ([.ref (ad p0), .ref (ad p1), .int p2]) ++ List.replicate (3 - (lg_sl ([.ref (ad p0), .ref (ad p1), .int p2])).length) Slot.unset).toArray = ls at hl ⊢
  have hl : lv_has ls 3 [(0, .ref (ad p0)), (1, .ref (ad p1)), (2, .int p2)] := hl
  unfold f_X5_turn at h
  refine lv_aload_n hx hb dX5_turn_0 rfl (lv_at hl 1 rfl) ?_
  refine lv_iload_n hx hb dX5_turn_1 rfl (lv_at hl 2 rfl) ?_
  refine lv_if_eq (tgt := 9) hx hb dX5_turn_2 (by decide) (fun c1 => ?_) (fun c1 => ?_)
  · rw [if_pos c1] at h
    refine lv_iconst (v := 3) hx hb dX5_turn_9 (by decide) ?_
    obtain ⟨g2, h⟩ := vg_if h
    refine va_put (D := D) (ci := 4) (v := .int 3) (ty := .int) (C := RX4) (T := TX4) (N := 9) hx hb hts in_X5_turn_X4 tyX4 tyX4_ok nmX4 hown hK hP hD hS p1 (vW_k4 n_p1 g2) rfl 3 (by decide) (hts (.fieldLink RX5 48 "VaultDoorsLaw$Door" "state" "I") (List.mem_of_getElem? (i := 1) rfl)) (fun _ h9 => h9) rfl (by decide +kernel) rfl rfl (Nat.le_of_ble_eq_true rfl) dX5_turn_10 (fun H locs hP hD hS => ?_)
    have hO3 := vOK.I (a := p1) (j := 3) (v := 3) hO
    rw [vW_p4_3 (m := m0) n_p1 g2] at hP hD
    have hP : va_P D vwCl (vW tc ad N ((mI m0 p1 3 3))) H := hP
    have hD : va_D A (vW tc ad N ((mI m0 p1 3 3))) := hD
    refine lv_aload_n hx hb dX5_turn_13 rfl (lv_at hl 1 rfl) ?_
    refine lv_iload_n hx hb dX5_turn_14 rfl (lv_at hl 2 rfl) ?_
    refine lv_if_eq (tgt := 23) hx hb dX5_turn_15 (by decide) (fun c4 => ?_) (fun c4 => ?_)
    · rw [if_pos c4] at h
      refine lv_iconst (v := 4) hx hb dX5_turn_23 (by decide) ?_
      refine va_put (D := D) (ci := 4) (v := .int 4) (ty := .int) (C := RX4) (T := TX4) (N := 9) hx hb hts in_X5_turn_X4 tyX4 tyX4_ok nmX4 hown hK hP hD hS p1 (vW_k4 n_p1 g2) rfl 4 (by decide) (hts (.fieldLink RX5 51 "VaultDoorsLaw$Door" "left" "I") (List.mem_of_getElem? (i := 2) rfl)) (fun _ h9 => h9) rfl (by decide +kernel) rfl rfl (Nat.le_of_ble_eq_true rfl) dX5_turn_24 (fun H locs hP hD hS => ?_)
      have hO5 := vOK.I (a := p1) (j := 4) (v := 4) hO3
      rw [vW_p4_4 (m := ((mI m0 p1 3 3))) n_p1 g2] at hP hD
      have hP : va_P D vwCl (vW tc ad N ((mI ((mI m0 p1 3 3)) p1 4 4))) H := hP
      have hD : va_D A (vW tc ad N ((mI ((mI m0 p1 3 3)) p1 4 4))) := hD
      refine lv_aload_n hx hb dX5_turn_27 rfl (lv_at hl 1 rfl) ?_
      refine lv_dup hx hb dX5_turn_28 rfl ?_
      refine va_get (D := D) (ci := 4) (v := .int (mi ((mI ((mI m0 p1 3 3)) p1 4 4)) p1 7)) (C := RX4) (T := TX4) (N := 9) hx hb hts in_X5_turn_X4 hown hK hP p1 (vW_k4 n_p1 g2) rfl 7 (by decide) (hts (.fieldLink RX5 64 "VaultDoorsLaw$Door" "opened" "I") (List.mem_of_getElem? (i := 3) rfl)) (fun _ h9 => h9) rfl dX5_turn_29 ?_
      refine lv_iload_n hx hb dX5_turn_32 rfl (lv_at hl 2 rfl) ?_
      refine lv_if_eq (tgt := 40) hx hb dX5_turn_33 (by decide) (fun c6 => ?_) (fun c6 => ?_)
      · rw [if_pos c6] at h
        refine lv_iconst (v := 0) hx hb dX5_turn_40 (by decide) ?_
        refine lv_iadd hx hb dX5_turn_41 ?_
        refine va_put (D := D) (ci := 4) (v := .int ((mi ((mI ((mI m0 p1 3 3)) p1 4 4)) p1 7) + 0)) (ty := .int) (C := RX4) (T := TX4) (N := 9) hx hb hts in_X5_turn_X4 tyX4 tyX4_ok nmX4 hown hK hP hD hS p1 (vW_k4 n_p1 g2) rfl 7 (by decide) (hts (.fieldLink RX5 64 "VaultDoorsLaw$Door" "opened" "I") (List.mem_of_getElem? (i := 3) rfl)) (fun _ h9 => h9) rfl (by decide +kernel) rfl rfl (Nat.le_of_ble_eq_true rfl) dX5_turn_42 (fun H locs hP hD hS => ?_)
        have hO7 := vOK.I (a := p1) (j := 7) (v := ((mi ((mI ((mI m0 p1 3 3)) p1 4 4)) p1 7) + 0)) hO5
        rw [vW_p4_7 (m := ((mI ((mI m0 p1 3 3)) p1 4 4))) n_p1 g2] at hP hD
        have hP : va_P D vwCl (vW tc ad N ((mI ((mI ((mI m0 p1 3 3)) p1 4 4)) p1 7 ((mi ((mI ((mI m0 p1 3 3)) p1 4 4)) p1 7) + 0)))) H := hP
        have hD : va_D A (vW tc ad N ((mI ((mI ((mI m0 p1 3 3)) p1 4 4)) p1 7 ((mi ((mI ((mI m0 p1 3 3)) p1 4 4)) p1 7) + 0)))) := hD
        refine lv_aload_n hx hb dX5_turn_45 rfl (lv_at hl 1 rfl) ?_
        refine lv_dup hx hb dX5_turn_46 rfl ?_
        refine va_get (D := D) (ci := 4) (v := .int (mi ((mI ((mI ((mI m0 p1 3 3)) p1 4 4)) p1 7 ((mi ((mI ((mI m0 p1 3 3)) p1 4 4)) p1 7) + 0))) p1 8)) (C := RX4) (T := TX4) (N := 9) hx hb hts in_X5_turn_X4 hown hK hP p1 (vW_k4 n_p1 g2) rfl 8 (by decide) (hts (.fieldLink RX5 67 "VaultDoorsLaw$Door" "barred" "I") (List.mem_of_getElem? (i := 4) rfl)) (fun _ h9 => h9) rfl dX5_turn_47 ?_
        refine lv_iload_n hx hb dX5_turn_50 rfl (lv_at hl 2 rfl) ?_
        refine lv_if_eq (tgt := 58) hx hb dX5_turn_51 (by decide) (fun c8 => ?_) (fun c8 => ?_)
        · rw [if_pos c8] at h
          refine lv_iconst (v := 1) hx hb dX5_turn_58 (by decide) ?_
          refine lv_iadd hx hb dX5_turn_59 ?_
          refine va_put (D := D) (ci := 4) (v := .int ((mi ((mI ((mI ((mI m0 p1 3 3)) p1 4 4)) p1 7 ((mi ((mI ((mI m0 p1 3 3)) p1 4 4)) p1 7) + 0))) p1 8) + 1)) (ty := .int) (C := RX4) (T := TX4) (N := 9) hx hb hts in_X5_turn_X4 tyX4 tyX4_ok nmX4 hown hK hP hD hS p1 (vW_k4 n_p1 g2) rfl 8 (by decide) (hts (.fieldLink RX5 67 "VaultDoorsLaw$Door" "barred" "I") (List.mem_of_getElem? (i := 4) rfl)) (fun _ h9 => h9) rfl (by decide +kernel) rfl rfl (Nat.le_of_ble_eq_true rfl) dX5_turn_60 (fun H locs hP hD hS => ?_)
          have hO9 := vOK.I (a := p1) (j := 8) (v := ((mi ((mI ((mI ((mI m0 p1 3 3)) p1 4 4)) p1 7 ((mi ((mI ((mI m0 p1 3 3)) p1 4 4)) p1 7) + 0))) p1 8) + 1)) hO7
          rw [vW_p4_8 (m := ((mI ((mI ((mI m0 p1 3 3)) p1 4 4)) p1 7 ((mi ((mI ((mI m0 p1 3 3)) p1 4 4)) p1 7) + 0)))) n_p1 g2] at hP hD
          have hP : va_P D vwCl (vW tc ad N ((mI ((mI ((mI ((mI m0 p1 3 3)) p1 4 4)) p1 7 ((mi ((mI ((mI m0 p1 3 3)) p1 4 4)) p1 7) + 0))) p1 8 ((mi ((mI ((mI ((mI m0 p1 3 3)) p1 4 4)) p1 7 ((mi ((mI ((mI m0 p1 3 3)) p1 4 4)) p1 7) + 0))) p1 8) + 1)))) H := hP
          have hD : va_D A (vW tc ad N ((mI ((mI ((mI ((mI m0 p1 3 3)) p1 4 4)) p1 7 ((mi ((mI ((mI m0 p1 3 3)) p1 4 4)) p1 7) + 0))) p1 8 ((mi ((mI ((mI ((mI m0 p1 3 3)) p1 4 4)) p1 7 ((mi ((mI ((mI m0 p1 3 3)) p1 4 4)) p1 7) + 0))) p1 8) + 1)))) := hD
          have hz := Option.some.inj h
          exact W.vret hx hb hr (fun t ht hW => ⟨⟨(), rfl, trivial, by rw [← hz]; exact hO9, by rw [ht, ← hz]; exact hP, va_K.moved hW.alike hK, by rw [← hz]; exact hD⟩, hS.F ht⟩) hS.2.2 dX5_turn_63
        · rw [if_neg c8] at h
          refine lv_iconst (v := 0) hx hb dX5_turn_54 (by decide) ?_
          refine lv_goto (tgt := 59) hx hb dX5_turn_55 (by decide) ?_
          refine lv_iadd hx hb dX5_turn_59 ?_
          refine va_put (D := D) (ci := 4) (v := .int ((mi ((mI ((mI ((mI m0 p1 3 3)) p1 4 4)) p1 7 ((mi ((mI ((mI m0 p1 3 3)) p1 4 4)) p1 7) + 0))) p1 8) + 0)) (ty := .int) (C := RX4) (T := TX4) (N := 9) hx hb hts in_X5_turn_X4 tyX4 tyX4_ok nmX4 hown hK hP hD hS p1 (vW_k4 n_p1 g2) rfl 8 (by decide) (hts (.fieldLink RX5 67 "VaultDoorsLaw$Door" "barred" "I") (List.mem_of_getElem? (i := 4) rfl)) (fun _ h9 => h9) rfl (by decide +kernel) rfl rfl (Nat.le_of_ble_eq_true rfl) dX5_turn_60 (fun H locs hP hD hS => ?_)
          have hO10 := vOK.I (a := p1) (j := 8) (v := ((mi ((mI ((mI ((mI m0 p1 3 3)) p1 4 4)) p1 7 ((mi ((mI ((mI m0 p1 3 3)) p1 4 4)) p1 7) + 0))) p1 8) + 0)) hO7
          rw [vW_p4_8 (m := ((mI ((mI ((mI m0 p1 3 3)) p1 4 4)) p1 7 ((mi ((mI ((mI m0 p1 3 3)) p1 4 4)) p1 7) + 0)))) n_p1 g2] at hP hD
          have hP : va_P D vwCl (vW tc ad N ((mI ((mI ((mI ((mI m0 p1 3 3)) p1 4 4)) p1 7 ((mi ((mI ((mI m0 p1 3 3)) p1 4 4)) p1 7) + 0))) p1 8 ((mi ((mI ((mI ((mI m0 p1 3 3)) p1 4 4)) p1 7 ((mi ((mI ((mI m0 p1 3 3)) p1 4 4)) p1 7) + 0))) p1 8) + 0)))) H := hP
          have hD : va_D A (vW tc ad N ((mI ((mI ((mI ((mI m0 p1 3 3)) p1 4 4)) p1 7 ((mi ((mI ((mI m0 p1 3 3)) p1 4 4)) p1 7) + 0))) p1 8 ((mi ((mI ((mI ((mI m0 p1 3 3)) p1 4 4)) p1 7 ((mi ((mI ((mI m0 p1 3 3)) p1 4 4)) p1 7) + 0))) p1 8) + 0)))) := hD
          have hz := Option.some.inj h
          exact W.vret hx hb hr (fun t ht hW => ⟨⟨(), rfl, trivial, by rw [← hz]; exact hO10, by rw [ht, ← hz]; exact hP, va_K.moved hW.alike hK, by rw [← hz]; exact hD⟩, hS.F ht⟩) hS.2.2 dX5_turn_63
      · rw [if_neg c6] at h
        refine lv_iconst (v := 1) hx hb dX5_turn_36 (by decide) ?_
        refine lv_goto (tgt := 41) hx hb dX5_turn_37 (by decide) ?_
        refine lv_iadd hx hb dX5_turn_41 ?_
        refine va_put (D := D) (ci := 4) (v := .int ((mi ((mI ((mI m0 p1 3 3)) p1 4 4)) p1 7) + 1)) (ty := .int) (C := RX4) (T := TX4) (N := 9) hx hb hts in_X5_turn_X4 tyX4 tyX4_ok nmX4 hown hK hP hD hS p1 (vW_k4 n_p1 g2) rfl 7 (by decide) (hts (.fieldLink RX5 64 "VaultDoorsLaw$Door" "opened" "I") (List.mem_of_getElem? (i := 3) rfl)) (fun _ h9 => h9) rfl (by decide +kernel) rfl rfl (Nat.le_of_ble_eq_true rfl) dX5_turn_42 (fun H locs hP hD hS => ?_)
        have hO11 := vOK.I (a := p1) (j := 7) (v := ((mi ((mI ((mI m0 p1 3 3)) p1 4 4)) p1 7) + 1)) hO5
        rw [vW_p4_7 (m := ((mI ((mI m0 p1 3 3)) p1 4 4))) n_p1 g2] at hP hD
        have hP : va_P D vwCl (vW tc ad N ((mI ((mI ((mI m0 p1 3 3)) p1 4 4)) p1 7 ((mi ((mI ((mI m0 p1 3 3)) p1 4 4)) p1 7) + 1)))) H := hP
        have hD : va_D A (vW tc ad N ((mI ((mI ((mI m0 p1 3 3)) p1 4 4)) p1 7 ((mi ((mI ((mI m0 p1 3 3)) p1 4 4)) p1 7) + 1)))) := hD
        refine lv_aload_n hx hb dX5_turn_45 rfl (lv_at hl 1 rfl) ?_
        refine lv_dup hx hb dX5_turn_46 rfl ?_
        refine va_get (D := D) (ci := 4) (v := .int (mi ((mI ((mI ((mI m0 p1 3 3)) p1 4 4)) p1 7 ((mi ((mI ((mI m0 p1 3 3)) p1 4 4)) p1 7) + 1))) p1 8)) (C := RX4) (T := TX4) (N := 9) hx hb hts in_X5_turn_X4 hown hK hP p1 (vW_k4 n_p1 g2) rfl 8 (by decide) (hts (.fieldLink RX5 67 "VaultDoorsLaw$Door" "barred" "I") (List.mem_of_getElem? (i := 4) rfl)) (fun _ h9 => h9) rfl dX5_turn_47 ?_
        refine lv_iload_n hx hb dX5_turn_50 rfl (lv_at hl 2 rfl) ?_
        refine lv_if_eq (tgt := 58) hx hb dX5_turn_51 (by decide) (fun c12 => ?_) (fun c12 => ?_)
        · rw [if_pos c12] at h
          refine lv_iconst (v := 1) hx hb dX5_turn_58 (by decide) ?_
          refine lv_iadd hx hb dX5_turn_59 ?_
          refine va_put (D := D) (ci := 4) (v := .int ((mi ((mI ((mI ((mI m0 p1 3 3)) p1 4 4)) p1 7 ((mi ((mI ((mI m0 p1 3 3)) p1 4 4)) p1 7) + 1))) p1 8) + 1)) (ty := .int) (C := RX4) (T := TX4) (N := 9) hx hb hts in_X5_turn_X4 tyX4 tyX4_ok nmX4 hown hK hP hD hS p1 (vW_k4 n_p1 g2) rfl 8 (by decide) (hts (.fieldLink RX5 67 "VaultDoorsLaw$Door" "barred" "I") (List.mem_of_getElem? (i := 4) rfl)) (fun _ h9 => h9) rfl (by decide +kernel) rfl rfl (Nat.le_of_ble_eq_true rfl) dX5_turn_60 (fun H locs hP hD hS => ?_)
          have hO13 := vOK.I (a := p1) (j := 8) (v := ((mi ((mI ((mI ((mI m0 p1 3 3)) p1 4 4)) p1 7 ((mi ((mI ((mI m0 p1 3 3)) p1 4 4)) p1 7) + 1))) p1 8) + 1)) hO11
          rw [vW_p4_8 (m := ((mI ((mI ((mI m0 p1 3 3)) p1 4 4)) p1 7 ((mi ((mI ((mI m0 p1 3 3)) p1 4 4)) p1 7) + 1)))) n_p1 g2] at hP hD
          have hP : va_P D vwCl (vW tc ad N ((mI ((mI ((mI ((mI m0 p1 3 3)) p1 4 4)) p1 7 ((mi ((mI ((mI m0 p1 3 3)) p1 4 4)) p1 7) + 1))) p1 8 ((mi ((mI ((mI ((mI m0 p1 3 3)) p1 4 4)) p1 7 ((mi ((mI ((mI m0 p1 3 3)) p1 4 4)) p1 7) + 1))) p1 8) + 1)))) H := hP
          have hD : va_D A (vW tc ad N ((mI ((mI ((mI ((mI m0 p1 3 3)) p1 4 4)) p1 7 ((mi ((mI ((mI m0 p1 3 3)) p1 4 4)) p1 7) + 1))) p1 8 ((mi ((mI ((mI ((mI m0 p1 3 3)) p1 4 4)) p1 7 ((mi ((mI ((mI m0 p1 3 3)) p1 4 4)) p1 7) + 1))) p1 8) + 1)))) := hD
          have hz := Option.some.inj h
          exact W.vret hx hb hr (fun t ht hW => ⟨⟨(), rfl, trivial, by rw [← hz]; exact hO13, by rw [ht, ← hz]; exact hP, va_K.moved hW.alike hK, by rw [← hz]; exact hD⟩, hS.F ht⟩) hS.2.2 dX5_turn_63
        · rw [if_neg c12] at h
          refine lv_iconst (v := 0) hx hb dX5_turn_54 (by decide) ?_
          refine lv_goto (tgt := 59) hx hb dX5_turn_55 (by decide) ?_
          refine lv_iadd hx hb dX5_turn_59 ?_
          refine va_put (D := D) (ci := 4) (v := .int ((mi ((mI ((mI ((mI m0 p1 3 3)) p1 4 4)) p1 7 ((mi ((mI ((mI m0 p1 3 3)) p1 4 4)) p1 7) + 1))) p1 8) + 0)) (ty := .int) (C := RX4) (T := TX4) (N := 9) hx hb hts in_X5_turn_X4 tyX4 tyX4_ok nmX4 hown hK hP hD hS p1 (vW_k4 n_p1 g2) rfl 8 (by decide) (hts (.fieldLink RX5 67 "VaultDoorsLaw$Door" "barred" "I") (List.mem_of_getElem? (i := 4) rfl)) (fun _ h9 => h9) rfl (by decide +kernel) rfl rfl (Nat.le_of_ble_eq_true rfl) dX5_turn_60 (fun H locs hP hD hS => ?_)
          have hO14 := vOK.I (a := p1) (j := 8) (v := ((mi ((mI ((mI ((mI m0 p1 3 3)) p1 4 4)) p1 7 ((mi ((mI ((mI m0 p1 3 3)) p1 4 4)) p1 7) + 1))) p1 8) + 0)) hO11
          rw [vW_p4_8 (m := ((mI ((mI ((mI m0 p1 3 3)) p1 4 4)) p1 7 ((mi ((mI ((mI m0 p1 3 3)) p1 4 4)) p1 7) + 1)))) n_p1 g2] at hP hD
          have hP : va_P D vwCl (vW tc ad N ((mI ((mI ((mI ((mI m0 p1 3 3)) p1 4 4)) p1 7 ((mi ((mI ((mI m0 p1 3 3)) p1 4 4)) p1 7) + 1))) p1 8 ((mi ((mI ((mI ((mI m0 p1 3 3)) p1 4 4)) p1 7 ((mi ((mI ((mI m0 p1 3 3)) p1 4 4)) p1 7) + 1))) p1 8) + 0)))) H := hP
          have hD : va_D A (vW tc ad N ((mI ((mI ((mI ((mI m0 p1 3 3)) p1 4 4)) p1 7 ((mi ((mI ((mI m0 p1 3 3)) p1 4 4)) p1 7) + 1))) p1 8 ((mi ((mI ((mI ((mI m0 p1 3 3)) p1 4 4)) p1 7 ((mi ((mI ((mI m0 p1 3 3)) p1 4 4)) p1 7) + 1))) p1 8) + 0)))) := hD
          have hz := Option.some.inj h
          exact W.vret hx hb hr (fun t ht hW => ⟨⟨(), rfl, trivial, by rw [← hz]; exact hO14, by rw [ht, ← hz]; exact hP, va_K.moved hW.alike hK, by rw [← hz]; exact hD⟩, hS.F ht⟩) hS.2.2 dX5_turn_63
    · rw [if_neg c4] at h
      refine lv_bipush (v := 12) hx hb dX5_turn_18 (by decide) ?_
      refine lv_goto (tgt := 24) hx hb dX5_turn_20 (by decide) ?_
      refine va_put (D := D) (ci := 4) (v := .int 12) (ty := .int) (C := RX4) (T := TX4) (N := 9) hx hb hts in_X5_turn_X4 tyX4 tyX4_ok nmX4 hown hK hP hD hS p1 (vW_k4 n_p1 g2) rfl 4 (by decide) (hts (.fieldLink RX5 51 "VaultDoorsLaw$Door" "left" "I") (List.mem_of_getElem? (i := 2) rfl)) (fun _ h9 => h9) rfl (by decide +kernel) rfl rfl (Nat.le_of_ble_eq_true rfl) dX5_turn_24 (fun H locs hP hD hS => ?_)
      have hO15 := vOK.I (a := p1) (j := 4) (v := 12) hO3
      rw [vW_p4_4 (m := ((mI m0 p1 3 3))) n_p1 g2] at hP hD
      have hP : va_P D vwCl (vW tc ad N ((mI ((mI m0 p1 3 3)) p1 4 12))) H := hP
      have hD : va_D A (vW tc ad N ((mI ((mI m0 p1 3 3)) p1 4 12))) := hD
      refine lv_aload_n hx hb dX5_turn_27 rfl (lv_at hl 1 rfl) ?_
      refine lv_dup hx hb dX5_turn_28 rfl ?_
      refine va_get (D := D) (ci := 4) (v := .int (mi ((mI ((mI m0 p1 3 3)) p1 4 12)) p1 7)) (C := RX4) (T := TX4) (N := 9) hx hb hts in_X5_turn_X4 hown hK hP p1 (vW_k4 n_p1 g2) rfl 7 (by decide) (hts (.fieldLink RX5 64 "VaultDoorsLaw$Door" "opened" "I") (List.mem_of_getElem? (i := 3) rfl)) (fun _ h9 => h9) rfl dX5_turn_29 ?_
      refine lv_iload_n hx hb dX5_turn_32 rfl (lv_at hl 2 rfl) ?_
      refine lv_if_eq (tgt := 40) hx hb dX5_turn_33 (by decide) (fun c16 => ?_) (fun c16 => ?_)
      · rw [if_pos c16] at h
        refine lv_iconst (v := 0) hx hb dX5_turn_40 (by decide) ?_
        refine lv_iadd hx hb dX5_turn_41 ?_
        refine va_put (D := D) (ci := 4) (v := .int ((mi ((mI ((mI m0 p1 3 3)) p1 4 12)) p1 7) + 0)) (ty := .int) (C := RX4) (T := TX4) (N := 9) hx hb hts in_X5_turn_X4 tyX4 tyX4_ok nmX4 hown hK hP hD hS p1 (vW_k4 n_p1 g2) rfl 7 (by decide) (hts (.fieldLink RX5 64 "VaultDoorsLaw$Door" "opened" "I") (List.mem_of_getElem? (i := 3) rfl)) (fun _ h9 => h9) rfl (by decide +kernel) rfl rfl (Nat.le_of_ble_eq_true rfl) dX5_turn_42 (fun H locs hP hD hS => ?_)
        have hO17 := vOK.I (a := p1) (j := 7) (v := ((mi ((mI ((mI m0 p1 3 3)) p1 4 12)) p1 7) + 0)) hO15
        rw [vW_p4_7 (m := ((mI ((mI m0 p1 3 3)) p1 4 12))) n_p1 g2] at hP hD
        have hP : va_P D vwCl (vW tc ad N ((mI ((mI ((mI m0 p1 3 3)) p1 4 12)) p1 7 ((mi ((mI ((mI m0 p1 3 3)) p1 4 12)) p1 7) + 0)))) H := hP
        have hD : va_D A (vW tc ad N ((mI ((mI ((mI m0 p1 3 3)) p1 4 12)) p1 7 ((mi ((mI ((mI m0 p1 3 3)) p1 4 12)) p1 7) + 0)))) := hD
        refine lv_aload_n hx hb dX5_turn_45 rfl (lv_at hl 1 rfl) ?_
        refine lv_dup hx hb dX5_turn_46 rfl ?_
        refine va_get (D := D) (ci := 4) (v := .int (mi ((mI ((mI ((mI m0 p1 3 3)) p1 4 12)) p1 7 ((mi ((mI ((mI m0 p1 3 3)) p1 4 12)) p1 7) + 0))) p1 8)) (C := RX4) (T := TX4) (N := 9) hx hb hts in_X5_turn_X4 hown hK hP p1 (vW_k4 n_p1 g2) rfl 8 (by decide) (hts (.fieldLink RX5 67 "VaultDoorsLaw$Door" "barred" "I") (List.mem_of_getElem? (i := 4) rfl)) (fun _ h9 => h9) rfl dX5_turn_47 ?_
        refine lv_iload_n hx hb dX5_turn_50 rfl (lv_at hl 2 rfl) ?_
        refine lv_if_eq (tgt := 58) hx hb dX5_turn_51 (by decide) (fun c18 => ?_) (fun c18 => ?_)
        · rw [if_pos c18] at h
          refine lv_iconst (v := 1) hx hb dX5_turn_58 (by decide) ?_
          refine lv_iadd hx hb dX5_turn_59 ?_
          refine va_put (D := D) (ci := 4) (v := .int ((mi ((mI ((mI ((mI m0 p1 3 3)) p1 4 12)) p1 7 ((mi ((mI ((mI m0 p1 3 3)) p1 4 12)) p1 7) + 0))) p1 8) + 1)) (ty := .int) (C := RX4) (T := TX4) (N := 9) hx hb hts in_X5_turn_X4 tyX4 tyX4_ok nmX4 hown hK hP hD hS p1 (vW_k4 n_p1 g2) rfl 8 (by decide) (hts (.fieldLink RX5 67 "VaultDoorsLaw$Door" "barred" "I") (List.mem_of_getElem? (i := 4) rfl)) (fun _ h9 => h9) rfl (by decide +kernel) rfl rfl (Nat.le_of_ble_eq_true rfl) dX5_turn_60 (fun H locs hP hD hS => ?_)
          have hO19 := vOK.I (a := p1) (j := 8) (v := ((mi ((mI ((mI ((mI m0 p1 3 3)) p1 4 12)) p1 7 ((mi ((mI ((mI m0 p1 3 3)) p1 4 12)) p1 7) + 0))) p1 8) + 1)) hO17
          rw [vW_p4_8 (m := ((mI ((mI ((mI m0 p1 3 3)) p1 4 12)) p1 7 ((mi ((mI ((mI m0 p1 3 3)) p1 4 12)) p1 7) + 0)))) n_p1 g2] at hP hD
          have hP : va_P D vwCl (vW tc ad N ((mI ((mI ((mI ((mI m0 p1 3 3)) p1 4 12)) p1 7 ((mi ((mI ((mI m0 p1 3 3)) p1 4 12)) p1 7) + 0))) p1 8 ((mi ((mI ((mI ((mI m0 p1 3 3)) p1 4 12)) p1 7 ((mi ((mI ((mI m0 p1 3 3)) p1 4 12)) p1 7) + 0))) p1 8) + 1)))) H := hP
          have hD : va_D A (vW tc ad N ((mI ((mI ((mI ((mI m0 p1 3 3)) p1 4 12)) p1 7 ((mi ((mI ((mI m0 p1 3 3)) p1 4 12)) p1 7) + 0))) p1 8 ((mi ((mI ((mI ((mI m0 p1 3 3)) p1 4 12)) p1 7 ((mi ((mI ((mI m0 p1 3 3)) p1 4 12)) p1 7) + 0))) p1 8) + 1)))) := hD
          have hz := Option.some.inj h
          exact W.vret hx hb hr (fun t ht hW => ⟨⟨(), rfl, trivial, by rw [← hz]; exact hO19, by rw [ht, ← hz]; exact hP, va_K.moved hW.alike hK, by rw [← hz]; exact hD⟩, hS.F ht⟩) hS.2.2 dX5_turn_63
        · rw [if_neg c18] at h
          refine lv_iconst (v := 0) hx hb dX5_turn_54 (by decide) ?_
          refine lv_goto (tgt := 59) hx hb dX5_turn_55 (by decide) ?_
          refine lv_iadd hx hb dX5_turn_59 ?_
          refine va_put (D := D) (ci := 4) (v := .int ((mi ((mI ((mI ((mI m0 p1 3 3)) p1 4 12)) p1 7 ((mi ((mI ((mI m0 p1 3 3)) p1 4 12)) p1 7) + 0))) p1 8) + 0)) (ty := .int) (C := RX4) (T := TX4) (N := 9) hx hb hts in_X5_turn_X4 tyX4 tyX4_ok nmX4 hown hK hP hD hS p1 (vW_k4 n_p1 g2) rfl 8 (by decide) (hts (.fieldLink RX5 67 "VaultDoorsLaw$Door" "barred" "I") (List.mem_of_getElem? (i := 4) rfl)) (fun _ h9 => h9) rfl (by decide +kernel) rfl rfl (Nat.le_of_ble_eq_true rfl) dX5_turn_60 (fun H locs hP hD hS => ?_)
          have hO20 := vOK.I (a := p1) (j := 8) (v := ((mi ((mI ((mI ((mI m0 p1 3 3)) p1 4 12)) p1 7 ((mi ((mI ((mI m0 p1 3 3)) p1 4 12)) p1 7) + 0))) p1 8) + 0)) hO17
          rw [vW_p4_8 (m := ((mI ((mI ((mI m0 p1 3 3)) p1 4 12)) p1 7 ((mi ((mI ((mI m0 p1 3 3)) p1 4 12)) p1 7) + 0)))) n_p1 g2] at hP hD
          have hP : va_P D vwCl (vW tc ad N ((mI ((mI ((mI ((mI m0 p1 3 3)) p1 4 12)) p1 7 ((mi ((mI ((mI m0 p1 3 3)) p1 4 12)) p1 7) + 0))) p1 8 ((mi ((mI ((mI ((mI m0 p1 3 3)) p1 4 12)) p1 7 ((mi ((mI ((mI m0 p1 3 3)) p1 4 12)) p1 7) + 0))) p1 8) + 0)))) H := hP
          have hD : va_D A (vW tc ad N ((mI ((mI ((mI ((mI m0 p1 3 3)) p1 4 12)) p1 7 ((mi ((mI ((mI m0 p1 3 3)) p1 4 12)) p1 7) + 0))) p1 8 ((mi ((mI ((mI ((mI m0 p1 3 3)) p1 4 12)) p1 7 ((mi ((mI ((mI m0 p1 3 3)) p1 4 12)) p1 7) + 0))) p1 8) + 0)))) := hD
          have hz := Option.some.inj h
          exact W.vret hx hb hr (fun t ht hW => ⟨⟨(), rfl, trivial, by rw [← hz]; exact hO20, by rw [ht, ← hz]; exact hP, va_K.moved hW.alike hK, by rw [← hz]; exact hD⟩, hS.F ht⟩) hS.2.2 dX5_turn_63
      · rw [if_neg c16] at h
        refine lv_iconst (v := 1) hx hb dX5_turn_36 (by decide) ?_
        refine lv_goto (tgt := 41) hx hb dX5_turn_37 (by decide) ?_
        refine lv_iadd hx hb dX5_turn_41 ?_
        refine va_put (D := D) (ci := 4) (v := .int ((mi ((mI ((mI m0 p1 3 3)) p1 4 12)) p1 7) + 1)) (ty := .int) (C := RX4) (T := TX4) (N := 9) hx hb hts in_X5_turn_X4 tyX4 tyX4_ok nmX4 hown hK hP hD hS p1 (vW_k4 n_p1 g2) rfl 7 (by decide) (hts (.fieldLink RX5 64 "VaultDoorsLaw$Door" "opened" "I") (List.mem_of_getElem? (i := 3) rfl)) (fun _ h9 => h9) rfl (by decide +kernel) rfl rfl (Nat.le_of_ble_eq_true rfl) dX5_turn_42 (fun H locs hP hD hS => ?_)
        have hO21 := vOK.I (a := p1) (j := 7) (v := ((mi ((mI ((mI m0 p1 3 3)) p1 4 12)) p1 7) + 1)) hO15
        rw [vW_p4_7 (m := ((mI ((mI m0 p1 3 3)) p1 4 12))) n_p1 g2] at hP hD
        have hP : va_P D vwCl (vW tc ad N ((mI ((mI ((mI m0 p1 3 3)) p1 4 12)) p1 7 ((mi ((mI ((mI m0 p1 3 3)) p1 4 12)) p1 7) + 1)))) H := hP
        have hD : va_D A (vW tc ad N ((mI ((mI ((mI m0 p1 3 3)) p1 4 12)) p1 7 ((mi ((mI ((mI m0 p1 3 3)) p1 4 12)) p1 7) + 1)))) := hD
        refine lv_aload_n hx hb dX5_turn_45 rfl (lv_at hl 1 rfl) ?_
        refine lv_dup hx hb dX5_turn_46 rfl ?_
        refine va_get (D := D) (ci := 4) (v := .int (mi ((mI ((mI ((mI m0 p1 3 3)) p1 4 12)) p1 7 ((mi ((mI ((mI m0 p1 3 3)) p1 4 12)) p1 7) + 1))) p1 8)) (C := RX4) (T := TX4) (N := 9) hx hb hts in_X5_turn_X4 hown hK hP p1 (vW_k4 n_p1 g2) rfl 8 (by decide) (hts (.fieldLink RX5 67 "VaultDoorsLaw$Door" "barred" "I") (List.mem_of_getElem? (i := 4) rfl)) (fun _ h9 => h9) rfl dX5_turn_47 ?_
        refine lv_iload_n hx hb dX5_turn_50 rfl (lv_at hl 2 rfl) ?_
        refine lv_if_eq (tgt := 58) hx hb dX5_turn_51 (by decide) (fun c22 => ?_) (fun c22 => ?_)
        · rw [if_pos c22] at h
          refine lv_iconst (v := 1) hx hb dX5_turn_58 (by decide) ?_
          refine lv_iadd hx hb dX5_turn_59 ?_
          refine va_put (D := D) (ci := 4) (v := .int ((mi ((mI ((mI ((mI m0 p1 3 3)) p1 4 12)) p1 7 ((mi ((mI ((mI m0 p1 3 3)) p1 4 12)) p1 7) + 1))) p1 8) + 1)) (ty := .int) (C := RX4) (T := TX4) (N := 9) hx hb hts in_X5_turn_X4 tyX4 tyX4_ok nmX4 hown hK hP hD hS p1 (vW_k4 n_p1 g2) rfl 8 (by decide) (hts (.fieldLink RX5 67 "VaultDoorsLaw$Door" "barred" "I") (List.mem_of_getElem? (i := 4) rfl)) (fun _ h9 => h9) rfl (by decide +kernel) rfl rfl (Nat.le_of_ble_eq_true rfl) dX5_turn_60 (fun H locs hP hD hS => ?_)
          have hO23 := vOK.I (a := p1) (j := 8) (v := ((mi ((mI ((mI ((mI m0 p1 3 3)) p1 4 12)) p1 7 ((mi ((mI ((mI m0 p1 3 3)) p1 4 12)) p1 7) + 1))) p1 8) + 1)) hO21
          rw [vW_p4_8 (m := ((mI ((mI ((mI m0 p1 3 3)) p1 4 12)) p1 7 ((mi ((mI ((mI m0 p1 3 3)) p1 4 12)) p1 7) + 1)))) n_p1 g2] at hP hD
          have hP : va_P D vwCl (vW tc ad N ((mI ((mI ((mI ((mI m0 p1 3 3)) p1 4 12)) p1 7 ((mi ((mI ((mI m0 p1 3 3)) p1 4 12)) p1 7) + 1))) p1 8 ((mi ((mI ((mI ((mI m0 p1 3 3)) p1 4 12)) p1 7 ((mi ((mI ((mI m0 p1 3 3)) p1 4 12)) p1 7) + 1))) p1 8) + 1)))) H := hP
          have hD : va_D A (vW tc ad N ((mI ((mI ((mI ((mI m0 p1 3 3)) p1 4 12)) p1 7 ((mi ((mI ((mI m0 p1 3 3)) p1 4 12)) p1 7) + 1))) p1 8 ((mi ((mI ((mI ((mI m0 p1 3 3)) p1 4 12)) p1 7 ((mi ((mI ((mI m0 p1 3 3)) p1 4 12)) p1 7) + 1))) p1 8) + 1)))) := hD
          have hz := Option.some.inj h
          exact W.vret hx hb hr (fun t ht hW => ⟨⟨(), rfl, trivial, by rw [← hz]; exact hO23, by rw [ht, ← hz]; exact hP, va_K.moved hW.alike hK, by rw [← hz]; exact hD⟩, hS.F ht⟩) hS.2.2 dX5_turn_63
        · rw [if_neg c22] at h
          refine lv_iconst (v := 0) hx hb dX5_turn_54 (by decide) ?_
          refine lv_goto (tgt := 59) hx hb dX5_turn_55 (by decide) ?_
          refine lv_iadd hx hb dX5_turn_59 ?_
          refine va_put (D := D) (ci := 4) (v := .int ((mi ((mI ((mI ((mI m0 p1 3 3)) p1 4 12)) p1 7 ((mi ((mI ((mI m0 p1 3 3)) p1 4 12)) p1 7) + 1))) p1 8) + 0)) (ty := .int) (C := RX4) (T := TX4) (N := 9) hx hb hts in_X5_turn_X4 tyX4 tyX4_ok nmX4 hown hK hP hD hS p1 (vW_k4 n_p1 g2) rfl 8 (by decide) (hts (.fieldLink RX5 67 "VaultDoorsLaw$Door" "barred" "I") (List.mem_of_getElem? (i := 4) rfl)) (fun _ h9 => h9) rfl (by decide +kernel) rfl rfl (Nat.le_of_ble_eq_true rfl) dX5_turn_60 (fun H locs hP hD hS => ?_)
          have hO24 := vOK.I (a := p1) (j := 8) (v := ((mi ((mI ((mI ((mI m0 p1 3 3)) p1 4 12)) p1 7 ((mi ((mI ((mI m0 p1 3 3)) p1 4 12)) p1 7) + 1))) p1 8) + 0)) hO21
          rw [vW_p4_8 (m := ((mI ((mI ((mI m0 p1 3 3)) p1 4 12)) p1 7 ((mi ((mI ((mI m0 p1 3 3)) p1 4 12)) p1 7) + 1)))) n_p1 g2] at hP hD
          have hP : va_P D vwCl (vW tc ad N ((mI ((mI ((mI ((mI m0 p1 3 3)) p1 4 12)) p1 7 ((mi ((mI ((mI m0 p1 3 3)) p1 4 12)) p1 7) + 1))) p1 8 ((mi ((mI ((mI ((mI m0 p1 3 3)) p1 4 12)) p1 7 ((mi ((mI ((mI m0 p1 3 3)) p1 4 12)) p1 7) + 1))) p1 8) + 0)))) H := hP
          have hD : va_D A (vW tc ad N ((mI ((mI ((mI ((mI m0 p1 3 3)) p1 4 12)) p1 7 ((mi ((mI ((mI m0 p1 3 3)) p1 4 12)) p1 7) + 1))) p1 8 ((mi ((mI ((mI ((mI m0 p1 3 3)) p1 4 12)) p1 7 ((mi ((mI ((mI m0 p1 3 3)) p1 4 12)) p1 7) + 1))) p1 8) + 0)))) := hD
          have hz := Option.some.inj h
          exact W.vret hx hb hr (fun t ht hW => ⟨⟨(), rfl, trivial, by rw [← hz]; exact hO24, by rw [ht, ← hz]; exact hP, va_K.moved hW.alike hK, by rw [← hz]; exact hD⟩, hS.F ht⟩) hS.2.2 dX5_turn_63
  · rw [if_neg c1] at h
    refine lv_iconst (v := 2) hx hb dX5_turn_5 (by decide) ?_
    refine lv_goto (tgt := 10) hx hb dX5_turn_6 (by decide) ?_
    obtain ⟨g25, h⟩ := vg_if h
    refine va_put (D := D) (ci := 4) (v := .int 2) (ty := .int) (C := RX4) (T := TX4) (N := 9) hx hb hts in_X5_turn_X4 tyX4 tyX4_ok nmX4 hown hK hP hD hS p1 (vW_k4 n_p1 g25) rfl 3 (by decide) (hts (.fieldLink RX5 48 "VaultDoorsLaw$Door" "state" "I") (List.mem_of_getElem? (i := 1) rfl)) (fun _ h9 => h9) rfl (by decide +kernel) rfl rfl (Nat.le_of_ble_eq_true rfl) dX5_turn_10 (fun H locs hP hD hS => ?_)
    have hO26 := vOK.I (a := p1) (j := 3) (v := 2) hO
    rw [vW_p4_3 (m := m0) n_p1 g25] at hP hD
    have hP : va_P D vwCl (vW tc ad N ((mI m0 p1 3 2))) H := hP
    have hD : va_D A (vW tc ad N ((mI m0 p1 3 2))) := hD
    refine lv_aload_n hx hb dX5_turn_13 rfl (lv_at hl 1 rfl) ?_
    refine lv_iload_n hx hb dX5_turn_14 rfl (lv_at hl 2 rfl) ?_
    refine lv_if_eq (tgt := 23) hx hb dX5_turn_15 (by decide) (fun c27 => ?_) (fun c27 => ?_)
    · rw [if_pos c27] at h
      refine lv_iconst (v := 4) hx hb dX5_turn_23 (by decide) ?_
      refine va_put (D := D) (ci := 4) (v := .int 4) (ty := .int) (C := RX4) (T := TX4) (N := 9) hx hb hts in_X5_turn_X4 tyX4 tyX4_ok nmX4 hown hK hP hD hS p1 (vW_k4 n_p1 g25) rfl 4 (by decide) (hts (.fieldLink RX5 51 "VaultDoorsLaw$Door" "left" "I") (List.mem_of_getElem? (i := 2) rfl)) (fun _ h9 => h9) rfl (by decide +kernel) rfl rfl (Nat.le_of_ble_eq_true rfl) dX5_turn_24 (fun H locs hP hD hS => ?_)
      have hO28 := vOK.I (a := p1) (j := 4) (v := 4) hO26
      rw [vW_p4_4 (m := ((mI m0 p1 3 2))) n_p1 g25] at hP hD
      have hP : va_P D vwCl (vW tc ad N ((mI ((mI m0 p1 3 2)) p1 4 4))) H := hP
      have hD : va_D A (vW tc ad N ((mI ((mI m0 p1 3 2)) p1 4 4))) := hD
      refine lv_aload_n hx hb dX5_turn_27 rfl (lv_at hl 1 rfl) ?_
      refine lv_dup hx hb dX5_turn_28 rfl ?_
      refine va_get (D := D) (ci := 4) (v := .int (mi ((mI ((mI m0 p1 3 2)) p1 4 4)) p1 7)) (C := RX4) (T := TX4) (N := 9) hx hb hts in_X5_turn_X4 hown hK hP p1 (vW_k4 n_p1 g25) rfl 7 (by decide) (hts (.fieldLink RX5 64 "VaultDoorsLaw$Door" "opened" "I") (List.mem_of_getElem? (i := 3) rfl)) (fun _ h9 => h9) rfl dX5_turn_29 ?_
      refine lv_iload_n hx hb dX5_turn_32 rfl (lv_at hl 2 rfl) ?_
      refine lv_if_eq (tgt := 40) hx hb dX5_turn_33 (by decide) (fun c29 => ?_) (fun c29 => ?_)
      · rw [if_pos c29] at h
        refine lv_iconst (v := 0) hx hb dX5_turn_40 (by decide) ?_
        refine lv_iadd hx hb dX5_turn_41 ?_
        refine va_put (D := D) (ci := 4) (v := .int ((mi ((mI ((mI m0 p1 3 2)) p1 4 4)) p1 7) + 0)) (ty := .int) (C := RX4) (T := TX4) (N := 9) hx hb hts in_X5_turn_X4 tyX4 tyX4_ok nmX4 hown hK hP hD hS p1 (vW_k4 n_p1 g25) rfl 7 (by decide) (hts (.fieldLink RX5 64 "VaultDoorsLaw$Door" "opened" "I") (List.mem_of_getElem? (i := 3) rfl)) (fun _ h9 => h9) rfl (by decide +kernel) rfl rfl (Nat.le_of_ble_eq_true rfl) dX5_turn_42 (fun H locs hP hD hS => ?_)
        have hO30 := vOK.I (a := p1) (j := 7) (v := ((mi ((mI ((mI m0 p1 3 2)) p1 4 4)) p1 7) + 0)) hO28
        rw [vW_p4_7 (m := ((mI ((mI m0 p1 3 2)) p1 4 4))) n_p1 g25] at hP hD
        have hP : va_P D vwCl (vW tc ad N ((mI ((mI ((mI m0 p1 3 2)) p1 4 4)) p1 7 ((mi ((mI ((mI m0 p1 3 2)) p1 4 4)) p1 7) + 0)))) H := hP
        have hD : va_D A (vW tc ad N ((mI ((mI ((mI m0 p1 3 2)) p1 4 4)) p1 7 ((mi ((mI ((mI m0 p1 3 2)) p1 4 4)) p1 7) + 0)))) := hD
        refine lv_aload_n hx hb dX5_turn_45 rfl (lv_at hl 1 rfl) ?_
        refine lv_dup hx hb dX5_turn_46 rfl ?_
        refine va_get (D := D) (ci := 4) (v := .int (mi ((mI ((mI ((mI m0 p1 3 2)) p1 4 4)) p1 7 ((mi ((mI ((mI m0 p1 3 2)) p1 4 4)) p1 7) + 0))) p1 8)) (C := RX4) (T := TX4) (N := 9) hx hb hts in_X5_turn_X4 hown hK hP p1 (vW_k4 n_p1 g25) rfl 8 (by decide) (hts (.fieldLink RX5 67 "VaultDoorsLaw$Door" "barred" "I") (List.mem_of_getElem? (i := 4) rfl)) (fun _ h9 => h9) rfl dX5_turn_47 ?_
        refine lv_iload_n hx hb dX5_turn_50 rfl (lv_at hl 2 rfl) ?_
        refine lv_if_eq (tgt := 58) hx hb dX5_turn_51 (by decide) (fun c31 => ?_) (fun c31 => ?_)
        · rw [if_pos c31] at h
          refine lv_iconst (v := 1) hx hb dX5_turn_58 (by decide) ?_
          refine lv_iadd hx hb dX5_turn_59 ?_
          refine va_put (D := D) (ci := 4) (v := .int ((mi ((mI ((mI ((mI m0 p1 3 2)) p1 4 4)) p1 7 ((mi ((mI ((mI m0 p1 3 2)) p1 4 4)) p1 7) + 0))) p1 8) + 1)) (ty := .int) (C := RX4) (T := TX4) (N := 9) hx hb hts in_X5_turn_X4 tyX4 tyX4_ok nmX4 hown hK hP hD hS p1 (vW_k4 n_p1 g25) rfl 8 (by decide) (hts (.fieldLink RX5 67 "VaultDoorsLaw$Door" "barred" "I") (List.mem_of_getElem? (i := 4) rfl)) (fun _ h9 => h9) rfl (by decide +kernel) rfl rfl (Nat.le_of_ble_eq_true rfl) dX5_turn_60 (fun H locs hP hD hS => ?_)
          have hO32 := vOK.I (a := p1) (j := 8) (v := ((mi ((mI ((mI ((mI m0 p1 3 2)) p1 4 4)) p1 7 ((mi ((mI ((mI m0 p1 3 2)) p1 4 4)) p1 7) + 0))) p1 8) + 1)) hO30
          rw [vW_p4_8 (m := ((mI ((mI ((mI m0 p1 3 2)) p1 4 4)) p1 7 ((mi ((mI ((mI m0 p1 3 2)) p1 4 4)) p1 7) + 0)))) n_p1 g25] at hP hD
          have hP : va_P D vwCl (vW tc ad N ((mI ((mI ((mI ((mI m0 p1 3 2)) p1 4 4)) p1 7 ((mi ((mI ((mI m0 p1 3 2)) p1 4 4)) p1 7) + 0))) p1 8 ((mi ((mI ((mI ((mI m0 p1 3 2)) p1 4 4)) p1 7 ((mi ((mI ((mI m0 p1 3 2)) p1 4 4)) p1 7) + 0))) p1 8) + 1)))) H := hP
          have hD : va_D A (vW tc ad N ((mI ((mI ((mI ((mI m0 p1 3 2)) p1 4 4)) p1 7 ((mi ((mI ((mI m0 p1 3 2)) p1 4 4)) p1 7) + 0))) p1 8 ((mi ((mI ((mI ((mI m0 p1 3 2)) p1 4 4)) p1 7 ((mi ((mI ((mI m0 p1 3 2)) p1 4 4)) p1 7) + 0))) p1 8) + 1)))) := hD
          have hz := Option.some.inj h
          exact W.vret hx hb hr (fun t ht hW => ⟨⟨(), rfl, trivial, by rw [← hz]; exact hO32, by rw [ht, ← hz]; exact hP, va_K.moved hW.alike hK, by rw [← hz]; exact hD⟩, hS.F ht⟩) hS.2.2 dX5_turn_63
        · rw [if_neg c31] at h
          refine lv_iconst (v := 0) hx hb dX5_turn_54 (by decide) ?_
          refine lv_goto (tgt := 59) hx hb dX5_turn_55 (by decide) ?_
          refine lv_iadd hx hb dX5_turn_59 ?_
          refine va_put (D := D) (ci := 4) (v := .int ((mi ((mI ((mI ((mI m0 p1 3 2)) p1 4 4)) p1 7 ((mi ((mI ((mI m0 p1 3 2)) p1 4 4)) p1 7) + 0))) p1 8) + 0)) (ty := .int) (C := RX4) (T := TX4) (N := 9) hx hb hts in_X5_turn_X4 tyX4 tyX4_ok nmX4 hown hK hP hD hS p1 (vW_k4 n_p1 g25) rfl 8 (by decide) (hts (.fieldLink RX5 67 "VaultDoorsLaw$Door" "barred" "I") (List.mem_of_getElem? (i := 4) rfl)) (fun _ h9 => h9) rfl (by decide +kernel) rfl rfl (Nat.le_of_ble_eq_true rfl) dX5_turn_60 (fun H locs hP hD hS => ?_)
          have hO33 := vOK.I (a := p1) (j := 8) (v := ((mi ((mI ((mI ((mI m0 p1 3 2)) p1 4 4)) p1 7 ((mi ((mI ((mI m0 p1 3 2)) p1 4 4)) p1 7) + 0))) p1 8) + 0)) hO30
          rw [vW_p4_8 (m := ((mI ((mI ((mI m0 p1 3 2)) p1 4 4)) p1 7 ((mi ((mI ((mI m0 p1 3 2)) p1 4 4)) p1 7) + 0)))) n_p1 g25] at hP hD
          have hP : va_P D vwCl (vW tc ad N ((mI ((mI ((mI ((mI m0 p1 3 2)) p1 4 4)) p1 7 ((mi ((mI ((mI m0 p1 3 2)) p1 4 4)) p1 7) + 0))) p1 8 ((mi ((mI ((mI ((mI m0 p1 3 2)) p1 4 4)) p1 7 ((mi ((mI ((mI m0 p1 3 2)) p1 4 4)) p1 7) + 0))) p1 8) + 0)))) H := hP
          have hD : va_D A (vW tc ad N ((mI ((mI ((mI ((mI m0 p1 3 2)) p1 4 4)) p1 7 ((mi ((mI ((mI m0 p1 3 2)) p1 4 4)) p1 7) + 0))) p1 8 ((mi ((mI ((mI ((mI m0 p1 3 2)) p1 4 4)) p1 7 ((mi ((mI ((mI m0 p1 3 2)) p1 4 4)) p1 7) + 0))) p1 8) + 0)))) := hD
          have hz := Option.some.inj h
          exact W.vret hx hb hr (fun t ht hW => ⟨⟨(), rfl, trivial, by rw [← hz]; exact hO33, by rw [ht, ← hz]; exact hP, va_K.moved hW.alike hK, by rw [← hz]; exact hD⟩, hS.F ht⟩) hS.2.2 dX5_turn_63
      · rw [if_neg c29] at h
        refine lv_iconst (v := 1) hx hb dX5_turn_36 (by decide) ?_
        refine lv_goto (tgt := 41) hx hb dX5_turn_37 (by decide) ?_
        refine lv_iadd hx hb dX5_turn_41 ?_
        refine va_put (D := D) (ci := 4) (v := .int ((mi ((mI ((mI m0 p1 3 2)) p1 4 4)) p1 7) + 1)) (ty := .int) (C := RX4) (T := TX4) (N := 9) hx hb hts in_X5_turn_X4 tyX4 tyX4_ok nmX4 hown hK hP hD hS p1 (vW_k4 n_p1 g25) rfl 7 (by decide) (hts (.fieldLink RX5 64 "VaultDoorsLaw$Door" "opened" "I") (List.mem_of_getElem? (i := 3) rfl)) (fun _ h9 => h9) rfl (by decide +kernel) rfl rfl (Nat.le_of_ble_eq_true rfl) dX5_turn_42 (fun H locs hP hD hS => ?_)
        have hO34 := vOK.I (a := p1) (j := 7) (v := ((mi ((mI ((mI m0 p1 3 2)) p1 4 4)) p1 7) + 1)) hO28
        rw [vW_p4_7 (m := ((mI ((mI m0 p1 3 2)) p1 4 4))) n_p1 g25] at hP hD
        have hP : va_P D vwCl (vW tc ad N ((mI ((mI ((mI m0 p1 3 2)) p1 4 4)) p1 7 ((mi ((mI ((mI m0 p1 3 2)) p1 4 4)) p1 7) + 1)))) H := hP
        have hD : va_D A (vW tc ad N ((mI ((mI ((mI m0 p1 3 2)) p1 4 4)) p1 7 ((mi ((mI ((mI m0 p1 3 2)) p1 4 4)) p1 7) + 1)))) := hD
        refine lv_aload_n hx hb dX5_turn_45 rfl (lv_at hl 1 rfl) ?_
        refine lv_dup hx hb dX5_turn_46 rfl ?_
        refine va_get (D := D) (ci := 4) (v := .int (mi ((mI ((mI ((mI m0 p1 3 2)) p1 4 4)) p1 7 ((mi ((mI ((mI m0 p1 3 2)) p1 4 4)) p1 7) + 1))) p1 8)) (C := RX4) (T := TX4) (N := 9) hx hb hts in_X5_turn_X4 hown hK hP p1 (vW_k4 n_p1 g25) rfl 8 (by decide) (hts (.fieldLink RX5 67 "VaultDoorsLaw$Door" "barred" "I") (List.mem_of_getElem? (i := 4) rfl)) (fun _ h9 => h9) rfl dX5_turn_47 ?_
        refine lv_iload_n hx hb dX5_turn_50 rfl (lv_at hl 2 rfl) ?_
        refine lv_if_eq (tgt := 58) hx hb dX5_turn_51 (by decide) (fun c35 => ?_) (fun c35 => ?_)
        · rw [if_pos c35] at h
          refine lv_iconst (v := 1) hx hb dX5_turn_58 (by decide) ?_
          refine lv_iadd hx hb dX5_turn_59 ?_
          refine va_put (D := D) (ci := 4) (v := .int ((mi ((mI ((mI ((mI m0 p1 3 2)) p1 4 4)) p1 7 ((mi ((mI ((mI m0 p1 3 2)) p1 4 4)) p1 7) + 1))) p1 8) + 1)) (ty := .int) (C := RX4) (T := TX4) (N := 9) hx hb hts in_X5_turn_X4 tyX4 tyX4_ok nmX4 hown hK hP hD hS p1 (vW_k4 n_p1 g25) rfl 8 (by decide) (hts (.fieldLink RX5 67 "VaultDoorsLaw$Door" "barred" "I") (List.mem_of_getElem? (i := 4) rfl)) (fun _ h9 => h9) rfl (by decide +kernel) rfl rfl (Nat.le_of_ble_eq_true rfl) dX5_turn_60 (fun H locs hP hD hS => ?_)
          have hO36 := vOK.I (a := p1) (j := 8) (v := ((mi ((mI ((mI ((mI m0 p1 3 2)) p1 4 4)) p1 7 ((mi ((mI ((mI m0 p1 3 2)) p1 4 4)) p1 7) + 1))) p1 8) + 1)) hO34
          rw [vW_p4_8 (m := ((mI ((mI ((mI m0 p1 3 2)) p1 4 4)) p1 7 ((mi ((mI ((mI m0 p1 3 2)) p1 4 4)) p1 7) + 1)))) n_p1 g25] at hP hD
          have hP : va_P D vwCl (vW tc ad N ((mI ((mI ((mI ((mI m0 p1 3 2)) p1 4 4)) p1 7 ((mi ((mI ((mI m0 p1 3 2)) p1 4 4)) p1 7) + 1))) p1 8 ((mi ((mI ((mI ((mI m0 p1 3 2)) p1 4 4)) p1 7 ((mi ((mI ((mI m0 p1 3 2)) p1 4 4)) p1 7) + 1))) p1 8) + 1)))) H := hP
          have hD : va_D A (vW tc ad N ((mI ((mI ((mI ((mI m0 p1 3 2)) p1 4 4)) p1 7 ((mi ((mI ((mI m0 p1 3 2)) p1 4 4)) p1 7) + 1))) p1 8 ((mi ((mI ((mI ((mI m0 p1 3 2)) p1 4 4)) p1 7 ((mi ((mI ((mI m0 p1 3 2)) p1 4 4)) p1 7) + 1))) p1 8) + 1)))) := hD
          have hz := Option.some.inj h
          exact W.vret hx hb hr (fun t ht hW => ⟨⟨(), rfl, trivial, by rw [← hz]; exact hO36, by rw [ht, ← hz]; exact hP, va_K.moved hW.alike hK, by rw [← hz]; exact hD⟩, hS.F ht⟩) hS.2.2 dX5_turn_63
        · rw [if_neg c35] at h
          refine lv_iconst (v := 0) hx hb dX5_turn_54 (by decide) ?_
          refine lv_goto (tgt := 59) hx hb dX5_turn_55 (by decide) ?_
          refine lv_iadd hx hb dX5_turn_59 ?_
          refine va_put (D := D) (ci := 4) (v := .int ((mi ((mI ((mI ((mI m0 p1 3 2)) p1 4 4)) p1 7 ((mi ((mI ((mI m0 p1 3 2)) p1 4 4)) p1 7) + 1))) p1 8) + 0)) (ty := .int) (C := RX4) (T := TX4) (N := 9) hx hb hts in_X5_turn_X4 tyX4 tyX4_ok nmX4 hown hK hP hD hS p1 (vW_k4 n_p1 g25) rfl 8 (by decide) (hts (.fieldLink RX5 67 "VaultDoorsLaw$Door" "barred" "I") (List.mem_of_getElem? (i := 4) rfl)) (fun _ h9 => h9) rfl (by decide +kernel) rfl rfl (Nat.le_of_ble_eq_true rfl) dX5_turn_60 (fun H locs hP hD hS => ?_)
          have hO37 := vOK.I (a := p1) (j := 8) (v := ((mi ((mI ((mI ((mI m0 p1 3 2)) p1 4 4)) p1 7 ((mi ((mI ((mI m0 p1 3 2)) p1 4 4)) p1 7) + 1))) p1 8) + 0)) hO34
          rw [vW_p4_8 (m := ((mI ((mI ((mI m0 p1 3 2)) p1 4 4)) p1 7 ((mi ((mI ((mI m0 p1 3 2)) p1 4 4)) p1 7) + 1)))) n_p1 g25] at hP hD
          have hP : va_P D vwCl (vW tc ad N ((mI ((mI ((mI ((mI m0 p1 3 2)) p1 4 4)) p1 7 ((mi ((mI ((mI m0 p1 3 2)) p1 4 4)) p1 7) + 1))) p1 8 ((mi ((mI ((mI ((mI m0 p1 3 2)) p1 4 4)) p1 7 ((mi ((mI ((mI m0 p1 3 2)) p1 4 4)) p1 7) + 1))) p1 8) + 0)))) H := hP
          have hD : va_D A (vW tc ad N ((mI ((mI ((mI ((mI m0 p1 3 2)) p1 4 4)) p1 7 ((mi ((mI ((mI m0 p1 3 2)) p1 4 4)) p1 7) + 1))) p1 8 ((mi ((mI ((mI ((mI m0 p1 3 2)) p1 4 4)) p1 7 ((mi ((mI ((mI m0 p1 3 2)) p1 4 4)) p1 7) + 1))) p1 8) + 0)))) := hD
          have hz := Option.some.inj h
          exact W.vret hx hb hr (fun t ht hW => ⟨⟨(), rfl, trivial, by rw [← hz]; exact hO37, by rw [ht, ← hz]; exact hP, va_K.moved hW.alike hK, by rw [← hz]; exact hD⟩, hS.F ht⟩) hS.2.2 dX5_turn_63
    · rw [if_neg c27] at h
      refine lv_bipush (v := 12) hx hb dX5_turn_18 (by decide) ?_
      refine lv_goto (tgt := 24) hx hb dX5_turn_20 (by decide) ?_
      refine va_put (D := D) (ci := 4) (v := .int 12) (ty := .int) (C := RX4) (T := TX4) (N := 9) hx hb hts in_X5_turn_X4 tyX4 tyX4_ok nmX4 hown hK hP hD hS p1 (vW_k4 n_p1 g25) rfl 4 (by decide) (hts (.fieldLink RX5 51 "VaultDoorsLaw$Door" "left" "I") (List.mem_of_getElem? (i := 2) rfl)) (fun _ h9 => h9) rfl (by decide +kernel) rfl rfl (Nat.le_of_ble_eq_true rfl) dX5_turn_24 (fun H locs hP hD hS => ?_)
      have hO38 := vOK.I (a := p1) (j := 4) (v := 12) hO26
      rw [vW_p4_4 (m := ((mI m0 p1 3 2))) n_p1 g25] at hP hD
      have hP : va_P D vwCl (vW tc ad N ((mI ((mI m0 p1 3 2)) p1 4 12))) H := hP
      have hD : va_D A (vW tc ad N ((mI ((mI m0 p1 3 2)) p1 4 12))) := hD
      refine lv_aload_n hx hb dX5_turn_27 rfl (lv_at hl 1 rfl) ?_
      refine lv_dup hx hb dX5_turn_28 rfl ?_
      refine va_get (D := D) (ci := 4) (v := .int (mi ((mI ((mI m0 p1 3 2)) p1 4 12)) p1 7)) (C := RX4) (T := TX4) (N := 9) hx hb hts in_X5_turn_X4 hown hK hP p1 (vW_k4 n_p1 g25) rfl 7 (by decide) (hts (.fieldLink RX5 64 "VaultDoorsLaw$Door" "opened" "I") (List.mem_of_getElem? (i := 3) rfl)) (fun _ h9 => h9) rfl dX5_turn_29 ?_
      refine lv_iload_n hx hb dX5_turn_32 rfl (lv_at hl 2 rfl) ?_
      refine lv_if_eq (tgt := 40) hx hb dX5_turn_33 (by decide) (fun c39 => ?_) (fun c39 => ?_)
      · rw [if_pos c39] at h
        refine lv_iconst (v := 0) hx hb dX5_turn_40 (by decide) ?_
        refine lv_iadd hx hb dX5_turn_41 ?_
        refine va_put (D := D) (ci := 4) (v := .int ((mi ((mI ((mI m0 p1 3 2)) p1 4 12)) p1 7) + 0)) (ty := .int) (C := RX4) (T := TX4) (N := 9) hx hb hts in_X5_turn_X4 tyX4 tyX4_ok nmX4 hown hK hP hD hS p1 (vW_k4 n_p1 g25) rfl 7 (by decide) (hts (.fieldLink RX5 64 "VaultDoorsLaw$Door" "opened" "I") (List.mem_of_getElem? (i := 3) rfl)) (fun _ h9 => h9) rfl (by decide +kernel) rfl rfl (Nat.le_of_ble_eq_true rfl) dX5_turn_42 (fun H locs hP hD hS => ?_)
        have hO40 := vOK.I (a := p1) (j := 7) (v := ((mi ((mI ((mI m0 p1 3 2)) p1 4 12)) p1 7) + 0)) hO38
        rw [vW_p4_7 (m := ((mI ((mI m0 p1 3 2)) p1 4 12))) n_p1 g25] at hP hD
        have hP : va_P D vwCl (vW tc ad N ((mI ((mI ((mI m0 p1 3 2)) p1 4 12)) p1 7 ((mi ((mI ((mI m0 p1 3 2)) p1 4 12)) p1 7) + 0)))) H := hP
        have hD : va_D A (vW tc ad N ((mI ((mI ((mI m0 p1 3 2)) p1 4 12)) p1 7 ((mi ((mI ((mI m0 p1 3 2)) p1 4 12)) p1 7) + 0)))) := hD
        refine lv_aload_n hx hb dX5_turn_45 rfl (lv_at hl 1 rfl) ?_
        refine lv_dup hx hb dX5_turn_46 rfl ?_
        refine va_get (D := D) (ci := 4) (v := .int (mi ((mI ((mI ((mI m0 p1 3 2)) p1 4 12)) p1 7 ((mi ((mI ((mI m0 p1 3 2)) p1 4 12)) p1 7) + 0))) p1 8)) (C := RX4) (T := TX4) (N := 9) hx hb hts in_X5_turn_X4 hown hK hP p1 (vW_k4 n_p1 g25) rfl 8 (by decide) (hts (.fieldLink RX5 67 "VaultDoorsLaw$Door" "barred" "I") (List.mem_of_getElem? (i := 4) rfl)) (fun _ h9 => h9) rfl dX5_turn_47 ?_
        refine lv_iload_n hx hb dX5_turn_50 rfl (lv_at hl 2 rfl) ?_
        refine lv_if_eq (tgt := 58) hx hb dX5_turn_51 (by decide) (fun c41 => ?_) (fun c41 => ?_)
        · rw [if_pos c41] at h
          refine lv_iconst (v := 1) hx hb dX5_turn_58 (by decide) ?_
          refine lv_iadd hx hb dX5_turn_59 ?_
          refine va_put (D := D) (ci := 4) (v := .int ((mi ((mI ((mI ((mI m0 p1 3 2)) p1 4 12)) p1 7 ((mi ((mI ((mI m0 p1 3 2)) p1 4 12)) p1 7) + 0))) p1 8) + 1)) (ty := .int) (C := RX4) (T := TX4) (N := 9) hx hb hts in_X5_turn_X4 tyX4 tyX4_ok nmX4 hown hK hP hD hS p1 (vW_k4 n_p1 g25) rfl 8 (by decide) (hts (.fieldLink RX5 67 "VaultDoorsLaw$Door" "barred" "I") (List.mem_of_getElem? (i := 4) rfl)) (fun _ h9 => h9) rfl (by decide +kernel) rfl rfl (Nat.le_of_ble_eq_true rfl) dX5_turn_60 (fun H locs hP hD hS => ?_)
          have hO42 := vOK.I (a := p1) (j := 8) (v := ((mi ((mI ((mI ((mI m0 p1 3 2)) p1 4 12)) p1 7 ((mi ((mI ((mI m0 p1 3 2)) p1 4 12)) p1 7) + 0))) p1 8) + 1)) hO40
          rw [vW_p4_8 (m := ((mI ((mI ((mI m0 p1 3 2)) p1 4 12)) p1 7 ((mi ((mI ((mI m0 p1 3 2)) p1 4 12)) p1 7) + 0)))) n_p1 g25] at hP hD
          have hP : va_P D vwCl (vW tc ad N ((mI ((mI ((mI ((mI m0 p1 3 2)) p1 4 12)) p1 7 ((mi ((mI ((mI m0 p1 3 2)) p1 4 12)) p1 7) + 0))) p1 8 ((mi ((mI ((mI ((mI m0 p1 3 2)) p1 4 12)) p1 7 ((mi ((mI ((mI m0 p1 3 2)) p1 4 12)) p1 7) + 0))) p1 8) + 1)))) H := hP
          have hD : va_D A (vW tc ad N ((mI ((mI ((mI ((mI m0 p1 3 2)) p1 4 12)) p1 7 ((mi ((mI ((mI m0 p1 3 2)) p1 4 12)) p1 7) + 0))) p1 8 ((mi ((mI ((mI ((mI m0 p1 3 2)) p1 4 12)) p1 7 ((mi ((mI ((mI m0 p1 3 2)) p1 4 12)) p1 7) + 0))) p1 8) + 1)))) := hD
          have hz := Option.some.inj h
          exact W.vret hx hb hr (fun t ht hW => ⟨⟨(), rfl, trivial, by rw [← hz]; exact hO42, by rw [ht, ← hz]; exact hP, va_K.moved hW.alike hK, by rw [← hz]; exact hD⟩, hS.F ht⟩) hS.2.2 dX5_turn_63
        · rw [if_neg c41] at h
          refine lv_iconst (v := 0) hx hb dX5_turn_54 (by decide) ?_
          refine lv_goto (tgt := 59) hx hb dX5_turn_55 (by decide) ?_
          refine lv_iadd hx hb dX5_turn_59 ?_
          refine va_put (D := D) (ci := 4) (v := .int ((mi ((mI ((mI ((mI m0 p1 3 2)) p1 4 12)) p1 7 ((mi ((mI ((mI m0 p1 3 2)) p1 4 12)) p1 7) + 0))) p1 8) + 0)) (ty := .int) (C := RX4) (T := TX4) (N := 9) hx hb hts in_X5_turn_X4 tyX4 tyX4_ok nmX4 hown hK hP hD hS p1 (vW_k4 n_p1 g25) rfl 8 (by decide) (hts (.fieldLink RX5 67 "VaultDoorsLaw$Door" "barred" "I") (List.mem_of_getElem? (i := 4) rfl)) (fun _ h9 => h9) rfl (by decide +kernel) rfl rfl (Nat.le_of_ble_eq_true rfl) dX5_turn_60 (fun H locs hP hD hS => ?_)
          have hO43 := vOK.I (a := p1) (j := 8) (v := ((mi ((mI ((mI ((mI m0 p1 3 2)) p1 4 12)) p1 7 ((mi ((mI ((mI m0 p1 3 2)) p1 4 12)) p1 7) + 0))) p1 8) + 0)) hO40
          rw [vW_p4_8 (m := ((mI ((mI ((mI m0 p1 3 2)) p1 4 12)) p1 7 ((mi ((mI ((mI m0 p1 3 2)) p1 4 12)) p1 7) + 0)))) n_p1 g25] at hP hD
          have hP : va_P D vwCl (vW tc ad N ((mI ((mI ((mI ((mI m0 p1 3 2)) p1 4 12)) p1 7 ((mi ((mI ((mI m0 p1 3 2)) p1 4 12)) p1 7) + 0))) p1 8 ((mi ((mI ((mI ((mI m0 p1 3 2)) p1 4 12)) p1 7 ((mi ((mI ((mI m0 p1 3 2)) p1 4 12)) p1 7) + 0))) p1 8) + 0)))) H := hP
          have hD : va_D A (vW tc ad N ((mI ((mI ((mI ((mI m0 p1 3 2)) p1 4 12)) p1 7 ((mi ((mI ((mI m0 p1 3 2)) p1 4 12)) p1 7) + 0))) p1 8 ((mi ((mI ((mI ((mI m0 p1 3 2)) p1 4 12)) p1 7 ((mi ((mI ((mI m0 p1 3 2)) p1 4 12)) p1 7) + 0))) p1 8) + 0)))) := hD
          have hz := Option.some.inj h
          exact W.vret hx hb hr (fun t ht hW => ⟨⟨(), rfl, trivial, by rw [← hz]; exact hO43, by rw [ht, ← hz]; exact hP, va_K.moved hW.alike hK, by rw [← hz]; exact hD⟩, hS.F ht⟩) hS.2.2 dX5_turn_63
      · rw [if_neg c39] at h
        refine lv_iconst (v := 1) hx hb dX5_turn_36 (by decide) ?_
        refine lv_goto (tgt := 41) hx hb dX5_turn_37 (by decide) ?_
        refine lv_iadd hx hb dX5_turn_41 ?_
        refine va_put (D := D) (ci := 4) (v := .int ((mi ((mI ((mI m0 p1 3 2)) p1 4 12)) p1 7) + 1)) (ty := .int) (C := RX4) (T := TX4) (N := 9) hx hb hts in_X5_turn_X4 tyX4 tyX4_ok nmX4 hown hK hP hD hS p1 (vW_k4 n_p1 g25) rfl 7 (by decide) (hts (.fieldLink RX5 64 "VaultDoorsLaw$Door" "opened" "I") (List.mem_of_getElem? (i := 3) rfl)) (fun _ h9 => h9) rfl (by decide +kernel) rfl rfl (Nat.le_of_ble_eq_true rfl) dX5_turn_42 (fun H locs hP hD hS => ?_)
        have hO44 := vOK.I (a := p1) (j := 7) (v := ((mi ((mI ((mI m0 p1 3 2)) p1 4 12)) p1 7) + 1)) hO38
        rw [vW_p4_7 (m := ((mI ((mI m0 p1 3 2)) p1 4 12))) n_p1 g25] at hP hD
        have hP : va_P D vwCl (vW tc ad N ((mI ((mI ((mI m0 p1 3 2)) p1 4 12)) p1 7 ((mi ((mI ((mI m0 p1 3 2)) p1 4 12)) p1 7) + 1)))) H := hP
        have hD : va_D A (vW tc ad N ((mI ((mI ((mI m0 p1 3 2)) p1 4 12)) p1 7 ((mi ((mI ((mI m0 p1 3 2)) p1 4 12)) p1 7) + 1)))) := hD
        refine lv_aload_n hx hb dX5_turn_45 rfl (lv_at hl 1 rfl) ?_
        refine lv_dup hx hb dX5_turn_46 rfl ?_
        refine va_get (D := D) (ci := 4) (v := .int (mi ((mI ((mI ((mI m0 p1 3 2)) p1 4 12)) p1 7 ((mi ((mI ((mI m0 p1 3 2)) p1 4 12)) p1 7) + 1))) p1 8)) (C := RX4) (T := TX4) (N := 9) hx hb hts in_X5_turn_X4 hown hK hP p1 (vW_k4 n_p1 g25) rfl 8 (by decide) (hts (.fieldLink RX5 67 "VaultDoorsLaw$Door" "barred" "I") (List.mem_of_getElem? (i := 4) rfl)) (fun _ h9 => h9) rfl dX5_turn_47 ?_
        refine lv_iload_n hx hb dX5_turn_50 rfl (lv_at hl 2 rfl) ?_
        refine lv_if_eq (tgt := 58) hx hb dX5_turn_51 (by decide) (fun c45 => ?_) (fun c45 => ?_)
        · rw [if_pos c45] at h
          refine lv_iconst (v := 1) hx hb dX5_turn_58 (by decide) ?_
          refine lv_iadd hx hb dX5_turn_59 ?_
          refine va_put (D := D) (ci := 4) (v := .int ((mi ((mI ((mI ((mI m0 p1 3 2)) p1 4 12)) p1 7 ((mi ((mI ((mI m0 p1 3 2)) p1 4 12)) p1 7) + 1))) p1 8) + 1)) (ty := .int) (C := RX4) (T := TX4) (N := 9) hx hb hts in_X5_turn_X4 tyX4 tyX4_ok nmX4 hown hK hP hD hS p1 (vW_k4 n_p1 g25) rfl 8 (by decide) (hts (.fieldLink RX5 67 "VaultDoorsLaw$Door" "barred" "I") (List.mem_of_getElem? (i := 4) rfl)) (fun _ h9 => h9) rfl (by decide +kernel) rfl rfl (Nat.le_of_ble_eq_true rfl) dX5_turn_60 (fun H locs hP hD hS => ?_)
          have hO46 := vOK.I (a := p1) (j := 8) (v := ((mi ((mI ((mI ((mI m0 p1 3 2)) p1 4 12)) p1 7 ((mi ((mI ((mI m0 p1 3 2)) p1 4 12)) p1 7) + 1))) p1 8) + 1)) hO44
          rw [vW_p4_8 (m := ((mI ((mI ((mI m0 p1 3 2)) p1 4 12)) p1 7 ((mi ((mI ((mI m0 p1 3 2)) p1 4 12)) p1 7) + 1)))) n_p1 g25] at hP hD
          have hP : va_P D vwCl (vW tc ad N ((mI ((mI ((mI ((mI m0 p1 3 2)) p1 4 12)) p1 7 ((mi ((mI ((mI m0 p1 3 2)) p1 4 12)) p1 7) + 1))) p1 8 ((mi ((mI ((mI ((mI m0 p1 3 2)) p1 4 12)) p1 7 ((mi ((mI ((mI m0 p1 3 2)) p1 4 12)) p1 7) + 1))) p1 8) + 1)))) H := hP
          have hD : va_D A (vW tc ad N ((mI ((mI ((mI ((mI m0 p1 3 2)) p1 4 12)) p1 7 ((mi ((mI ((mI m0 p1 3 2)) p1 4 12)) p1 7) + 1))) p1 8 ((mi ((mI ((mI ((mI m0 p1 3 2)) p1 4 12)) p1 7 ((mi ((mI ((mI m0 p1 3 2)) p1 4 12)) p1 7) + 1))) p1 8) + 1)))) := hD
          have hz := Option.some.inj h
          exact W.vret hx hb hr (fun t ht hW => ⟨⟨(), rfl, trivial, by rw [← hz]; exact hO46, by rw [ht, ← hz]; exact hP, va_K.moved hW.alike hK, by rw [← hz]; exact hD⟩, hS.F ht⟩) hS.2.2 dX5_turn_63
        · rw [if_neg c45] at h
          refine lv_iconst (v := 0) hx hb dX5_turn_54 (by decide) ?_
          refine lv_goto (tgt := 59) hx hb dX5_turn_55 (by decide) ?_
          refine lv_iadd hx hb dX5_turn_59 ?_
          refine va_put (D := D) (ci := 4) (v := .int ((mi ((mI ((mI ((mI m0 p1 3 2)) p1 4 12)) p1 7 ((mi ((mI ((mI m0 p1 3 2)) p1 4 12)) p1 7) + 1))) p1 8) + 0)) (ty := .int) (C := RX4) (T := TX4) (N := 9) hx hb hts in_X5_turn_X4 tyX4 tyX4_ok nmX4 hown hK hP hD hS p1 (vW_k4 n_p1 g25) rfl 8 (by decide) (hts (.fieldLink RX5 67 "VaultDoorsLaw$Door" "barred" "I") (List.mem_of_getElem? (i := 4) rfl)) (fun _ h9 => h9) rfl (by decide +kernel) rfl rfl (Nat.le_of_ble_eq_true rfl) dX5_turn_60 (fun H locs hP hD hS => ?_)
          have hO47 := vOK.I (a := p1) (j := 8) (v := ((mi ((mI ((mI ((mI m0 p1 3 2)) p1 4 12)) p1 7 ((mi ((mI ((mI m0 p1 3 2)) p1 4 12)) p1 7) + 1))) p1 8) + 0)) hO44
          rw [vW_p4_8 (m := ((mI ((mI ((mI m0 p1 3 2)) p1 4 12)) p1 7 ((mi ((mI ((mI m0 p1 3 2)) p1 4 12)) p1 7) + 1)))) n_p1 g25] at hP hD
          have hP : va_P D vwCl (vW tc ad N ((mI ((mI ((mI ((mI m0 p1 3 2)) p1 4 12)) p1 7 ((mi ((mI ((mI m0 p1 3 2)) p1 4 12)) p1 7) + 1))) p1 8 ((mi ((mI ((mI ((mI m0 p1 3 2)) p1 4 12)) p1 7 ((mi ((mI ((mI m0 p1 3 2)) p1 4 12)) p1 7) + 1))) p1 8) + 0)))) H := hP
          have hD : va_D A (vW tc ad N ((mI ((mI ((mI ((mI m0 p1 3 2)) p1 4 12)) p1 7 ((mi ((mI ((mI m0 p1 3 2)) p1 4 12)) p1 7) + 1))) p1 8 ((mi ((mI ((mI ((mI m0 p1 3 2)) p1 4 12)) p1 7 ((mi ((mI ((mI m0 p1 3 2)) p1 4 12)) p1 7) + 1))) p1 8) + 0)))) := hD
          have hz := Option.some.inj h
          exact W.vret hx hb hr (fun t ht hW => ⟨⟨(), rfl, trivial, by rw [← hz]; exact hO47, by rw [ht, ← hz]; exact hP, va_K.moved hW.alike hK, by rw [← hz]; exact hD⟩, hS.F ht⟩) hS.2.2 dX5_turn_63

noncomputable def f_X5_whisper (N : Nat) (m : vM) (p0 : Nat) (p1 : Int32) (p2 : Int32) : Option (Int32 × Nat × vM) :=
  if mk m p0 = 5 then
  Option.bind (mr m p0 0) fun y2 =>
  if mk m y2 = 9 then
  if vin p1 (ml m y2) then
  Option.bind (mr m y2 p1.toNatClampNeg) fun y6 =>
  if mk m y6 = 4 then
  if (mi m y6 3) = 0 then (
    Option.bind (mr m p0 0) fun y10 =>
    if mk m y10 = 9 then
    if vin p1 (ml m y10) then
    Option.bind (mr m y10 p1.toNatClampNeg) fun y14 =>
    if mk m y14 = 4 then
    if (mi m y14 0) = p2 then (
      Option.bind (f_X5_wake N m p0 p1) fun q18 =>
      some ((1 : Int32), q18.1, q18.2)
    ) else (
      Option.bind (mr m p0 0) fun y32 =>
      if mk m y32 = 9 then
      if vin p1 (ml m y32) then
      Option.bind (mr m y32 p1.toNatClampNeg) fun y36 =>
      Option.bind (f_X5_turn m p0 y36 ((0 : Int32))) fun q38 =>
      some ((0 : Int32), N, q38)
      else none
      else none
    )
    else none
    else none
    else none
  ) else (
    some ((0 : Int32), N, m)
  )
  else none
  else none
  else none
  else none
theorem in_X5_whisper_X4 : ∀ w ∈ wsX40, w ∈ wsX5_whisper := by decide +kernel
theorem in_X5_whisper_X5 : ∀ w ∈ wsX50, w ∈ wsX5_whisper := by decide +kernel
set_option maxHeartbeats 1000000 in
set_option maxRecDepth 100000 in
theorem cm_X5_whisper (l : Launch) (D : va_G) (tc : Nat → ClassId) (ad : Nat → Nat) {N : Nat} {m0 : vM} {sz : Nat} {p0 : Nat} {p1 : Int32} {p2 : Int32} (hO : vOK N m0) (n_p0 : p0 < N) {z : Int32 × Nat × vM} (h : f_X5_whisper N m0 p0 p1 p2 = some z) : Met l yX5_whisper wsX5_whisper ({ frames := 3, cells := 9, slots := 284, locals := 73 } : Room) (va_Pc [.ref (ad p0), .int p1, .int p2] (qW D tc ad N m0 sz)) (va_Qi (fun (r9 : Int32) (_ : Unit) => r9 = z.1) (fun _ t => vX D (va_A (vW tc ad N m0) sz) tc ad N z.2.1 z.2.2 t) (va_A (vW tc ad N m0) sz)) 9 284 (va_A (vW tc ad N m0) sz) := by
  refine Met.ofW (cc := cX5_whisper) (maxL := 3) (ret := (some .boolean)) (by decide) rfl ?_
  intro p e s m args below meth c s₁ B hml hv
  obtain ⟨rfl, hsz, hP, hK, hD0, hZ⟩ := hv
  have hx := B.exec
  have hb := B.bytes
  have hr := B.returns
  have hts := atoms_spec (ws := wsX5_whisper) B.pre
  have hown : s.vm.findClass RX5 = some m.cls := findClass_of_methodNamed B.named
  have hlocks := B.notSynchronized
  subst hsz
  have hD := hD0.self (sz := s.heap.size)
  generalize hAe : va_A (vW tc ad N m0) s.heap.size = A at hD ⊢
  have hA : ∀ q : Nat, s.heap.size ≤ q → A q := fun q h => by rw [← hAe]; exact Or.inr h
  have hS : va_S A s.heap s.heap [] := va_S.rf
  have hl := lv_entry ([.ref (ad p0), .int p1, .int p2]) (n := 3) (Nat.le_of_ble_eq_true rfl)
  rw [lg_entry_eq]
  generalize (lg_sl ([.ref (ad p0), .int p1, .int p2]) ++ List.replicate (3 - (lg_sl ([.ref (ad p0), .int p1, .int p2])).length) Slot.unset).toArray = ls at hl ⊢
  have hl : lv_has ls 3 [(0, .ref (ad p0)), (1, .int p1), (2, .int p2)] := hl
  unfold f_X5_whisper at h
  refine lv_aload_n hx hb dX5_whisper_0 rfl (lv_at hl 0 rfl) ?_
  obtain ⟨g1, h⟩ := vg_if h
  obtain ⟨y2, g3, h⟩ := vg_bind h
  have n_y2 := hO _ _ _ g3
  refine va_get (D := D) (ci := 5) (v := .ref (ad y2)) (C := RX5) (T := TX5) (N := 4) hx hb hts in_X5_whisper_X5 hown hK hP p0 (vW_k5 n_p0 g1) rfl 0 (by decide) (hts (.fieldLink RX5 9 "VaultDoorsLaw$Sim" "doors" "[LVaultDoorsLaw$Door;") (List.mem_of_getElem? (i := 1) rfl)) (fun _ h9 => h9) (by show some (va_rf (Option.map ad (mr m0 p0 0))) = _; rw [g3]; rfl) dX5_whisper_1 ?_
  refine lv_iload_n hx hb dX5_whisper_4 rfl (lv_at hl 1 rfl) ?_
  obtain ⟨g4, h⟩ := vg_if h
  obtain ⟨g5, h⟩ := vg_if h
  obtain ⟨y6, g7, h⟩ := vg_bind h
  have n_y6 := hO _ _ _ g7
  refine va_aldq (D := D) hx hb hK hP y2 3 (vW_k9 n_y2 g4) rfl (i := p1) g5 dX5_whisper_5 ?_
  refine W.eq (g2 := F0 m 6 ls [.ref (ad y6)]) (by show F0 m 6 ls (va_rf (Option.map ad (mr m0 y2 p1.toNatClampNeg)) :: _) = _; rw [g7]; rfl) ?_
  obtain ⟨g8, h⟩ := vg_if h
  refine va_get (D := D) (ci := 4) (v := .int (mi m0 y6 3)) (C := RX4) (T := TX4) (N := 9) hx hb hts in_X5_whisper_X4 hown hK hP y6 (vW_k4 n_y6 g8) rfl 3 (by decide) (hts (.fieldLink RX5 48 "VaultDoorsLaw$Door" "state" "I") (List.mem_of_getElem? (i := 2) rfl)) (fun _ h9 => h9) rfl dX5_whisper_6 ?_
  refine lv_if_eq (tgt := 14) hx hb dX5_whisper_9 (by decide) (fun c9 => ?_) (fun c9 => ?_)
  · rw [if_pos c9] at h
    refine lv_aload_n hx hb dX5_whisper_14 rfl (lv_at hl 0 rfl) ?_
    obtain ⟨y10, g11, h⟩ := vg_bind h
    have n_y10 := hO _ _ _ g11
    refine va_get (D := D) (ci := 5) (v := .ref (ad y10)) (C := RX5) (T := TX5) (N := 4) hx hb hts in_X5_whisper_X5 hown hK hP p0 (vW_k5 n_p0 g1) rfl 0 (by decide) (hts (.fieldLink RX5 9 "VaultDoorsLaw$Sim" "doors" "[LVaultDoorsLaw$Door;") (List.mem_of_getElem? (i := 1) rfl)) (fun _ h9 => h9) (by show some (va_rf (Option.map ad (mr m0 p0 0))) = _; rw [g11]; rfl) dX5_whisper_15 ?_
    refine lv_iload_n hx hb dX5_whisper_18 rfl (lv_at hl 1 rfl) ?_
    obtain ⟨g12, h⟩ := vg_if h
    obtain ⟨g13, h⟩ := vg_if h
    obtain ⟨y14, g15, h⟩ := vg_bind h
    have n_y14 := hO _ _ _ g15
    refine va_aldq (D := D) hx hb hK hP y10 3 (vW_k9 n_y10 g12) rfl (i := p1) g13 dX5_whisper_19 ?_
    refine W.eq (g2 := F0 m 20 ls [.ref (ad y14)]) (by show F0 m 20 ls (va_rf (Option.map ad (mr m0 y10 p1.toNatClampNeg)) :: _) = _; rw [g15]; rfl) ?_
    obtain ⟨g16, h⟩ := vg_if h
    refine va_get (D := D) (ci := 4) (v := .int (mi m0 y14 0)) (C := RX4) (T := TX4) (N := 9) hx hb hts in_X5_whisper_X4 hown hK hP y14 (vW_k4 n_y14 g16) rfl 0 (by decide) (hts (.fieldLink RX5 31 "VaultDoorsLaw$Door" "secret" "I") (List.mem_of_getElem? (i := 3) rfl)) (fun _ h9 => h9) rfl dX5_whisper_20 ?_
    refine lv_iload_n hx hb dX5_whisper_23 rfl (lv_at hl 2 rfl) ?_
    refine lv_icmp_eq (tgt := 40) hx hb dX5_whisper_24 (by decide) (fun c17 => ?_) (fun c17 => ?_)
    · rw [if_pos c17] at h
      refine lv_aload_n hx hb dX5_whisper_40 rfl (lv_at hl 0 rfl) ?_
      refine lv_iload_n hx hb dX5_whisper_41 rfl (lv_at hl 1 rfl) ?_
      obtain ⟨q18, g19, h⟩ := vg_bind h
      have hFc := vm_free hD hS hA
      refine va_callv (va_runV (As := [.int p1]) (rest := []) ⟨hx, hb, hml, hown, hts⟩ (cm_X5_wake (m0 := m0) l D tc ad hO n_p0 g19) (cwV 1 hts gX5_whisper_X5_wake rfl rfl rfl (by decide +kernel) ⟨(Nat.le_of_ble_eq_true rfl), (Nat.le_of_ble_eq_true rfl)⟩) ⟨qW_blind, va_recv hK hP (ci := 5) (q0 := p0) rfl (vW_k5 n_p0 g1), qW_pre hP hD hK hZ⟩ rfl rfl hl.1 rfl (lv_room (Nat.le_of_ble_eq_true rfl)) dX5_whisper_42 ⟨(Nat.le_of_ble_eq_true rfl), (Nat.le_of_ble_eq_true rfl)⟩) hS (fun q9 _ h9 => hFc q9 h9) hFc (fun u t H1 locs ht hvm hw hB hz1 hk1 hS => ?_)
      obtain ⟨ad21, e22, e23, hO24, hP1, hK1, hD1⟩ := hB
      rw [ht] at hP1
      have hP := hP1
      have hD := hD1.weaken (fun _ q9 _ h9 => hFc q9.1 h9)
      generalize H1 = H at hP hS ⊢
      clear hk1 hz1 ht hvm
      have hl : lv_has ls 3 [(0, .ref (ad21 p0)), (1, .int p1), (2, .int p2)] := by rw [e22 p0 n_p0]; exact hl
      have e25 : ∀ k, k < N → ad21 k = ad k := fun k hk => (e22 k (Nat.lt_of_lt_of_le hk (Nat.le_refl _))).trans ((fun _ _ => rfl) k hk)
      have e26 : N ≤ q18.1 := Nat.le_trans (Nat.le_refl _) e23
      have n27 : p0 < q18.1 := Nat.lt_of_lt_of_le n_p0 e23
      have n28 : y2 < q18.1 := Nat.lt_of_lt_of_le n_y2 e23
      have n29 : y6 < q18.1 := Nat.lt_of_lt_of_le n_y6 e23
      have n30 : y10 < q18.1 := Nat.lt_of_lt_of_le n_y10 e23
      have n31 : y14 < q18.1 := Nat.lt_of_lt_of_le n_y14 e23
      have hP : va_P D vwCl (vW tc ad21 q18.1 q18.2) H := hP
      have hD : va_D A (vW tc ad21 q18.1 q18.2) := hD
      refine lv_iconst (v := 1) hx hb dX5_whisper_45 (by decide) ?_
      have hz := Option.some.inj h
      refine W.widen (k := 9) (n := 284) (Nat.le_of_ble_eq_true rfl) (Nat.le_of_ble_eq_true rfl) ?_
      exact W.zret (v := 1) (ty := .boolean) hx hb hr (by decide) (fun t ht hW => ⟨⟨_, (), rfl, by rw [← hz], by rw [← hz]; exact ⟨ad21, e25, e26, hO24, by rw [ht]; exact hP, va_K.moved hW.alike hK, hD⟩⟩, hS.F ht⟩) hS.2.2 dX5_whisper_46
    · rw [if_neg c17] at h
      refine lv_aload_n hx hb dX5_whisper_27 rfl (lv_at hl 0 rfl) ?_
      refine lv_aload_n hx hb dX5_whisper_28 rfl (lv_at hl 0 rfl) ?_
      obtain ⟨y32, g33, h⟩ := vg_bind h
      have n_y32 := hO _ _ _ g33
      refine va_get (D := D) (ci := 5) (v := .ref (ad y32)) (C := RX5) (T := TX5) (N := 4) hx hb hts in_X5_whisper_X5 hown hK hP p0 (vW_k5 n_p0 g1) rfl 0 (by decide) (hts (.fieldLink RX5 9 "VaultDoorsLaw$Sim" "doors" "[LVaultDoorsLaw$Door;") (List.mem_of_getElem? (i := 1) rfl)) (fun _ h9 => h9) (by show some (va_rf (Option.map ad (mr m0 p0 0))) = _; rw [g33]; rfl) dX5_whisper_29 ?_
      refine lv_iload_n hx hb dX5_whisper_32 rfl (lv_at hl 1 rfl) ?_
      obtain ⟨g34, h⟩ := vg_if h
      obtain ⟨g35, h⟩ := vg_if h
      obtain ⟨y36, g37, h⟩ := vg_bind h
      have n_y36 := hO _ _ _ g37
      refine va_aldq (D := D) hx hb hK hP y32 3 (vW_k9 n_y32 g34) rfl (i := p1) g35 dX5_whisper_33 ?_
      refine W.eq (g2 := F0 m 34 ls [.ref (ad y36), .ref (ad p0)]) (by show F0 m 34 ls (va_rf (Option.map ad (mr m0 y32 p1.toNatClampNeg)) :: _) = _; rw [g37]; rfl) ?_
      refine lv_iconst (v := 0) hx hb dX5_whisper_34 (by decide) ?_
      obtain ⟨q38, g39, h⟩ := vg_bind h
      have hFc := vm_free hD hS hA
      refine va_callv (va_runV (As := [.ref (ad y36), .int 0]) (rest := []) ⟨hx, hb, hml, hown, hts⟩ (cm_X5_turn (m0 := m0) l D tc ad hO n_p0 n_y36 g39) (cwV 2 hts gX5_whisper_X5_turn rfl rfl rfl (by decide +kernel) ⟨(Nat.le_of_ble_eq_true rfl), (Nat.le_of_ble_eq_true rfl)⟩) ⟨qW_blind, va_recv hK hP (ci := 5) (q0 := p0) rfl (vW_k5 n_p0 g1), qW_pre hP hD hK hZ⟩ rfl rfl hl.1 rfl (lv_room (Nat.le_of_ble_eq_true rfl)) dX5_whisper_35 ⟨(Nat.le_of_ble_eq_true rfl), (Nat.le_of_ble_eq_true rfl)⟩) hS (fun q9 _ h9 => hFc q9 h9) hFc (fun u t H1 locs ht hvm hw hB hz1 hk1 hS => ?_)
      obtain ⟨hO41, hP1, hK1, hD1⟩ := hB
      rw [ht] at hP1
      have hP := hP1
      have hD := hD1.weaken (fun _ q9 _ h9 => hFc q9.1 h9)
      generalize H1 = H at hP hS ⊢
      have hP : va_P D vwCl (vW tc ad N q38) H := hP
      have hD : va_D A (vW tc ad N q38) := hD
      clear hk1 hz1 ht hvm
      refine lv_iconst (v := 0) hx hb dX5_whisper_38 (by decide) ?_
      have hz := Option.some.inj h
      refine W.widen (k := 9) (n := 284) (Nat.le_of_ble_eq_true rfl) (Nat.le_of_ble_eq_true rfl) ?_
      exact W.zret (v := 0) (ty := .boolean) hx hb hr (by decide) (fun t ht hW => ⟨⟨_, (), rfl, by rw [← hz], by rw [← hz]; exact ⟨ad, (fun _ _ => rfl), (Nat.le_refl _), hO41, by rw [ht]; exact hP, va_K.moved hW.alike hK, hD⟩⟩, hS.F ht⟩) hS.2.2 dX5_whisper_39
  · rw [if_neg c9] at h
    refine lv_iconst (v := 0) hx hb dX5_whisper_12 (by decide) ?_
    have hz := Option.some.inj h
    refine W.widen (k := 9) (n := 284) (Nat.le_of_ble_eq_true rfl) (Nat.le_of_ble_eq_true rfl) ?_
    exact W.zret (v := 0) (ty := .boolean) hx hb hr (by decide) (fun t ht hW => ⟨⟨_, (), rfl, by rw [← hz], by rw [← hz]; exact ⟨ad, (fun _ _ => rfl), (Nat.le_refl _), hO, by rw [ht]; exact hP, va_K.moved hW.alike hK, hD⟩⟩, hS.F ht⟩) hS.2.2 dX5_whisper_13

noncomputable def fB_X5_hear_27 (rec : Nat → Nat → vM → Nat → Nat → Nat → Nat → Nat → Nat → Int32 → Int32 → Option (Nat × vM)) (N : Nat) (m : vM) (kc ks : Nat) (r0 : Nat) (r1 : Nat) (r2 : Nat) (r3 : Nat) (i4 : Int32) (i5 : Int32) : Option (Nat × vM) :=
  if i4 ≤ i5 then (
    some (N, m)
  ) else (
    if mk m r3 = 8 then
    if vin i5 (ml m r3) then
    Option.bind (mr m r3 i5.toNatClampNeg) fun y4 =>
    if mk m y4 = 6 then
    if vin (0 : Int32) (ml m y4) then
    if mk m r1 = 6 then
    if vin (0 : Int32) (ml m r1) then
    if (mi m y4 0) = (mi m r1 0) then (
      if mk m r2 = 4 then
      if (mi m r2 3) = 1 then (
        if vin (2 : Int32) (ml m y4) then
        if 0 ≤ (mi m y4 2) then (
          rec 27 N m kc ks r0 r1 r2 r3 i4 (i5 + 1)
        ) else (
          if vin (2 : Int32) (ml m r1) then
          if vin (2 : Int32) (ml m y4) then
          rec 27 N ((mI m y4 2 ((mi m r1 2) - 1))) kc ks r0 r1 r2 r3 i4 (i5 + 1)
          else none
          else none
        )
        else none
      ) else (
        rec 27 N m kc ks r0 r1 r2 r3 i4 (i5 + 1)
      )
      else none
    ) else (
      rec 27 N m kc ks r0 r1 r2 r3 i4 (i5 + 1)
    )
    else none
    else none
    else none
    else none
    else none
    else none
  )
noncomputable def fL_X5_hear (n : Nat) : Nat → Nat → vM → Nat → Nat → Nat → Nat → Nat → Nat → Int32 → Int32 → Option (Nat × vM) := Nat.rec (fun _ _ _ _ _ _ _ _ _ _ _ => none) (fun _ rec pc N m kc ks r0 r1 r2 r3 i4 i5 => if pc = 27 then fB_X5_hear_27 rec N m kc ks r0 r1 r2 r3 i4 i5 else none) n
noncomputable def f_X5_hear (N : Nat) (m : vM) (p0 : Nat) (p1 : Nat) : Option (Nat × vM) :=
  if mk m p0 = 5 then
  Option.bind (mr m p0 0) fun y2 =>
  if mk m p1 = 6 then
  if vin (1 : Int32) (ml m p1) then
  if mk m y2 = 9 then
  if vin (mi m p1 1) (ml m y2) then
  Option.bind (mr m y2 (mi m p1 1).toNatClampNeg) fun y8 =>
  if vin (2 : Int32) (ml m p1) then
  if (mi m p1 2) ≤ 0 then (
    if mk m y8 = 4 then
    if (mi m y8 3) ≤ 1 then (
      if (mi m y8 3) = 0 then (
        if vin (1 : Int32) (ml m p1) then
        Option.bind (f_X5_wake N m p0 ((mi m p1 1))) fun q16 =>
        if mk q16.2 y8 = 4 then
        Option.bind (mr q16.2 y8 6) fun y30 =>
        if mk ((mN q16.2 q16.1 6 2)) p1 = 6 then
        if vin (0 : Int32) (ml ((mN q16.2 q16.1 6 2)) p1) then
        if vin (0 : Int32) (ml ((mN q16.2 q16.1 6 2)) q16.1) then
        if vin (4 : Int32) (ml ((mI ((mN q16.2 q16.1 6 2)) q16.1 0 (mi ((mN q16.2 q16.1 6 2)) p1 0))) p1) then
        if vin (1 : Int32) (ml ((mI ((mN q16.2 q16.1 6 2)) q16.1 0 (mi ((mN q16.2 q16.1 6 2)) p1 0))) q16.1) then
        Option.bind (f_X5_more ((q16.1 + 1)) ((mI ((mI ((mN q16.2 q16.1 6 2)) q16.1 0 (mi ((mN q16.2 q16.1 6 2)) p1 0))) q16.1 1 (mi ((mI ((mN q16.2 q16.1 6 2)) q16.1 0 (mi ((mN q16.2 q16.1 6 2)) p1 0))) p1 4))) y30 q16.1) fun q49 =>
        if mk q49.2.2 y8 = 4 then
        some (q49.2.1, (mR q49.2.2 y8 6 (some q49.1)))
        else none
        else none
        else none
        else none
        else none
        else none
        else none
        else none
      ) else (
        Option.bind (mr m y8 6) fun y67 =>
        if vin (0 : Int32) (ml ((mN m N 6 2)) p1) then
        if vin (0 : Int32) (ml ((mN m N 6 2)) N) then
        if vin (4 : Int32) (ml ((mI ((mN m N 6 2)) N 0 (mi ((mN m N 6 2)) p1 0))) p1) then
        if vin (1 : Int32) (ml ((mI ((mN m N 6 2)) N 0 (mi ((mN m N 6 2)) p1 0))) N) then
        Option.bind (f_X5_more ((N + 1)) ((mI ((mI ((mN m N 6 2)) N 0 (mi ((mN m N 6 2)) p1 0))) N 1 (mi ((mI ((mN m N 6 2)) N 0 (mi ((mN m N 6 2)) p1 0))) p1 4))) y67 N) fun q85 =>
        if mk q85.2.2 y8 = 4 then
        some (q85.2.1, (mR q85.2.2 y8 6 (some q85.1)))
        else none
        else none
        else none
        else none
        else none
      )
    ) else (
      if vin (1 : Int32) (ml m p1) then
      if vin (0 : Int32) (ml m p1) then
      if (mi m y8 3) = 2 then (
        if vin (4 : Int32) (ml m p1) then
        Option.bind (f_X5_send N m p0 ((mi m p1 1)) ((mi m p1 0)) ((2 : Int32)) ((mi m p1 4))) fun q107 =>
        some (q107.1, q107.2)
        else none
      ) else (
        if vin (4 : Int32) (ml m p1) then
        Option.bind (f_X5_send N m p0 ((mi m p1 1)) ((mi m p1 0)) ((1 : Int32)) ((mi m p1 4))) fun q121 =>
        some (q121.1, q121.2)
        else none
      )
      else none
      else none
    )
    else none
  ) else (
    if mk m y8 = 4 then
    Option.bind (mr m y8 5) fun y135 =>
    if mk m y135 = 8 then
    fL_X5_hear vF 27 N m 0 0 p0 p1 y8 y135 (Int32.ofNat (ml m y135)) (0 : Int32)
    else none
    else none
  )
  else none
  else none
  else none
  else none
  else none
  else none
theorem in_X5_hear_X4 : ∀ w ∈ wsX40, w ∈ wsX5_hear := by decide +kernel
theorem in_X5_hear_X5 : ∀ w ∈ wsX50, w ∈ wsX5_hear := by decide +kernel
set_option maxHeartbeats 1000000 in
set_option maxRecDepth 100000 in
theorem cm_X5_hear (l : Launch) (D : va_G) (tc : Nat → ClassId) (ad : Nat → Nat) {N : Nat} {m0 : vM} {sz : Nat} {p0 : Nat} {p1 : Nat} (hO : vOK N m0) (n_p0 : p0 < N) (n_p1 : p1 < N) {z : Nat × vM} (h : f_X5_hear N m0 p0 p1 = some z) : Met l yX5_hear wsX5_hear ({ frames := 3, cells := 11, slots := 352, locals := 73 } : Room) (va_Pc [.ref (ad p0), .ref (ad p1)] (qW D tc ad N m0 sz)) (va_Qv (fun (_ : Unit) => True) (fun _ t => vX D (va_A (vW tc ad N m0) sz) tc ad N z.1 z.2 t) (va_A (vW tc ad N m0) sz)) 11 352 (va_A (vW tc ad N m0) sz) := by
  refine Met.ofW (cc := cX5_hear) (maxL := 7) (ret := none) (by decide) rfl ?_
  intro p e s m args below meth c s₁ B hml hv
  obtain ⟨rfl, hsz, hP, hK, hD0, hZ⟩ := hv
  have hx := B.exec
  have hb := B.bytes
  have hr := B.returns
  have hts := atoms_spec (ws := wsX5_hear) B.pre
  have hown : s.vm.findClass RX5 = some m.cls := findClass_of_methodNamed B.named
  have hlocks := B.notSynchronized
  subst hsz
  have hD := hD0.self (sz := s.heap.size)
  generalize hAe : va_A (vW tc ad N m0) s.heap.size = A at hD ⊢
  have hA : ∀ q : Nat, s.heap.size ≤ q → A q := fun q h => by rw [← hAe]; exact Or.inr h
  have hS : va_S A s.heap s.heap [] := va_S.rf
  have hl := lv_entry ([.ref (ad p0), .ref (ad p1)]) (n := 7) (Nat.le_of_ble_eq_true rfl)
  rw [lg_entry_eq]
  generalize (lg_sl ([.ref (ad p0), .ref (ad p1)]) ++ List.replicate (7 - (lg_sl ([.ref (ad p0), .ref (ad p1)])).length) Slot.unset).toArray = ls at hl ⊢
  have hl : lv_has ls 7 [(0, .ref (ad p0)), (1, .ref (ad p1))] := hl
  have hL : ∀ n : Nat, (∀ (NL : Nat) (adL : Nat → Nat) (m1 : vM) (kc ks : Nat) (r0 : Nat) (r1 : Nat) (r2 : Nat) (r3 : Nat) (i4 : Int32) (i5 : Int32) (H : Heap) (locs : List Loc) (ls : Array Slot), N ≤ NL → (∀ k, k < N → adL k = ad k) → kc ≤ 11 → ks ≤ 352 → vOK NL m1 → r0 < NL → r1 < NL → r2 < NL → r3 < NL → fL_X5_hear n 27 NL m1 kc ks r0 r1 r2 r3 i4 i5 = some z → va_P D vwCl (vW tc adL NL m1) H → va_D A (vW tc adL NL m1) → va_S A s.heap H locs → lv_has ls 7 [(0, .ref (adL r0)), (1, .ref (adL r1)), (2, .ref (adL r2)), (3, .ref (adL r3)), (4, .int i4), (5, .int i5)] → W p l e (headSpec wsX5_hear ({ frames := 3, cells := 11, slots := 352, locals := 73 } : Room)).room s m ([.ref (ad p0), .ref (ad p1)] : List Value).toArray below meth c H locs kc ks (MQ below (va_Qv (fun (_ : Unit) => True) (fun _ t => vX D A tc ad N z.1 z.2 t) A) ([.ref (ad p0), .ref (ad p1)] : List Value).toArray s 11 352 A) (F0 m 27 ls [])) := by
    intro n
    induction n with
    | zero => exact (fun _ _ _ _ _ _ _ _ _ _ _ _ _ _ _ _ _ _ _ _ _ _ _ h9 _ _ _ _ => by have h9 : (none : Option (Nat × vM)) = some z := h9; cases h9)
    | succ n ih =>
      · intro NL adL m1 kc ks r0 r1 r2 r3 i4 i5 H locs ls hNN hE hc hs hO n_r0 n_r1 n_r2 n_r3 h hP hD hS hl
        have h : fB_X5_hear_27 (fL_X5_hear n) NL m1 kc ks r0 r1 r2 r3 i4 i5 = some z := h
        unfold fB_X5_hear_27 at h
        refine lv_iload hx hb dX5_hear_27 (lv_at hl 5 rfl) ?_
        refine lv_iload hx hb dX5_hear_29 (lv_at hl 4 rfl) ?_
        refine lv_icmp_ge (tgt := 80) hx hb dX5_hear_31 (by decide) (fun c1 => ?_) (fun c1 => ?_)
        · rw [if_pos c1] at h
          refine lv_goto (tgt := 160) hx hb dX5_hear_80 (by decide) ?_
          have hz := Option.some.inj h
          refine W.widen (k := 11) (n := 352) hc hs ?_
          exact W.vret hx hb hr (fun t ht hW => ⟨⟨(), rfl, trivial, by rw [← hz]; exact ⟨adL, hE, hNN, hO, by rw [ht]; exact hP, va_K.moved hW.alike hK, hD⟩⟩, hS.F ht⟩) hS.2.2 dX5_hear_160
        · rw [if_neg c1] at h
          refine lv_aload_n hx hb dX5_hear_34 rfl (lv_at hl 3 rfl) ?_
          refine lv_iload hx hb dX5_hear_35 (lv_at hl 5 rfl) ?_
          obtain ⟨g2, h⟩ := vg_if h
          obtain ⟨g3, h⟩ := vg_if h
          obtain ⟨y4, g5, h⟩ := vg_bind h
          have n_y4 := hO _ _ _ g5
          refine wm_aald8 hx hb hK hP n_r3 g2 (i := i5) g3 dX5_hear_37 ?_
          refine W.eq (g2 := F0 m 38 ls [.ref (adL y4)]) (by show F0 m 38 ls (va_rf (Option.map adL (mr m1 r3 i5.toNatClampNeg)) :: _) = _; rw [g5]; rfl) ?_
          refine lv_astore (lv' := [(6, .ref (adL y4)), (0, .ref (adL r0)), (1, .ref (adL r1)), (2, .ref (adL r2)), (3, .ref (adL r3)), (4, .int i4), (5, .int i5)]) hx hb dX5_hear_38 hl (by decide) rfl (fun ls hl => ?_)
          refine lv_aload hx hb dX5_hear_40 (lv_at hl 0 rfl) ?_
          refine lv_iconst (v := 0) hx hb dX5_hear_42 (by decide) ?_
          obtain ⟨g6, h⟩ := vg_if h
          obtain ⟨g7, h⟩ := vg_if h
          refine va_iald (D := D) hx hb hK hP y4 0 (vW_k6 n_y4 g6) rfl (i := 0) g7 dX5_hear_43 ?_
          refine W.eq (g2 := F0 m 44 ls [.int (mi m1 y4 0)]) rfl ?_
          refine lv_aload_n hx hb dX5_hear_44 rfl (lv_at hl 2 rfl) ?_
          refine lv_iconst (v := 0) hx hb dX5_hear_45 (by decide) ?_
          obtain ⟨g8, h⟩ := vg_if h
          obtain ⟨g9, h⟩ := vg_if h
          refine va_iald (D := D) hx hb hK hP r1 0 (vW_k6 n_r1 g8) rfl (i := 0) g9 dX5_hear_46 ?_
          refine W.eq (g2 := F0 m 47 ls [.int (mi m1 r1 0), .int (mi m1 y4 0)]) rfl ?_
          refine lv_icmp_ne (tgt := 74) hx hb dX5_hear_47 (by decide) (fun c10 => ?_) (fun c10 => ?_)
          · rw [if_neg c10] at h
            refine lv_iinc (v := i5 + 1) (lv' := [(5, .int (i5 + 1)), (6, .ref (adL y4)), (0, .ref (adL r0)), (1, .ref (adL r1)), (2, .ref (adL r2)), (3, .ref (adL r3)), (4, .int i4)]) hx hb dX5_hear_74 hl (k := 6) rfl rfl (by decide) rfl (fun ls hl => ?_)
            refine lv_goto (tgt := 27) hx hb dX5_hear_77 (by decide) ?_
            exact (ih) NL adL m1 kc ks r0 r1 r2 r3 i4 (i5 + 1) _ _ _ hNN hE hc hs hO n_r0 n_r1 n_r2 n_r3 h hP hD hS (lv_sub hl (l' := [(0, .ref (adL r0)), (1, .ref (adL r1)), (2, .ref (adL r2)), (3, .ref (adL r3)), (4, .int i4), (5, .int (i5 + 1))]) [2, 3, 4, 5, 6, 0] rfl)
          · rw [if_pos c10] at h
            refine lv_aload_n hx hb dX5_hear_50 rfl (lv_at hl 3 rfl) ?_
            obtain ⟨g11, h⟩ := vg_if h
            refine va_get (D := D) (ci := 4) (v := .int (mi m1 r2 3)) (C := RX4) (T := TX4) (N := 9) hx hb hts in_X5_hear_X4 hown hK hP r2 (vW_k4 n_r2 g11) rfl 3 (by decide) (hts (.fieldLink RX5 48 "VaultDoorsLaw$Door" "state" "I") (List.mem_of_getElem? (i := 3) rfl)) (fun _ h9 => h9) rfl dX5_hear_51 ?_
            refine lv_iconst (v := 1) hx hb dX5_hear_54 (by decide) ?_
            refine lv_icmp_ne (tgt := 74) hx hb dX5_hear_55 (by decide) (fun c12 => ?_) (fun c12 => ?_)
            · rw [if_neg c12] at h
              refine lv_iinc (v := i5 + 1) (lv' := [(5, .int (i5 + 1)), (6, .ref (adL y4)), (0, .ref (adL r0)), (1, .ref (adL r1)), (2, .ref (adL r2)), (3, .ref (adL r3)), (4, .int i4)]) hx hb dX5_hear_74 hl (k := 6) rfl rfl (by decide) rfl (fun ls hl => ?_)
              refine lv_goto (tgt := 27) hx hb dX5_hear_77 (by decide) ?_
              exact (ih) NL adL m1 kc ks r0 r1 r2 r3 i4 (i5 + 1) _ _ _ hNN hE hc hs hO n_r0 n_r1 n_r2 n_r3 h hP hD hS (lv_sub hl (l' := [(0, .ref (adL r0)), (1, .ref (adL r1)), (2, .ref (adL r2)), (3, .ref (adL r3)), (4, .int i4), (5, .int (i5 + 1))]) [2, 3, 4, 5, 6, 0] rfl)
            · rw [if_pos c12] at h
              refine lv_aload hx hb dX5_hear_58 (lv_at hl 0 rfl) ?_
              refine lv_iconst (v := 2) hx hb dX5_hear_60 (by decide) ?_
              obtain ⟨g13, h⟩ := vg_if h
              refine va_iald (D := D) hx hb hK hP y4 0 (vW_k6 n_y4 g6) rfl (i := 2) g13 dX5_hear_61 ?_
              refine W.eq (g2 := F0 m 62 ls [.int (mi m1 y4 2)]) rfl ?_
              refine lv_if_ge (tgt := 74) hx hb dX5_hear_62 (by decide) (fun c14 => ?_) (fun c14 => ?_)
              · rw [if_pos c14] at h
                refine lv_iinc (v := i5 + 1) (lv' := [(5, .int (i5 + 1)), (6, .ref (adL y4)), (0, .ref (adL r0)), (1, .ref (adL r1)), (2, .ref (adL r2)), (3, .ref (adL r3)), (4, .int i4)]) hx hb dX5_hear_74 hl (k := 6) rfl rfl (by decide) rfl (fun ls hl => ?_)
                refine lv_goto (tgt := 27) hx hb dX5_hear_77 (by decide) ?_
                exact (ih) NL adL m1 kc ks r0 r1 r2 r3 i4 (i5 + 1) _ _ _ hNN hE hc hs hO n_r0 n_r1 n_r2 n_r3 h hP hD hS (lv_sub hl (l' := [(0, .ref (adL r0)), (1, .ref (adL r1)), (2, .ref (adL r2)), (3, .ref (adL r3)), (4, .int i4), (5, .int (i5 + 1))]) [2, 3, 4, 5, 6, 0] rfl)
              · rw [if_neg c14] at h
                refine lv_aload hx hb dX5_hear_65 (lv_at hl 0 rfl) ?_
                refine lv_iconst (v := 2) hx hb dX5_hear_67 (by decide) ?_
                refine lv_aload_n hx hb dX5_hear_68 rfl (lv_at hl 2 rfl) ?_
                refine lv_iconst (v := 2) hx hb dX5_hear_69 (by decide) ?_
                obtain ⟨g15, h⟩ := vg_if h
                refine va_iald (D := D) hx hb hK hP r1 0 (vW_k6 n_r1 g8) rfl (i := 2) g15 dX5_hear_70 ?_
                refine W.eq (g2 := F0 m 71 ls [.int (mi m1 r1 2), .int 2, .ref (adL y4)]) rfl ?_
                refine lv_iconst (v := 1) hx hb dX5_hear_71 (by decide) ?_
                refine lv_isub hx hb dX5_hear_72 ?_
                obtain ⟨g16, h⟩ := vg_if h
                refine va_iast (D := D) hx hb hK hP hD hS y4 0 (vW_k6 n_y4 g6) rfl (i := 2) (x := (mi m1 r1 2) - 1) g16 dX5_hear_73 (fun H locs hP hD hS => ?_)
                rw [vW_p6 (m := m1) n_y4 g6] at hP hD
                have hO17 := vOK.I (a := y4) (j := 2) (v := ((mi m1 r1 2) - 1)) hO
                have hP : va_P D vwCl (vW tc adL NL ((mI m1 y4 2 ((mi m1 r1 2) - 1)))) H := hP
                have hD : va_D A (vW tc adL NL ((mI m1 y4 2 ((mi m1 r1 2) - 1)))) := hD
                refine lv_iinc (v := i5 + 1) (lv' := [(5, .int (i5 + 1)), (6, .ref (adL y4)), (0, .ref (adL r0)), (1, .ref (adL r1)), (2, .ref (adL r2)), (3, .ref (adL r3)), (4, .int i4)]) hx hb dX5_hear_74 hl (k := 6) rfl rfl (by decide) rfl (fun ls hl => ?_)
                refine lv_goto (tgt := 27) hx hb dX5_hear_77 (by decide) ?_
                exact (ih) NL adL ((mI m1 y4 2 ((mi m1 r1 2) - 1))) kc ks r0 r1 r2 r3 i4 (i5 + 1) _ _ _ hNN hE hc hs hO17 n_r0 n_r1 n_r2 n_r3 h hP hD hS (lv_sub hl (l' := [(0, .ref (adL r0)), (1, .ref (adL r1)), (2, .ref (adL r2)), (3, .ref (adL r3)), (4, .int i4), (5, .int (i5 + 1))]) [2, 3, 4, 5, 6, 0] rfl)
  unfold f_X5_hear at h
  refine lv_aload_n hx hb dX5_hear_0 rfl (lv_at hl 0 rfl) ?_
  obtain ⟨g18, h⟩ := vg_if h
  obtain ⟨y19, g20, h⟩ := vg_bind h
  have n_y19 := hO _ _ _ g20
  refine va_get (D := D) (ci := 5) (v := .ref (ad y19)) (C := RX5) (T := TX5) (N := 4) hx hb hts in_X5_hear_X5 hown hK hP p0 (vW_k5 n_p0 g18) rfl 0 (by decide) (hts (.fieldLink RX5 9 "VaultDoorsLaw$Sim" "doors" "[LVaultDoorsLaw$Door;") (List.mem_of_getElem? (i := 1) rfl)) (fun _ h9 => h9) (by show some (va_rf (Option.map ad (mr m0 p0 0))) = _; rw [g20]; rfl) dX5_hear_1 ?_
  refine lv_aload_n hx hb dX5_hear_4 rfl (lv_at hl 1 rfl) ?_
  refine lv_iconst (v := 1) hx hb dX5_hear_5 (by decide) ?_
  obtain ⟨g21, h⟩ := vg_if h
  obtain ⟨g22, h⟩ := vg_if h
  refine va_iald (D := D) hx hb hK hP p1 0 (vW_k6 n_p1 g21) rfl (i := 1) g22 dX5_hear_6 ?_
  refine W.eq (g2 := F0 m 7 ls [.int (mi m0 p1 1), .ref (ad y19)]) rfl ?_
  obtain ⟨g23, h⟩ := vg_if h
  obtain ⟨g24, h⟩ := vg_if h
  obtain ⟨y25, g26, h⟩ := vg_bind h
  have n_y25 := hO _ _ _ g26
  refine va_aldq (D := D) hx hb hK hP y19 3 (vW_k9 n_y19 g23) rfl (i := mi m0 p1 1) g24 dX5_hear_7 ?_
  refine W.eq (g2 := F0 m 8 ls [.ref (ad y25)]) (by show F0 m 8 ls (va_rf (Option.map ad (mr m0 y19 (mi m0 p1 1).toNatClampNeg)) :: _) = _; rw [g26]; rfl) ?_
  refine lv_astore_n (lv' := [(2, .ref (ad y25)), (0, .ref (ad p0)), (1, .ref (ad p1))]) hx hb dX5_hear_8 rfl hl (by decide) rfl (fun ls hl => ?_)
  refine lv_aload_n hx hb dX5_hear_9 rfl (lv_at hl 2 rfl) ?_
  refine lv_iconst (v := 2) hx hb dX5_hear_10 (by decide) ?_
  obtain ⟨g27, h⟩ := vg_if h
  refine va_iald (D := D) hx hb hK hP p1 0 (vW_k6 n_p1 g21) rfl (i := 2) g27 dX5_hear_11 ?_
  refine W.eq (g2 := F0 m 12 ls [.int (mi m0 p1 2)]) rfl ?_
  refine lv_if_le (tgt := 83) hx hb dX5_hear_12 (by decide) (fun c28 => ?_) (fun c28 => ?_)
  · rw [if_pos c28] at h
    refine lv_aload_n hx hb dX5_hear_83 rfl (lv_at hl 0 rfl) ?_
    obtain ⟨g29, h⟩ := vg_if h
    refine va_get (D := D) (ci := 4) (v := .int (mi m0 y25 3)) (C := RX4) (T := TX4) (N := 9) hx hb hts in_X5_hear_X4 hown hK hP y25 (vW_k4 n_y25 g29) rfl 3 (by decide) (hts (.fieldLink RX5 48 "VaultDoorsLaw$Door" "state" "I") (List.mem_of_getElem? (i := 3) rfl)) (fun _ h9 => h9) rfl dX5_hear_84 ?_
    refine lv_iconst (v := 1) hx hb dX5_hear_87 (by decide) ?_
    refine lv_icmp_le (tgt := 120) hx hb dX5_hear_88 (by decide) (fun c30 => ?_) (fun c30 => ?_)
    · rw [if_pos c30] at h
      refine lv_aload_n hx hb dX5_hear_120 rfl (lv_at hl 0 rfl) ?_
      refine va_get (D := D) (ci := 4) (v := .int (mi m0 y25 3)) (C := RX4) (T := TX4) (N := 9) hx hb hts in_X5_hear_X4 hown hK hP y25 (vW_k4 n_y25 g29) rfl 3 (by decide) (hts (.fieldLink RX5 48 "VaultDoorsLaw$Door" "state" "I") (List.mem_of_getElem? (i := 3) rfl)) (fun _ h9 => h9) rfl dX5_hear_121 ?_
      refine lv_if_ne (tgt := 134) hx hb dX5_hear_124 (by decide) (fun c31 => ?_) (fun c31 => ?_)
      · rw [if_neg c31] at h
        refine lv_aload_n hx hb dX5_hear_134 rfl (lv_at hl 0 rfl) ?_
        refine lv_aload_n hx hb dX5_hear_135 rfl (lv_at hl 0 rfl) ?_
        obtain ⟨y32, g33, h⟩ := vg_bind h
        have n_y32 := hO _ _ _ g33
        refine va_get (D := D) (ci := 4) (v := .ref (ad y32)) (C := RX4) (T := TX4) (N := 9) hx hb hts in_X5_hear_X4 hown hK hP y25 (vW_k4 n_y25 g29) rfl 6 (by decide) (hts (.fieldLink RX5 54 "VaultDoorsLaw$Door" "kept" "[[I") (List.mem_of_getElem? (i := 4) rfl)) (fun _ h9 => h9) (by show some (va_rf (Option.map ad (mr m0 y25 6))) = _; rw [g33]; rfl) dX5_hear_136 ?_
        refine lv_iconst (v := 2) hx hb dX5_hear_139 (by decide) ?_
        refine wm_new6 (n := 2) (n' := 2) hx hb (hts (.arrayClass .int) (List.mem_of_getElem? (i := 5) rfl)) hO hK hP hD hS hA (by decide) (by decide) (Nat.le_of_ble_eq_true rfl) (Nat.le_of_ble_eq_true rfl) (Nat.le_of_ble_eq_true rfl) dX5_hear_140 (fun ad34 H e35 hP hD hS => ?_)
        have hl : lv_has ls 7 [(2, .ref (ad34 y25)), (0, .ref (ad34 p0)), (1, .ref (ad34 p1))] := by rw [e35 y25 n_y25, e35 p0 n_p0, e35 p1 n_p1]; exact hl
        have e36 : ∀ k, k < N → ad34 k = ad k := fun k hk => (e35 k (Nat.lt_of_lt_of_le hk (Nat.le_refl _))).trans ((fun _ _ => rfl) k hk)
        have e37 : N ≤ (N + 1) := Nat.le_trans (Nat.le_refl _) (Nat.le_succ _)
        have hO38 := vOK.N (k := 6) (n := 2) hO
        have n39 : p0 < (N + 1) := Nat.lt_of_lt_of_le n_p0 (Nat.le_succ _)
        have n40 : p1 < (N + 1) := Nat.lt_of_lt_of_le n_p1 (Nat.le_succ _)
        have n41 : y19 < (N + 1) := Nat.lt_of_lt_of_le n_y19 (Nat.le_succ _)
        have n42 : y25 < (N + 1) := Nat.lt_of_lt_of_le n_y25 (Nat.le_succ _)
        have n43 : y32 < (N + 1) := Nat.lt_of_lt_of_le n_y32 (Nat.le_succ _)
        refine W.eq (g2 := F0 m 142 ls [.ref (ad34 N), .ref (ad34 y32), .ref (ad34 y25)]) (by rw [e35 y32 n_y32, e35 y25 n_y25]) ?_
        have hP : va_P D vwCl (vW tc ad34 ((N + 1)) ((mN m0 N 6 2))) H := hP
        have hD : va_D A (vW tc ad34 ((N + 1)) ((mN m0 N 6 2))) := hD
        refine lv_dup hx hb dX5_hear_142 rfl ?_
        refine lv_iconst (v := 0) hx hb dX5_hear_143 (by decide) ?_
        refine lv_aload_n hx hb dX5_hear_144 rfl (lv_at hl 2 rfl) ?_
        refine lv_iconst (v := 0) hx hb dX5_hear_145 (by decide) ?_
        obtain ⟨g44, h⟩ := vg_if h
        refine va_iald (D := D) hx hb hK hP p1 0 (vW_k6 n40 (mN_k2 (m := m0) (n := 2) n_p1 g21)) rfl (i := 0) g44 dX5_hear_146 ?_
        refine W.eq (g2 := F0 m 147 ls [.int (mi ((mN m0 N 6 2)) p1 0), .int 0, .ref (ad34 N), .ref (ad34 N), .ref (ad34 y32), .ref (ad34 y25)]) rfl ?_
        obtain ⟨g45, h⟩ := vg_if h
        refine va_iast (D := D) hx hb hK hP hD hS N 0 (vW_k6 (Nat.lt_succ_self _) (mN_k1 (m := m0) (n := 2))) rfl (i := 0) (x := mi ((mN m0 N 6 2)) p1 0) g45 dX5_hear_147 (fun H locs hP hD hS => ?_)
        rw [vW_p6 (m := ((mN m0 N 6 2))) (Nat.lt_succ_self _) (mN_k1 (m := m0) (n := 2))] at hP hD
        have hO46 := vOK.I (a := N) (j := 0) (v := (mi ((mN m0 N 6 2)) p1 0)) hO38
        have hP : va_P D vwCl (vW tc ad34 ((N + 1)) ((mI ((mN m0 N 6 2)) N 0 (mi ((mN m0 N 6 2)) p1 0)))) H := hP
        have hD : va_D A (vW tc ad34 ((N + 1)) ((mI ((mN m0 N 6 2)) N 0 (mi ((mN m0 N 6 2)) p1 0)))) := hD
        refine lv_dup hx hb dX5_hear_148 rfl ?_
        refine lv_iconst (v := 1) hx hb dX5_hear_149 (by decide) ?_
        refine lv_aload_n hx hb dX5_hear_150 rfl (lv_at hl 2 rfl) ?_
        refine lv_iconst (v := 4) hx hb dX5_hear_151 (by decide) ?_
        obtain ⟨g47, h⟩ := vg_if h
        refine va_iald (D := D) hx hb hK hP p1 0 (vW_k6 n40 (mN_k2 (m := m0) (n := 2) n_p1 g21)) rfl (i := 4) g47 dX5_hear_152 ?_
        refine W.eq (g2 := F0 m 153 ls [.int (mi ((mI ((mN m0 N 6 2)) N 0 (mi ((mN m0 N 6 2)) p1 0))) p1 4), .int 1, .ref (ad34 N), .ref (ad34 N), .ref (ad34 y32), .ref (ad34 y25)]) rfl ?_
        obtain ⟨g48, h⟩ := vg_if h
        refine va_iast (D := D) hx hb hK hP hD hS N 0 (vW_k6 (Nat.lt_succ_self _) (mN_k1 (m := m0) (n := 2))) rfl (i := 1) (x := mi ((mI ((mN m0 N 6 2)) N 0 (mi ((mN m0 N 6 2)) p1 0))) p1 4) g48 dX5_hear_153 (fun H locs hP hD hS => ?_)
        rw [vW_p6 (m := ((mI ((mN m0 N 6 2)) N 0 (mi ((mN m0 N 6 2)) p1 0)))) (Nat.lt_succ_self _) (mN_k1 (m := m0) (n := 2))] at hP hD
        have hO49 := vOK.I (a := N) (j := 1) (v := (mi ((mI ((mN m0 N 6 2)) N 0 (mi ((mN m0 N 6 2)) p1 0))) p1 4)) hO46
        have hP : va_P D vwCl (vW tc ad34 ((N + 1)) ((mI ((mI ((mN m0 N 6 2)) N 0 (mi ((mN m0 N 6 2)) p1 0))) N 1 (mi ((mI ((mN m0 N 6 2)) N 0 (mi ((mN m0 N 6 2)) p1 0))) p1 4)))) H := hP
        have hD : va_D A (vW tc ad34 ((N + 1)) ((mI ((mI ((mN m0 N 6 2)) N 0 (mi ((mN m0 N 6 2)) p1 0))) N 1 (mi ((mI ((mN m0 N 6 2)) N 0 (mi ((mN m0 N 6 2)) p1 0))) p1 4)))) := hD
        obtain ⟨q50, g51, h⟩ := vg_bind h
        have hFc := vm_free hD hS hA
        refine va_callr (va_runS (As := [.ref (ad34 y32), .ref (ad34 N)]) (rest := [.ref (ad34 y25)]) ⟨hx, hb, hml, hown, hts⟩ (cm_X5_more (m0 := (mI ((mI ((mN m0 N 6 2)) N 0 (mi ((mN m0 N 6 2)) p1 0))) N 1 (mi ((mI ((mN m0 N 6 2)) N 0 (mi ((mN m0 N 6 2)) p1 0))) p1 4))) l D tc ad34 hO49 n43 (Nat.lt_succ_self _) g51) (va_cwS 2 hts gX5_hear_X5_more rfl rfl rfl (by decide +kernel) ⟨(Nat.le_of_ble_eq_true rfl), (Nat.le_of_ble_eq_true rfl)⟩) ⟨qW_blind, qW_pre hP hD hK hZ⟩ rfl rfl hl.1 rfl (lv_room (Nat.le_of_ble_eq_true rfl)) dX5_hear_154 ⟨(Nat.le_of_ble_eq_true rfl), (Nat.le_of_ble_eq_true rfl)⟩) hS (fun q9 _ h9 => hFc q9 h9) hFc (fun u ra t H1 locs ht hvm hw hB hz1 hk1 hS => ?_)
        obtain ⟨ad53, e54, e55, hO56, hP1, hK1, hD1, hr1, hr2⟩ := hB
        rw [ht] at hP1
        have hP := hP1
        have hD := hD1.weaken (fun _ q9 _ h9 => hFc q9.1 h9)
        generalize H1 = H at hP hS ⊢
        clear hk1 hz1 ht hvm
        rw [hr1]
        have hl : lv_has ls 7 [(2, .ref (ad53 y25)), (0, .ref (ad53 p0)), (1, .ref (ad53 p1))] := by rw [e54 y25 n42, e54 p0 n39, e54 p1 n40]; exact hl
        have e57 : ∀ k, k < N → ad53 k = ad k := fun k hk => (e54 k (Nat.lt_of_lt_of_le hk e37)).trans (e36 k hk)
        have e58 : N ≤ q50.2.1 := Nat.le_trans e37 e55
        have n59 : p0 < q50.2.1 := Nat.lt_of_lt_of_le n39 e55
        have n60 : p1 < q50.2.1 := Nat.lt_of_lt_of_le n40 e55
        have n61 : y19 < q50.2.1 := Nat.lt_of_lt_of_le n41 e55
        have n62 : y25 < q50.2.1 := Nat.lt_of_lt_of_le n42 e55
        have n63 : y32 < q50.2.1 := Nat.lt_of_lt_of_le n43 e55
        have n64 : N < q50.2.1 := Nat.lt_of_lt_of_le (Nat.lt_succ_self _) e55
        have n65 : q50.1 < q50.2.1 := hr2
        refine W.eq (g2 := F0 m 157 ls [.ref (ad53 q50.1), .ref (ad53 y25)]) (by rw [e54 y25 n42]) ?_
        have hP : va_P D vwCl (vW tc ad53 q50.2.1 q50.2.2) H := hP
        have hD : va_D A (vW tc ad53 q50.2.1 q50.2.2) := hD
        obtain ⟨g66, h⟩ := vg_if h
        refine va_put (D := D) (ci := 4) (v := .ref (ad53 q50.1)) (ty := .array (.array .int)) (C := RX4) (T := TX4) (N := 9) hx hb hts in_X5_hear_X4 tyX4 tyX4_ok nmX4 hown hK hP hD hS y25 (vW_k4 n62 g66) rfl 6 (by decide) (hts (.fieldLink RX5 54 "VaultDoorsLaw$Door" "kept" "[[I") (List.mem_of_getElem? (i := 4) rfl)) (fun _ h9 => h9) rfl (by decide +kernel) rfl rfl (Nat.le_of_ble_eq_true rfl) dX5_hear_157 (fun H locs hP hD hS => ?_)
        rw [vW_p4_6 (m := q50.2.2) n62 g66] at hP hD
        have hO67 := vOK.R (a := y25) (j := 6) hO56 n65
        have hP : va_P D vwCl (vW tc ad53 q50.2.1 ((mR q50.2.2 y25 6 (some q50.1)))) H := hP
        have hD : va_D A (vW tc ad53 q50.2.1 ((mR q50.2.2 y25 6 (some q50.1)))) := hD
        have hz := Option.some.inj h
        refine W.widen (k := 11) (n := 352) (Nat.le_of_ble_eq_true rfl) (Nat.le_of_ble_eq_true rfl) ?_
        exact W.vret hx hb hr (fun t ht hW => ⟨⟨(), rfl, trivial, by rw [← hz]; exact ⟨ad53, e57, e58, hO67, by rw [ht]; exact hP, va_K.moved hW.alike hK, hD⟩⟩, hS.F ht⟩) hS.2.2 dX5_hear_160
      · rw [if_pos c31] at h
        refine lv_aload_n hx hb dX5_hear_127 rfl (lv_at hl 1 rfl) ?_
        refine lv_aload_n hx hb dX5_hear_128 rfl (lv_at hl 2 rfl) ?_
        refine lv_iconst (v := 1) hx hb dX5_hear_129 (by decide) ?_
        obtain ⟨g68, h⟩ := vg_if h
        refine va_iald (D := D) hx hb hK hP p1 0 (vW_k6 n_p1 g21) rfl (i := 1) g68 dX5_hear_130 ?_
        refine W.eq (g2 := F0 m 131 ls [.int (mi m0 p1 1), .ref (ad p0)]) rfl ?_
        obtain ⟨q69, g70, h⟩ := vg_bind h
        have hFc := vm_free hD hS hA
        refine va_callv (va_runV (As := [.int (mi m0 p1 1)]) (rest := []) ⟨hx, hb, hml, hown, hts⟩ (cm_X5_wake (m0 := m0) l D tc ad hO n_p0 g70) (cwV 1 hts gX5_hear_X5_wake rfl rfl rfl (by decide +kernel) ⟨(Nat.le_of_ble_eq_true rfl), (Nat.le_of_ble_eq_true rfl)⟩) ⟨qW_blind, va_recv hK hP (ci := 5) (q0 := p0) rfl (vW_k5 n_p0 g18), qW_pre hP hD hK hZ⟩ rfl rfl hl.1 rfl (lv_room (Nat.le_of_ble_eq_true rfl)) dX5_hear_131 ⟨(Nat.le_of_ble_eq_true rfl), (Nat.le_of_ble_eq_true rfl)⟩) hS (fun q9 _ h9 => hFc q9 h9) hFc (fun u t H1 locs ht hvm hw hB hz1 hk1 hS => ?_)
        obtain ⟨ad72, e73, e74, hO75, hP1, hK1, hD1⟩ := hB
        rw [ht] at hP1
        have hP := hP1
        have hD := hD1.weaken (fun _ q9 _ h9 => hFc q9.1 h9)
        generalize H1 = H at hP hS ⊢
        clear hk1 hz1 ht hvm
        have hl : lv_has ls 7 [(2, .ref (ad72 y25)), (0, .ref (ad72 p0)), (1, .ref (ad72 p1))] := by rw [e73 y25 n_y25, e73 p0 n_p0, e73 p1 n_p1]; exact hl
        have e76 : ∀ k, k < N → ad72 k = ad k := fun k hk => (e73 k (Nat.lt_of_lt_of_le hk (Nat.le_refl _))).trans ((fun _ _ => rfl) k hk)
        have e77 : N ≤ q69.1 := Nat.le_trans (Nat.le_refl _) e74
        have n78 : p0 < q69.1 := Nat.lt_of_lt_of_le n_p0 e74
        have n79 : p1 < q69.1 := Nat.lt_of_lt_of_le n_p1 e74
        have n80 : y19 < q69.1 := Nat.lt_of_lt_of_le n_y19 e74
        have n81 : y25 < q69.1 := Nat.lt_of_lt_of_le n_y25 e74
        have hP : va_P D vwCl (vW tc ad72 q69.1 q69.2) H := hP
        have hD : va_D A (vW tc ad72 q69.1 q69.2) := hD
        refine lv_aload_n hx hb dX5_hear_134 rfl (lv_at hl 0 rfl) ?_
        refine lv_aload_n hx hb dX5_hear_135 rfl (lv_at hl 0 rfl) ?_
        obtain ⟨g82, h⟩ := vg_if h
        obtain ⟨y83, g84, h⟩ := vg_bind h
        have n_y83 := hO75 _ _ _ g84
        refine va_get (D := D) (ci := 4) (v := .ref (ad72 y83)) (C := RX4) (T := TX4) (N := 9) hx hb hts in_X5_hear_X4 hown hK hP y25 (vW_k4 n81 g82) rfl 6 (by decide) (hts (.fieldLink RX5 54 "VaultDoorsLaw$Door" "kept" "[[I") (List.mem_of_getElem? (i := 4) rfl)) (fun _ h9 => h9) (by show some (va_rf (Option.map ad72 (mr q69.2 y25 6))) = _; rw [g84]; rfl) dX5_hear_136 ?_
        refine lv_iconst (v := 2) hx hb dX5_hear_139 (by decide) ?_
        refine wm_new6 (n := 2) (n' := 2) hx hb (hts (.arrayClass .int) (List.mem_of_getElem? (i := 5) rfl)) hO75 hK hP hD hS hA (by decide) (by decide) (Nat.le_of_ble_eq_true rfl) (Nat.le_of_ble_eq_true rfl) (Nat.le_of_ble_eq_true rfl) dX5_hear_140 (fun ad85 H e86 hP hD hS => ?_)
        have hl : lv_has ls 7 [(2, .ref (ad85 y25)), (0, .ref (ad85 p0)), (1, .ref (ad85 p1))] := by rw [e86 y25 n81, e86 p0 n78, e86 p1 n79]; exact hl
        have e87 : ∀ k, k < N → ad85 k = ad k := fun k hk => (e86 k (Nat.lt_of_lt_of_le hk e77)).trans (e76 k hk)
        have e88 : N ≤ (q69.1 + 1) := Nat.le_trans e77 (Nat.le_succ _)
        have hO89 := vOK.N (k := 6) (n := 2) hO75
        have n90 : p0 < (q69.1 + 1) := Nat.lt_of_lt_of_le n78 (Nat.le_succ _)
        have n91 : p1 < (q69.1 + 1) := Nat.lt_of_lt_of_le n79 (Nat.le_succ _)
        have n92 : y19 < (q69.1 + 1) := Nat.lt_of_lt_of_le n80 (Nat.le_succ _)
        have n93 : y25 < (q69.1 + 1) := Nat.lt_of_lt_of_le n81 (Nat.le_succ _)
        have n94 : y83 < (q69.1 + 1) := Nat.lt_of_lt_of_le n_y83 (Nat.le_succ _)
        refine W.eq (g2 := F0 m 142 ls [.ref (ad85 q69.1), .ref (ad85 y83), .ref (ad85 y25)]) (by rw [e86 y83 n_y83, e86 y25 n81]) ?_
        have hP : va_P D vwCl (vW tc ad85 ((q69.1 + 1)) ((mN q69.2 q69.1 6 2))) H := hP
        have hD : va_D A (vW tc ad85 ((q69.1 + 1)) ((mN q69.2 q69.1 6 2))) := hD
        refine lv_dup hx hb dX5_hear_142 rfl ?_
        refine lv_iconst (v := 0) hx hb dX5_hear_143 (by decide) ?_
        refine lv_aload_n hx hb dX5_hear_144 rfl (lv_at hl 2 rfl) ?_
        refine lv_iconst (v := 0) hx hb dX5_hear_145 (by decide) ?_
        obtain ⟨g95, h⟩ := vg_if h
        obtain ⟨g96, h⟩ := vg_if h
        refine va_iald (D := D) hx hb hK hP p1 0 (vW_k6 n91 g95) rfl (i := 0) g96 dX5_hear_146 ?_
        refine W.eq (g2 := F0 m 147 ls [.int (mi ((mN q69.2 q69.1 6 2)) p1 0), .int 0, .ref (ad85 q69.1), .ref (ad85 q69.1), .ref (ad85 y83), .ref (ad85 y25)]) rfl ?_
        obtain ⟨g97, h⟩ := vg_if h
        refine va_iast (D := D) hx hb hK hP hD hS q69.1 0 (vW_k6 (Nat.lt_succ_self _) (mN_k1 (m := q69.2) (n := 2))) rfl (i := 0) (x := mi ((mN q69.2 q69.1 6 2)) p1 0) g97 dX5_hear_147 (fun H locs hP hD hS => ?_)
        rw [vW_p6 (m := ((mN q69.2 q69.1 6 2))) (Nat.lt_succ_self _) (mN_k1 (m := q69.2) (n := 2))] at hP hD
        have hO98 := vOK.I (a := q69.1) (j := 0) (v := (mi ((mN q69.2 q69.1 6 2)) p1 0)) hO89
        have hP : va_P D vwCl (vW tc ad85 ((q69.1 + 1)) ((mI ((mN q69.2 q69.1 6 2)) q69.1 0 (mi ((mN q69.2 q69.1 6 2)) p1 0)))) H := hP
        have hD : va_D A (vW tc ad85 ((q69.1 + 1)) ((mI ((mN q69.2 q69.1 6 2)) q69.1 0 (mi ((mN q69.2 q69.1 6 2)) p1 0)))) := hD
        refine lv_dup hx hb dX5_hear_148 rfl ?_
        refine lv_iconst (v := 1) hx hb dX5_hear_149 (by decide) ?_
        refine lv_aload_n hx hb dX5_hear_150 rfl (lv_at hl 2 rfl) ?_
        refine lv_iconst (v := 4) hx hb dX5_hear_151 (by decide) ?_
        obtain ⟨g99, h⟩ := vg_if h
        refine va_iald (D := D) hx hb hK hP p1 0 (vW_k6 n91 g95) rfl (i := 4) g99 dX5_hear_152 ?_
        refine W.eq (g2 := F0 m 153 ls [.int (mi ((mI ((mN q69.2 q69.1 6 2)) q69.1 0 (mi ((mN q69.2 q69.1 6 2)) p1 0))) p1 4), .int 1, .ref (ad85 q69.1), .ref (ad85 q69.1), .ref (ad85 y83), .ref (ad85 y25)]) rfl ?_
        obtain ⟨g100, h⟩ := vg_if h
        refine va_iast (D := D) hx hb hK hP hD hS q69.1 0 (vW_k6 (Nat.lt_succ_self _) (mN_k1 (m := q69.2) (n := 2))) rfl (i := 1) (x := mi ((mI ((mN q69.2 q69.1 6 2)) q69.1 0 (mi ((mN q69.2 q69.1 6 2)) p1 0))) p1 4) g100 dX5_hear_153 (fun H locs hP hD hS => ?_)
        rw [vW_p6 (m := ((mI ((mN q69.2 q69.1 6 2)) q69.1 0 (mi ((mN q69.2 q69.1 6 2)) p1 0)))) (Nat.lt_succ_self _) (mN_k1 (m := q69.2) (n := 2))] at hP hD
        have hO101 := vOK.I (a := q69.1) (j := 1) (v := (mi ((mI ((mN q69.2 q69.1 6 2)) q69.1 0 (mi ((mN q69.2 q69.1 6 2)) p1 0))) p1 4)) hO98
        have hP : va_P D vwCl (vW tc ad85 ((q69.1 + 1)) ((mI ((mI ((mN q69.2 q69.1 6 2)) q69.1 0 (mi ((mN q69.2 q69.1 6 2)) p1 0))) q69.1 1 (mi ((mI ((mN q69.2 q69.1 6 2)) q69.1 0 (mi ((mN q69.2 q69.1 6 2)) p1 0))) p1 4)))) H := hP
        have hD : va_D A (vW tc ad85 ((q69.1 + 1)) ((mI ((mI ((mN q69.2 q69.1 6 2)) q69.1 0 (mi ((mN q69.2 q69.1 6 2)) p1 0))) q69.1 1 (mi ((mI ((mN q69.2 q69.1 6 2)) q69.1 0 (mi ((mN q69.2 q69.1 6 2)) p1 0))) p1 4)))) := hD
        obtain ⟨q102, g103, h⟩ := vg_bind h
        have hFc := vm_free hD hS hA
        refine va_callr (va_runS (As := [.ref (ad85 y83), .ref (ad85 q69.1)]) (rest := [.ref (ad85 y25)]) ⟨hx, hb, hml, hown, hts⟩ (cm_X5_more (m0 := (mI ((mI ((mN q69.2 q69.1 6 2)) q69.1 0 (mi ((mN q69.2 q69.1 6 2)) p1 0))) q69.1 1 (mi ((mI ((mN q69.2 q69.1 6 2)) q69.1 0 (mi ((mN q69.2 q69.1 6 2)) p1 0))) p1 4))) l D tc ad85 hO101 n94 (Nat.lt_succ_self _) g103) (va_cwS 2 hts gX5_hear_X5_more rfl rfl rfl (by decide +kernel) ⟨(Nat.le_of_ble_eq_true rfl), (Nat.le_of_ble_eq_true rfl)⟩) ⟨qW_blind, qW_pre hP hD hK hZ⟩ rfl rfl hl.1 rfl (lv_room (Nat.le_of_ble_eq_true rfl)) dX5_hear_154 ⟨(Nat.le_of_ble_eq_true rfl), (Nat.le_of_ble_eq_true rfl)⟩) hS (fun q9 _ h9 => hFc q9 h9) hFc (fun u ra t H1 locs ht hvm hw hB hz1 hk1 hS => ?_)
        obtain ⟨ad105, e106, e107, hO108, hP1, hK1, hD1, hr1, hr2⟩ := hB
        rw [ht] at hP1
        have hP := hP1
        have hD := hD1.weaken (fun _ q9 _ h9 => hFc q9.1 h9)
        generalize H1 = H at hP hS ⊢
        clear hk1 hz1 ht hvm
        rw [hr1]
        have hl : lv_has ls 7 [(2, .ref (ad105 y25)), (0, .ref (ad105 p0)), (1, .ref (ad105 p1))] := by rw [e106 y25 n93, e106 p0 n90, e106 p1 n91]; exact hl
        have e109 : ∀ k, k < N → ad105 k = ad k := fun k hk => (e106 k (Nat.lt_of_lt_of_le hk e88)).trans (e87 k hk)
        have e110 : N ≤ q102.2.1 := Nat.le_trans e88 e107
        have n111 : p0 < q102.2.1 := Nat.lt_of_lt_of_le n90 e107
        have n112 : p1 < q102.2.1 := Nat.lt_of_lt_of_le n91 e107
        have n113 : y19 < q102.2.1 := Nat.lt_of_lt_of_le n92 e107
        have n114 : y25 < q102.2.1 := Nat.lt_of_lt_of_le n93 e107
        have n115 : y83 < q102.2.1 := Nat.lt_of_lt_of_le n94 e107
        have n116 : q69.1 < q102.2.1 := Nat.lt_of_lt_of_le (Nat.lt_succ_self _) e107
        have n117 : q102.1 < q102.2.1 := hr2
        refine W.eq (g2 := F0 m 157 ls [.ref (ad105 q102.1), .ref (ad105 y25)]) (by rw [e106 y25 n93]) ?_
        have hP : va_P D vwCl (vW tc ad105 q102.2.1 q102.2.2) H := hP
        have hD : va_D A (vW tc ad105 q102.2.1 q102.2.2) := hD
        obtain ⟨g118, h⟩ := vg_if h
        refine va_put (D := D) (ci := 4) (v := .ref (ad105 q102.1)) (ty := .array (.array .int)) (C := RX4) (T := TX4) (N := 9) hx hb hts in_X5_hear_X4 tyX4 tyX4_ok nmX4 hown hK hP hD hS y25 (vW_k4 n114 g118) rfl 6 (by decide) (hts (.fieldLink RX5 54 "VaultDoorsLaw$Door" "kept" "[[I") (List.mem_of_getElem? (i := 4) rfl)) (fun _ h9 => h9) rfl (by decide +kernel) rfl rfl (Nat.le_of_ble_eq_true rfl) dX5_hear_157 (fun H locs hP hD hS => ?_)
        rw [vW_p4_6 (m := q102.2.2) n114 g118] at hP hD
        have hO119 := vOK.R (a := y25) (j := 6) hO108 n117
        have hP : va_P D vwCl (vW tc ad105 q102.2.1 ((mR q102.2.2 y25 6 (some q102.1)))) H := hP
        have hD : va_D A (vW tc ad105 q102.2.1 ((mR q102.2.2 y25 6 (some q102.1)))) := hD
        have hz := Option.some.inj h
        refine W.widen (k := 11) (n := 352) (Nat.le_of_ble_eq_true rfl) (Nat.le_of_ble_eq_true rfl) ?_
        exact W.vret hx hb hr (fun t ht hW => ⟨⟨(), rfl, trivial, by rw [← hz]; exact ⟨ad105, e109, e110, hO119, by rw [ht]; exact hP, va_K.moved hW.alike hK, hD⟩⟩, hS.F ht⟩) hS.2.2 dX5_hear_160
    · rw [if_neg c30] at h
      refine lv_aload_n hx hb dX5_hear_91 rfl (lv_at hl 1 rfl) ?_
      refine lv_aload_n hx hb dX5_hear_92 rfl (lv_at hl 2 rfl) ?_
      refine lv_iconst (v := 1) hx hb dX5_hear_93 (by decide) ?_
      obtain ⟨g120, h⟩ := vg_if h
      refine va_iald (D := D) hx hb hK hP p1 0 (vW_k6 n_p1 g21) rfl (i := 1) g120 dX5_hear_94 ?_
      refine W.eq (g2 := F0 m 95 ls [.int (mi m0 p1 1), .ref (ad p0)]) rfl ?_
      refine lv_aload_n hx hb dX5_hear_95 rfl (lv_at hl 2 rfl) ?_
      refine lv_iconst (v := 0) hx hb dX5_hear_96 (by decide) ?_
      obtain ⟨g121, h⟩ := vg_if h
      refine va_iald (D := D) hx hb hK hP p1 0 (vW_k6 n_p1 g21) rfl (i := 0) g121 dX5_hear_97 ?_
      refine W.eq (g2 := F0 m 98 ls [.int (mi m0 p1 0), .int (mi m0 p1 1), .ref (ad p0)]) rfl ?_
      refine lv_aload_n hx hb dX5_hear_98 rfl (lv_at hl 0 rfl) ?_
      refine va_get (D := D) (ci := 4) (v := .int (mi m0 y25 3)) (C := RX4) (T := TX4) (N := 9) hx hb hts in_X5_hear_X4 hown hK hP y25 (vW_k4 n_y25 g29) rfl 3 (by decide) (hts (.fieldLink RX5 48 "VaultDoorsLaw$Door" "state" "I") (List.mem_of_getElem? (i := 3) rfl)) (fun _ h9 => h9) rfl dX5_hear_99 ?_
      refine lv_iconst (v := 2) hx hb dX5_hear_102 (by decide) ?_
      refine lv_icmp_ne (tgt := 110) hx hb dX5_hear_103 (by decide) (fun c122 => ?_) (fun c122 => ?_)
      · rw [if_neg c122] at h
        refine lv_iconst (v := 1) hx hb dX5_hear_110 (by decide) ?_
        refine lv_aload_n hx hb dX5_hear_111 rfl (lv_at hl 2 rfl) ?_
        refine lv_iconst (v := 4) hx hb dX5_hear_112 (by decide) ?_
        obtain ⟨g123, h⟩ := vg_if h
        refine va_iald (D := D) hx hb hK hP p1 0 (vW_k6 n_p1 g21) rfl (i := 4) g123 dX5_hear_113 ?_
        refine W.eq (g2 := F0 m 114 ls [.int (mi m0 p1 4), .int 1, .int (mi m0 p1 0), .int (mi m0 p1 1), .ref (ad p0)]) rfl ?_
        obtain ⟨q124, g125, h⟩ := vg_bind h
        have hFc := vm_free hD hS hA
        refine va_callv (va_runV (As := [.int (mi m0 p1 1), .int (mi m0 p1 0), .int 1, .int (mi m0 p1 4)]) (rest := []) ⟨hx, hb, hml, hown, hts⟩ (cm_X5_send (m0 := m0) l D tc ad hO n_p0 g125) (cwV 4 hts gX5_hear_X5_send rfl rfl rfl (by decide +kernel) ⟨(Nat.le_of_ble_eq_true rfl), (Nat.le_of_ble_eq_true rfl)⟩) ⟨qW_blind, va_recv hK hP (ci := 5) (q0 := p0) rfl (vW_k5 n_p0 g18), qW_pre hP hD hK hZ⟩ rfl rfl hl.1 rfl (lv_room (Nat.le_of_ble_eq_true rfl)) dX5_hear_114 ⟨(Nat.le_of_ble_eq_true rfl), (Nat.le_of_ble_eq_true rfl)⟩) hS (fun q9 _ h9 => hFc q9 h9) hFc (fun u t H1 locs ht hvm hw hB hz1 hk1 hS => ?_)
        obtain ⟨ad127, e128, e129, hO130, hP1, hK1, hD1⟩ := hB
        rw [ht] at hP1
        have hP := hP1
        have hD := hD1.weaken (fun _ q9 _ h9 => hFc q9.1 h9)
        generalize H1 = H at hP hS ⊢
        clear hk1 hz1 ht hvm
        have hl : lv_has ls 7 [(2, .ref (ad127 y25)), (0, .ref (ad127 p0)), (1, .ref (ad127 p1))] := by rw [e128 y25 n_y25, e128 p0 n_p0, e128 p1 n_p1]; exact hl
        have e131 : ∀ k, k < N → ad127 k = ad k := fun k hk => (e128 k (Nat.lt_of_lt_of_le hk (Nat.le_refl _))).trans ((fun _ _ => rfl) k hk)
        have e132 : N ≤ q124.1 := Nat.le_trans (Nat.le_refl _) e129
        have n133 : p0 < q124.1 := Nat.lt_of_lt_of_le n_p0 e129
        have n134 : p1 < q124.1 := Nat.lt_of_lt_of_le n_p1 e129
        have n135 : y19 < q124.1 := Nat.lt_of_lt_of_le n_y19 e129
        have n136 : y25 < q124.1 := Nat.lt_of_lt_of_le n_y25 e129
        have hP : va_P D vwCl (vW tc ad127 q124.1 q124.2) H := hP
        have hD : va_D A (vW tc ad127 q124.1 q124.2) := hD
        refine lv_goto (tgt := 160) hx hb dX5_hear_117 (by decide) ?_
        have hz := Option.some.inj h
        refine W.widen (k := 11) (n := 352) (Nat.le_of_ble_eq_true rfl) (Nat.le_of_ble_eq_true rfl) ?_
        exact W.vret hx hb hr (fun t ht hW => ⟨⟨(), rfl, trivial, by rw [← hz]; exact ⟨ad127, e131, e132, hO130, by rw [ht]; exact hP, va_K.moved hW.alike hK, hD⟩⟩, hS.F ht⟩) hS.2.2 dX5_hear_160
      · rw [if_pos c122] at h
        refine lv_iconst (v := 2) hx hb dX5_hear_106 (by decide) ?_
        refine lv_goto (tgt := 111) hx hb dX5_hear_107 (by decide) ?_
        refine lv_aload_n hx hb dX5_hear_111 rfl (lv_at hl 2 rfl) ?_
        refine lv_iconst (v := 4) hx hb dX5_hear_112 (by decide) ?_
        obtain ⟨g137, h⟩ := vg_if h
        refine va_iald (D := D) hx hb hK hP p1 0 (vW_k6 n_p1 g21) rfl (i := 4) g137 dX5_hear_113 ?_
        refine W.eq (g2 := F0 m 114 ls [.int (mi m0 p1 4), .int 2, .int (mi m0 p1 0), .int (mi m0 p1 1), .ref (ad p0)]) rfl ?_
        obtain ⟨q138, g139, h⟩ := vg_bind h
        have hFc := vm_free hD hS hA
        refine va_callv (va_runV (As := [.int (mi m0 p1 1), .int (mi m0 p1 0), .int 2, .int (mi m0 p1 4)]) (rest := []) ⟨hx, hb, hml, hown, hts⟩ (cm_X5_send (m0 := m0) l D tc ad hO n_p0 g139) (cwV 4 hts gX5_hear_X5_send rfl rfl rfl (by decide +kernel) ⟨(Nat.le_of_ble_eq_true rfl), (Nat.le_of_ble_eq_true rfl)⟩) ⟨qW_blind, va_recv hK hP (ci := 5) (q0 := p0) rfl (vW_k5 n_p0 g18), qW_pre hP hD hK hZ⟩ rfl rfl hl.1 rfl (lv_room (Nat.le_of_ble_eq_true rfl)) dX5_hear_114 ⟨(Nat.le_of_ble_eq_true rfl), (Nat.le_of_ble_eq_true rfl)⟩) hS (fun q9 _ h9 => hFc q9 h9) hFc (fun u t H1 locs ht hvm hw hB hz1 hk1 hS => ?_)
        obtain ⟨ad141, e142, e143, hO144, hP1, hK1, hD1⟩ := hB
        rw [ht] at hP1
        have hP := hP1
        have hD := hD1.weaken (fun _ q9 _ h9 => hFc q9.1 h9)
        generalize H1 = H at hP hS ⊢
        clear hk1 hz1 ht hvm
        have hl : lv_has ls 7 [(2, .ref (ad141 y25)), (0, .ref (ad141 p0)), (1, .ref (ad141 p1))] := by rw [e142 y25 n_y25, e142 p0 n_p0, e142 p1 n_p1]; exact hl
        have e145 : ∀ k, k < N → ad141 k = ad k := fun k hk => (e142 k (Nat.lt_of_lt_of_le hk (Nat.le_refl _))).trans ((fun _ _ => rfl) k hk)
        have e146 : N ≤ q138.1 := Nat.le_trans (Nat.le_refl _) e143
        have n147 : p0 < q138.1 := Nat.lt_of_lt_of_le n_p0 e143
        have n148 : p1 < q138.1 := Nat.lt_of_lt_of_le n_p1 e143
        have n149 : y19 < q138.1 := Nat.lt_of_lt_of_le n_y19 e143
        have n150 : y25 < q138.1 := Nat.lt_of_lt_of_le n_y25 e143
        have hP : va_P D vwCl (vW tc ad141 q138.1 q138.2) H := hP
        have hD : va_D A (vW tc ad141 q138.1 q138.2) := hD
        refine lv_goto (tgt := 160) hx hb dX5_hear_117 (by decide) ?_
        have hz := Option.some.inj h
        refine W.widen (k := 11) (n := 352) (Nat.le_of_ble_eq_true rfl) (Nat.le_of_ble_eq_true rfl) ?_
        exact W.vret hx hb hr (fun t ht hW => ⟨⟨(), rfl, trivial, by rw [← hz]; exact ⟨ad141, e145, e146, hO144, by rw [ht]; exact hP, va_K.moved hW.alike hK, hD⟩⟩, hS.F ht⟩) hS.2.2 dX5_hear_160
  · rw [if_neg c28] at h
    refine lv_aload_n hx hb dX5_hear_15 rfl (lv_at hl 0 rfl) ?_
    obtain ⟨g151, h⟩ := vg_if h
    obtain ⟨y152, g153, h⟩ := vg_bind h
    have n_y152 := hO _ _ _ g153
    refine va_get (D := D) (ci := 4) (v := .ref (ad y152)) (C := RX4) (T := TX4) (N := 9) hx hb hts in_X5_hear_X4 hown hK hP y25 (vW_k4 n_y25 g151) rfl 5 (by decide) (hts (.fieldLink RX5 57 "VaultDoorsLaw$Door" "asks" "[[I") (List.mem_of_getElem? (i := 2) rfl)) (fun _ h9 => h9) (by show some (va_rf (Option.map ad (mr m0 y25 5))) = _; rw [g153]; rfl) dX5_hear_16 ?_
    refine lv_astore_n (lv' := [(3, .ref (ad y152)), (2, .ref (ad y25)), (0, .ref (ad p0)), (1, .ref (ad p1))]) hx hb dX5_hear_19 rfl hl (by decide) rfl (fun ls hl => ?_)
    refine lv_aload_n hx hb dX5_hear_20 rfl (lv_at hl 0 rfl) ?_
    obtain ⟨g154, h⟩ := vg_if h
    refine va_alen (D := D) hx hb hK hP y152 2 (vW_k8 n_y152 g154) rfl rfl dX5_hear_21 ?_
    refine lv_istore (lv' := [(4, .int (Int32.ofNat (ml m0 y152))), (3, .ref (ad y152)), (2, .ref (ad y25)), (0, .ref (ad p0)), (1, .ref (ad p1))]) hx hb dX5_hear_22 hl (by decide) rfl (fun ls hl => ?_)
    refine lv_iconst (v := 0) hx hb dX5_hear_24 (by decide) ?_
    refine lv_istore (lv' := [(5, .int 0), (4, .int (Int32.ofNat (ml m0 y152))), (3, .ref (ad y152)), (2, .ref (ad y25)), (0, .ref (ad p0)), (1, .ref (ad p1))]) hx hb dX5_hear_25 hl (by decide) rfl (fun ls hl => ?_)
    exact ((hL vF)) N ad m0 0 0 p0 p1 y25 y152 (Int32.ofNat (ml m0 y152)) (0 : Int32) _ _ _ (Nat.le_refl _) (fun _ _ => rfl) (Nat.le_of_ble_eq_true rfl) (Nat.le_of_ble_eq_true rfl) hO n_p0 n_p1 n_y25 n_y152 h hP hD hS (lv_sub hl (l' := [(0, .ref (ad p0)), (1, .ref (ad p1)), (2, .ref (ad y25)), (3, .ref (ad y152)), (4, .int (Int32.ofNat (ml m0 y152))), (5, .int 0)]) [4, 5, 3, 2, 1, 0] rfl)

noncomputable def fB_X5_open_4 (rec : Nat → vM → Nat → Int32 → Int32 → Option (Int32)) (m : vM) (r0 : Nat) (i1 : Int32) (i2 : Int32) : Option (Int32) :=
  if mk m r0 = 5 then
  Option.bind (mr m r0 0) fun y2 =>
  if mk m y2 = 9 then
  if (Int32.ofNat (ml m y2)) ≤ i2 then (
    some i1
  ) else (
    Option.bind (mr m r0 0) fun y6 =>
    if mk m y6 = 9 then
    if vin i2 (ml m y6) then
    Option.bind (mr m y6 i2.toNatClampNeg) fun y10 =>
    if mk m y10 = 4 then
    if (mi m y10 3) = 2 then (
      rec 4 m r0 (i1 + (1 <<< (i2 &&& 31))) (i2 + 1)
    ) else (
      rec 4 m r0 i1 (i2 + 1)
    )
    else none
    else none
    else none
  )
  else none
  else none
noncomputable def fL_X5_open (n : Nat) : Nat → vM → Nat → Int32 → Int32 → Option (Int32) := Nat.rec (fun _ _ _ _ _ => none) (fun _ rec pc m r0 i1 i2 => if pc = 4 then fB_X5_open_4 rec m r0 i1 i2 else none) n
noncomputable def f_X5_open (m : vM) (p0 : Nat) : Option (Int32) :=
  fL_X5_open vF 4 m p0 (0 : Int32) (0 : Int32)
theorem in_X5_open_X4 : ∀ w ∈ wsX40, w ∈ wsX5_open := by decide +kernel
theorem in_X5_open_X5 : ∀ w ∈ wsX50, w ∈ wsX5_open := by decide +kernel
set_option maxHeartbeats 1000000 in
set_option maxRecDepth 100000 in
theorem cm_X5_open (l : Launch) (D : va_G) (tc : Nat → ClassId) (ad : Nat → Nat) {N : Nat} {m0 : vM} {p0 : Nat} (hO : vOK N m0) (n_p0 : p0 < N) {z : Int32} (h : f_X5_open m0 p0 = some z) : Met l yX5_open wsX5_open ({ frames := 0, cells := 0, slots := 0, locals := 0 } : Room) (va_Pc [.ref (ad p0)] (qR D tc ad N m0)) (va_Qi (fun (r9 : Int32) (_ : Unit) => r9 = z) (fun _ _ => True) (fun _ => False)) 0 0 (fun _ => False) := by
  refine Met.ofW (cc := cX5_open) (maxL := 3) (ret := (some .int)) (by decide) rfl ?_
  intro p e s m args below meth c s₁ B hml hv
  obtain ⟨rfl, hP, hK, hZ⟩ := hv
  have hx := B.exec
  have hb := B.bytes
  have hr := B.returns
  have hts := atoms_spec (ws := wsX5_open) B.pre
  have hown : s.vm.findClass RX5 = some m.cls := findClass_of_methodNamed B.named
  have hlocks := B.notSynchronized
  have hS : va_S (fun _ => False) s.heap s.heap [] := va_S.rf
  have hl := lv_entry ([.ref (ad p0)]) (n := 3) (Nat.le_of_ble_eq_true rfl)
  rw [lg_entry_eq]
  generalize (lg_sl ([.ref (ad p0)]) ++ List.replicate (3 - (lg_sl ([.ref (ad p0)])).length) Slot.unset).toArray = ls at hl ⊢
  have hl : lv_has ls 3 [(0, .ref (ad p0))] := hl
  have hL : ∀ n : Nat, (∀ (m1 : vM) (r0 : Nat) (i1 : Int32) (i2 : Int32) (H : Heap) (locs : List Loc) (ls : Array Slot), vOK N m1 → r0 < N → fL_X5_open n 4 m1 r0 i1 i2 = some z → va_P D vwCl (vW tc ad N m1) H → va_S (fun _ => False) s.heap H locs → lv_has ls 3 [(0, .ref (ad r0)), (1, .int i1), (2, .int i2)] → W p l e (headSpec wsX5_open ({ frames := 0, cells := 0, slots := 0, locals := 0 } : Room)).room s m ([.ref (ad p0)] : List Value).toArray below meth c H locs 0 0 (MQ below (va_Qi (fun (r9 : Int32) (_ : Unit) => r9 = z) (fun _ _ => True) (fun _ => False)) ([.ref (ad p0)] : List Value).toArray s 0 0 (fun _ => False)) (F0 m 4 ls [])) := by
    intro n
    induction n with
    | zero => exact (fun _ _ _ _ _ _ _ _ _ h9 _ _ _ => by have h9 : (none : Option (Int32)) = some z := h9; cases h9)
    | succ n ih =>
      · intro m1 r0 i1 i2 H locs ls hO n_r0 h hP hS hl
        have h : fB_X5_open_4 (fL_X5_open n) m1 r0 i1 i2 = some z := h
        unfold fB_X5_open_4 at h
        refine lv_iload_n hx hb dX5_open_4 rfl (lv_at hl 2 rfl) ?_
        refine lv_aload_n hx hb dX5_open_5 rfl (lv_at hl 0 rfl) ?_
        obtain ⟨g1, h⟩ := vg_if h
        obtain ⟨y2, g3, h⟩ := vg_bind h
        have n_y2 := hO _ _ _ g3
        refine va_get (D := D) (ci := 5) (v := .ref (ad y2)) (C := RX5) (T := TX5) (N := 4) hx hb hts in_X5_open_X5 hown hK hP r0 (vW_k5 n_r0 g1) rfl 0 (by decide) (hts (.fieldLink RX5 9 "VaultDoorsLaw$Sim" "doors" "[LVaultDoorsLaw$Door;") (List.mem_of_getElem? (i := 1) rfl)) (fun _ h9 => h9) (by show some (va_rf (Option.map ad (mr m1 r0 0))) = _; rw [g3]; rfl) dX5_open_6 ?_
        obtain ⟨g4, h⟩ := vg_if h
        refine va_alen (D := D) hx hb hK hP y2 3 (vW_k9 n_y2 g4) rfl rfl dX5_open_9 ?_
        refine lv_icmp_ge (tgt := 38) hx hb dX5_open_10 (by decide) (fun c5 => ?_) (fun c5 => ?_)
        · rw [if_pos c5] at h
          refine lv_iload_n hx hb dX5_open_38 rfl (lv_at hl 1 rfl) ?_
          have hz := Option.some.inj h
          exact W.iret (v := i1) hx hb hr (fun t ht hW => ⟨⟨_, (), rfl, hz, trivial⟩, hS.F ht⟩) hS.2.2 dX5_open_39
        · rw [if_neg c5] at h
          refine lv_aload_n hx hb dX5_open_13 rfl (lv_at hl 0 rfl) ?_
          obtain ⟨y6, g7, h⟩ := vg_bind h
          have n_y6 := hO _ _ _ g7
          refine va_get (D := D) (ci := 5) (v := .ref (ad y6)) (C := RX5) (T := TX5) (N := 4) hx hb hts in_X5_open_X5 hown hK hP r0 (vW_k5 n_r0 g1) rfl 0 (by decide) (hts (.fieldLink RX5 9 "VaultDoorsLaw$Sim" "doors" "[LVaultDoorsLaw$Door;") (List.mem_of_getElem? (i := 1) rfl)) (fun _ h9 => h9) (by show some (va_rf (Option.map ad (mr m1 r0 0))) = _; rw [g7]; rfl) dX5_open_14 ?_
          refine lv_iload_n hx hb dX5_open_17 rfl (lv_at hl 2 rfl) ?_
          obtain ⟨g8, h⟩ := vg_if h
          obtain ⟨g9, h⟩ := vg_if h
          obtain ⟨y10, g11, h⟩ := vg_bind h
          have n_y10 := hO _ _ _ g11
          refine va_aldq (D := D) hx hb hK hP y6 3 (vW_k9 n_y6 g8) rfl (i := i2) g9 dX5_open_18 ?_
          refine W.eq (g2 := F0 m 19 ls [.ref (ad y10)]) (by show F0 m 19 ls (va_rf (Option.map ad (mr m1 y6 i2.toNatClampNeg)) :: _) = _; rw [g11]; rfl) ?_
          obtain ⟨g12, h⟩ := vg_if h
          refine va_get (D := D) (ci := 4) (v := .int (mi m1 y10 3)) (C := RX4) (T := TX4) (N := 9) hx hb hts in_X5_open_X4 hown hK hP y10 (vW_k4 n_y10 g12) rfl 3 (by decide) (hts (.fieldLink RX5 48 "VaultDoorsLaw$Door" "state" "I") (List.mem_of_getElem? (i := 2) rfl)) (fun _ h9 => h9) rfl dX5_open_19 ?_
          refine lv_iconst (v := 2) hx hb dX5_open_22 (by decide) ?_
          refine lv_icmp_ne (tgt := 32) hx hb dX5_open_23 (by decide) (fun c13 => ?_) (fun c13 => ?_)
          · rw [if_neg c13] at h
            refine lv_iinc (v := i2 + 1) (lv' := [(2, .int (i2 + 1)), (0, .ref (ad r0)), (1, .int i1)]) hx hb dX5_open_32 hl (k := 2) rfl rfl (by decide) rfl (fun ls hl => ?_)
            refine lv_goto (tgt := 4) hx hb dX5_open_35 (by decide) ?_
            exact (ih) m1 r0 i1 (i2 + 1) _ _ _ hO n_r0 h hP hS (lv_sub hl (l' := [(0, .ref (ad r0)), (1, .int i1), (2, .int (i2 + 1))]) [1, 2, 0] rfl)
          · rw [if_pos c13] at h
            refine lv_iload_n hx hb dX5_open_26 rfl (lv_at hl 1 rfl) ?_
            refine lv_iconst (v := 1) hx hb dX5_open_27 (by decide) ?_
            refine lv_iload_n hx hb dX5_open_28 rfl (lv_at hl 2 rfl) ?_
            refine lv_ishl hx hb dX5_open_29 ?_
            refine lv_iadd hx hb dX5_open_30 ?_
            refine lv_istore_n (lv' := [(1, .int (i1 + (1 <<< (i2 &&& 31)))), (0, .ref (ad r0)), (2, .int i2)]) hx hb dX5_open_31 rfl hl (by decide) rfl (fun ls hl => ?_)
            refine lv_iinc (v := i2 + 1) (lv' := [(2, .int (i2 + 1)), (1, .int (i1 + (1 <<< (i2 &&& 31)))), (0, .ref (ad r0))]) hx hb dX5_open_32 hl (k := 2) rfl rfl (by decide) rfl (fun ls hl => ?_)
            refine lv_goto (tgt := 4) hx hb dX5_open_35 (by decide) ?_
            exact (ih) m1 r0 (i1 + (1 <<< (i2 &&& 31))) (i2 + 1) _ _ _ hO n_r0 h hP hS (lv_sub hl (l' := [(0, .ref (ad r0)), (1, .int (i1 + (1 <<< (i2 &&& 31)))), (2, .int (i2 + 1))]) [2, 1, 0] rfl)
  unfold f_X5_open at h
  refine lv_iconst (v := 0) hx hb dX5_open_0 (by decide) ?_
  refine lv_istore_n (lv' := [(1, .int 0), (0, .ref (ad p0))]) hx hb dX5_open_1 rfl hl (by decide) rfl (fun ls hl => ?_)
  refine lv_iconst (v := 0) hx hb dX5_open_2 (by decide) ?_
  refine lv_istore_n (lv' := [(2, .int 0), (1, .int 0), (0, .ref (ad p0))]) hx hb dX5_open_3 rfl hl (by decide) rfl (fun ls hl => ?_)
  exact ((hL vF)) m0 p0 (0 : Int32) (0 : Int32) _ _ _ hO n_p0 h hP hS (lv_sub hl (l' := [(0, .ref (ad p0)), (1, .int 0), (2, .int 0)]) [2, 1, 0] rfl)

noncomputable def fB_X5_with_14 (rec : Nat → vM → Nat → Int32 → Int32 → Nat → Int32 → Int32 → Option (Int32)) (m : vM) (r0 : Nat) (i1 : Int32) (i2 : Int32) (r3 : Nat) (i4 : Int32) (i5 : Int32) : Option (Int32) :=
  if i4 ≤ i5 then (
    some i2
  ) else (
    if mk m r3 = 9 then
    if vin i5 (ml m r3) then
    Option.bind (mr m r3 i5.toNatClampNeg) fun y4 =>
    if mk m y4 = 4 then
    if (mi m y4 3) = i1 then (
      rec 14 m r0 i1 (i2 + 1) r3 i4 (i5 + 1)
    ) else (
      rec 14 m r0 i1 (i2 + 0) r3 i4 (i5 + 1)
    )
    else none
    else none
    else none
  )
noncomputable def fL_X5_with (n : Nat) : Nat → vM → Nat → Int32 → Int32 → Nat → Int32 → Int32 → Option (Int32) := Nat.rec (fun _ _ _ _ _ _ _ _ => none) (fun _ rec pc m r0 i1 i2 r3 i4 i5 => if pc = 14 then fB_X5_with_14 rec m r0 i1 i2 r3 i4 i5 else none) n
noncomputable def f_X5_with (m : vM) (p0 : Nat) (p1 : Int32) : Option (Int32) :=
  if mk m p0 = 5 then
  Option.bind (mr m p0 0) fun y2 =>
  if mk m y2 = 9 then
  fL_X5_with vF 14 m p0 p1 (0 : Int32) y2 (Int32.ofNat (ml m y2)) (0 : Int32)
  else none
  else none
theorem in_X5_with_X4 : ∀ w ∈ wsX40, w ∈ wsX5_with := by decide +kernel
theorem in_X5_with_X5 : ∀ w ∈ wsX50, w ∈ wsX5_with := by decide +kernel
set_option maxHeartbeats 1000000 in
set_option maxRecDepth 100000 in
theorem cm_X5_with (l : Launch) (D : va_G) (tc : Nat → ClassId) (ad : Nat → Nat) {N : Nat} {m0 : vM} {p0 : Nat} {p1 : Int32} (hO : vOK N m0) (n_p0 : p0 < N) {z : Int32} (h : f_X5_with m0 p0 p1 = some z) : Met l yX5_with wsX5_with ({ frames := 0, cells := 0, slots := 0, locals := 0 } : Room) (va_Pc [.ref (ad p0), .int p1] (qR D tc ad N m0)) (va_Qi (fun (r9 : Int32) (_ : Unit) => r9 = z) (fun _ _ => True) (fun _ => False)) 0 0 (fun _ => False) := by
  refine Met.ofW (cc := cX5_with) (maxL := 7) (ret := (some .int)) (by decide) rfl ?_
  intro p e s m args below meth c s₁ B hml hv
  obtain ⟨rfl, hP, hK, hZ⟩ := hv
  have hx := B.exec
  have hb := B.bytes
  have hr := B.returns
  have hts := atoms_spec (ws := wsX5_with) B.pre
  have hown : s.vm.findClass RX5 = some m.cls := findClass_of_methodNamed B.named
  have hlocks := B.notSynchronized
  have hS : va_S (fun _ => False) s.heap s.heap [] := va_S.rf
  have hl := lv_entry ([.ref (ad p0), .int p1]) (n := 7) (Nat.le_of_ble_eq_true rfl)
  rw [lg_entry_eq]
  generalize (lg_sl ([.ref (ad p0), .int p1]) ++ List.replicate (7 - (lg_sl ([.ref (ad p0), .int p1])).length) Slot.unset).toArray = ls at hl ⊢
  have hl : lv_has ls 7 [(0, .ref (ad p0)), (1, .int p1)] := hl
  have hL : ∀ n : Nat, (∀ (m1 : vM) (r0 : Nat) (i1 : Int32) (i2 : Int32) (r3 : Nat) (i4 : Int32) (i5 : Int32) (H : Heap) (locs : List Loc) (ls : Array Slot), vOK N m1 → r0 < N → r3 < N → fL_X5_with n 14 m1 r0 i1 i2 r3 i4 i5 = some z → va_P D vwCl (vW tc ad N m1) H → va_S (fun _ => False) s.heap H locs → lv_has ls 7 [(0, .ref (ad r0)), (1, .int i1), (2, .int i2), (3, .ref (ad r3)), (4, .int i4), (5, .int i5)] → W p l e (headSpec wsX5_with ({ frames := 0, cells := 0, slots := 0, locals := 0 } : Room)).room s m ([.ref (ad p0), .int p1] : List Value).toArray below meth c H locs 0 0 (MQ below (va_Qi (fun (r9 : Int32) (_ : Unit) => r9 = z) (fun _ _ => True) (fun _ => False)) ([.ref (ad p0), .int p1] : List Value).toArray s 0 0 (fun _ => False)) (F0 m 14 ls [])) := by
    intro n
    induction n with
    | zero => exact (fun _ _ _ _ _ _ _ _ _ _ _ _ _ h9 _ _ _ => by have h9 : (none : Option (Int32)) = some z := h9; cases h9)
    | succ n ih =>
      · intro m1 r0 i1 i2 r3 i4 i5 H locs ls hO n_r0 n_r3 h hP hS hl
        have h : fB_X5_with_14 (fL_X5_with n) m1 r0 i1 i2 r3 i4 i5 = some z := h
        unfold fB_X5_with_14 at h
        refine lv_iload hx hb dX5_with_14 (lv_at hl 5 rfl) ?_
        refine lv_iload hx hb dX5_with_16 (lv_at hl 4 rfl) ?_
        refine lv_icmp_ge (tgt := 50) hx hb dX5_with_18 (by decide) (fun c1 => ?_) (fun c1 => ?_)
        · rw [if_pos c1] at h
          refine lv_iload_n hx hb dX5_with_50 rfl (lv_at hl 2 rfl) ?_
          have hz := Option.some.inj h
          exact W.iret (v := i2) hx hb hr (fun t ht hW => ⟨⟨_, (), rfl, hz, trivial⟩, hS.F ht⟩) hS.2.2 dX5_with_51
        · rw [if_neg c1] at h
          refine lv_aload_n hx hb dX5_with_21 rfl (lv_at hl 3 rfl) ?_
          refine lv_iload hx hb dX5_with_22 (lv_at hl 5 rfl) ?_
          obtain ⟨g2, h⟩ := vg_if h
          obtain ⟨g3, h⟩ := vg_if h
          obtain ⟨y4, g5, h⟩ := vg_bind h
          have n_y4 := hO _ _ _ g5
          refine va_aldq (D := D) hx hb hK hP r3 3 (vW_k9 n_r3 g2) rfl (i := i5) g3 dX5_with_24 ?_
          refine W.eq (g2 := F0 m 25 ls [.ref (ad y4)]) (by show F0 m 25 ls (va_rf (Option.map ad (mr m1 r3 i5.toNatClampNeg)) :: _) = _; rw [g5]; rfl) ?_
          refine lv_astore (lv' := [(6, .ref (ad y4)), (0, .ref (ad r0)), (1, .int i1), (2, .int i2), (3, .ref (ad r3)), (4, .int i4), (5, .int i5)]) hx hb dX5_with_25 hl (by decide) rfl (fun ls hl => ?_)
          refine lv_iload_n hx hb dX5_with_27 rfl (lv_at hl 3 rfl) ?_
          refine lv_aload hx hb dX5_with_28 (lv_at hl 0 rfl) ?_
          obtain ⟨g6, h⟩ := vg_if h
          refine va_get (D := D) (ci := 4) (v := .int (mi m1 y4 3)) (C := RX4) (T := TX4) (N := 9) hx hb hts in_X5_with_X4 hown hK hP y4 (vW_k4 n_y4 g6) rfl 3 (by decide) (hts (.fieldLink RX5 48 "VaultDoorsLaw$Door" "state" "I") (List.mem_of_getElem? (i := 2) rfl)) (fun _ h9 => h9) rfl dX5_with_30 ?_
          refine lv_iload_n hx hb dX5_with_33 rfl (lv_at hl 2 rfl) ?_
          refine lv_icmp_ne (tgt := 41) hx hb dX5_with_34 (by decide) (fun c7 => ?_) (fun c7 => ?_)
          · rw [if_neg c7] at h
            refine lv_iconst (v := 0) hx hb dX5_with_41 (by decide) ?_
            refine lv_iadd hx hb dX5_with_42 ?_
            refine lv_istore_n (lv' := [(2, .int (i2 + 0)), (6, .ref (ad y4)), (0, .ref (ad r0)), (1, .int i1), (3, .ref (ad r3)), (4, .int i4), (5, .int i5)]) hx hb dX5_with_43 rfl hl (by decide) rfl (fun ls hl => ?_)
            refine lv_iinc (v := i5 + 1) (lv' := [(5, .int (i5 + 1)), (2, .int (i2 + 0)), (6, .ref (ad y4)), (0, .ref (ad r0)), (1, .int i1), (3, .ref (ad r3)), (4, .int i4)]) hx hb dX5_with_44 hl (k := 6) rfl rfl (by decide) rfl (fun ls hl => ?_)
            refine lv_goto (tgt := 14) hx hb dX5_with_47 (by decide) ?_
            exact (ih) m1 r0 i1 (i2 + 0) r3 i4 (i5 + 1) _ _ _ hO n_r0 n_r3 h hP hS (lv_sub hl (l' := [(0, .ref (ad r0)), (1, .int i1), (2, .int (i2 + 0)), (3, .ref (ad r3)), (4, .int i4), (5, .int (i5 + 1))]) [3, 4, 1, 5, 6, 0] rfl)
          · rw [if_pos c7] at h
            refine lv_iconst (v := 1) hx hb dX5_with_37 (by decide) ?_
            refine lv_goto (tgt := 42) hx hb dX5_with_38 (by decide) ?_
            refine lv_iadd hx hb dX5_with_42 ?_
            refine lv_istore_n (lv' := [(2, .int (i2 + 1)), (6, .ref (ad y4)), (0, .ref (ad r0)), (1, .int i1), (3, .ref (ad r3)), (4, .int i4), (5, .int i5)]) hx hb dX5_with_43 rfl hl (by decide) rfl (fun ls hl => ?_)
            refine lv_iinc (v := i5 + 1) (lv' := [(5, .int (i5 + 1)), (2, .int (i2 + 1)), (6, .ref (ad y4)), (0, .ref (ad r0)), (1, .int i1), (3, .ref (ad r3)), (4, .int i4)]) hx hb dX5_with_44 hl (k := 6) rfl rfl (by decide) rfl (fun ls hl => ?_)
            refine lv_goto (tgt := 14) hx hb dX5_with_47 (by decide) ?_
            exact (ih) m1 r0 i1 (i2 + 1) r3 i4 (i5 + 1) _ _ _ hO n_r0 n_r3 h hP hS (lv_sub hl (l' := [(0, .ref (ad r0)), (1, .int i1), (2, .int (i2 + 1)), (3, .ref (ad r3)), (4, .int i4), (5, .int (i5 + 1))]) [3, 4, 1, 5, 6, 0] rfl)
  unfold f_X5_with at h
  refine lv_iconst (v := 0) hx hb dX5_with_0 (by decide) ?_
  refine lv_istore_n (lv' := [(2, .int 0), (0, .ref (ad p0)), (1, .int p1)]) hx hb dX5_with_1 rfl hl (by decide) rfl (fun ls hl => ?_)
  refine lv_aload_n hx hb dX5_with_2 rfl (lv_at hl 1 rfl) ?_
  obtain ⟨g8, h⟩ := vg_if h
  obtain ⟨y9, g10, h⟩ := vg_bind h
  have n_y9 := hO _ _ _ g10
  refine va_get (D := D) (ci := 5) (v := .ref (ad y9)) (C := RX5) (T := TX5) (N := 4) hx hb hts in_X5_with_X5 hown hK hP p0 (vW_k5 n_p0 g8) rfl 0 (by decide) (hts (.fieldLink RX5 9 "VaultDoorsLaw$Sim" "doors" "[LVaultDoorsLaw$Door;") (List.mem_of_getElem? (i := 1) rfl)) (fun _ h9 => h9) (by show some (va_rf (Option.map ad (mr m0 p0 0))) = _; rw [g10]; rfl) dX5_with_3 ?_
  refine lv_astore_n (lv' := [(3, .ref (ad y9)), (2, .int 0), (0, .ref (ad p0)), (1, .int p1)]) hx hb dX5_with_6 rfl hl (by decide) rfl (fun ls hl => ?_)
  refine lv_aload_n hx hb dX5_with_7 rfl (lv_at hl 0 rfl) ?_
  obtain ⟨g11, h⟩ := vg_if h
  refine va_alen (D := D) hx hb hK hP y9 3 (vW_k9 n_y9 g11) rfl rfl dX5_with_8 ?_
  refine lv_istore (lv' := [(4, .int (Int32.ofNat (ml m0 y9))), (3, .ref (ad y9)), (2, .int 0), (0, .ref (ad p0)), (1, .int p1)]) hx hb dX5_with_9 hl (by decide) rfl (fun ls hl => ?_)
  refine lv_iconst (v := 0) hx hb dX5_with_11 (by decide) ?_
  refine lv_istore (lv' := [(5, .int 0), (4, .int (Int32.ofNat (ml m0 y9))), (3, .ref (ad y9)), (2, .int 0), (0, .ref (ad p0)), (1, .int p1)]) hx hb dX5_with_12 hl (by decide) rfl (fun ls hl => ?_)
  exact ((hL vF)) m0 p0 p1 (0 : Int32) y9 (Int32.ofNat (ml m0 y9)) (0 : Int32) _ _ _ hO n_p0 n_y9 h hP hS (lv_sub hl (l' := [(0, .ref (ad p0)), (1, .int p1), (2, .int 0), (3, .ref (ad y9)), (4, .int (Int32.ofNat (ml m0 y9))), (5, .int 0)]) [4, 5, 3, 2, 1, 0] rfl)
