noncomputable def fB_X3_mean_6 (rec : Nat → vM → Nat → Int32 → Int32 → Int32 → Option (UInt64)) (m : vM) (r0 : Nat) (i1 : Int32) (i2 : Int32) (i3 : Int32) : Option (UInt64) :=
  if mk m r0 = 3 then
  Option.bind (mr m r0 0) fun y2 =>
  if mk m y2 = 1 then
  if (mi m y2 1) ≤ i3 then (
    if (i1 + i2) ≤ 0 then (
      some FP.dconst0
    ) else (
      if @decide (vf_n64 (FP.ddiv (FP.i2d i1) (FP.i2d (i1 + i2)))) (Classical.propDecidable _) = true then
      some (FP.ddiv (FP.i2d i1) (FP.i2d (i1 + i2)))
      else none
    )
  ) else (
    Option.bind (mr m r0 0) fun y8 =>
    if mk m y8 = 1 then
    Option.bind (mr m y8 2) fun y11 =>
    if mk m y11 = 7 then
    if vin i3 (ml m y11) then
    Option.bind (mr m y11 i3.toNatClampNeg) fun y15 =>
    if mk m y15 = 0 then
    Option.bind (mr m r0 0) fun y18 =>
    if mk m y18 = 1 then
    Option.bind (mr m y18 2) fun y21 =>
    if mk m y21 = 7 then
    if vin i3 (ml m y21) then
    Option.bind (mr m y21 i3.toNatClampNeg) fun y25 =>
    if mk m y25 = 0 then
    rec 6 m r0 (i1 + (mi m y15 5)) (i2 + (mi m y25 6)) (i3 + 1)
    else none
    else none
    else none
    else none
    else none
    else none
    else none
    else none
  )
  else none
  else none
noncomputable def fL_X3_mean (n : Nat) : Nat → vM → Nat → Int32 → Int32 → Int32 → Option (UInt64) := Nat.rec (fun _ _ _ _ _ _ => none) (fun _ rec pc m r0 i1 i2 i3 => if pc = 6 then fB_X3_mean_6 rec m r0 i1 i2 i3 else none) n
noncomputable def f_X3_mean (m : vM) (p0 : Nat) : Option (UInt64) :=
  fL_X3_mean vF 6 m p0 (0 : Int32) (0 : Int32) (0 : Int32)
theorem in_X3_mean_X0 : ∀ w ∈ wsX00, w ∈ wsX3_mean := by decide +kernel
theorem in_X3_mean_X1 : ∀ w ∈ wsX10, w ∈ wsX3_mean := by decide +kernel
theorem in_X3_mean_X3 : ∀ w ∈ wsX30, w ∈ wsX3_mean := by decide +kernel
set_option maxHeartbeats 1000000 in
set_option maxRecDepth 100000 in
theorem cm_X3_mean (l : Launch) (D : va_G) (tc : Nat → ClassId) (ad : Nat → Nat) {N : Nat} {m0 : vM} {p0 : Nat} (hO : vOK N m0) (n_p0 : p0 < N) {z : UInt64} (h : f_X3_mean m0 p0 = some z) : Met l yX3_mean wsX3_mean ({ frames := 0, cells := 0, slots := 0, locals := 0 } : Room) (va_Pc [.ref (ad p0)] (qR D tc ad N m0)) (va_Qd (fun (r9 : UInt64) (_ : Unit) => r9 = z) (fun _ _ => True) (fun _ => False)) 0 0 (fun _ => False) := by
  refine Met.ofW (cc := cX3_mean) (maxL := 4) (ret := (some .double)) (by decide) rfl ?_
  intro p e s m args below meth c s₁ B hml hv
  obtain ⟨rfl, hP, hK, hZ⟩ := hv
  have hx := B.exec
  have hb := B.bytes
  have hr := B.returns
  have hts := atoms_spec (ws := wsX3_mean) B.pre
  have hown : s.vm.findClass RX3 = some m.cls := findClass_of_methodNamed B.named
  have hlocks := B.notSynchronized
  have hS : va_S (fun _ => False) s.heap s.heap [] := va_S.rf
  have hl := lv_entry ([.ref (ad p0)]) (n := 4) (Nat.le_of_ble_eq_true rfl)
  rw [lg_entry_eq]
  generalize (lg_sl ([.ref (ad p0)]) ++ List.replicate (4 - (lg_sl ([.ref (ad p0)])).length) Slot.unset).toArray = ls at hl ⊢
  have hl : lv_has ls 4 [(0, .ref (ad p0))] := hl
  have hL : ∀ n : Nat, (∀ (m1 : vM) (r0 : Nat) (i1 : Int32) (i2 : Int32) (i3 : Int32) (H : Heap) (locs : List Loc) (ls : Array Slot), vOK N m1 → r0 < N → fL_X3_mean n 6 m1 r0 i1 i2 i3 = some z → va_P D vwCl (vW tc ad N m1) H → va_S (fun _ => False) s.heap H locs → lv_has ls 4 [(0, .ref (ad r0)), (1, .int i1), (2, .int i2), (3, .int i3)] → W p l e (headSpec wsX3_mean ({ frames := 0, cells := 0, slots := 0, locals := 0 } : Room)).room s m ([.ref (ad p0)] : List Value).toArray below meth c H locs 0 0 (MQ below (va_Qd (fun (r9 : UInt64) (_ : Unit) => r9 = z) (fun _ _ => True) (fun _ => False)) ([.ref (ad p0)] : List Value).toArray s 0 0 (fun _ => False)) (F0 m 6 ls [])) := by
    intro n
    induction n with
    | zero => exact (fun _ _ _ _ _ _ _ _ _ _ h9 _ _ _ => by have h9 : (none : Option (UInt64)) = some z := h9; cases h9)
    | succ n ih =>
      · intro m1 r0 i1 i2 i3 H locs ls hO n_r0 h hP hS hl
        have h : fB_X3_mean_6 (fL_X3_mean n) m1 r0 i1 i2 i3 = some z := h
        unfold fB_X3_mean_6 at h
        refine lv_iload_n hx hb dX3_mean_6 rfl (lv_at hl 3 rfl) ?_
        refine lv_aload_n hx hb dX3_mean_7 rfl (lv_at hl 0 rfl) ?_
        obtain ⟨g1, h⟩ := vg_if h
        obtain ⟨y2, g3, h⟩ := vg_bind h
        have n_y2 := hO _ _ _ g3
        refine va_get (D := D) (ci := 3) (v := .ref (ad y2)) (C := RX3) (T := TX3) (N := 2) hx hb hts in_X3_mean_X3 hown hK hP r0 (vW_k3 n_r0 g1) rfl 0 (by decide) (hts (.fieldLink RX3 10 "VaultDoors" "vault" "LVaultDoors$Vault;") (List.mem_of_getElem? (i := 1) rfl)) (fun _ h9 => h9) (by show some (va_rf (Option.map ad (mr m1 r0 0))) = _; rw [g3]; rfl) dX3_mean_8 ?_
        obtain ⟨g4, h⟩ := vg_if h
        refine va_get (D := D) (ci := 1) (v := .int (mi m1 y2 1)) (C := RX1) (T := TX1) (N := 5) hx hb hts in_X3_mean_X1 hown hK hP y2 (vW_k1 n_y2 g4) rfl 1 (by decide) (hts (.fieldLink RX3 39 "VaultDoors$Vault" "doorCount" "I") (List.mem_of_getElem? (i := 2) rfl)) (fun _ h9 => h9) rfl dX3_mean_11 ?_
        refine lv_icmp_ge (tgt := 53) hx hb dX3_mean_14 (by decide) (fun c5 => ?_) (fun c5 => ?_)
        · rw [if_pos c5] at h
          refine lv_iload_n hx hb dX3_mean_53 rfl (lv_at hl 1 rfl) ?_
          refine lv_iload_n hx hb dX3_mean_54 rfl (lv_at hl 2 rfl) ?_
          refine lv_iadd hx hb dX3_mean_55 ?_
          refine lv_istore_n (lv' := [(3, .int (i1 + i2)), (0, .ref (ad r0)), (1, .int i1), (2, .int i2)]) hx hb dX3_mean_56 rfl hl (by decide) rfl (fun ls hl => ?_)
          refine lv_iload_n hx hb dX3_mean_57 rfl (lv_at hl 0 rfl) ?_
          refine lv_if_le (tgt := 69) hx hb dX3_mean_58 (by decide) (fun c6 => ?_) (fun c6 => ?_)
          · rw [if_pos c6] at h
            refine lv_dconst0 hx hb dX3_mean_69 ?_
            have hz := Option.some.inj h
            exact W.dret (v := FP.dconst0) hx hb hr (fun t ht hW => ⟨⟨_, (), rfl, hz, trivial⟩, hS.F ht⟩) hS.2.2 dX3_mean_70
          · rw [if_neg c6] at h
            refine lv_iload_n hx hb dX3_mean_61 rfl (lv_at hl 2 rfl) ?_
            refine lv_i2d hx hb dX3_mean_62 ?_
            refine lv_iload_n hx hb dX3_mean_63 rfl (lv_at hl 0 rfl) ?_
            refine lv_i2d hx hb dX3_mean_64 ?_
            obtain ⟨g7, h⟩ := vg_if h
            refine lv_ddiv hx hb dX3_mean_65 (@of_decide_eq_true _ (Classical.propDecidable _) g7) ?_
            refine lv_goto (tgt := 70) hx hb dX3_mean_66 (by decide) ?_
            have hz := Option.some.inj h
            exact W.dret (v := FP.ddiv (FP.i2d i1) (FP.i2d (i1 + i2))) hx hb hr (fun t ht hW => ⟨⟨_, (), rfl, hz, trivial⟩, hS.F ht⟩) hS.2.2 dX3_mean_70
        · rw [if_neg c5] at h
          refine lv_iload_n hx hb dX3_mean_17 rfl (lv_at hl 1 rfl) ?_
          refine lv_aload_n hx hb dX3_mean_18 rfl (lv_at hl 0 rfl) ?_
          obtain ⟨y8, g9, h⟩ := vg_bind h
          have n_y8 := hO _ _ _ g9
          refine va_get (D := D) (ci := 3) (v := .ref (ad y8)) (C := RX3) (T := TX3) (N := 2) hx hb hts in_X3_mean_X3 hown hK hP r0 (vW_k3 n_r0 g1) rfl 0 (by decide) (hts (.fieldLink RX3 10 "VaultDoors" "vault" "LVaultDoors$Vault;") (List.mem_of_getElem? (i := 1) rfl)) (fun _ h9 => h9) (by show some (va_rf (Option.map ad (mr m1 r0 0))) = _; rw [g9]; rfl) dX3_mean_19 ?_
          obtain ⟨g10, h⟩ := vg_if h
          obtain ⟨y11, g12, h⟩ := vg_bind h
          have n_y11 := hO _ _ _ g12
          refine va_get (D := D) (ci := 1) (v := .ref (ad y11)) (C := RX1) (T := TX1) (N := 5) hx hb hts in_X3_mean_X1 hown hK hP y8 (vW_k1 n_y8 g10) rfl 2 (by decide) (hts (.fieldLink RX3 62 "VaultDoors$Vault" "doors" "[LVaultDoors$Door;") (List.mem_of_getElem? (i := 3) rfl)) (fun _ h9 => h9) (by show some (va_rf (Option.map ad (mr m1 y8 2))) = _; rw [g12]; rfl) dX3_mean_22 ?_
          refine lv_iload_n hx hb dX3_mean_25 rfl (lv_at hl 3 rfl) ?_
          obtain ⟨g13, h⟩ := vg_if h
          obtain ⟨g14, h⟩ := vg_if h
          obtain ⟨y15, g16, h⟩ := vg_bind h
          have n_y15 := hO _ _ _ g16
          refine va_aldq (D := D) hx hb hK hP y11 1 (vW_k7 n_y11 g13) rfl (i := i3) g14 dX3_mean_26 ?_
          refine W.eq (g2 := F0 m 27 ls [.ref (ad y15), .int i1]) (by show F0 m 27 ls (va_rf (Option.map ad (mr m1 y11 i3.toNatClampNeg)) :: _) = _; rw [g16]; rfl) ?_
          obtain ⟨g17, h⟩ := vg_if h
          refine va_get (D := D) (ci := 0) (v := .int (mi m1 y15 5)) (C := RX0) (T := TX0) (N := 14) hx hb hts in_X3_mean_X0 hown hK hP y15 (vW_k0 n_y15 g17) rfl 5 (by decide) (hts (.fieldLink RX3 152 "VaultDoors$Door" "opened" "I") (List.mem_of_getElem? (i := 4) rfl)) (fun _ h9 => h9) rfl dX3_mean_27 ?_
          refine lv_iadd hx hb dX3_mean_30 ?_
          refine lv_istore_n (lv' := [(1, .int (i1 + (mi m1 y15 5))), (0, .ref (ad r0)), (2, .int i2), (3, .int i3)]) hx hb dX3_mean_31 rfl hl (by decide) rfl (fun ls hl => ?_)
          refine lv_iload_n hx hb dX3_mean_32 rfl (lv_at hl 2 rfl) ?_
          refine lv_aload_n hx hb dX3_mean_33 rfl (lv_at hl 1 rfl) ?_
          obtain ⟨y18, g19, h⟩ := vg_bind h
          have n_y18 := hO _ _ _ g19
          refine va_get (D := D) (ci := 3) (v := .ref (ad y18)) (C := RX3) (T := TX3) (N := 2) hx hb hts in_X3_mean_X3 hown hK hP r0 (vW_k3 n_r0 g1) rfl 0 (by decide) (hts (.fieldLink RX3 10 "VaultDoors" "vault" "LVaultDoors$Vault;") (List.mem_of_getElem? (i := 1) rfl)) (fun _ h9 => h9) (by show some (va_rf (Option.map ad (mr m1 r0 0))) = _; rw [g19]; rfl) dX3_mean_34 ?_
          obtain ⟨g20, h⟩ := vg_if h
          obtain ⟨y21, g22, h⟩ := vg_bind h
          have n_y21 := hO _ _ _ g22
          refine va_get (D := D) (ci := 1) (v := .ref (ad y21)) (C := RX1) (T := TX1) (N := 5) hx hb hts in_X3_mean_X1 hown hK hP y18 (vW_k1 n_y18 g20) rfl 2 (by decide) (hts (.fieldLink RX3 62 "VaultDoors$Vault" "doors" "[LVaultDoors$Door;") (List.mem_of_getElem? (i := 3) rfl)) (fun _ h9 => h9) (by show some (va_rf (Option.map ad (mr m1 y18 2))) = _; rw [g22]; rfl) dX3_mean_37 ?_
          refine lv_iload_n hx hb dX3_mean_40 rfl (lv_at hl 3 rfl) ?_
          obtain ⟨g23, h⟩ := vg_if h
          obtain ⟨g24, h⟩ := vg_if h
          obtain ⟨y25, g26, h⟩ := vg_bind h
          have n_y25 := hO _ _ _ g26
          refine va_aldq (D := D) hx hb hK hP y21 1 (vW_k7 n_y21 g23) rfl (i := i3) g24 dX3_mean_41 ?_
          refine W.eq (g2 := F0 m 42 ls [.ref (ad y25), .int i2]) (by show F0 m 42 ls (va_rf (Option.map ad (mr m1 y21 i3.toNatClampNeg)) :: _) = _; rw [g26]; rfl) ?_
          obtain ⟨g27, h⟩ := vg_if h
          refine va_get (D := D) (ci := 0) (v := .int (mi m1 y25 6)) (C := RX0) (T := TX0) (N := 14) hx hb hts in_X3_mean_X0 hown hK hP y25 (vW_k0 n_y25 g27) rfl 6 (by decide) (hts (.fieldLink RX3 155 "VaultDoors$Door" "barred" "I") (List.mem_of_getElem? (i := 5) rfl)) (fun _ h9 => h9) rfl dX3_mean_42 ?_
          refine lv_iadd hx hb dX3_mean_45 ?_
          refine lv_istore_n (lv' := [(2, .int (i2 + (mi m1 y25 6))), (1, .int (i1 + (mi m1 y15 5))), (0, .ref (ad r0)), (3, .int i3)]) hx hb dX3_mean_46 rfl hl (by decide) rfl (fun ls hl => ?_)
          refine lv_iinc (v := i3 + 1) (lv' := [(3, .int (i3 + 1)), (2, .int (i2 + (mi m1 y25 6))), (1, .int (i1 + (mi m1 y15 5))), (0, .ref (ad r0))]) hx hb dX3_mean_47 hl (k := 3) rfl rfl (by decide) rfl (fun ls hl => ?_)
          refine lv_goto (tgt := 6) hx hb dX3_mean_50 (by decide) ?_
          exact (ih) m1 r0 (i1 + (mi m1 y15 5)) (i2 + (mi m1 y25 6)) (i3 + 1) _ _ _ hO n_r0 h hP hS (lv_sub hl (l' := [(0, .ref (ad r0)), (1, .int (i1 + (mi m1 y15 5))), (2, .int (i2 + (mi m1 y25 6))), (3, .int (i3 + 1))]) [3, 2, 1, 0] rfl)
  unfold f_X3_mean at h
  refine lv_iconst (v := 0) hx hb dX3_mean_0 (by decide) ?_
  refine lv_istore_n (lv' := [(1, .int 0), (0, .ref (ad p0))]) hx hb dX3_mean_1 rfl hl (by decide) rfl (fun ls hl => ?_)
  refine lv_iconst (v := 0) hx hb dX3_mean_2 (by decide) ?_
  refine lv_istore_n (lv' := [(2, .int 0), (1, .int 0), (0, .ref (ad p0))]) hx hb dX3_mean_3 rfl hl (by decide) rfl (fun ls hl => ?_)
  refine lv_iconst (v := 0) hx hb dX3_mean_4 (by decide) ?_
  refine lv_istore_n (lv' := [(3, .int 0), (2, .int 0), (1, .int 0), (0, .ref (ad p0))]) hx hb dX3_mean_5 rfl hl (by decide) rfl (fun ls hl => ?_)
  exact ((hL vF)) m0 p0 (0 : Int32) (0 : Int32) (0 : Int32) _ _ _ hO n_p0 h hP hS (lv_sub hl (l' := [(0, .ref (ad p0)), (1, .int 0), (2, .int 0), (3, .int 0)]) [3, 2, 1, 0] rfl)

noncomputable def fB_X5_isSame_7 (rec : Nat → Nat → vM → Nat → Nat → Nat → Nat → Int32 → Int32 → Int32 → Nat → Int32 → Nat → Nat → Int32 → Option (Int32 × Nat × vM)) (N : Nat) (m : vM) (kc ks : Nat) (r0 : Nat) (r1 : Nat) (i2 : Int32) (i3 : Int32) (i4 : Int32) (r4 : Nat) (i5 : Int32) (r5 : Nat) (r6 : Nat) (i7 : Int32) : Option (Int32 × Nat × vM) :=
  if mk m r0 = 5 then
  Option.bind (mr m r0 0) fun y2 =>
  if mk m y2 = 9 then
  if (Int32.ofNat (ml m y2)) ≤ i4 then (
    rec 289 N m kc ks r0 r1 i2 i3 (0 : Int32) 0 0 0 0 0
  ) else (
    Option.bind (mr m r0 0) fun y6 =>
    if mk m y6 = 9 then
    if vin i4 (ml m y6) then
    Option.bind (mr m y6 i4.toNatClampNeg) fun y10 =>
    if (kc + 1) ≤ 11 then
    if (ks + 9) ≤ 99 then
    if mk ((mN m N 6 9)) y10 = 4 then
    if vin (0 : Int32) (ml ((mN m N 6 9)) N) then
    if (mi ((mI ((mN m N 6 9)) N 0 (mi ((mN m N 6 9)) y10 3))) y10 3) = 0 then (
      if vin (1 : Int32) (ml ((mI ((mN m N 6 9)) N 0 (mi ((mN m N 6 9)) y10 3))) N) then
      if vin (2 : Int32) (ml ((mI ((mI ((mN m N 6 9)) N 0 (mi ((mN m N 6 9)) y10 3))) N 1 0)) N) then
      Option.bind (mr ((mI ((mI ((mI ((mN m N 6 9)) N 0 (mi ((mN m N 6 9)) y10 3))) N 1 0)) N 2 (mi ((mI ((mI ((mN m N 6 9)) N 0 (mi ((mN m N 6 9)) y10 3))) N 1 0)) y10 2))) y10 5) fun y32 =>
      if mk ((mI ((mI ((mI ((mN m N 6 9)) N 0 (mi ((mN m N 6 9)) y10 3))) N 1 0)) N 2 (mi ((mI ((mI ((mN m N 6 9)) N 0 (mi ((mN m N 6 9)) y10 3))) N 1 0)) y10 2))) y32 = 8 then
      if vin (3 : Int32) (ml ((mI ((mI ((mI ((mN m N 6 9)) N 0 (mi ((mN m N 6 9)) y10 3))) N 1 0)) N 2 (mi ((mI ((mI ((mN m N 6 9)) N 0 (mi ((mN m N 6 9)) y10 3))) N 1 0)) y10 2))) N) then
      Option.bind (f_X4_answers ((mI ((mI ((mI ((mI ((mN m N 6 9)) N 0 (mi ((mN m N 6 9)) y10 3))) N 1 0)) N 2 (mi ((mI ((mI ((mN m N 6 9)) N 0 (mi ((mN m N 6 9)) y10 3))) N 1 0)) y10 2))) N 3 (Int32.ofNat (ml ((mI ((mI ((mI ((mN m N 6 9)) N 0 (mi ((mN m N 6 9)) y10 3))) N 1 0)) N 2 (mi ((mI ((mI ((mN m N 6 9)) N 0 (mi ((mN m N 6 9)) y10 3))) N 1 0)) y10 2))) y32)))) y10 ((-1 : Int32))) fun q37 =>
      if vin (4 : Int32) (ml ((mI ((mI ((mI ((mI ((mN m N 6 9)) N 0 (mi ((mN m N 6 9)) y10 3))) N 1 0)) N 2 (mi ((mI ((mI ((mN m N 6 9)) N 0 (mi ((mN m N 6 9)) y10 3))) N 1 0)) y10 2))) N 3 (Int32.ofNat (ml ((mI ((mI ((mI ((mN m N 6 9)) N 0 (mi ((mN m N 6 9)) y10 3))) N 1 0)) N 2 (mi ((mI ((mI ((mN m N 6 9)) N 0 (mi ((mN m N 6 9)) y10 3))) N 1 0)) y10 2))) y32)))) N) then
      Option.bind (f_X4_answers ((mI ((mI ((mI ((mI ((mI ((mN m N 6 9)) N 0 (mi ((mN m N 6 9)) y10 3))) N 1 0)) N 2 (mi ((mI ((mI ((mN m N 6 9)) N 0 (mi ((mN m N 6 9)) y10 3))) N 1 0)) y10 2))) N 3 (Int32.ofNat (ml ((mI ((mI ((mI ((mN m N 6 9)) N 0 (mi ((mN m N 6 9)) y10 3))) N 1 0)) N 2 (mi ((mI ((mI ((mN m N 6 9)) N 0 (mi ((mN m N 6 9)) y10 3))) N 1 0)) y10 2))) y32)))) N 4 q37)) y10 ((1 : Int32))) fun q42 =>
      if vin (5 : Int32) (ml ((mI ((mI ((mI ((mI ((mI ((mN m N 6 9)) N 0 (mi ((mN m N 6 9)) y10 3))) N 1 0)) N 2 (mi ((mI ((mI ((mN m N 6 9)) N 0 (mi ((mN m N 6 9)) y10 3))) N 1 0)) y10 2))) N 3 (Int32.ofNat (ml ((mI ((mI ((mI ((mN m N 6 9)) N 0 (mi ((mN m N 6 9)) y10 3))) N 1 0)) N 2 (mi ((mI ((mI ((mN m N 6 9)) N 0 (mi ((mN m N 6 9)) y10 3))) N 1 0)) y10 2))) y32)))) N 4 q37)) N) then
      Option.bind (mr ((mI ((mI ((mI ((mI ((mI ((mI ((mN m N 6 9)) N 0 (mi ((mN m N 6 9)) y10 3))) N 1 0)) N 2 (mi ((mI ((mI ((mN m N 6 9)) N 0 (mi ((mN m N 6 9)) y10 3))) N 1 0)) y10 2))) N 3 (Int32.ofNat (ml ((mI ((mI ((mI ((mN m N 6 9)) N 0 (mi ((mN m N 6 9)) y10 3))) N 1 0)) N 2 (mi ((mI ((mI ((mN m N 6 9)) N 0 (mi ((mN m N 6 9)) y10 3))) N 1 0)) y10 2))) y32)))) N 4 q37)) N 5 q42)) y10 6) fun y47 =>
      if mk ((mI ((mI ((mI ((mI ((mI ((mI ((mN m N 6 9)) N 0 (mi ((mN m N 6 9)) y10 3))) N 1 0)) N 2 (mi ((mI ((mI ((mN m N 6 9)) N 0 (mi ((mN m N 6 9)) y10 3))) N 1 0)) y10 2))) N 3 (Int32.ofNat (ml ((mI ((mI ((mI ((mN m N 6 9)) N 0 (mi ((mN m N 6 9)) y10 3))) N 1 0)) N 2 (mi ((mI ((mI ((mN m N 6 9)) N 0 (mi ((mN m N 6 9)) y10 3))) N 1 0)) y10 2))) y32)))) N 4 q37)) N 5 q42)) y47 = 8 then
      if vin (6 : Int32) (ml ((mI ((mI ((mI ((mI ((mI ((mI ((mN m N 6 9)) N 0 (mi ((mN m N 6 9)) y10 3))) N 1 0)) N 2 (mi ((mI ((mI ((mN m N 6 9)) N 0 (mi ((mN m N 6 9)) y10 3))) N 1 0)) y10 2))) N 3 (Int32.ofNat (ml ((mI ((mI ((mI ((mN m N 6 9)) N 0 (mi ((mN m N 6 9)) y10 3))) N 1 0)) N 2 (mi ((mI ((mI ((mN m N 6 9)) N 0 (mi ((mN m N 6 9)) y10 3))) N 1 0)) y10 2))) y32)))) N 4 q37)) N 5 q42)) N) then
      if vin (7 : Int32) (ml ((mI ((mI ((mI ((mI ((mI ((mI ((mI ((mN m N 6 9)) N 0 (mi ((mN m N 6 9)) y10 3))) N 1 0)) N 2 (mi ((mI ((mI ((mN m N 6 9)) N 0 (mi ((mN m N 6 9)) y10 3))) N 1 0)) y10 2))) N 3 (Int32.ofNat (ml ((mI ((mI ((mI ((mN m N 6 9)) N 0 (mi ((mN m N 6 9)) y10 3))) N 1 0)) N 2 (mi ((mI ((mI ((mN m N 6 9)) N 0 (mi ((mN m N 6 9)) y10 3))) N 1 0)) y10 2))) y32)))) N 4 q37)) N 5 q42)) N 6 (Int32.ofNat (ml ((mI ((mI ((mI ((mI ((mI ((mI ((mN m N 6 9)) N 0 (mi ((mN m N 6 9)) y10 3))) N 1 0)) N 2 (mi ((mI ((mI ((mN m N 6 9)) N 0 (mi ((mN m N 6 9)) y10 3))) N 1 0)) y10 2))) N 3 (Int32.ofNat (ml ((mI ((mI ((mI ((mN m N 6 9)) N 0 (mi ((mN m N 6 9)) y10 3))) N 1 0)) N 2 (mi ((mI ((mI ((mN m N 6 9)) N 0 (mi ((mN m N 6 9)) y10 3))) N 1 0)) y10 2))) y32)))) N 4 q37)) N 5 q42)) y47)))) N) then
      if vin (8 : Int32) (ml ((mI ((mI ((mI ((mI ((mI ((mI ((mI ((mI ((mN m N 6 9)) N 0 (mi ((mN m N 6 9)) y10 3))) N 1 0)) N 2 (mi ((mI ((mI ((mN m N 6 9)) N 0 (mi ((mN m N 6 9)) y10 3))) N 1 0)) y10 2))) N 3 (Int32.ofNat (ml ((mI ((mI ((mI ((mN m N 6 9)) N 0 (mi ((mN m N 6 9)) y10 3))) N 1 0)) N 2 (mi ((mI ((mI ((mN m N 6 9)) N 0 (mi ((mN m N 6 9)) y10 3))) N 1 0)) y10 2))) y32)))) N 4 q37)) N 5 q42)) N 6 (Int32.ofNat (ml ((mI ((mI ((mI ((mI ((mI ((mI ((mN m N 6 9)) N 0 (mi ((mN m N 6 9)) y10 3))) N 1 0)) N 2 (mi ((mI ((mI ((mN m N 6 9)) N 0 (mi ((mN m N 6 9)) y10 3))) N 1 0)) y10 2))) N 3 (Int32.ofNat (ml ((mI ((mI ((mI ((mN m N 6 9)) N 0 (mi ((mN m N 6 9)) y10 3))) N 1 0)) N 2 (mi ((mI ((mI ((mN m N 6 9)) N 0 (mi ((mN m N 6 9)) y10 3))) N 1 0)) y10 2))) y32)))) N 4 q37)) N 5 q42)) y47)))) N 7 (mi ((mI ((mI ((mI ((mI ((mI ((mI ((mI ((mN m N 6 9)) N 0 (mi ((mN m N 6 9)) y10 3))) N 1 0)) N 2 (mi ((mI ((mI ((mN m N 6 9)) N 0 (mi ((mN m N 6 9)) y10 3))) N 1 0)) y10 2))) N 3 (Int32.ofNat (ml ((mI ((mI ((mI ((mN m N 6 9)) N 0 (mi ((mN m N 6 9)) y10 3))) N 1 0)) N 2 (mi ((mI ((mI ((mN m N 6 9)) N 0 (mi ((mN m N 6 9)) y10 3))) N 1 0)) y10 2))) y32)))) N 4 q37)) N 5 q42)) N 6 (Int32.ofNat (ml ((mI ((mI ((mI ((mI ((mI ((mI ((mN m N 6 9)) N 0 (mi ((mN m N 6 9)) y10 3))) N 1 0)) N 2 (mi ((mI ((mI ((mN m N 6 9)) N 0 (mi ((mN m N 6 9)) y10 3))) N 1 0)) y10 2))) N 3 (Int32.ofNat (ml ((mI ((mI ((mI ((mN m N 6 9)) N 0 (mi ((mN m N 6 9)) y10 3))) N 1 0)) N 2 (mi ((mI ((mI ((mN m N 6 9)) N 0 (mi ((mN m N 6 9)) y10 3))) N 1 0)) y10 2))) y32)))) N 4 q37)) N 5 q42)) y47)))) y10 7))) N) then
      rec 126 ((N + 1)) ((mI ((mI ((mI ((mI ((mI ((mI ((mI ((mI ((mI ((mN m N 6 9)) N 0 (mi ((mN m N 6 9)) y10 3))) N 1 0)) N 2 (mi ((mI ((mI ((mN m N 6 9)) N 0 (mi ((mN m N 6 9)) y10 3))) N 1 0)) y10 2))) N 3 (Int32.ofNat (ml ((mI ((mI ((mI ((mN m N 6 9)) N 0 (mi ((mN m N 6 9)) y10 3))) N 1 0)) N 2 (mi ((mI ((mI ((mN m N 6 9)) N 0 (mi ((mN m N 6 9)) y10 3))) N 1 0)) y10 2))) y32)))) N 4 q37)) N 5 q42)) N 6 (Int32.ofNat (ml ((mI ((mI ((mI ((mI ((mI ((mI ((mN m N 6 9)) N 0 (mi ((mN m N 6 9)) y10 3))) N 1 0)) N 2 (mi ((mI ((mI ((mN m N 6 9)) N 0 (mi ((mN m N 6 9)) y10 3))) N 1 0)) y10 2))) N 3 (Int32.ofNat (ml ((mI ((mI ((mI ((mN m N 6 9)) N 0 (mi ((mN m N 6 9)) y10 3))) N 1 0)) N 2 (mi ((mI ((mI ((mN m N 6 9)) N 0 (mi ((mN m N 6 9)) y10 3))) N 1 0)) y10 2))) y32)))) N 4 q37)) N 5 q42)) y47)))) N 7 (mi ((mI ((mI ((mI ((mI ((mI ((mI ((mI ((mN m N 6 9)) N 0 (mi ((mN m N 6 9)) y10 3))) N 1 0)) N 2 (mi ((mI ((mI ((mN m N 6 9)) N 0 (mi ((mN m N 6 9)) y10 3))) N 1 0)) y10 2))) N 3 (Int32.ofNat (ml ((mI ((mI ((mI ((mN m N 6 9)) N 0 (mi ((mN m N 6 9)) y10 3))) N 1 0)) N 2 (mi ((mI ((mI ((mN m N 6 9)) N 0 (mi ((mN m N 6 9)) y10 3))) N 1 0)) y10 2))) y32)))) N 4 q37)) N 5 q42)) N 6 (Int32.ofNat (ml ((mI ((mI ((mI ((mI ((mI ((mI ((mN m N 6 9)) N 0 (mi ((mN m N 6 9)) y10 3))) N 1 0)) N 2 (mi ((mI ((mI ((mN m N 6 9)) N 0 (mi ((mN m N 6 9)) y10 3))) N 1 0)) y10 2))) N 3 (Int32.ofNat (ml ((mI ((mI ((mI ((mN m N 6 9)) N 0 (mi ((mN m N 6 9)) y10 3))) N 1 0)) N 2 (mi ((mI ((mI ((mN m N 6 9)) N 0 (mi ((mN m N 6 9)) y10 3))) N 1 0)) y10 2))) y32)))) N 4 q37)) N 5 q42)) y47)))) y10 7))) N 8 (mi ((mI ((mI ((mI ((mI ((mI ((mI ((mI ((mI ((mN m N 6 9)) N 0 (mi ((mN m N 6 9)) y10 3))) N 1 0)) N 2 (mi ((mI ((mI ((mN m N 6 9)) N 0 (mi ((mN m N 6 9)) y10 3))) N 1 0)) y10 2))) N 3 (Int32.ofNat (ml ((mI ((mI ((mI ((mN m N 6 9)) N 0 (mi ((mN m N 6 9)) y10 3))) N 1 0)) N 2 (mi ((mI ((mI ((mN m N 6 9)) N 0 (mi ((mN m N 6 9)) y10 3))) N 1 0)) y10 2))) y32)))) N 4 q37)) N 5 q42)) N 6 (Int32.ofNat (ml ((mI ((mI ((mI ((mI ((mI ((mI ((mN m N 6 9)) N 0 (mi ((mN m N 6 9)) y10 3))) N 1 0)) N 2 (mi ((mI ((mI ((mN m N 6 9)) N 0 (mi ((mN m N 6 9)) y10 3))) N 1 0)) y10 2))) N 3 (Int32.ofNat (ml ((mI ((mI ((mI ((mN m N 6 9)) N 0 (mi ((mN m N 6 9)) y10 3))) N 1 0)) N 2 (mi ((mI ((mI ((mN m N 6 9)) N 0 (mi ((mN m N 6 9)) y10 3))) N 1 0)) y10 2))) y32)))) N 4 q37)) N 5 q42)) y47)))) N 7 (mi ((mI ((mI ((mI ((mI ((mI ((mI ((mI ((mN m N 6 9)) N 0 (mi ((mN m N 6 9)) y10 3))) N 1 0)) N 2 (mi ((mI ((mI ((mN m N 6 9)) N 0 (mi ((mN m N 6 9)) y10 3))) N 1 0)) y10 2))) N 3 (Int32.ofNat (ml ((mI ((mI ((mI ((mN m N 6 9)) N 0 (mi ((mN m N 6 9)) y10 3))) N 1 0)) N 2 (mi ((mI ((mI ((mN m N 6 9)) N 0 (mi ((mN m N 6 9)) y10 3))) N 1 0)) y10 2))) y32)))) N 4 q37)) N 5 q42)) N 6 (Int32.ofNat (ml ((mI ((mI ((mI ((mI ((mI ((mI ((mN m N 6 9)) N 0 (mi ((mN m N 6 9)) y10 3))) N 1 0)) N 2 (mi ((mI ((mI ((mN m N 6 9)) N 0 (mi ((mN m N 6 9)) y10 3))) N 1 0)) y10 2))) N 3 (Int32.ofNat (ml ((mI ((mI ((mI ((mN m N 6 9)) N 0 (mi ((mN m N 6 9)) y10 3))) N 1 0)) N 2 (mi ((mI ((mI ((mN m N 6 9)) N 0 (mi ((mN m N 6 9)) y10 3))) N 1 0)) y10 2))) y32)))) N 4 q37)) N 5 q42)) y47)))) y10 7))) y10 8))) ((kc + 1)) ((ks + 9)) r0 r1 i2 i3 i4 0 0 y10 N (0 : Int32)
      else none
      else none
      else none
      else none
      else none
      else none
      else none
      else none
      else none
      else none
    ) else (
      if vin (1 : Int32) (ml ((mI ((mN m N 6 9)) N 0 (mi ((mN m N 6 9)) y10 3))) N) then
      if vin (2 : Int32) (ml ((mI ((mI ((mN m N 6 9)) N 0 (mi ((mN m N 6 9)) y10 3))) N 1 (mi ((mI ((mN m N 6 9)) N 0 (mi ((mN m N 6 9)) y10 3))) y10 4))) N) then
      Option.bind (mr ((mI ((mI ((mI ((mN m N 6 9)) N 0 (mi ((mN m N 6 9)) y10 3))) N 1 (mi ((mI ((mN m N 6 9)) N 0 (mi ((mN m N 6 9)) y10 3))) y10 4))) N 2 (mi ((mI ((mI ((mN m N 6 9)) N 0 (mi ((mN m N 6 9)) y10 3))) N 1 (mi ((mI ((mN m N 6 9)) N 0 (mi ((mN m N 6 9)) y10 3))) y10 4))) y10 2))) y10 5) fun y60 =>
      if mk ((mI ((mI ((mI ((mN m N 6 9)) N 0 (mi ((mN m N 6 9)) y10 3))) N 1 (mi ((mI ((mN m N 6 9)) N 0 (mi ((mN m N 6 9)) y10 3))) y10 4))) N 2 (mi ((mI ((mI ((mN m N 6 9)) N 0 (mi ((mN m N 6 9)) y10 3))) N 1 (mi ((mI ((mN m N 6 9)) N 0 (mi ((mN m N 6 9)) y10 3))) y10 4))) y10 2))) y60 = 8 then
      if vin (3 : Int32) (ml ((mI ((mI ((mI ((mN m N 6 9)) N 0 (mi ((mN m N 6 9)) y10 3))) N 1 (mi ((mI ((mN m N 6 9)) N 0 (mi ((mN m N 6 9)) y10 3))) y10 4))) N 2 (mi ((mI ((mI ((mN m N 6 9)) N 0 (mi ((mN m N 6 9)) y10 3))) N 1 (mi ((mI ((mN m N 6 9)) N 0 (mi ((mN m N 6 9)) y10 3))) y10 4))) y10 2))) N) then
      Option.bind (f_X4_answers ((mI ((mI ((mI ((mI ((mN m N 6 9)) N 0 (mi ((mN m N 6 9)) y10 3))) N 1 (mi ((mI ((mN m N 6 9)) N 0 (mi ((mN m N 6 9)) y10 3))) y10 4))) N 2 (mi ((mI ((mI ((mN m N 6 9)) N 0 (mi ((mN m N 6 9)) y10 3))) N 1 (mi ((mI ((mN m N 6 9)) N 0 (mi ((mN m N 6 9)) y10 3))) y10 4))) y10 2))) N 3 (Int32.ofNat (ml ((mI ((mI ((mI ((mN m N 6 9)) N 0 (mi ((mN m N 6 9)) y10 3))) N 1 (mi ((mI ((mN m N 6 9)) N 0 (mi ((mN m N 6 9)) y10 3))) y10 4))) N 2 (mi ((mI ((mI ((mN m N 6 9)) N 0 (mi ((mN m N 6 9)) y10 3))) N 1 (mi ((mI ((mN m N 6 9)) N 0 (mi ((mN m N 6 9)) y10 3))) y10 4))) y10 2))) y60)))) y10 ((-1 : Int32))) fun q65 =>
      if vin (4 : Int32) (ml ((mI ((mI ((mI ((mI ((mN m N 6 9)) N 0 (mi ((mN m N 6 9)) y10 3))) N 1 (mi ((mI ((mN m N 6 9)) N 0 (mi ((mN m N 6 9)) y10 3))) y10 4))) N 2 (mi ((mI ((mI ((mN m N 6 9)) N 0 (mi ((mN m N 6 9)) y10 3))) N 1 (mi ((mI ((mN m N 6 9)) N 0 (mi ((mN m N 6 9)) y10 3))) y10 4))) y10 2))) N 3 (Int32.ofNat (ml ((mI ((mI ((mI ((mN m N 6 9)) N 0 (mi ((mN m N 6 9)) y10 3))) N 1 (mi ((mI ((mN m N 6 9)) N 0 (mi ((mN m N 6 9)) y10 3))) y10 4))) N 2 (mi ((mI ((mI ((mN m N 6 9)) N 0 (mi ((mN m N 6 9)) y10 3))) N 1 (mi ((mI ((mN m N 6 9)) N 0 (mi ((mN m N 6 9)) y10 3))) y10 4))) y10 2))) y60)))) N) then
      Option.bind (f_X4_answers ((mI ((mI ((mI ((mI ((mI ((mN m N 6 9)) N 0 (mi ((mN m N 6 9)) y10 3))) N 1 (mi ((mI ((mN m N 6 9)) N 0 (mi ((mN m N 6 9)) y10 3))) y10 4))) N 2 (mi ((mI ((mI ((mN m N 6 9)) N 0 (mi ((mN m N 6 9)) y10 3))) N 1 (mi ((mI ((mN m N 6 9)) N 0 (mi ((mN m N 6 9)) y10 3))) y10 4))) y10 2))) N 3 (Int32.ofNat (ml ((mI ((mI ((mI ((mN m N 6 9)) N 0 (mi ((mN m N 6 9)) y10 3))) N 1 (mi ((mI ((mN m N 6 9)) N 0 (mi ((mN m N 6 9)) y10 3))) y10 4))) N 2 (mi ((mI ((mI ((mN m N 6 9)) N 0 (mi ((mN m N 6 9)) y10 3))) N 1 (mi ((mI ((mN m N 6 9)) N 0 (mi ((mN m N 6 9)) y10 3))) y10 4))) y10 2))) y60)))) N 4 q65)) y10 ((1 : Int32))) fun q70 =>
      if vin (5 : Int32) (ml ((mI ((mI ((mI ((mI ((mI ((mN m N 6 9)) N 0 (mi ((mN m N 6 9)) y10 3))) N 1 (mi ((mI ((mN m N 6 9)) N 0 (mi ((mN m N 6 9)) y10 3))) y10 4))) N 2 (mi ((mI ((mI ((mN m N 6 9)) N 0 (mi ((mN m N 6 9)) y10 3))) N 1 (mi ((mI ((mN m N 6 9)) N 0 (mi ((mN m N 6 9)) y10 3))) y10 4))) y10 2))) N 3 (Int32.ofNat (ml ((mI ((mI ((mI ((mN m N 6 9)) N 0 (mi ((mN m N 6 9)) y10 3))) N 1 (mi ((mI ((mN m N 6 9)) N 0 (mi ((mN m N 6 9)) y10 3))) y10 4))) N 2 (mi ((mI ((mI ((mN m N 6 9)) N 0 (mi ((mN m N 6 9)) y10 3))) N 1 (mi ((mI ((mN m N 6 9)) N 0 (mi ((mN m N 6 9)) y10 3))) y10 4))) y10 2))) y60)))) N 4 q65)) N) then
      Option.bind (mr ((mI ((mI ((mI ((mI ((mI ((mI ((mN m N 6 9)) N 0 (mi ((mN m N 6 9)) y10 3))) N 1 (mi ((mI ((mN m N 6 9)) N 0 (mi ((mN m N 6 9)) y10 3))) y10 4))) N 2 (mi ((mI ((mI ((mN m N 6 9)) N 0 (mi ((mN m N 6 9)) y10 3))) N 1 (mi ((mI ((mN m N 6 9)) N 0 (mi ((mN m N 6 9)) y10 3))) y10 4))) y10 2))) N 3 (Int32.ofNat (ml ((mI ((mI ((mI ((mN m N 6 9)) N 0 (mi ((mN m N 6 9)) y10 3))) N 1 (mi ((mI ((mN m N 6 9)) N 0 (mi ((mN m N 6 9)) y10 3))) y10 4))) N 2 (mi ((mI ((mI ((mN m N 6 9)) N 0 (mi ((mN m N 6 9)) y10 3))) N 1 (mi ((mI ((mN m N 6 9)) N 0 (mi ((mN m N 6 9)) y10 3))) y10 4))) y10 2))) y60)))) N 4 q65)) N 5 q70)) y10 6) fun y75 =>
      if mk ((mI ((mI ((mI ((mI ((mI ((mI ((mN m N 6 9)) N 0 (mi ((mN m N 6 9)) y10 3))) N 1 (mi ((mI ((mN m N 6 9)) N 0 (mi ((mN m N 6 9)) y10 3))) y10 4))) N 2 (mi ((mI ((mI ((mN m N 6 9)) N 0 (mi ((mN m N 6 9)) y10 3))) N 1 (mi ((mI ((mN m N 6 9)) N 0 (mi ((mN m N 6 9)) y10 3))) y10 4))) y10 2))) N 3 (Int32.ofNat (ml ((mI ((mI ((mI ((mN m N 6 9)) N 0 (mi ((mN m N 6 9)) y10 3))) N 1 (mi ((mI ((mN m N 6 9)) N 0 (mi ((mN m N 6 9)) y10 3))) y10 4))) N 2 (mi ((mI ((mI ((mN m N 6 9)) N 0 (mi ((mN m N 6 9)) y10 3))) N 1 (mi ((mI ((mN m N 6 9)) N 0 (mi ((mN m N 6 9)) y10 3))) y10 4))) y10 2))) y60)))) N 4 q65)) N 5 q70)) y75 = 8 then
      if vin (6 : Int32) (ml ((mI ((mI ((mI ((mI ((mI ((mI ((mN m N 6 9)) N 0 (mi ((mN m N 6 9)) y10 3))) N 1 (mi ((mI ((mN m N 6 9)) N 0 (mi ((mN m N 6 9)) y10 3))) y10 4))) N 2 (mi ((mI ((mI ((mN m N 6 9)) N 0 (mi ((mN m N 6 9)) y10 3))) N 1 (mi ((mI ((mN m N 6 9)) N 0 (mi ((mN m N 6 9)) y10 3))) y10 4))) y10 2))) N 3 (Int32.ofNat (ml ((mI ((mI ((mI ((mN m N 6 9)) N 0 (mi ((mN m N 6 9)) y10 3))) N 1 (mi ((mI ((mN m N 6 9)) N 0 (mi ((mN m N 6 9)) y10 3))) y10 4))) N 2 (mi ((mI ((mI ((mN m N 6 9)) N 0 (mi ((mN m N 6 9)) y10 3))) N 1 (mi ((mI ((mN m N 6 9)) N 0 (mi ((mN m N 6 9)) y10 3))) y10 4))) y10 2))) y60)))) N 4 q65)) N 5 q70)) N) then
      if vin (7 : Int32) (ml ((mI ((mI ((mI ((mI ((mI ((mI ((mI ((mN m N 6 9)) N 0 (mi ((mN m N 6 9)) y10 3))) N 1 (mi ((mI ((mN m N 6 9)) N 0 (mi ((mN m N 6 9)) y10 3))) y10 4))) N 2 (mi ((mI ((mI ((mN m N 6 9)) N 0 (mi ((mN m N 6 9)) y10 3))) N 1 (mi ((mI ((mN m N 6 9)) N 0 (mi ((mN m N 6 9)) y10 3))) y10 4))) y10 2))) N 3 (Int32.ofNat (ml ((mI ((mI ((mI ((mN m N 6 9)) N 0 (mi ((mN m N 6 9)) y10 3))) N 1 (mi ((mI ((mN m N 6 9)) N 0 (mi ((mN m N 6 9)) y10 3))) y10 4))) N 2 (mi ((mI ((mI ((mN m N 6 9)) N 0 (mi ((mN m N 6 9)) y10 3))) N 1 (mi ((mI ((mN m N 6 9)) N 0 (mi ((mN m N 6 9)) y10 3))) y10 4))) y10 2))) y60)))) N 4 q65)) N 5 q70)) N 6 (Int32.ofNat (ml ((mI ((mI ((mI ((mI ((mI ((mI ((mN m N 6 9)) N 0 (mi ((mN m N 6 9)) y10 3))) N 1 (mi ((mI ((mN m N 6 9)) N 0 (mi ((mN m N 6 9)) y10 3))) y10 4))) N 2 (mi ((mI ((mI ((mN m N 6 9)) N 0 (mi ((mN m N 6 9)) y10 3))) N 1 (mi ((mI ((mN m N 6 9)) N 0 (mi ((mN m N 6 9)) y10 3))) y10 4))) y10 2))) N 3 (Int32.ofNat (ml ((mI ((mI ((mI ((mN m N 6 9)) N 0 (mi ((mN m N 6 9)) y10 3))) N 1 (mi ((mI ((mN m N 6 9)) N 0 (mi ((mN m N 6 9)) y10 3))) y10 4))) N 2 (mi ((mI ((mI ((mN m N 6 9)) N 0 (mi ((mN m N 6 9)) y10 3))) N 1 (mi ((mI ((mN m N 6 9)) N 0 (mi ((mN m N 6 9)) y10 3))) y10 4))) y10 2))) y60)))) N 4 q65)) N 5 q70)) y75)))) N) then
      if vin (8 : Int32) (ml ((mI ((mI ((mI ((mI ((mI ((mI ((mI ((mI ((mN m N 6 9)) N 0 (mi ((mN m N 6 9)) y10 3))) N 1 (mi ((mI ((mN m N 6 9)) N 0 (mi ((mN m N 6 9)) y10 3))) y10 4))) N 2 (mi ((mI ((mI ((mN m N 6 9)) N 0 (mi ((mN m N 6 9)) y10 3))) N 1 (mi ((mI ((mN m N 6 9)) N 0 (mi ((mN m N 6 9)) y10 3))) y10 4))) y10 2))) N 3 (Int32.ofNat (ml ((mI ((mI ((mI ((mN m N 6 9)) N 0 (mi ((mN m N 6 9)) y10 3))) N 1 (mi ((mI ((mN m N 6 9)) N 0 (mi ((mN m N 6 9)) y10 3))) y10 4))) N 2 (mi ((mI ((mI ((mN m N 6 9)) N 0 (mi ((mN m N 6 9)) y10 3))) N 1 (mi ((mI ((mN m N 6 9)) N 0 (mi ((mN m N 6 9)) y10 3))) y10 4))) y10 2))) y60)))) N 4 q65)) N 5 q70)) N 6 (Int32.ofNat (ml ((mI ((mI ((mI ((mI ((mI ((mI ((mN m N 6 9)) N 0 (mi ((mN m N 6 9)) y10 3))) N 1 (mi ((mI ((mN m N 6 9)) N 0 (mi ((mN m N 6 9)) y10 3))) y10 4))) N 2 (mi ((mI ((mI ((mN m N 6 9)) N 0 (mi ((mN m N 6 9)) y10 3))) N 1 (mi ((mI ((mN m N 6 9)) N 0 (mi ((mN m N 6 9)) y10 3))) y10 4))) y10 2))) N 3 (Int32.ofNat (ml ((mI ((mI ((mI ((mN m N 6 9)) N 0 (mi ((mN m N 6 9)) y10 3))) N 1 (mi ((mI ((mN m N 6 9)) N 0 (mi ((mN m N 6 9)) y10 3))) y10 4))) N 2 (mi ((mI ((mI ((mN m N 6 9)) N 0 (mi ((mN m N 6 9)) y10 3))) N 1 (mi ((mI ((mN m N 6 9)) N 0 (mi ((mN m N 6 9)) y10 3))) y10 4))) y10 2))) y60)))) N 4 q65)) N 5 q70)) y75)))) N 7 (mi ((mI ((mI ((mI ((mI ((mI ((mI ((mI ((mN m N 6 9)) N 0 (mi ((mN m N 6 9)) y10 3))) N 1 (mi ((mI ((mN m N 6 9)) N 0 (mi ((mN m N 6 9)) y10 3))) y10 4))) N 2 (mi ((mI ((mI ((mN m N 6 9)) N 0 (mi ((mN m N 6 9)) y10 3))) N 1 (mi ((mI ((mN m N 6 9)) N 0 (mi ((mN m N 6 9)) y10 3))) y10 4))) y10 2))) N 3 (Int32.ofNat (ml ((mI ((mI ((mI ((mN m N 6 9)) N 0 (mi ((mN m N 6 9)) y10 3))) N 1 (mi ((mI ((mN m N 6 9)) N 0 (mi ((mN m N 6 9)) y10 3))) y10 4))) N 2 (mi ((mI ((mI ((mN m N 6 9)) N 0 (mi ((mN m N 6 9)) y10 3))) N 1 (mi ((mI ((mN m N 6 9)) N 0 (mi ((mN m N 6 9)) y10 3))) y10 4))) y10 2))) y60)))) N 4 q65)) N 5 q70)) N 6 (Int32.ofNat (ml ((mI ((mI ((mI ((mI ((mI ((mI ((mN m N 6 9)) N 0 (mi ((mN m N 6 9)) y10 3))) N 1 (mi ((mI ((mN m N 6 9)) N 0 (mi ((mN m N 6 9)) y10 3))) y10 4))) N 2 (mi ((mI ((mI ((mN m N 6 9)) N 0 (mi ((mN m N 6 9)) y10 3))) N 1 (mi ((mI ((mN m N 6 9)) N 0 (mi ((mN m N 6 9)) y10 3))) y10 4))) y10 2))) N 3 (Int32.ofNat (ml ((mI ((mI ((mI ((mN m N 6 9)) N 0 (mi ((mN m N 6 9)) y10 3))) N 1 (mi ((mI ((mN m N 6 9)) N 0 (mi ((mN m N 6 9)) y10 3))) y10 4))) N 2 (mi ((mI ((mI ((mN m N 6 9)) N 0 (mi ((mN m N 6 9)) y10 3))) N 1 (mi ((mI ((mN m N 6 9)) N 0 (mi ((mN m N 6 9)) y10 3))) y10 4))) y10 2))) y60)))) N 4 q65)) N 5 q70)) y75)))) y10 7))) N) then
      rec 126 ((N + 1)) ((mI ((mI ((mI ((mI ((mI ((mI ((mI ((mI ((mI ((mN m N 6 9)) N 0 (mi ((mN m N 6 9)) y10 3))) N 1 (mi ((mI ((mN m N 6 9)) N 0 (mi ((mN m N 6 9)) y10 3))) y10 4))) N 2 (mi ((mI ((mI ((mN m N 6 9)) N 0 (mi ((mN m N 6 9)) y10 3))) N 1 (mi ((mI ((mN m N 6 9)) N 0 (mi ((mN m N 6 9)) y10 3))) y10 4))) y10 2))) N 3 (Int32.ofNat (ml ((mI ((mI ((mI ((mN m N 6 9)) N 0 (mi ((mN m N 6 9)) y10 3))) N 1 (mi ((mI ((mN m N 6 9)) N 0 (mi ((mN m N 6 9)) y10 3))) y10 4))) N 2 (mi ((mI ((mI ((mN m N 6 9)) N 0 (mi ((mN m N 6 9)) y10 3))) N 1 (mi ((mI ((mN m N 6 9)) N 0 (mi ((mN m N 6 9)) y10 3))) y10 4))) y10 2))) y60)))) N 4 q65)) N 5 q70)) N 6 (Int32.ofNat (ml ((mI ((mI ((mI ((mI ((mI ((mI ((mN m N 6 9)) N 0 (mi ((mN m N 6 9)) y10 3))) N 1 (mi ((mI ((mN m N 6 9)) N 0 (mi ((mN m N 6 9)) y10 3))) y10 4))) N 2 (mi ((mI ((mI ((mN m N 6 9)) N 0 (mi ((mN m N 6 9)) y10 3))) N 1 (mi ((mI ((mN m N 6 9)) N 0 (mi ((mN m N 6 9)) y10 3))) y10 4))) y10 2))) N 3 (Int32.ofNat (ml ((mI ((mI ((mI ((mN m N 6 9)) N 0 (mi ((mN m N 6 9)) y10 3))) N 1 (mi ((mI ((mN m N 6 9)) N 0 (mi ((mN m N 6 9)) y10 3))) y10 4))) N 2 (mi ((mI ((mI ((mN m N 6 9)) N 0 (mi ((mN m N 6 9)) y10 3))) N 1 (mi ((mI ((mN m N 6 9)) N 0 (mi ((mN m N 6 9)) y10 3))) y10 4))) y10 2))) y60)))) N 4 q65)) N 5 q70)) y75)))) N 7 (mi ((mI ((mI ((mI ((mI ((mI ((mI ((mI ((mN m N 6 9)) N 0 (mi ((mN m N 6 9)) y10 3))) N 1 (mi ((mI ((mN m N 6 9)) N 0 (mi ((mN m N 6 9)) y10 3))) y10 4))) N 2 (mi ((mI ((mI ((mN m N 6 9)) N 0 (mi ((mN m N 6 9)) y10 3))) N 1 (mi ((mI ((mN m N 6 9)) N 0 (mi ((mN m N 6 9)) y10 3))) y10 4))) y10 2))) N 3 (Int32.ofNat (ml ((mI ((mI ((mI ((mN m N 6 9)) N 0 (mi ((mN m N 6 9)) y10 3))) N 1 (mi ((mI ((mN m N 6 9)) N 0 (mi ((mN m N 6 9)) y10 3))) y10 4))) N 2 (mi ((mI ((mI ((mN m N 6 9)) N 0 (mi ((mN m N 6 9)) y10 3))) N 1 (mi ((mI ((mN m N 6 9)) N 0 (mi ((mN m N 6 9)) y10 3))) y10 4))) y10 2))) y60)))) N 4 q65)) N 5 q70)) N 6 (Int32.ofNat (ml ((mI ((mI ((mI ((mI ((mI ((mI ((mN m N 6 9)) N 0 (mi ((mN m N 6 9)) y10 3))) N 1 (mi ((mI ((mN m N 6 9)) N 0 (mi ((mN m N 6 9)) y10 3))) y10 4))) N 2 (mi ((mI ((mI ((mN m N 6 9)) N 0 (mi ((mN m N 6 9)) y10 3))) N 1 (mi ((mI ((mN m N 6 9)) N 0 (mi ((mN m N 6 9)) y10 3))) y10 4))) y10 2))) N 3 (Int32.ofNat (ml ((mI ((mI ((mI ((mN m N 6 9)) N 0 (mi ((mN m N 6 9)) y10 3))) N 1 (mi ((mI ((mN m N 6 9)) N 0 (mi ((mN m N 6 9)) y10 3))) y10 4))) N 2 (mi ((mI ((mI ((mN m N 6 9)) N 0 (mi ((mN m N 6 9)) y10 3))) N 1 (mi ((mI ((mN m N 6 9)) N 0 (mi ((mN m N 6 9)) y10 3))) y10 4))) y10 2))) y60)))) N 4 q65)) N 5 q70)) y75)))) y10 7))) N 8 (mi ((mI ((mI ((mI ((mI ((mI ((mI ((mI ((mI ((mN m N 6 9)) N 0 (mi ((mN m N 6 9)) y10 3))) N 1 (mi ((mI ((mN m N 6 9)) N 0 (mi ((mN m N 6 9)) y10 3))) y10 4))) N 2 (mi ((mI ((mI ((mN m N 6 9)) N 0 (mi ((mN m N 6 9)) y10 3))) N 1 (mi ((mI ((mN m N 6 9)) N 0 (mi ((mN m N 6 9)) y10 3))) y10 4))) y10 2))) N 3 (Int32.ofNat (ml ((mI ((mI ((mI ((mN m N 6 9)) N 0 (mi ((mN m N 6 9)) y10 3))) N 1 (mi ((mI ((mN m N 6 9)) N 0 (mi ((mN m N 6 9)) y10 3))) y10 4))) N 2 (mi ((mI ((mI ((mN m N 6 9)) N 0 (mi ((mN m N 6 9)) y10 3))) N 1 (mi ((mI ((mN m N 6 9)) N 0 (mi ((mN m N 6 9)) y10 3))) y10 4))) y10 2))) y60)))) N 4 q65)) N 5 q70)) N 6 (Int32.ofNat (ml ((mI ((mI ((mI ((mI ((mI ((mI ((mN m N 6 9)) N 0 (mi ((mN m N 6 9)) y10 3))) N 1 (mi ((mI ((mN m N 6 9)) N 0 (mi ((mN m N 6 9)) y10 3))) y10 4))) N 2 (mi ((mI ((mI ((mN m N 6 9)) N 0 (mi ((mN m N 6 9)) y10 3))) N 1 (mi ((mI ((mN m N 6 9)) N 0 (mi ((mN m N 6 9)) y10 3))) y10 4))) y10 2))) N 3 (Int32.ofNat (ml ((mI ((mI ((mI ((mN m N 6 9)) N 0 (mi ((mN m N 6 9)) y10 3))) N 1 (mi ((mI ((mN m N 6 9)) N 0 (mi ((mN m N 6 9)) y10 3))) y10 4))) N 2 (mi ((mI ((mI ((mN m N 6 9)) N 0 (mi ((mN m N 6 9)) y10 3))) N 1 (mi ((mI ((mN m N 6 9)) N 0 (mi ((mN m N 6 9)) y10 3))) y10 4))) y10 2))) y60)))) N 4 q65)) N 5 q70)) y75)))) N 7 (mi ((mI ((mI ((mI ((mI ((mI ((mI ((mI ((mN m N 6 9)) N 0 (mi ((mN m N 6 9)) y10 3))) N 1 (mi ((mI ((mN m N 6 9)) N 0 (mi ((mN m N 6 9)) y10 3))) y10 4))) N 2 (mi ((mI ((mI ((mN m N 6 9)) N 0 (mi ((mN m N 6 9)) y10 3))) N 1 (mi ((mI ((mN m N 6 9)) N 0 (mi ((mN m N 6 9)) y10 3))) y10 4))) y10 2))) N 3 (Int32.ofNat (ml ((mI ((mI ((mI ((mN m N 6 9)) N 0 (mi ((mN m N 6 9)) y10 3))) N 1 (mi ((mI ((mN m N 6 9)) N 0 (mi ((mN m N 6 9)) y10 3))) y10 4))) N 2 (mi ((mI ((mI ((mN m N 6 9)) N 0 (mi ((mN m N 6 9)) y10 3))) N 1 (mi ((mI ((mN m N 6 9)) N 0 (mi ((mN m N 6 9)) y10 3))) y10 4))) y10 2))) y60)))) N 4 q65)) N 5 q70)) N 6 (Int32.ofNat (ml ((mI ((mI ((mI ((mI ((mI ((mI ((mN m N 6 9)) N 0 (mi ((mN m N 6 9)) y10 3))) N 1 (mi ((mI ((mN m N 6 9)) N 0 (mi ((mN m N 6 9)) y10 3))) y10 4))) N 2 (mi ((mI ((mI ((mN m N 6 9)) N 0 (mi ((mN m N 6 9)) y10 3))) N 1 (mi ((mI ((mN m N 6 9)) N 0 (mi ((mN m N 6 9)) y10 3))) y10 4))) y10 2))) N 3 (Int32.ofNat (ml ((mI ((mI ((mI ((mN m N 6 9)) N 0 (mi ((mN m N 6 9)) y10 3))) N 1 (mi ((mI ((mN m N 6 9)) N 0 (mi ((mN m N 6 9)) y10 3))) y10 4))) N 2 (mi ((mI ((mI ((mN m N 6 9)) N 0 (mi ((mN m N 6 9)) y10 3))) N 1 (mi ((mI ((mN m N 6 9)) N 0 (mi ((mN m N 6 9)) y10 3))) y10 4))) y10 2))) y60)))) N 4 q65)) N 5 q70)) y75)))) y10 7))) y10 8))) ((kc + 1)) ((ks + 9)) r0 r1 i2 i3 i4 0 0 y10 N (0 : Int32)
      else none
      else none
      else none
      else none
      else none
      else none
      else none
      else none
      else none
      else none
    )
    else none
    else none
    else none
    else none
    else none
    else none
  )
  else none
  else none
noncomputable def fB_X5_isSame_126 (rec : Nat → Nat → vM → Nat → Nat → Nat → Nat → Int32 → Int32 → Int32 → Nat → Int32 → Nat → Nat → Int32 → Option (Int32 × Nat × vM)) (N : Nat) (m : vM) (kc ks : Nat) (r0 : Nat) (r1 : Nat) (i2 : Int32) (i3 : Int32) (i4 : Int32) (r4 : Nat) (i5 : Int32) (r5 : Nat) (r6 : Nat) (i7 : Int32) : Option (Int32 × Nat × vM) :=
  if 9 ≤ i7 then (
    rec 160 N m kc ks r0 r1 i2 i3 i4 0 0 r5 r6 (0 : Int32)
  ) else (
    if mk m r1 = 3 then
    Option.bind (f_X3_door m r1 i4 i7) fun q3 =>
    if mk m r6 = 6 then
    if vin i7 (ml m r6) then
    if q3 = (mi m r6 i7.toNatClampNeg) then (
      rec 126 N m kc ks r0 r1 i2 i3 i4 0 0 r5 r6 (i7 + 1)
    ) else (
      some ((0 : Int32), N, m)
    )
    else none
    else none
    else none
  )
noncomputable def fB_X5_isSame_160 (rec : Nat → Nat → vM → Nat → Nat → Nat → Nat → Int32 → Int32 → Int32 → Nat → Int32 → Nat → Nat → Int32 → Option (Int32 × Nat × vM)) (N : Nat) (m : vM) (kc ks : Nat) (r0 : Nat) (r1 : Nat) (i2 : Int32) (i3 : Int32) (i4 : Int32) (r4 : Nat) (i5 : Int32) (r5 : Nat) (r6 : Nat) (i7 : Int32) : Option (Int32 × Nat × vM) :=
  if mk m r5 = 4 then
  Option.bind (mr m r5 5) fun y2 =>
  if mk m y2 = 8 then
  if (Int32.ofNat (ml m y2)) ≤ i7 then (
    rec 7 N m kc ks r0 r1 (i2 + (mi m r5 7)) (i3 + ((mi m r5 7) + (mi m r5 8))) (i4 + 1) 0 0 0 0 0
  ) else (
    if mk m r1 = 3 then
    Option.bind (f_X3_asks m r1 i4 i7 ((0 : Int32))) fun q7 =>
    Option.bind (mr m r5 5) fun y10 =>
    if mk m y10 = 8 then
    if vin i7 (ml m y10) then
    Option.bind (mr m y10 i7.toNatClampNeg) fun y14 =>
    if mk m y14 = 6 then
    if vin (0 : Int32) (ml m y14) then
    if q7 = (mi m y14 0) then (
      Option.bind (f_X3_asks m r1 i4 i7 ((1 : Int32))) fun q19 =>
      Option.bind (mr m r5 5) fun y22 =>
      if mk m y22 = 8 then
      if vin i7 (ml m y22) then
      Option.bind (mr m y22 i7.toNatClampNeg) fun y26 =>
      if mk m y26 = 6 then
      if vin (1 : Int32) (ml m y26) then
      if q19 = (mi m y26 1) then (
        Option.bind (f_X3_asks m r1 i4 i7 ((2 : Int32))) fun q31 =>
        if (mi m r5 3) = 1 then (
          Option.bind (mr m r5 5) fun y35 =>
          if mk m y35 = 8 then
          if vin i7 (ml m y35) then
          Option.bind (mr m y35 i7.toNatClampNeg) fun y39 =>
          if mk m y39 = 6 then
          if vin (2 : Int32) (ml m y39) then
          if q31 = (mi m y39 2) then (
            rec 160 N m kc ks r0 r1 i2 i3 i4 0 0 r5 r6 (i7 + 1)
          ) else (
            some ((0 : Int32), N, m)
          )
          else none
          else none
          else none
          else none
        ) else (
          if q31 = (-1) then (
            rec 160 N m kc ks r0 r1 i2 i3 i4 0 0 r5 r6 (i7 + 1)
          ) else (
            some ((0 : Int32), N, m)
          )
        )
      ) else (
        some ((0 : Int32), N, m)
      )
      else none
      else none
      else none
      else none
    ) else (
      some ((0 : Int32), N, m)
    )
    else none
    else none
    else none
    else none
    else none
  )
  else none
  else none
noncomputable def fB_X5_isSame_289 (rec : Nat → Nat → vM → Nat → Nat → Nat → Nat → Int32 → Int32 → Int32 → Nat → Int32 → Nat → Nat → Int32 → Option (Int32 × Nat × vM)) (N : Nat) (m : vM) (kc ks : Nat) (r0 : Nat) (r1 : Nat) (i2 : Int32) (i3 : Int32) (i4 : Int32) (r4 : Nat) (i5 : Int32) (r5 : Nat) (r6 : Nat) (i7 : Int32) : Option (Int32 × Nat × vM) :=
  if mk m r0 = 5 then
  Option.bind (mr m r0 1) fun y2 =>
  if mk m y2 = 8 then
  if (Int32.ofNat (ml m y2)) ≤ i4 then (
    if (kc + 1) ≤ 11 then
    if (ks + 9) ≤ 99 then
    if vin (0 : Int32) (ml ((mN m N 6 9)) N) then
    Option.bind (mr ((mI ((mN m N 6 9)) N 0 (mi ((mN m N 6 9)) r0 2))) r0 0) fun y18 =>
    if mk ((mI ((mN m N 6 9)) N 0 (mi ((mN m N 6 9)) r0 2))) y18 = 9 then
    if vin (1 : Int32) (ml ((mI ((mN m N 6 9)) N 0 (mi ((mN m N 6 9)) r0 2))) N) then
    Option.bind (f_X5_with ((mI ((mI ((mN m N 6 9)) N 0 (mi ((mN m N 6 9)) r0 2))) N 1 (Int32.ofNat (ml ((mI ((mN m N 6 9)) N 0 (mi ((mN m N 6 9)) r0 2))) y18)))) r0 ((0 : Int32))) fun q23 =>
    if vin (2 : Int32) (ml ((mI ((mI ((mN m N 6 9)) N 0 (mi ((mN m N 6 9)) r0 2))) N 1 (Int32.ofNat (ml ((mI ((mN m N 6 9)) N 0 (mi ((mN m N 6 9)) r0 2))) y18)))) N) then
    Option.bind (f_X5_with ((mI ((mI ((mI ((mN m N 6 9)) N 0 (mi ((mN m N 6 9)) r0 2))) N 1 (Int32.ofNat (ml ((mI ((mN m N 6 9)) N 0 (mi ((mN m N 6 9)) r0 2))) y18)))) N 2 q23)) r0 ((1 : Int32))) fun q28 =>
    if vin (3 : Int32) (ml ((mI ((mI ((mI ((mN m N 6 9)) N 0 (mi ((mN m N 6 9)) r0 2))) N 1 (Int32.ofNat (ml ((mI ((mN m N 6 9)) N 0 (mi ((mN m N 6 9)) r0 2))) y18)))) N 2 q23)) N) then
    Option.bind (f_X5_with ((mI ((mI ((mI ((mI ((mN m N 6 9)) N 0 (mi ((mN m N 6 9)) r0 2))) N 1 (Int32.ofNat (ml ((mI ((mN m N 6 9)) N 0 (mi ((mN m N 6 9)) r0 2))) y18)))) N 2 q23)) N 3 q28)) r0 ((2 : Int32))) fun q33 =>
    if vin (4 : Int32) (ml ((mI ((mI ((mI ((mI ((mN m N 6 9)) N 0 (mi ((mN m N 6 9)) r0 2))) N 1 (Int32.ofNat (ml ((mI ((mN m N 6 9)) N 0 (mi ((mN m N 6 9)) r0 2))) y18)))) N 2 q23)) N 3 q28)) N) then
    Option.bind (f_X5_with ((mI ((mI ((mI ((mI ((mI ((mN m N 6 9)) N 0 (mi ((mN m N 6 9)) r0 2))) N 1 (Int32.ofNat (ml ((mI ((mN m N 6 9)) N 0 (mi ((mN m N 6 9)) r0 2))) y18)))) N 2 q23)) N 3 q28)) N 4 q33)) r0 ((3 : Int32))) fun q38 =>
    if vin (5 : Int32) (ml ((mI ((mI ((mI ((mI ((mI ((mN m N 6 9)) N 0 (mi ((mN m N 6 9)) r0 2))) N 1 (Int32.ofNat (ml ((mI ((mN m N 6 9)) N 0 (mi ((mN m N 6 9)) r0 2))) y18)))) N 2 q23)) N 3 q28)) N 4 q33)) N) then
    Option.bind (mr ((mI ((mI ((mI ((mI ((mI ((mI ((mN m N 6 9)) N 0 (mi ((mN m N 6 9)) r0 2))) N 1 (Int32.ofNat (ml ((mI ((mN m N 6 9)) N 0 (mi ((mN m N 6 9)) r0 2))) y18)))) N 2 q23)) N 3 q28)) N 4 q33)) N 5 q38)) r0 1) fun y43 =>
    if mk ((mI ((mI ((mI ((mI ((mI ((mI ((mN m N 6 9)) N 0 (mi ((mN m N 6 9)) r0 2))) N 1 (Int32.ofNat (ml ((mI ((mN m N 6 9)) N 0 (mi ((mN m N 6 9)) r0 2))) y18)))) N 2 q23)) N 3 q28)) N 4 q33)) N 5 q38)) y43 = 8 then
    if vin (6 : Int32) (ml ((mI ((mI ((mI ((mI ((mI ((mI ((mN m N 6 9)) N 0 (mi ((mN m N 6 9)) r0 2))) N 1 (Int32.ofNat (ml ((mI ((mN m N 6 9)) N 0 (mi ((mN m N 6 9)) r0 2))) y18)))) N 2 q23)) N 3 q28)) N 4 q33)) N 5 q38)) N) then
    if vin (7 : Int32) (ml ((mI ((mI ((mI ((mI ((mI ((mI ((mI ((mN m N 6 9)) N 0 (mi ((mN m N 6 9)) r0 2))) N 1 (Int32.ofNat (ml ((mI ((mN m N 6 9)) N 0 (mi ((mN m N 6 9)) r0 2))) y18)))) N 2 q23)) N 3 q28)) N 4 q33)) N 5 q38)) N 6 (Int32.ofNat (ml ((mI ((mI ((mI ((mI ((mI ((mI ((mN m N 6 9)) N 0 (mi ((mN m N 6 9)) r0 2))) N 1 (Int32.ofNat (ml ((mI ((mN m N 6 9)) N 0 (mi ((mN m N 6 9)) r0 2))) y18)))) N 2 q23)) N 3 q28)) N 4 q33)) N 5 q38)) y43)))) N) then
    Option.bind (f_X5_open ((mI ((mI ((mI ((mI ((mI ((mI ((mI ((mI ((mN m N 6 9)) N 0 (mi ((mN m N 6 9)) r0 2))) N 1 (Int32.ofNat (ml ((mI ((mN m N 6 9)) N 0 (mi ((mN m N 6 9)) r0 2))) y18)))) N 2 q23)) N 3 q28)) N 4 q33)) N 5 q38)) N 6 (Int32.ofNat (ml ((mI ((mI ((mI ((mI ((mI ((mI ((mN m N 6 9)) N 0 (mi ((mN m N 6 9)) r0 2))) N 1 (Int32.ofNat (ml ((mI ((mN m N 6 9)) N 0 (mi ((mN m N 6 9)) r0 2))) y18)))) N 2 q23)) N 3 q28)) N 4 q33)) N 5 q38)) y43)))) N 7 (mi ((mI ((mI ((mI ((mI ((mI ((mI ((mI ((mN m N 6 9)) N 0 (mi ((mN m N 6 9)) r0 2))) N 1 (Int32.ofNat (ml ((mI ((mN m N 6 9)) N 0 (mi ((mN m N 6 9)) r0 2))) y18)))) N 2 q23)) N 3 q28)) N 4 q33)) N 5 q38)) N 6 (Int32.ofNat (ml ((mI ((mI ((mI ((mI ((mI ((mI ((mN m N 6 9)) N 0 (mi ((mN m N 6 9)) r0 2))) N 1 (Int32.ofNat (ml ((mI ((mN m N 6 9)) N 0 (mi ((mN m N 6 9)) r0 2))) y18)))) N 2 q23)) N 3 q28)) N 4 q33)) N 5 q38)) y43)))) r0 3))) r0) fun q50 =>
    if vin (8 : Int32) (ml ((mI ((mI ((mI ((mI ((mI ((mI ((mI ((mI ((mN m N 6 9)) N 0 (mi ((mN m N 6 9)) r0 2))) N 1 (Int32.ofNat (ml ((mI ((mN m N 6 9)) N 0 (mi ((mN m N 6 9)) r0 2))) y18)))) N 2 q23)) N 3 q28)) N 4 q33)) N 5 q38)) N 6 (Int32.ofNat (ml ((mI ((mI ((mI ((mI ((mI ((mI ((mN m N 6 9)) N 0 (mi ((mN m N 6 9)) r0 2))) N 1 (Int32.ofNat (ml ((mI ((mN m N 6 9)) N 0 (mi ((mN m N 6 9)) r0 2))) y18)))) N 2 q23)) N 3 q28)) N 4 q33)) N 5 q38)) y43)))) N 7 (mi ((mI ((mI ((mI ((mI ((mI ((mI ((mI ((mN m N 6 9)) N 0 (mi ((mN m N 6 9)) r0 2))) N 1 (Int32.ofNat (ml ((mI ((mN m N 6 9)) N 0 (mi ((mN m N 6 9)) r0 2))) y18)))) N 2 q23)) N 3 q28)) N 4 q33)) N 5 q38)) N 6 (Int32.ofNat (ml ((mI ((mI ((mI ((mI ((mI ((mI ((mN m N 6 9)) N 0 (mi ((mN m N 6 9)) r0 2))) N 1 (Int32.ofNat (ml ((mI ((mN m N 6 9)) N 0 (mi ((mN m N 6 9)) r0 2))) y18)))) N 2 q23)) N 3 q28)) N 4 q33)) N 5 q38)) y43)))) r0 3))) N) then
    rec 424 ((N + 1)) ((mI ((mI ((mI ((mI ((mI ((mI ((mI ((mI ((mI ((mN m N 6 9)) N 0 (mi ((mN m N 6 9)) r0 2))) N 1 (Int32.ofNat (ml ((mI ((mN m N 6 9)) N 0 (mi ((mN m N 6 9)) r0 2))) y18)))) N 2 q23)) N 3 q28)) N 4 q33)) N 5 q38)) N 6 (Int32.ofNat (ml ((mI ((mI ((mI ((mI ((mI ((mI ((mN m N 6 9)) N 0 (mi ((mN m N 6 9)) r0 2))) N 1 (Int32.ofNat (ml ((mI ((mN m N 6 9)) N 0 (mi ((mN m N 6 9)) r0 2))) y18)))) N 2 q23)) N 3 q28)) N 4 q33)) N 5 q38)) y43)))) N 7 (mi ((mI ((mI ((mI ((mI ((mI ((mI ((mI ((mN m N 6 9)) N 0 (mi ((mN m N 6 9)) r0 2))) N 1 (Int32.ofNat (ml ((mI ((mN m N 6 9)) N 0 (mi ((mN m N 6 9)) r0 2))) y18)))) N 2 q23)) N 3 q28)) N 4 q33)) N 5 q38)) N 6 (Int32.ofNat (ml ((mI ((mI ((mI ((mI ((mI ((mI ((mN m N 6 9)) N 0 (mi ((mN m N 6 9)) r0 2))) N 1 (Int32.ofNat (ml ((mI ((mN m N 6 9)) N 0 (mi ((mN m N 6 9)) r0 2))) y18)))) N 2 q23)) N 3 q28)) N 4 q33)) N 5 q38)) y43)))) r0 3))) N 8 q50)) ((kc + 1)) ((ks + 9)) r0 r1 i2 i3 0 N (0 : Int32) 0 0 0
    else none
    else none
    else none
    else none
    else none
    else none
    else none
    else none
    else none
    else none
    else none
    else none
    else none
  ) else (
    rec 302 N m kc ks r0 r1 i2 i3 i4 0 (0 : Int32) 0 0 0
  )
  else none
  else none
noncomputable def fB_X5_isSame_302 (rec : Nat → Nat → vM → Nat → Nat → Nat → Nat → Int32 → Int32 → Int32 → Nat → Int32 → Nat → Nat → Int32 → Option (Int32 × Nat × vM)) (N : Nat) (m : vM) (kc ks : Nat) (r0 : Nat) (r1 : Nat) (i2 : Int32) (i3 : Int32) (i4 : Int32) (r4 : Nat) (i5 : Int32) (r5 : Nat) (r6 : Nat) (i7 : Int32) : Option (Int32 × Nat × vM) :=
  if 4 ≤ i5 then (
    rec 289 N m kc ks r0 r1 i2 i3 (i4 + 1) 0 0 0 0 0
  ) else (
    if mk m r1 = 3 then
    Option.bind (f_X3_voice m r1 i4 i5) fun q3 =>
    if mk m r0 = 5 then
    Option.bind (mr m r0 1) fun y7 =>
    if mk m y7 = 8 then
    if vin i4 (ml m y7) then
    Option.bind (mr m y7 i4.toNatClampNeg) fun y11 =>
    if mk m y11 = 6 then
    if vin i5 (ml m y11) then
    if q3 = (mi m y11 i5.toNatClampNeg) then (
      rec 302 N m kc ks r0 r1 i2 i3 i4 0 (i5 + 1) 0 0 0
    ) else (
      some ((0 : Int32), N, m)
    )
    else none
    else none
    else none
    else none
    else none
    else none
  )
noncomputable def fB_X5_isSame_424 (rec : Nat → Nat → vM → Nat → Nat → Nat → Nat → Int32 → Int32 → Int32 → Nat → Int32 → Nat → Nat → Int32 → Option (Int32 × Nat × vM)) (N : Nat) (m : vM) (kc ks : Nat) (r0 : Nat) (r1 : Nat) (i2 : Int32) (i3 : Int32) (i4 : Int32) (r4 : Nat) (i5 : Int32) (r5 : Nat) (r6 : Nat) (i7 : Int32) : Option (Int32 × Nat × vM) :=
  if 9 ≤ i5 then (
    if mk m r1 = 3 then
    Option.bind (f_X3_mean m r1) fun q3 =>
    if i3 = 0 then (
      if (Op.cmpValue (FP.dcmp q3 FP.dconst0) .l) = 0 then (
        some ((1 : Int32), N, m)
      ) else (
        some ((0 : Int32), N, m)
      )
    ) else (
      if @decide (vf_n64 (FP.ddiv (FP.i2d i2) (FP.i2d i3))) (Classical.propDecidable _) = true then
      if (Op.cmpValue (FP.dcmp q3 (FP.ddiv (FP.i2d i2) (FP.i2d i3))) .l) = 0 then (
        some ((1 : Int32), N, m)
      ) else (
        some ((0 : Int32), N, m)
      )
      else none
    )
    else none
  ) else (
    if mk m r1 = 3 then
    Option.bind (f_X3_count m r1 i5) fun q11 =>
    if mk m r4 = 6 then
    if vin i5 (ml m r4) then
    if q11 = (mi m r4 i5.toNatClampNeg) then (
      rec 424 N m kc ks r0 r1 i2 i3 0 r4 (i5 + 1) 0 0 0
    ) else (
      some ((0 : Int32), N, m)
    )
    else none
    else none
    else none
  )
noncomputable def fL_X5_isSame (n : Nat) : Nat → Nat → vM → Nat → Nat → Nat → Nat → Int32 → Int32 → Int32 → Nat → Int32 → Nat → Nat → Int32 → Option (Int32 × Nat × vM) := Nat.rec (fun _ _ _ _ _ _ _ _ _ _ _ _ _ _ _ => none) (fun _ rec pc N m kc ks r0 r1 i2 i3 i4 r4 i5 r5 r6 i7 => if pc = 7 then fB_X5_isSame_7 rec N m kc ks r0 r1 i2 i3 i4 r4 i5 r5 r6 i7 else if pc = 126 then fB_X5_isSame_126 rec N m kc ks r0 r1 i2 i3 i4 r4 i5 r5 r6 i7 else if pc = 160 then fB_X5_isSame_160 rec N m kc ks r0 r1 i2 i3 i4 r4 i5 r5 r6 i7 else if pc = 289 then fB_X5_isSame_289 rec N m kc ks r0 r1 i2 i3 i4 r4 i5 r5 r6 i7 else if pc = 302 then fB_X5_isSame_302 rec N m kc ks r0 r1 i2 i3 i4 r4 i5 r5 r6 i7 else if pc = 424 then fB_X5_isSame_424 rec N m kc ks r0 r1 i2 i3 i4 r4 i5 r5 r6 i7 else none) n
noncomputable def f_X5_isSame (N : Nat) (m : vM) (p0 : Nat) (p1 : Nat) : Option (Int32 × Nat × vM) :=
  fL_X5_isSame vF 7 N m 0 0 p0 p1 (0 : Int32) (0 : Int32) (0 : Int32) 0 0 0 0 0
theorem in_X5_isSame_X4 : ∀ w ∈ wsX40, w ∈ wsX5_isSame := by decide +kernel
theorem in_X5_isSame_X5 : ∀ w ∈ wsX50, w ∈ wsX5_isSame := by decide +kernel
set_option maxHeartbeats 1000000 in
set_option maxRecDepth 100000 in
theorem cm_X5_isSame (l : Launch) (D : va_G) (tc : Nat → ClassId) (ad : Nat → Nat) {N : Nat} {m0 : vM} {sz : Nat} {p0 : Nat} {p1 : Nat} (hO : vOK N m0) (n_p0 : p0 < N) (n_p1 : p1 < N) {z : Int32 × Nat × vM} (h : f_X5_isSame N m0 p0 p1 = some z) : Met l yX5_isSame wsX5_isSame ({ frames := 3, cells := 11, slots := 99, locals := 68 } : Room) (va_Pc [.ref (ad p0), .ref (ad p1)] (qW D tc ad N m0 sz)) (va_Qi (fun (r9 : Int32) (_ : Unit) => r9 = z.1) (fun _ t => vX D (va_A (vW tc ad N m0) sz) tc ad N z.2.1 z.2.2 t) (va_A (vW tc ad N m0) sz)) 11 99 (va_A (vW tc ad N m0) sz) := by
  refine Met.ofW (cc := cX5_isSame) (maxL := 8) (ret := (some .boolean)) (by decide) rfl ?_
  intro p e s m args below meth c s₁ B hml hv
  obtain ⟨rfl, hsz, hP, hK, hD0, hZ⟩ := hv
  have hx := B.exec
  have hb := B.bytes
  have hr := B.returns
  have hts := atoms_spec (ws := wsX5_isSame) B.pre
  have hown : s.vm.findClass RX5 = some m.cls := findClass_of_methodNamed B.named
  have hlocks := B.notSynchronized
  subst hsz
  have hD := hD0.self (sz := s.heap.size)
  generalize hAe : va_A (vW tc ad N m0) s.heap.size = A at hD ⊢
  have hA : ∀ q : Nat, s.heap.size ≤ q → A q := fun q h => by rw [← hAe]; exact Or.inr h
  have hS : va_S A s.heap s.heap [] := va_S.rf
  have hl := lv_entry ([.ref (ad p0), .ref (ad p1)]) (n := 8) (Nat.le_of_ble_eq_true rfl)
  rw [lg_entry_eq]
  generalize (lg_sl ([.ref (ad p0), .ref (ad p1)]) ++ List.replicate (8 - (lg_sl ([.ref (ad p0), .ref (ad p1)])).length) Slot.unset).toArray = ls at hl ⊢
  have hl : lv_has ls 8 [(0, .ref (ad p0)), (1, .ref (ad p1))] := hl
  have hL : ∀ n : Nat, (∀ (NL : Nat) (adL : Nat → Nat) (m1 : vM) (kc ks : Nat) (r0 : Nat) (r1 : Nat) (i2 : Int32) (i3 : Int32) (i4 : Int32) (H : Heap) (locs : List Loc) (ls : Array Slot), N ≤ NL → (∀ k, k < N → adL k = ad k) → kc ≤ 11 → ks ≤ 99 → vOK NL m1 → r0 < NL → r1 < NL → fL_X5_isSame n 7 NL m1 kc ks r0 r1 i2 i3 i4 0 0 0 0 0 = some z → va_P D vwCl (vW tc adL NL m1) H → va_D A (vW tc adL NL m1) → va_S A s.heap H locs → lv_has ls 8 [(0, .ref (adL r0)), (1, .ref (adL r1)), (2, .int i2), (3, .int i3), (4, .int i4)] → W p l e (headSpec wsX5_isSame ({ frames := 3, cells := 11, slots := 99, locals := 68 } : Room)).room s m ([.ref (ad p0), .ref (ad p1)] : List Value).toArray below meth c H locs kc ks (MQ below (va_Qi (fun (r9 : Int32) (_ : Unit) => r9 = z.1) (fun _ t => vX D A tc ad N z.2.1 z.2.2 t) A) ([.ref (ad p0), .ref (ad p1)] : List Value).toArray s 11 99 A) (F0 m 7 ls [])) ∧ (∀ (NL : Nat) (adL : Nat → Nat) (m1 : vM) (kc ks : Nat) (r0 : Nat) (r1 : Nat) (i2 : Int32) (i3 : Int32) (i4 : Int32) (r5 : Nat) (r6 : Nat) (i7 : Int32) (H : Heap) (locs : List Loc) (ls : Array Slot), N ≤ NL → (∀ k, k < N → adL k = ad k) → kc ≤ 11 → ks ≤ 99 → vOK NL m1 → r0 < NL → r1 < NL → r5 < NL → r6 < NL → fL_X5_isSame n 126 NL m1 kc ks r0 r1 i2 i3 i4 0 0 r5 r6 i7 = some z → va_P D vwCl (vW tc adL NL m1) H → va_D A (vW tc adL NL m1) → va_S A s.heap H locs → lv_has ls 8 [(0, .ref (adL r0)), (1, .ref (adL r1)), (2, .int i2), (3, .int i3), (4, .int i4), (5, .ref (adL r5)), (6, .ref (adL r6)), (7, .int i7)] → W p l e (headSpec wsX5_isSame ({ frames := 3, cells := 11, slots := 99, locals := 68 } : Room)).room s m ([.ref (ad p0), .ref (ad p1)] : List Value).toArray below meth c H locs kc ks (MQ below (va_Qi (fun (r9 : Int32) (_ : Unit) => r9 = z.1) (fun _ t => vX D A tc ad N z.2.1 z.2.2 t) A) ([.ref (ad p0), .ref (ad p1)] : List Value).toArray s 11 99 A) (F0 m 126 ls [])) ∧ (∀ (NL : Nat) (adL : Nat → Nat) (m1 : vM) (kc ks : Nat) (r0 : Nat) (r1 : Nat) (i2 : Int32) (i3 : Int32) (i4 : Int32) (r5 : Nat) (r6 : Nat) (i7 : Int32) (H : Heap) (locs : List Loc) (ls : Array Slot), N ≤ NL → (∀ k, k < N → adL k = ad k) → kc ≤ 11 → ks ≤ 99 → vOK NL m1 → r0 < NL → r1 < NL → r5 < NL → r6 < NL → fL_X5_isSame n 160 NL m1 kc ks r0 r1 i2 i3 i4 0 0 r5 r6 i7 = some z → va_P D vwCl (vW tc adL NL m1) H → va_D A (vW tc adL NL m1) → va_S A s.heap H locs → lv_has ls 8 [(0, .ref (adL r0)), (1, .ref (adL r1)), (2, .int i2), (3, .int i3), (4, .int i4), (5, .ref (adL r5)), (6, .ref (adL r6)), (7, .int i7)] → W p l e (headSpec wsX5_isSame ({ frames := 3, cells := 11, slots := 99, locals := 68 } : Room)).room s m ([.ref (ad p0), .ref (ad p1)] : List Value).toArray below meth c H locs kc ks (MQ below (va_Qi (fun (r9 : Int32) (_ : Unit) => r9 = z.1) (fun _ t => vX D A tc ad N z.2.1 z.2.2 t) A) ([.ref (ad p0), .ref (ad p1)] : List Value).toArray s 11 99 A) (F0 m 160 ls [])) ∧ (∀ (NL : Nat) (adL : Nat → Nat) (m1 : vM) (kc ks : Nat) (r0 : Nat) (r1 : Nat) (i2 : Int32) (i3 : Int32) (i4 : Int32) (H : Heap) (locs : List Loc) (ls : Array Slot), N ≤ NL → (∀ k, k < N → adL k = ad k) → kc ≤ 11 → ks ≤ 99 → vOK NL m1 → r0 < NL → r1 < NL → fL_X5_isSame n 289 NL m1 kc ks r0 r1 i2 i3 i4 0 0 0 0 0 = some z → va_P D vwCl (vW tc adL NL m1) H → va_D A (vW tc adL NL m1) → va_S A s.heap H locs → lv_has ls 8 [(0, .ref (adL r0)), (1, .ref (adL r1)), (2, .int i2), (3, .int i3), (4, .int i4)] → W p l e (headSpec wsX5_isSame ({ frames := 3, cells := 11, slots := 99, locals := 68 } : Room)).room s m ([.ref (ad p0), .ref (ad p1)] : List Value).toArray below meth c H locs kc ks (MQ below (va_Qi (fun (r9 : Int32) (_ : Unit) => r9 = z.1) (fun _ t => vX D A tc ad N z.2.1 z.2.2 t) A) ([.ref (ad p0), .ref (ad p1)] : List Value).toArray s 11 99 A) (F0 m 289 ls [])) ∧ (∀ (NL : Nat) (adL : Nat → Nat) (m1 : vM) (kc ks : Nat) (r0 : Nat) (r1 : Nat) (i2 : Int32) (i3 : Int32) (i4 : Int32) (i5 : Int32) (H : Heap) (locs : List Loc) (ls : Array Slot), N ≤ NL → (∀ k, k < N → adL k = ad k) → kc ≤ 11 → ks ≤ 99 → vOK NL m1 → r0 < NL → r1 < NL → fL_X5_isSame n 302 NL m1 kc ks r0 r1 i2 i3 i4 0 i5 0 0 0 = some z → va_P D vwCl (vW tc adL NL m1) H → va_D A (vW tc adL NL m1) → va_S A s.heap H locs → lv_has ls 8 [(0, .ref (adL r0)), (1, .ref (adL r1)), (2, .int i2), (3, .int i3), (4, .int i4), (5, .int i5)] → W p l e (headSpec wsX5_isSame ({ frames := 3, cells := 11, slots := 99, locals := 68 } : Room)).room s m ([.ref (ad p0), .ref (ad p1)] : List Value).toArray below meth c H locs kc ks (MQ below (va_Qi (fun (r9 : Int32) (_ : Unit) => r9 = z.1) (fun _ t => vX D A tc ad N z.2.1 z.2.2 t) A) ([.ref (ad p0), .ref (ad p1)] : List Value).toArray s 11 99 A) (F0 m 302 ls [])) ∧ (∀ (NL : Nat) (adL : Nat → Nat) (m1 : vM) (kc ks : Nat) (r0 : Nat) (r1 : Nat) (i2 : Int32) (i3 : Int32) (r4 : Nat) (i5 : Int32) (H : Heap) (locs : List Loc) (ls : Array Slot), N ≤ NL → (∀ k, k < N → adL k = ad k) → kc ≤ 11 → ks ≤ 99 → vOK NL m1 → r0 < NL → r1 < NL → r4 < NL → fL_X5_isSame n 424 NL m1 kc ks r0 r1 i2 i3 0 r4 i5 0 0 0 = some z → va_P D vwCl (vW tc adL NL m1) H → va_D A (vW tc adL NL m1) → va_S A s.heap H locs → lv_has ls 8 [(0, .ref (adL r0)), (1, .ref (adL r1)), (2, .int i2), (3, .int i3), (4, .ref (adL r4)), (5, .int i5)] → W p l e (headSpec wsX5_isSame ({ frames := 3, cells := 11, slots := 99, locals := 68 } : Room)).room s m ([.ref (ad p0), .ref (ad p1)] : List Value).toArray below meth c H locs kc ks (MQ below (va_Qi (fun (r9 : Int32) (_ : Unit) => r9 = z.1) (fun _ t => vX D A tc ad N z.2.1 z.2.2 t) A) ([.ref (ad p0), .ref (ad p1)] : List Value).toArray s 11 99 A) (F0 m 424 ls [])) := by
    intro n
    induction n with
    | zero => exact ⟨(fun _ _ _ _ _ _ _ _ _ _ _ _ _ _ _ _ _ _ _ _ h9 _ _ _ _ => by have h9 : (none : Option (Int32 × Nat × vM)) = some z := h9; cases h9), (fun _ _ _ _ _ _ _ _ _ _ _ _ _ _ _ _ _ _ _ _ _ _ _ _ _ h9 _ _ _ _ => by have h9 : (none : Option (Int32 × Nat × vM)) = some z := h9; cases h9), (fun _ _ _ _ _ _ _ _ _ _ _ _ _ _ _ _ _ _ _ _ _ _ _ _ _ h9 _ _ _ _ => by have h9 : (none : Option (Int32 × Nat × vM)) = some z := h9; cases h9), (fun _ _ _ _ _ _ _ _ _ _ _ _ _ _ _ _ _ _ _ _ h9 _ _ _ _ => by have h9 : (none : Option (Int32 × Nat × vM)) = some z := h9; cases h9), (fun _ _ _ _ _ _ _ _ _ _ _ _ _ _ _ _ _ _ _ _ _ h9 _ _ _ _ => by have h9 : (none : Option (Int32 × Nat × vM)) = some z := h9; cases h9), (fun _ _ _ _ _ _ _ _ _ _ _ _ _ _ _ _ _ _ _ _ _ _ h9 _ _ _ _ => by have h9 : (none : Option (Int32 × Nat × vM)) = some z := h9; cases h9)⟩
    | succ n ih =>
      refine ⟨?_, ?_, ?_, ?_, ?_, ?_⟩
      · intro NL adL m1 kc ks r0 r1 i2 i3 i4 H locs ls hNN hE hc hs hO n_r0 n_r1 h hP hD hS hl
        have h : fB_X5_isSame_7 (fL_X5_isSame n) NL m1 kc ks r0 r1 i2 i3 i4 0 0 0 0 0 = some z := h
        unfold fB_X5_isSame_7 at h
        refine lv_iload hx hb dX5_isSame_7 (lv_at hl 4 rfl) ?_
        refine lv_aload_n hx hb dX5_isSame_9 rfl (lv_at hl 0 rfl) ?_
        obtain ⟨g1, h⟩ := vg_if h
        obtain ⟨y2, g3, h⟩ := vg_bind h
        have n_y2 := hO _ _ _ g3
        refine va_get (D := D) (ci := 5) (v := .ref (adL y2)) (C := RX5) (T := TX5) (N := 4) hx hb hts in_X5_isSame_X5 hown hK hP r0 (vW_k5 n_r0 g1) rfl 0 (by decide) (hts (.fieldLink RX5 9 "VaultDoorsLaw$Sim" "doors" "[LVaultDoorsLaw$Door;") (List.mem_of_getElem? (i := 1) rfl)) (fun _ h9 => h9) (by show some (va_rf (Option.map adL (mr m1 r0 0))) = _; rw [g3]; rfl) dX5_isSame_10 ?_
        obtain ⟨g4, h⟩ := vg_if h
        refine va_alen (D := D) hx hb hK hP y2 3 (vW_k9 n_y2 g4) rfl rfl dX5_isSame_13 ?_
        refine lv_icmp_ge (tgt := 286) hx hb dX5_isSame_14 (by decide) (fun c5 => ?_) (fun c5 => ?_)
        · rw [if_pos c5] at h
          refine lv_iconst (v := 0) hx hb dX5_isSame_286 (by decide) ?_
          refine lv_istore (lv' := [(4, .int 0), (0, .ref (adL r0)), (1, .ref (adL r1)), (2, .int i2), (3, .int i3)]) hx hb dX5_isSame_287 hl (by decide) rfl (fun ls hl => ?_)
          exact (ih.2.2.2.1) NL adL m1 kc ks r0 r1 i2 i3 (0 : Int32) _ _ _ hNN hE hc hs hO n_r0 n_r1 h hP hD hS (lv_sub hl (l' := [(0, .ref (adL r0)), (1, .ref (adL r1)), (2, .int i2), (3, .int i3), (4, .int 0)]) [1, 2, 3, 4, 0] rfl)
        · rw [if_neg c5] at h
          refine lv_aload_n hx hb dX5_isSame_17 rfl (lv_at hl 0 rfl) ?_
          obtain ⟨y6, g7, h⟩ := vg_bind h
          have n_y6 := hO _ _ _ g7
          refine va_get (D := D) (ci := 5) (v := .ref (adL y6)) (C := RX5) (T := TX5) (N := 4) hx hb hts in_X5_isSame_X5 hown hK hP r0 (vW_k5 n_r0 g1) rfl 0 (by decide) (hts (.fieldLink RX5 9 "VaultDoorsLaw$Sim" "doors" "[LVaultDoorsLaw$Door;") (List.mem_of_getElem? (i := 1) rfl)) (fun _ h9 => h9) (by show some (va_rf (Option.map adL (mr m1 r0 0))) = _; rw [g7]; rfl) dX5_isSame_18 ?_
          refine lv_iload hx hb dX5_isSame_21 (lv_at hl 4 rfl) ?_
          obtain ⟨g8, h⟩ := vg_if h
          obtain ⟨g9, h⟩ := vg_if h
          obtain ⟨y10, g11, h⟩ := vg_bind h
          have n_y10 := hO _ _ _ g11
          refine va_aldq (D := D) hx hb hK hP y6 3 (vW_k9 n_y6 g8) rfl (i := i4) g9 dX5_isSame_23 ?_
          refine W.eq (g2 := F0 m 24 ls [.ref (adL y10)]) (by show F0 m 24 ls (va_rf (Option.map adL (mr m1 y6 i4.toNatClampNeg)) :: _) = _; rw [g11]; rfl) ?_
          refine lv_astore (lv' := [(5, .ref (adL y10)), (0, .ref (adL r0)), (1, .ref (adL r1)), (2, .int i2), (3, .int i3), (4, .int i4)]) hx hb dX5_isSame_24 hl (by decide) rfl (fun ls hl => ?_)
          refine lv_bipush (v := 9) hx hb dX5_isSame_26 (by decide) ?_
          obtain ⟨g12, h⟩ := vg_if h
          obtain ⟨g13, h⟩ := vg_if h
          refine wm_new6 (n := 9) (n' := 9) hx hb (hts (.arrayClass .int) (List.mem_of_getElem? (i := 2) rfl)) hO hK hP hD hS hA (by decide) (by decide) (Nat.le_of_ble_eq_true rfl) g12 g13 dX5_isSame_28 (fun ad14 H e15 hP hD hS => ?_)
          have hl : lv_has ls 8 [(5, .ref (ad14 y10)), (0, .ref (ad14 r0)), (1, .ref (ad14 r1)), (2, .int i2), (3, .int i3), (4, .int i4)] := by rw [e15 y10 n_y10, e15 r0 n_r0, e15 r1 n_r1]; exact hl
          have e16 : ∀ k, k < N → ad14 k = ad k := fun k hk => (e15 k (Nat.lt_of_lt_of_le hk hNN)).trans (hE k hk)
          have e17 : N ≤ (NL + 1) := Nat.le_trans hNN (Nat.le_succ _)
          have hO18 := vOK.N (k := 6) (n := 9) hO
          have n19 : r0 < (NL + 1) := Nat.lt_of_lt_of_le n_r0 (Nat.le_succ _)
          have n20 : r1 < (NL + 1) := Nat.lt_of_lt_of_le n_r1 (Nat.le_succ _)
          have n21 : y2 < (NL + 1) := Nat.lt_of_lt_of_le n_y2 (Nat.le_succ _)
          have n22 : y6 < (NL + 1) := Nat.lt_of_lt_of_le n_y6 (Nat.le_succ _)
          have n23 : y10 < (NL + 1) := Nat.lt_of_lt_of_le n_y10 (Nat.le_succ _)
          have hP : va_P D vwCl (vW tc ad14 ((NL + 1)) ((mN m1 NL 6 9))) H := hP
          have hD : va_D A (vW tc ad14 ((NL + 1)) ((mN m1 NL 6 9))) := hD
          refine lv_dup hx hb dX5_isSame_30 rfl ?_
          refine lv_iconst (v := 0) hx hb dX5_isSame_31 (by decide) ?_
          refine lv_aload hx hb dX5_isSame_32 (lv_at hl 0 rfl) ?_
          obtain ⟨g24, h⟩ := vg_if h
          refine va_get (D := D) (ci := 4) (v := .int (mi ((mN m1 NL 6 9)) y10 3)) (C := RX4) (T := TX4) (N := 9) hx hb hts in_X5_isSame_X4 hown hK hP y10 (vW_k4 n23 g24) rfl 3 (by decide) (hts (.fieldLink RX5 48 "VaultDoorsLaw$Door" "state" "I") (List.mem_of_getElem? (i := 3) rfl)) (fun _ h9 => h9) rfl dX5_isSame_34 ?_
          obtain ⟨g25, h⟩ := vg_if h
          refine va_iast (D := D) hx hb hK hP hD hS NL 0 (vW_k6 (Nat.lt_succ_self _) (mN_k1 (m := m1) (n := 9))) rfl (i := 0) (x := mi ((mN m1 NL 6 9)) y10 3) g25 dX5_isSame_37 (fun H locs hP hD hS => ?_)
          rw [vW_p6 (m := ((mN m1 NL 6 9))) (Nat.lt_succ_self _) (mN_k1 (m := m1) (n := 9))] at hP hD
          have hO26 := vOK.I (a := NL) (j := 0) (v := (mi ((mN m1 NL 6 9)) y10 3)) hO18
          have hP : va_P D vwCl (vW tc ad14 ((NL + 1)) ((mI ((mN m1 NL 6 9)) NL 0 (mi ((mN m1 NL 6 9)) y10 3)))) H := hP
          have hD : va_D A (vW tc ad14 ((NL + 1)) ((mI ((mN m1 NL 6 9)) NL 0 (mi ((mN m1 NL 6 9)) y10 3)))) := hD
          refine lv_dup hx hb dX5_isSame_38 rfl ?_
          refine lv_iconst (v := 1) hx hb dX5_isSame_39 (by decide) ?_
          refine lv_aload hx hb dX5_isSame_40 (lv_at hl 0 rfl) ?_
          refine va_get (D := D) (ci := 4) (v := .int (mi ((mI ((mN m1 NL 6 9)) NL 0 (mi ((mN m1 NL 6 9)) y10 3))) y10 3)) (C := RX4) (T := TX4) (N := 9) hx hb hts in_X5_isSame_X4 hown hK hP y10 (vW_k4 n23 g24) rfl 3 (by decide) (hts (.fieldLink RX5 48 "VaultDoorsLaw$Door" "state" "I") (List.mem_of_getElem? (i := 3) rfl)) (fun _ h9 => h9) rfl dX5_isSame_42 ?_
          refine lv_if_ne (tgt := 52) hx hb dX5_isSame_45 (by decide) (fun c27 => ?_) (fun c27 => ?_)
          · rw [if_neg c27] at h
            refine lv_aload hx hb dX5_isSame_52 (lv_at hl 0 rfl) ?_
            refine va_get (D := D) (ci := 4) (v := .int (mi ((mI ((mN m1 NL 6 9)) NL 0 (mi ((mN m1 NL 6 9)) y10 3))) y10 4)) (C := RX4) (T := TX4) (N := 9) hx hb hts in_X5_isSame_X4 hown hK hP y10 (vW_k4 n23 g24) rfl 4 (by decide) (hts (.fieldLink RX5 51 "VaultDoorsLaw$Door" "left" "I") (List.mem_of_getElem? (i := 4) rfl)) (fun _ h9 => h9) rfl dX5_isSame_54 ?_
            obtain ⟨g28, h⟩ := vg_if h
            refine va_iast (D := D) hx hb hK hP hD hS NL 0 (vW_k6 (Nat.lt_succ_self _) (mN_k1 (m := m1) (n := 9))) rfl (i := 1) (x := mi ((mI ((mN m1 NL 6 9)) NL 0 (mi ((mN m1 NL 6 9)) y10 3))) y10 4) g28 dX5_isSame_57 (fun H locs hP hD hS => ?_)
            rw [vW_p6 (m := ((mI ((mN m1 NL 6 9)) NL 0 (mi ((mN m1 NL 6 9)) y10 3)))) (Nat.lt_succ_self _) (mN_k1 (m := m1) (n := 9))] at hP hD
            have hO29 := vOK.I (a := NL) (j := 1) (v := (mi ((mI ((mN m1 NL 6 9)) NL 0 (mi ((mN m1 NL 6 9)) y10 3))) y10 4)) hO26
            have hP : va_P D vwCl (vW tc ad14 ((NL + 1)) ((mI ((mI ((mN m1 NL 6 9)) NL 0 (mi ((mN m1 NL 6 9)) y10 3))) NL 1 (mi ((mI ((mN m1 NL 6 9)) NL 0 (mi ((mN m1 NL 6 9)) y10 3))) y10 4)))) H := hP
            have hD : va_D A (vW tc ad14 ((NL + 1)) ((mI ((mI ((mN m1 NL 6 9)) NL 0 (mi ((mN m1 NL 6 9)) y10 3))) NL 1 (mi ((mI ((mN m1 NL 6 9)) NL 0 (mi ((mN m1 NL 6 9)) y10 3))) y10 4)))) := hD
            refine lv_dup hx hb dX5_isSame_58 rfl ?_
            refine lv_iconst (v := 2) hx hb dX5_isSame_59 (by decide) ?_
            refine lv_aload hx hb dX5_isSame_60 (lv_at hl 0 rfl) ?_
            refine va_get (D := D) (ci := 4) (v := .int (mi ((mI ((mI ((mN m1 NL 6 9)) NL 0 (mi ((mN m1 NL 6 9)) y10 3))) NL 1 (mi ((mI ((mN m1 NL 6 9)) NL 0 (mi ((mN m1 NL 6 9)) y10 3))) y10 4))) y10 2)) (C := RX4) (T := TX4) (N := 9) hx hb hts in_X5_isSame_X4 hown hK hP y10 (vW_k4 n23 g24) rfl 2 (by decide) (hts (.fieldLink RX5 38 "VaultDoorsLaw$Door" "rule" "I") (List.mem_of_getElem? (i := 5) rfl)) (fun _ h9 => h9) rfl dX5_isSame_62 ?_
            obtain ⟨g30, h⟩ := vg_if h
            refine va_iast (D := D) hx hb hK hP hD hS NL 0 (vW_k6 (Nat.lt_succ_self _) (mN_k1 (m := m1) (n := 9))) rfl (i := 2) (x := mi ((mI ((mI ((mN m1 NL 6 9)) NL 0 (mi ((mN m1 NL 6 9)) y10 3))) NL 1 (mi ((mI ((mN m1 NL 6 9)) NL 0 (mi ((mN m1 NL 6 9)) y10 3))) y10 4))) y10 2) g30 dX5_isSame_65 (fun H locs hP hD hS => ?_)
            rw [vW_p6 (m := ((mI ((mI ((mN m1 NL 6 9)) NL 0 (mi ((mN m1 NL 6 9)) y10 3))) NL 1 (mi ((mI ((mN m1 NL 6 9)) NL 0 (mi ((mN m1 NL 6 9)) y10 3))) y10 4)))) (Nat.lt_succ_self _) (mN_k1 (m := m1) (n := 9))] at hP hD
            have hO31 := vOK.I (a := NL) (j := 2) (v := (mi ((mI ((mI ((mN m1 NL 6 9)) NL 0 (mi ((mN m1 NL 6 9)) y10 3))) NL 1 (mi ((mI ((mN m1 NL 6 9)) NL 0 (mi ((mN m1 NL 6 9)) y10 3))) y10 4))) y10 2)) hO29
            have hP : va_P D vwCl (vW tc ad14 ((NL + 1)) ((mI ((mI ((mI ((mN m1 NL 6 9)) NL 0 (mi ((mN m1 NL 6 9)) y10 3))) NL 1 (mi ((mI ((mN m1 NL 6 9)) NL 0 (mi ((mN m1 NL 6 9)) y10 3))) y10 4))) NL 2 (mi ((mI ((mI ((mN m1 NL 6 9)) NL 0 (mi ((mN m1 NL 6 9)) y10 3))) NL 1 (mi ((mI ((mN m1 NL 6 9)) NL 0 (mi ((mN m1 NL 6 9)) y10 3))) y10 4))) y10 2)))) H := hP
            have hD : va_D A (vW tc ad14 ((NL + 1)) ((mI ((mI ((mI ((mN m1 NL 6 9)) NL 0 (mi ((mN m1 NL 6 9)) y10 3))) NL 1 (mi ((mI ((mN m1 NL 6 9)) NL 0 (mi ((mN m1 NL 6 9)) y10 3))) y10 4))) NL 2 (mi ((mI ((mI ((mN m1 NL 6 9)) NL 0 (mi ((mN m1 NL 6 9)) y10 3))) NL 1 (mi ((mI ((mN m1 NL 6 9)) NL 0 (mi ((mN m1 NL 6 9)) y10 3))) y10 4))) y10 2)))) := hD
            refine lv_dup hx hb dX5_isSame_66 rfl ?_
            refine lv_iconst (v := 3) hx hb dX5_isSame_67 (by decide) ?_
            refine lv_aload hx hb dX5_isSame_68 (lv_at hl 0 rfl) ?_
            obtain ⟨y32, g33, h⟩ := vg_bind h
            have n_y32 := hO31 _ _ _ g33
            refine va_get (D := D) (ci := 4) (v := .ref (ad14 y32)) (C := RX4) (T := TX4) (N := 9) hx hb hts in_X5_isSame_X4 hown hK hP y10 (vW_k4 n23 g24) rfl 5 (by decide) (hts (.fieldLink RX5 57 "VaultDoorsLaw$Door" "asks" "[[I") (List.mem_of_getElem? (i := 6) rfl)) (fun _ h9 => h9) (by show some (va_rf (Option.map ad14 (mr ((mI ((mI ((mI ((mN m1 NL 6 9)) NL 0 (mi ((mN m1 NL 6 9)) y10 3))) NL 1 (mi ((mI ((mN m1 NL 6 9)) NL 0 (mi ((mN m1 NL 6 9)) y10 3))) y10 4))) NL 2 (mi ((mI ((mI ((mN m1 NL 6 9)) NL 0 (mi ((mN m1 NL 6 9)) y10 3))) NL 1 (mi ((mI ((mN m1 NL 6 9)) NL 0 (mi ((mN m1 NL 6 9)) y10 3))) y10 4))) y10 2))) y10 5))) = _; rw [g33]; rfl) dX5_isSame_70 ?_
            obtain ⟨g34, h⟩ := vg_if h
            refine va_alen (D := D) hx hb hK hP y32 2 (vW_k8 n_y32 g34) rfl rfl dX5_isSame_73 ?_
            obtain ⟨g35, h⟩ := vg_if h
            refine va_iast (D := D) hx hb hK hP hD hS NL 0 (vW_k6 (Nat.lt_succ_self _) (mN_k1 (m := m1) (n := 9))) rfl (i := 3) (x := Int32.ofNat (ml ((mI ((mI ((mI ((mN m1 NL 6 9)) NL 0 (mi ((mN m1 NL 6 9)) y10 3))) NL 1 (mi ((mI ((mN m1 NL 6 9)) NL 0 (mi ((mN m1 NL 6 9)) y10 3))) y10 4))) NL 2 (mi ((mI ((mI ((mN m1 NL 6 9)) NL 0 (mi ((mN m1 NL 6 9)) y10 3))) NL 1 (mi ((mI ((mN m1 NL 6 9)) NL 0 (mi ((mN m1 NL 6 9)) y10 3))) y10 4))) y10 2))) y32)) g35 dX5_isSame_74 (fun H locs hP hD hS => ?_)
            rw [vW_p6 (m := ((mI ((mI ((mI ((mN m1 NL 6 9)) NL 0 (mi ((mN m1 NL 6 9)) y10 3))) NL 1 (mi ((mI ((mN m1 NL 6 9)) NL 0 (mi ((mN m1 NL 6 9)) y10 3))) y10 4))) NL 2 (mi ((mI ((mI ((mN m1 NL 6 9)) NL 0 (mi ((mN m1 NL 6 9)) y10 3))) NL 1 (mi ((mI ((mN m1 NL 6 9)) NL 0 (mi ((mN m1 NL 6 9)) y10 3))) y10 4))) y10 2)))) (Nat.lt_succ_self _) (mN_k1 (m := m1) (n := 9))] at hP hD
            have hO36 := vOK.I (a := NL) (j := 3) (v := (Int32.ofNat (ml ((mI ((mI ((mI ((mN m1 NL 6 9)) NL 0 (mi ((mN m1 NL 6 9)) y10 3))) NL 1 (mi ((mI ((mN m1 NL 6 9)) NL 0 (mi ((mN m1 NL 6 9)) y10 3))) y10 4))) NL 2 (mi ((mI ((mI ((mN m1 NL 6 9)) NL 0 (mi ((mN m1 NL 6 9)) y10 3))) NL 1 (mi ((mI ((mN m1 NL 6 9)) NL 0 (mi ((mN m1 NL 6 9)) y10 3))) y10 4))) y10 2))) y32))) hO31
            have hP : va_P D vwCl (vW tc ad14 ((NL + 1)) ((mI ((mI ((mI ((mI ((mN m1 NL 6 9)) NL 0 (mi ((mN m1 NL 6 9)) y10 3))) NL 1 (mi ((mI ((mN m1 NL 6 9)) NL 0 (mi ((mN m1 NL 6 9)) y10 3))) y10 4))) NL 2 (mi ((mI ((mI ((mN m1 NL 6 9)) NL 0 (mi ((mN m1 NL 6 9)) y10 3))) NL 1 (mi ((mI ((mN m1 NL 6 9)) NL 0 (mi ((mN m1 NL 6 9)) y10 3))) y10 4))) y10 2))) NL 3 (Int32.ofNat (ml ((mI ((mI ((mI ((mN m1 NL 6 9)) NL 0 (mi ((mN m1 NL 6 9)) y10 3))) NL 1 (mi ((mI ((mN m1 NL 6 9)) NL 0 (mi ((mN m1 NL 6 9)) y10 3))) y10 4))) NL 2 (mi ((mI ((mI ((mN m1 NL 6 9)) NL 0 (mi ((mN m1 NL 6 9)) y10 3))) NL 1 (mi ((mI ((mN m1 NL 6 9)) NL 0 (mi ((mN m1 NL 6 9)) y10 3))) y10 4))) y10 2))) y32))))) H := hP
            have hD : va_D A (vW tc ad14 ((NL + 1)) ((mI ((mI ((mI ((mI ((mN m1 NL 6 9)) NL 0 (mi ((mN m1 NL 6 9)) y10 3))) NL 1 (mi ((mI ((mN m1 NL 6 9)) NL 0 (mi ((mN m1 NL 6 9)) y10 3))) y10 4))) NL 2 (mi ((mI ((mI ((mN m1 NL 6 9)) NL 0 (mi ((mN m1 NL 6 9)) y10 3))) NL 1 (mi ((mI ((mN m1 NL 6 9)) NL 0 (mi ((mN m1 NL 6 9)) y10 3))) y10 4))) y10 2))) NL 3 (Int32.ofNat (ml ((mI ((mI ((mI ((mN m1 NL 6 9)) NL 0 (mi ((mN m1 NL 6 9)) y10 3))) NL 1 (mi ((mI ((mN m1 NL 6 9)) NL 0 (mi ((mN m1 NL 6 9)) y10 3))) y10 4))) NL 2 (mi ((mI ((mI ((mN m1 NL 6 9)) NL 0 (mi ((mN m1 NL 6 9)) y10 3))) NL 1 (mi ((mI ((mN m1 NL 6 9)) NL 0 (mi ((mN m1 NL 6 9)) y10 3))) y10 4))) y10 2))) y32))))) := hD
            refine lv_dup hx hb dX5_isSame_75 rfl ?_
            refine lv_iconst (v := 4) hx hb dX5_isSame_76 (by decide) ?_
            refine lv_aload hx hb dX5_isSame_77 (lv_at hl 0 rfl) ?_
            refine lv_iconst (v := (-1)) hx hb dX5_isSame_79 (by decide) ?_
            obtain ⟨q37, g38, h⟩ := vg_bind h
            refine va_calli (va_runV (As := [.int ((-1))]) (rest := [.int 4, .ref (ad14 NL), .ref (ad14 NL)]) ⟨hx, hb, hml, hown, hts⟩ (cm_X4_answers (m0 := (mI ((mI ((mI ((mI ((mN m1 NL 6 9)) NL 0 (mi ((mN m1 NL 6 9)) y10 3))) NL 1 (mi ((mI ((mN m1 NL 6 9)) NL 0 (mi ((mN m1 NL 6 9)) y10 3))) y10 4))) NL 2 (mi ((mI ((mI ((mN m1 NL 6 9)) NL 0 (mi ((mN m1 NL 6 9)) y10 3))) NL 1 (mi ((mI ((mN m1 NL 6 9)) NL 0 (mi ((mN m1 NL 6 9)) y10 3))) y10 4))) y10 2))) NL 3 (Int32.ofNat (ml ((mI ((mI ((mI ((mN m1 NL 6 9)) NL 0 (mi ((mN m1 NL 6 9)) y10 3))) NL 1 (mi ((mI ((mN m1 NL 6 9)) NL 0 (mi ((mN m1 NL 6 9)) y10 3))) y10 4))) NL 2 (mi ((mI ((mI ((mN m1 NL 6 9)) NL 0 (mi ((mN m1 NL 6 9)) y10 3))) NL 1 (mi ((mI ((mN m1 NL 6 9)) NL 0 (mi ((mN m1 NL 6 9)) y10 3))) y10 4))) y10 2))) y32)))) l D tc ad14 hO36 n23 g38) (cwV 1 hts gX5_isSame_X4_answers rfl rfl rfl (by decide +kernel) ⟨(Nat.le_of_ble_eq_true rfl), (Nat.le_of_ble_eq_true rfl)⟩) ⟨qR_blind, va_recv hK hP (ci := 4) (q0 := y10) rfl (vW_k4 n23 g24), qR_pre hP hK hZ⟩ rfl rfl hl.1 rfl (lv_room (Nat.le_of_ble_eq_true rfl)) dX5_isSame_80 ⟨g12, g13⟩) hS (fun q9 _ h9 => h9.elim) (fun q9 h9 => h9.elim) (fun w39 u t H1 locs ht hvm hw hB hz1 hk1 hS => ?_)
            have hP := hP.kept (fun k9 q9 hk9 => hk1 q9.1 (hP k9 q9 hk9).lt (fun h9 => h9))
            generalize H1 = H at hP hS ⊢
            clear hk1 hz1 ht hvm
            have hw : w39 = q37 := hw
            rw [hw]
            obtain ⟨g40, h⟩ := vg_if h
            refine va_iast (D := D) hx hb hK hP hD hS NL 0 (vW_k6 (Nat.lt_succ_self _) (mN_k1 (m := m1) (n := 9))) rfl (i := 4) (x := q37) g40 dX5_isSame_83 (fun H locs hP hD hS => ?_)
            rw [vW_p6 (m := ((mI ((mI ((mI ((mI ((mN m1 NL 6 9)) NL 0 (mi ((mN m1 NL 6 9)) y10 3))) NL 1 (mi ((mI ((mN m1 NL 6 9)) NL 0 (mi ((mN m1 NL 6 9)) y10 3))) y10 4))) NL 2 (mi ((mI ((mI ((mN m1 NL 6 9)) NL 0 (mi ((mN m1 NL 6 9)) y10 3))) NL 1 (mi ((mI ((mN m1 NL 6 9)) NL 0 (mi ((mN m1 NL 6 9)) y10 3))) y10 4))) y10 2))) NL 3 (Int32.ofNat (ml ((mI ((mI ((mI ((mN m1 NL 6 9)) NL 0 (mi ((mN m1 NL 6 9)) y10 3))) NL 1 (mi ((mI ((mN m1 NL 6 9)) NL 0 (mi ((mN m1 NL 6 9)) y10 3))) y10 4))) NL 2 (mi ((mI ((mI ((mN m1 NL 6 9)) NL 0 (mi ((mN m1 NL 6 9)) y10 3))) NL 1 (mi ((mI ((mN m1 NL 6 9)) NL 0 (mi ((mN m1 NL 6 9)) y10 3))) y10 4))) y10 2))) y32))))) (Nat.lt_succ_self _) (mN_k1 (m := m1) (n := 9))] at hP hD
            have hO41 := vOK.I (a := NL) (j := 4) (v := q37) hO36
            have hP : va_P D vwCl (vW tc ad14 ((NL + 1)) ((mI ((mI ((mI ((mI ((mI ((mN m1 NL 6 9)) NL 0 (mi ((mN m1 NL 6 9)) y10 3))) NL 1 (mi ((mI ((mN m1 NL 6 9)) NL 0 (mi ((mN m1 NL 6 9)) y10 3))) y10 4))) NL 2 (mi ((mI ((mI ((mN m1 NL 6 9)) NL 0 (mi ((mN m1 NL 6 9)) y10 3))) NL 1 (mi ((mI ((mN m1 NL 6 9)) NL 0 (mi ((mN m1 NL 6 9)) y10 3))) y10 4))) y10 2))) NL 3 (Int32.ofNat (ml ((mI ((mI ((mI ((mN m1 NL 6 9)) NL 0 (mi ((mN m1 NL 6 9)) y10 3))) NL 1 (mi ((mI ((mN m1 NL 6 9)) NL 0 (mi ((mN m1 NL 6 9)) y10 3))) y10 4))) NL 2 (mi ((mI ((mI ((mN m1 NL 6 9)) NL 0 (mi ((mN m1 NL 6 9)) y10 3))) NL 1 (mi ((mI ((mN m1 NL 6 9)) NL 0 (mi ((mN m1 NL 6 9)) y10 3))) y10 4))) y10 2))) y32)))) NL 4 q37))) H := hP
            have hD : va_D A (vW tc ad14 ((NL + 1)) ((mI ((mI ((mI ((mI ((mI ((mN m1 NL 6 9)) NL 0 (mi ((mN m1 NL 6 9)) y10 3))) NL 1 (mi ((mI ((mN m1 NL 6 9)) NL 0 (mi ((mN m1 NL 6 9)) y10 3))) y10 4))) NL 2 (mi ((mI ((mI ((mN m1 NL 6 9)) NL 0 (mi ((mN m1 NL 6 9)) y10 3))) NL 1 (mi ((mI ((mN m1 NL 6 9)) NL 0 (mi ((mN m1 NL 6 9)) y10 3))) y10 4))) y10 2))) NL 3 (Int32.ofNat (ml ((mI ((mI ((mI ((mN m1 NL 6 9)) NL 0 (mi ((mN m1 NL 6 9)) y10 3))) NL 1 (mi ((mI ((mN m1 NL 6 9)) NL 0 (mi ((mN m1 NL 6 9)) y10 3))) y10 4))) NL 2 (mi ((mI ((mI ((mN m1 NL 6 9)) NL 0 (mi ((mN m1 NL 6 9)) y10 3))) NL 1 (mi ((mI ((mN m1 NL 6 9)) NL 0 (mi ((mN m1 NL 6 9)) y10 3))) y10 4))) y10 2))) y32)))) NL 4 q37))) := hD
            refine lv_dup hx hb dX5_isSame_84 rfl ?_
            refine lv_iconst (v := 5) hx hb dX5_isSame_85 (by decide) ?_
            refine lv_aload hx hb dX5_isSame_86 (lv_at hl 0 rfl) ?_
            refine lv_iconst (v := 1) hx hb dX5_isSame_88 (by decide) ?_
            obtain ⟨q42, g43, h⟩ := vg_bind h
            refine va_calli (va_runV (As := [.int 1]) (rest := [.int 5, .ref (ad14 NL), .ref (ad14 NL)]) ⟨hx, hb, hml, hown, hts⟩ (cm_X4_answers (m0 := (mI ((mI ((mI ((mI ((mI ((mN m1 NL 6 9)) NL 0 (mi ((mN m1 NL 6 9)) y10 3))) NL 1 (mi ((mI ((mN m1 NL 6 9)) NL 0 (mi ((mN m1 NL 6 9)) y10 3))) y10 4))) NL 2 (mi ((mI ((mI ((mN m1 NL 6 9)) NL 0 (mi ((mN m1 NL 6 9)) y10 3))) NL 1 (mi ((mI ((mN m1 NL 6 9)) NL 0 (mi ((mN m1 NL 6 9)) y10 3))) y10 4))) y10 2))) NL 3 (Int32.ofNat (ml ((mI ((mI ((mI ((mN m1 NL 6 9)) NL 0 (mi ((mN m1 NL 6 9)) y10 3))) NL 1 (mi ((mI ((mN m1 NL 6 9)) NL 0 (mi ((mN m1 NL 6 9)) y10 3))) y10 4))) NL 2 (mi ((mI ((mI ((mN m1 NL 6 9)) NL 0 (mi ((mN m1 NL 6 9)) y10 3))) NL 1 (mi ((mI ((mN m1 NL 6 9)) NL 0 (mi ((mN m1 NL 6 9)) y10 3))) y10 4))) y10 2))) y32)))) NL 4 q37)) l D tc ad14 hO41 n23 g43) (cwV 1 hts gX5_isSame_X4_answers rfl rfl rfl (by decide +kernel) ⟨(Nat.le_of_ble_eq_true rfl), (Nat.le_of_ble_eq_true rfl)⟩) ⟨qR_blind, va_recv hK hP (ci := 4) (q0 := y10) rfl (vW_k4 n23 g24), qR_pre hP hK hZ⟩ rfl rfl hl.1 rfl (lv_room (Nat.le_of_ble_eq_true rfl)) dX5_isSame_89 ⟨g12, g13⟩) hS (fun q9 _ h9 => h9.elim) (fun q9 h9 => h9.elim) (fun w44 u t H1 locs ht hvm hw hB hz1 hk1 hS => ?_)
            have hP := hP.kept (fun k9 q9 hk9 => hk1 q9.1 (hP k9 q9 hk9).lt (fun h9 => h9))
            generalize H1 = H at hP hS ⊢
            clear hk1 hz1 ht hvm
            have hw : w44 = q42 := hw
            rw [hw]
            obtain ⟨g45, h⟩ := vg_if h
            refine va_iast (D := D) hx hb hK hP hD hS NL 0 (vW_k6 (Nat.lt_succ_self _) (mN_k1 (m := m1) (n := 9))) rfl (i := 5) (x := q42) g45 dX5_isSame_92 (fun H locs hP hD hS => ?_)
            rw [vW_p6 (m := ((mI ((mI ((mI ((mI ((mI ((mN m1 NL 6 9)) NL 0 (mi ((mN m1 NL 6 9)) y10 3))) NL 1 (mi ((mI ((mN m1 NL 6 9)) NL 0 (mi ((mN m1 NL 6 9)) y10 3))) y10 4))) NL 2 (mi ((mI ((mI ((mN m1 NL 6 9)) NL 0 (mi ((mN m1 NL 6 9)) y10 3))) NL 1 (mi ((mI ((mN m1 NL 6 9)) NL 0 (mi ((mN m1 NL 6 9)) y10 3))) y10 4))) y10 2))) NL 3 (Int32.ofNat (ml ((mI ((mI ((mI ((mN m1 NL 6 9)) NL 0 (mi ((mN m1 NL 6 9)) y10 3))) NL 1 (mi ((mI ((mN m1 NL 6 9)) NL 0 (mi ((mN m1 NL 6 9)) y10 3))) y10 4))) NL 2 (mi ((mI ((mI ((mN m1 NL 6 9)) NL 0 (mi ((mN m1 NL 6 9)) y10 3))) NL 1 (mi ((mI ((mN m1 NL 6 9)) NL 0 (mi ((mN m1 NL 6 9)) y10 3))) y10 4))) y10 2))) y32)))) NL 4 q37))) (Nat.lt_succ_self _) (mN_k1 (m := m1) (n := 9))] at hP hD
            have hO46 := vOK.I (a := NL) (j := 5) (v := q42) hO41
            have hP : va_P D vwCl (vW tc ad14 ((NL + 1)) ((mI ((mI ((mI ((mI ((mI ((mI ((mN m1 NL 6 9)) NL 0 (mi ((mN m1 NL 6 9)) y10 3))) NL 1 (mi ((mI ((mN m1 NL 6 9)) NL 0 (mi ((mN m1 NL 6 9)) y10 3))) y10 4))) NL 2 (mi ((mI ((mI ((mN m1 NL 6 9)) NL 0 (mi ((mN m1 NL 6 9)) y10 3))) NL 1 (mi ((mI ((mN m1 NL 6 9)) NL 0 (mi ((mN m1 NL 6 9)) y10 3))) y10 4))) y10 2))) NL 3 (Int32.ofNat (ml ((mI ((mI ((mI ((mN m1 NL 6 9)) NL 0 (mi ((mN m1 NL 6 9)) y10 3))) NL 1 (mi ((mI ((mN m1 NL 6 9)) NL 0 (mi ((mN m1 NL 6 9)) y10 3))) y10 4))) NL 2 (mi ((mI ((mI ((mN m1 NL 6 9)) NL 0 (mi ((mN m1 NL 6 9)) y10 3))) NL 1 (mi ((mI ((mN m1 NL 6 9)) NL 0 (mi ((mN m1 NL 6 9)) y10 3))) y10 4))) y10 2))) y32)))) NL 4 q37)) NL 5 q42))) H := hP
            have hD : va_D A (vW tc ad14 ((NL + 1)) ((mI ((mI ((mI ((mI ((mI ((mI ((mN m1 NL 6 9)) NL 0 (mi ((mN m1 NL 6 9)) y10 3))) NL 1 (mi ((mI ((mN m1 NL 6 9)) NL 0 (mi ((mN m1 NL 6 9)) y10 3))) y10 4))) NL 2 (mi ((mI ((mI ((mN m1 NL 6 9)) NL 0 (mi ((mN m1 NL 6 9)) y10 3))) NL 1 (mi ((mI ((mN m1 NL 6 9)) NL 0 (mi ((mN m1 NL 6 9)) y10 3))) y10 4))) y10 2))) NL 3 (Int32.ofNat (ml ((mI ((mI ((mI ((mN m1 NL 6 9)) NL 0 (mi ((mN m1 NL 6 9)) y10 3))) NL 1 (mi ((mI ((mN m1 NL 6 9)) NL 0 (mi ((mN m1 NL 6 9)) y10 3))) y10 4))) NL 2 (mi ((mI ((mI ((mN m1 NL 6 9)) NL 0 (mi ((mN m1 NL 6 9)) y10 3))) NL 1 (mi ((mI ((mN m1 NL 6 9)) NL 0 (mi ((mN m1 NL 6 9)) y10 3))) y10 4))) y10 2))) y32)))) NL 4 q37)) NL 5 q42))) := hD
            refine lv_dup hx hb dX5_isSame_93 rfl ?_
            refine lv_bipush (v := 6) hx hb dX5_isSame_94 (by decide) ?_
            refine lv_aload hx hb dX5_isSame_96 (lv_at hl 0 rfl) ?_
            obtain ⟨y47, g48, h⟩ := vg_bind h
            have n_y47 := hO46 _ _ _ g48
            refine va_get (D := D) (ci := 4) (v := .ref (ad14 y47)) (C := RX4) (T := TX4) (N := 9) hx hb hts in_X5_isSame_X4 hown hK hP y10 (vW_k4 n23 g24) rfl 6 (by decide) (hts (.fieldLink RX5 54 "VaultDoorsLaw$Door" "kept" "[[I") (List.mem_of_getElem? (i := 7) rfl)) (fun _ h9 => h9) (by show some (va_rf (Option.map ad14 (mr ((mI ((mI ((mI ((mI ((mI ((mI ((mN m1 NL 6 9)) NL 0 (mi ((mN m1 NL 6 9)) y10 3))) NL 1 (mi ((mI ((mN m1 NL 6 9)) NL 0 (mi ((mN m1 NL 6 9)) y10 3))) y10 4))) NL 2 (mi ((mI ((mI ((mN m1 NL 6 9)) NL 0 (mi ((mN m1 NL 6 9)) y10 3))) NL 1 (mi ((mI ((mN m1 NL 6 9)) NL 0 (mi ((mN m1 NL 6 9)) y10 3))) y10 4))) y10 2))) NL 3 (Int32.ofNat (ml ((mI ((mI ((mI ((mN m1 NL 6 9)) NL 0 (mi ((mN m1 NL 6 9)) y10 3))) NL 1 (mi ((mI ((mN m1 NL 6 9)) NL 0 (mi ((mN m1 NL 6 9)) y10 3))) y10 4))) NL 2 (mi ((mI ((mI ((mN m1 NL 6 9)) NL 0 (mi ((mN m1 NL 6 9)) y10 3))) NL 1 (mi ((mI ((mN m1 NL 6 9)) NL 0 (mi ((mN m1 NL 6 9)) y10 3))) y10 4))) y10 2))) y32)))) NL 4 q37)) NL 5 q42)) y10 6))) = _; rw [g48]; rfl) dX5_isSame_98 ?_
            obtain ⟨g49, h⟩ := vg_if h
            refine va_alen (D := D) hx hb hK hP y47 2 (vW_k8 n_y47 g49) rfl rfl dX5_isSame_101 ?_
            obtain ⟨g50, h⟩ := vg_if h
            refine va_iast (D := D) hx hb hK hP hD hS NL 0 (vW_k6 (Nat.lt_succ_self _) (mN_k1 (m := m1) (n := 9))) rfl (i := 6) (x := Int32.ofNat (ml ((mI ((mI ((mI ((mI ((mI ((mI ((mN m1 NL 6 9)) NL 0 (mi ((mN m1 NL 6 9)) y10 3))) NL 1 (mi ((mI ((mN m1 NL 6 9)) NL 0 (mi ((mN m1 NL 6 9)) y10 3))) y10 4))) NL 2 (mi ((mI ((mI ((mN m1 NL 6 9)) NL 0 (mi ((mN m1 NL 6 9)) y10 3))) NL 1 (mi ((mI ((mN m1 NL 6 9)) NL 0 (mi ((mN m1 NL 6 9)) y10 3))) y10 4))) y10 2))) NL 3 (Int32.ofNat (ml ((mI ((mI ((mI ((mN m1 NL 6 9)) NL 0 (mi ((mN m1 NL 6 9)) y10 3))) NL 1 (mi ((mI ((mN m1 NL 6 9)) NL 0 (mi ((mN m1 NL 6 9)) y10 3))) y10 4))) NL 2 (mi ((mI ((mI ((mN m1 NL 6 9)) NL 0 (mi ((mN m1 NL 6 9)) y10 3))) NL 1 (mi ((mI ((mN m1 NL 6 9)) NL 0 (mi ((mN m1 NL 6 9)) y10 3))) y10 4))) y10 2))) y32)))) NL 4 q37)) NL 5 q42)) y47)) g50 dX5_isSame_102 (fun H locs hP hD hS => ?_)
            rw [vW_p6 (m := ((mI ((mI ((mI ((mI ((mI ((mI ((mN m1 NL 6 9)) NL 0 (mi ((mN m1 NL 6 9)) y10 3))) NL 1 (mi ((mI ((mN m1 NL 6 9)) NL 0 (mi ((mN m1 NL 6 9)) y10 3))) y10 4))) NL 2 (mi ((mI ((mI ((mN m1 NL 6 9)) NL 0 (mi ((mN m1 NL 6 9)) y10 3))) NL 1 (mi ((mI ((mN m1 NL 6 9)) NL 0 (mi ((mN m1 NL 6 9)) y10 3))) y10 4))) y10 2))) NL 3 (Int32.ofNat (ml ((mI ((mI ((mI ((mN m1 NL 6 9)) NL 0 (mi ((mN m1 NL 6 9)) y10 3))) NL 1 (mi ((mI ((mN m1 NL 6 9)) NL 0 (mi ((mN m1 NL 6 9)) y10 3))) y10 4))) NL 2 (mi ((mI ((mI ((mN m1 NL 6 9)) NL 0 (mi ((mN m1 NL 6 9)) y10 3))) NL 1 (mi ((mI ((mN m1 NL 6 9)) NL 0 (mi ((mN m1 NL 6 9)) y10 3))) y10 4))) y10 2))) y32)))) NL 4 q37)) NL 5 q42))) (Nat.lt_succ_self _) (mN_k1 (m := m1) (n := 9))] at hP hD
            have hO51 := vOK.I (a := NL) (j := 6) (v := (Int32.ofNat (ml ((mI ((mI ((mI ((mI ((mI ((mI ((mN m1 NL 6 9)) NL 0 (mi ((mN m1 NL 6 9)) y10 3))) NL 1 (mi ((mI ((mN m1 NL 6 9)) NL 0 (mi ((mN m1 NL 6 9)) y10 3))) y10 4))) NL 2 (mi ((mI ((mI ((mN m1 NL 6 9)) NL 0 (mi ((mN m1 NL 6 9)) y10 3))) NL 1 (mi ((mI ((mN m1 NL 6 9)) NL 0 (mi ((mN m1 NL 6 9)) y10 3))) y10 4))) y10 2))) NL 3 (Int32.ofNat (ml ((mI ((mI ((mI ((mN m1 NL 6 9)) NL 0 (mi ((mN m1 NL 6 9)) y10 3))) NL 1 (mi ((mI ((mN m1 NL 6 9)) NL 0 (mi ((mN m1 NL 6 9)) y10 3))) y10 4))) NL 2 (mi ((mI ((mI ((mN m1 NL 6 9)) NL 0 (mi ((mN m1 NL 6 9)) y10 3))) NL 1 (mi ((mI ((mN m1 NL 6 9)) NL 0 (mi ((mN m1 NL 6 9)) y10 3))) y10 4))) y10 2))) y32)))) NL 4 q37)) NL 5 q42)) y47))) hO46
            have hP : va_P D vwCl (vW tc ad14 ((NL + 1)) ((mI ((mI ((mI ((mI ((mI ((mI ((mI ((mN m1 NL 6 9)) NL 0 (mi ((mN m1 NL 6 9)) y10 3))) NL 1 (mi ((mI ((mN m1 NL 6 9)) NL 0 (mi ((mN m1 NL 6 9)) y10 3))) y10 4))) NL 2 (mi ((mI ((mI ((mN m1 NL 6 9)) NL 0 (mi ((mN m1 NL 6 9)) y10 3))) NL 1 (mi ((mI ((mN m1 NL 6 9)) NL 0 (mi ((mN m1 NL 6 9)) y10 3))) y10 4))) y10 2))) NL 3 (Int32.ofNat (ml ((mI ((mI ((mI ((mN m1 NL 6 9)) NL 0 (mi ((mN m1 NL 6 9)) y10 3))) NL 1 (mi ((mI ((mN m1 NL 6 9)) NL 0 (mi ((mN m1 NL 6 9)) y10 3))) y10 4))) NL 2 (mi ((mI ((mI ((mN m1 NL 6 9)) NL 0 (mi ((mN m1 NL 6 9)) y10 3))) NL 1 (mi ((mI ((mN m1 NL 6 9)) NL 0 (mi ((mN m1 NL 6 9)) y10 3))) y10 4))) y10 2))) y32)))) NL 4 q37)) NL 5 q42)) NL 6 (Int32.ofNat (ml ((mI ((mI ((mI ((mI ((mI ((mI ((mN m1 NL 6 9)) NL 0 (mi ((mN m1 NL 6 9)) y10 3))) NL 1 (mi ((mI ((mN m1 NL 6 9)) NL 0 (mi ((mN m1 NL 6 9)) y10 3))) y10 4))) NL 2 (mi ((mI ((mI ((mN m1 NL 6 9)) NL 0 (mi ((mN m1 NL 6 9)) y10 3))) NL 1 (mi ((mI ((mN m1 NL 6 9)) NL 0 (mi ((mN m1 NL 6 9)) y10 3))) y10 4))) y10 2))) NL 3 (Int32.ofNat (ml ((mI ((mI ((mI ((mN m1 NL 6 9)) NL 0 (mi ((mN m1 NL 6 9)) y10 3))) NL 1 (mi ((mI ((mN m1 NL 6 9)) NL 0 (mi ((mN m1 NL 6 9)) y10 3))) y10 4))) NL 2 (mi ((mI ((mI ((mN m1 NL 6 9)) NL 0 (mi ((mN m1 NL 6 9)) y10 3))) NL 1 (mi ((mI ((mN m1 NL 6 9)) NL 0 (mi ((mN m1 NL 6 9)) y10 3))) y10 4))) y10 2))) y32)))) NL 4 q37)) NL 5 q42)) y47))))) H := hP
            have hD : va_D A (vW tc ad14 ((NL + 1)) ((mI ((mI ((mI ((mI ((mI ((mI ((mI ((mN m1 NL 6 9)) NL 0 (mi ((mN m1 NL 6 9)) y10 3))) NL 1 (mi ((mI ((mN m1 NL 6 9)) NL 0 (mi ((mN m1 NL 6 9)) y10 3))) y10 4))) NL 2 (mi ((mI ((mI ((mN m1 NL 6 9)) NL 0 (mi ((mN m1 NL 6 9)) y10 3))) NL 1 (mi ((mI ((mN m1 NL 6 9)) NL 0 (mi ((mN m1 NL 6 9)) y10 3))) y10 4))) y10 2))) NL 3 (Int32.ofNat (ml ((mI ((mI ((mI ((mN m1 NL 6 9)) NL 0 (mi ((mN m1 NL 6 9)) y10 3))) NL 1 (mi ((mI ((mN m1 NL 6 9)) NL 0 (mi ((mN m1 NL 6 9)) y10 3))) y10 4))) NL 2 (mi ((mI ((mI ((mN m1 NL 6 9)) NL 0 (mi ((mN m1 NL 6 9)) y10 3))) NL 1 (mi ((mI ((mN m1 NL 6 9)) NL 0 (mi ((mN m1 NL 6 9)) y10 3))) y10 4))) y10 2))) y32)))) NL 4 q37)) NL 5 q42)) NL 6 (Int32.ofNat (ml ((mI ((mI ((mI ((mI ((mI ((mI ((mN m1 NL 6 9)) NL 0 (mi ((mN m1 NL 6 9)) y10 3))) NL 1 (mi ((mI ((mN m1 NL 6 9)) NL 0 (mi ((mN m1 NL 6 9)) y10 3))) y10 4))) NL 2 (mi ((mI ((mI ((mN m1 NL 6 9)) NL 0 (mi ((mN m1 NL 6 9)) y10 3))) NL 1 (mi ((mI ((mN m1 NL 6 9)) NL 0 (mi ((mN m1 NL 6 9)) y10 3))) y10 4))) y10 2))) NL 3 (Int32.ofNat (ml ((mI ((mI ((mI ((mN m1 NL 6 9)) NL 0 (mi ((mN m1 NL 6 9)) y10 3))) NL 1 (mi ((mI ((mN m1 NL 6 9)) NL 0 (mi ((mN m1 NL 6 9)) y10 3))) y10 4))) NL 2 (mi ((mI ((mI ((mN m1 NL 6 9)) NL 0 (mi ((mN m1 NL 6 9)) y10 3))) NL 1 (mi ((mI ((mN m1 NL 6 9)) NL 0 (mi ((mN m1 NL 6 9)) y10 3))) y10 4))) y10 2))) y32)))) NL 4 q37)) NL 5 q42)) y47))))) := hD
            refine lv_dup hx hb dX5_isSame_103 rfl ?_
            refine lv_bipush (v := 7) hx hb dX5_isSame_104 (by decide) ?_
            refine lv_aload hx hb dX5_isSame_106 (lv_at hl 0 rfl) ?_
            refine va_get (D := D) (ci := 4) (v := .int (mi ((mI ((mI ((mI ((mI ((mI ((mI ((mI ((mN m1 NL 6 9)) NL 0 (mi ((mN m1 NL 6 9)) y10 3))) NL 1 (mi ((mI ((mN m1 NL 6 9)) NL 0 (mi ((mN m1 NL 6 9)) y10 3))) y10 4))) NL 2 (mi ((mI ((mI ((mN m1 NL 6 9)) NL 0 (mi ((mN m1 NL 6 9)) y10 3))) NL 1 (mi ((mI ((mN m1 NL 6 9)) NL 0 (mi ((mN m1 NL 6 9)) y10 3))) y10 4))) y10 2))) NL 3 (Int32.ofNat (ml ((mI ((mI ((mI ((mN m1 NL 6 9)) NL 0 (mi ((mN m1 NL 6 9)) y10 3))) NL 1 (mi ((mI ((mN m1 NL 6 9)) NL 0 (mi ((mN m1 NL 6 9)) y10 3))) y10 4))) NL 2 (mi ((mI ((mI ((mN m1 NL 6 9)) NL 0 (mi ((mN m1 NL 6 9)) y10 3))) NL 1 (mi ((mI ((mN m1 NL 6 9)) NL 0 (mi ((mN m1 NL 6 9)) y10 3))) y10 4))) y10 2))) y32)))) NL 4 q37)) NL 5 q42)) NL 6 (Int32.ofNat (ml ((mI ((mI ((mI ((mI ((mI ((mI ((mN m1 NL 6 9)) NL 0 (mi ((mN m1 NL 6 9)) y10 3))) NL 1 (mi ((mI ((mN m1 NL 6 9)) NL 0 (mi ((mN m1 NL 6 9)) y10 3))) y10 4))) NL 2 (mi ((mI ((mI ((mN m1 NL 6 9)) NL 0 (mi ((mN m1 NL 6 9)) y10 3))) NL 1 (mi ((mI ((mN m1 NL 6 9)) NL 0 (mi ((mN m1 NL 6 9)) y10 3))) y10 4))) y10 2))) NL 3 (Int32.ofNat (ml ((mI ((mI ((mI ((mN m1 NL 6 9)) NL 0 (mi ((mN m1 NL 6 9)) y10 3))) NL 1 (mi ((mI ((mN m1 NL 6 9)) NL 0 (mi ((mN m1 NL 6 9)) y10 3))) y10 4))) NL 2 (mi ((mI ((mI ((mN m1 NL 6 9)) NL 0 (mi ((mN m1 NL 6 9)) y10 3))) NL 1 (mi ((mI ((mN m1 NL 6 9)) NL 0 (mi ((mN m1 NL 6 9)) y10 3))) y10 4))) y10 2))) y32)))) NL 4 q37)) NL 5 q42)) y47)))) y10 7)) (C := RX4) (T := TX4) (N := 9) hx hb hts in_X5_isSame_X4 hown hK hP y10 (vW_k4 n23 g24) rfl 7 (by decide) (hts (.fieldLink RX5 64 "VaultDoorsLaw$Door" "opened" "I") (List.mem_of_getElem? (i := 8) rfl)) (fun _ h9 => h9) rfl dX5_isSame_108 ?_
            obtain ⟨g52, h⟩ := vg_if h
            refine va_iast (D := D) hx hb hK hP hD hS NL 0 (vW_k6 (Nat.lt_succ_self _) (mN_k1 (m := m1) (n := 9))) rfl (i := 7) (x := mi ((mI ((mI ((mI ((mI ((mI ((mI ((mI ((mN m1 NL 6 9)) NL 0 (mi ((mN m1 NL 6 9)) y10 3))) NL 1 (mi ((mI ((mN m1 NL 6 9)) NL 0 (mi ((mN m1 NL 6 9)) y10 3))) y10 4))) NL 2 (mi ((mI ((mI ((mN m1 NL 6 9)) NL 0 (mi ((mN m1 NL 6 9)) y10 3))) NL 1 (mi ((mI ((mN m1 NL 6 9)) NL 0 (mi ((mN m1 NL 6 9)) y10 3))) y10 4))) y10 2))) NL 3 (Int32.ofNat (ml ((mI ((mI ((mI ((mN m1 NL 6 9)) NL 0 (mi ((mN m1 NL 6 9)) y10 3))) NL 1 (mi ((mI ((mN m1 NL 6 9)) NL 0 (mi ((mN m1 NL 6 9)) y10 3))) y10 4))) NL 2 (mi ((mI ((mI ((mN m1 NL 6 9)) NL 0 (mi ((mN m1 NL 6 9)) y10 3))) NL 1 (mi ((mI ((mN m1 NL 6 9)) NL 0 (mi ((mN m1 NL 6 9)) y10 3))) y10 4))) y10 2))) y32)))) NL 4 q37)) NL 5 q42)) NL 6 (Int32.ofNat (ml ((mI ((mI ((mI ((mI ((mI ((mI ((mN m1 NL 6 9)) NL 0 (mi ((mN m1 NL 6 9)) y10 3))) NL 1 (mi ((mI ((mN m1 NL 6 9)) NL 0 (mi ((mN m1 NL 6 9)) y10 3))) y10 4))) NL 2 (mi ((mI ((mI ((mN m1 NL 6 9)) NL 0 (mi ((mN m1 NL 6 9)) y10 3))) NL 1 (mi ((mI ((mN m1 NL 6 9)) NL 0 (mi ((mN m1 NL 6 9)) y10 3))) y10 4))) y10 2))) NL 3 (Int32.ofNat (ml ((mI ((mI ((mI ((mN m1 NL 6 9)) NL 0 (mi ((mN m1 NL 6 9)) y10 3))) NL 1 (mi ((mI ((mN m1 NL 6 9)) NL 0 (mi ((mN m1 NL 6 9)) y10 3))) y10 4))) NL 2 (mi ((mI ((mI ((mN m1 NL 6 9)) NL 0 (mi ((mN m1 NL 6 9)) y10 3))) NL 1 (mi ((mI ((mN m1 NL 6 9)) NL 0 (mi ((mN m1 NL 6 9)) y10 3))) y10 4))) y10 2))) y32)))) NL 4 q37)) NL 5 q42)) y47)))) y10 7) g52 dX5_isSame_111 (fun H locs hP hD hS => ?_)
            rw [vW_p6 (m := ((mI ((mI ((mI ((mI ((mI ((mI ((mI ((mN m1 NL 6 9)) NL 0 (mi ((mN m1 NL 6 9)) y10 3))) NL 1 (mi ((mI ((mN m1 NL 6 9)) NL 0 (mi ((mN m1 NL 6 9)) y10 3))) y10 4))) NL 2 (mi ((mI ((mI ((mN m1 NL 6 9)) NL 0 (mi ((mN m1 NL 6 9)) y10 3))) NL 1 (mi ((mI ((mN m1 NL 6 9)) NL 0 (mi ((mN m1 NL 6 9)) y10 3))) y10 4))) y10 2))) NL 3 (Int32.ofNat (ml ((mI ((mI ((mI ((mN m1 NL 6 9)) NL 0 (mi ((mN m1 NL 6 9)) y10 3))) NL 1 (mi ((mI ((mN m1 NL 6 9)) NL 0 (mi ((mN m1 NL 6 9)) y10 3))) y10 4))) NL 2 (mi ((mI ((mI ((mN m1 NL 6 9)) NL 0 (mi ((mN m1 NL 6 9)) y10 3))) NL 1 (mi ((mI ((mN m1 NL 6 9)) NL 0 (mi ((mN m1 NL 6 9)) y10 3))) y10 4))) y10 2))) y32)))) NL 4 q37)) NL 5 q42)) NL 6 (Int32.ofNat (ml ((mI ((mI ((mI ((mI ((mI ((mI ((mN m1 NL 6 9)) NL 0 (mi ((mN m1 NL 6 9)) y10 3))) NL 1 (mi ((mI ((mN m1 NL 6 9)) NL 0 (mi ((mN m1 NL 6 9)) y10 3))) y10 4))) NL 2 (mi ((mI ((mI ((mN m1 NL 6 9)) NL 0 (mi ((mN m1 NL 6 9)) y10 3))) NL 1 (mi ((mI ((mN m1 NL 6 9)) NL 0 (mi ((mN m1 NL 6 9)) y10 3))) y10 4))) y10 2))) NL 3 (Int32.ofNat (ml ((mI ((mI ((mI ((mN m1 NL 6 9)) NL 0 (mi ((mN m1 NL 6 9)) y10 3))) NL 1 (mi ((mI ((mN m1 NL 6 9)) NL 0 (mi ((mN m1 NL 6 9)) y10 3))) y10 4))) NL 2 (mi ((mI ((mI ((mN m1 NL 6 9)) NL 0 (mi ((mN m1 NL 6 9)) y10 3))) NL 1 (mi ((mI ((mN m1 NL 6 9)) NL 0 (mi ((mN m1 NL 6 9)) y10 3))) y10 4))) y10 2))) y32)))) NL 4 q37)) NL 5 q42)) y47))))) (Nat.lt_succ_self _) (mN_k1 (m := m1) (n := 9))] at hP hD
            have hO53 := vOK.I (a := NL) (j := 7) (v := (mi ((mI ((mI ((mI ((mI ((mI ((mI ((mI ((mN m1 NL 6 9)) NL 0 (mi ((mN m1 NL 6 9)) y10 3))) NL 1 (mi ((mI ((mN m1 NL 6 9)) NL 0 (mi ((mN m1 NL 6 9)) y10 3))) y10 4))) NL 2 (mi ((mI ((mI ((mN m1 NL 6 9)) NL 0 (mi ((mN m1 NL 6 9)) y10 3))) NL 1 (mi ((mI ((mN m1 NL 6 9)) NL 0 (mi ((mN m1 NL 6 9)) y10 3))) y10 4))) y10 2))) NL 3 (Int32.ofNat (ml ((mI ((mI ((mI ((mN m1 NL 6 9)) NL 0 (mi ((mN m1 NL 6 9)) y10 3))) NL 1 (mi ((mI ((mN m1 NL 6 9)) NL 0 (mi ((mN m1 NL 6 9)) y10 3))) y10 4))) NL 2 (mi ((mI ((mI ((mN m1 NL 6 9)) NL 0 (mi ((mN m1 NL 6 9)) y10 3))) NL 1 (mi ((mI ((mN m1 NL 6 9)) NL 0 (mi ((mN m1 NL 6 9)) y10 3))) y10 4))) y10 2))) y32)))) NL 4 q37)) NL 5 q42)) NL 6 (Int32.ofNat (ml ((mI ((mI ((mI ((mI ((mI ((mI ((mN m1 NL 6 9)) NL 0 (mi ((mN m1 NL 6 9)) y10 3))) NL 1 (mi ((mI ((mN m1 NL 6 9)) NL 0 (mi ((mN m1 NL 6 9)) y10 3))) y10 4))) NL 2 (mi ((mI ((mI ((mN m1 NL 6 9)) NL 0 (mi ((mN m1 NL 6 9)) y10 3))) NL 1 (mi ((mI ((mN m1 NL 6 9)) NL 0 (mi ((mN m1 NL 6 9)) y10 3))) y10 4))) y10 2))) NL 3 (Int32.ofNat (ml ((mI ((mI ((mI ((mN m1 NL 6 9)) NL 0 (mi ((mN m1 NL 6 9)) y10 3))) NL 1 (mi ((mI ((mN m1 NL 6 9)) NL 0 (mi ((mN m1 NL 6 9)) y10 3))) y10 4))) NL 2 (mi ((mI ((mI ((mN m1 NL 6 9)) NL 0 (mi ((mN m1 NL 6 9)) y10 3))) NL 1 (mi ((mI ((mN m1 NL 6 9)) NL 0 (mi ((mN m1 NL 6 9)) y10 3))) y10 4))) y10 2))) y32)))) NL 4 q37)) NL 5 q42)) y47)))) y10 7)) hO51
            have hP : va_P D vwCl (vW tc ad14 ((NL + 1)) ((mI ((mI ((mI ((mI ((mI ((mI ((mI ((mI ((mN m1 NL 6 9)) NL 0 (mi ((mN m1 NL 6 9)) y10 3))) NL 1 (mi ((mI ((mN m1 NL 6 9)) NL 0 (mi ((mN m1 NL 6 9)) y10 3))) y10 4))) NL 2 (mi ((mI ((mI ((mN m1 NL 6 9)) NL 0 (mi ((mN m1 NL 6 9)) y10 3))) NL 1 (mi ((mI ((mN m1 NL 6 9)) NL 0 (mi ((mN m1 NL 6 9)) y10 3))) y10 4))) y10 2))) NL 3 (Int32.ofNat (ml ((mI ((mI ((mI ((mN m1 NL 6 9)) NL 0 (mi ((mN m1 NL 6 9)) y10 3))) NL 1 (mi ((mI ((mN m1 NL 6 9)) NL 0 (mi ((mN m1 NL 6 9)) y10 3))) y10 4))) NL 2 (mi ((mI ((mI ((mN m1 NL 6 9)) NL 0 (mi ((mN m1 NL 6 9)) y10 3))) NL 1 (mi ((mI ((mN m1 NL 6 9)) NL 0 (mi ((mN m1 NL 6 9)) y10 3))) y10 4))) y10 2))) y32)))) NL 4 q37)) NL 5 q42)) NL 6 (Int32.ofNat (ml ((mI ((mI ((mI ((mI ((mI ((mI ((mN m1 NL 6 9)) NL 0 (mi ((mN m1 NL 6 9)) y10 3))) NL 1 (mi ((mI ((mN m1 NL 6 9)) NL 0 (mi ((mN m1 NL 6 9)) y10 3))) y10 4))) NL 2 (mi ((mI ((mI ((mN m1 NL 6 9)) NL 0 (mi ((mN m1 NL 6 9)) y10 3))) NL 1 (mi ((mI ((mN m1 NL 6 9)) NL 0 (mi ((mN m1 NL 6 9)) y10 3))) y10 4))) y10 2))) NL 3 (Int32.ofNat (ml ((mI ((mI ((mI ((mN m1 NL 6 9)) NL 0 (mi ((mN m1 NL 6 9)) y10 3))) NL 1 (mi ((mI ((mN m1 NL 6 9)) NL 0 (mi ((mN m1 NL 6 9)) y10 3))) y10 4))) NL 2 (mi ((mI ((mI ((mN m1 NL 6 9)) NL 0 (mi ((mN m1 NL 6 9)) y10 3))) NL 1 (mi ((mI ((mN m1 NL 6 9)) NL 0 (mi ((mN m1 NL 6 9)) y10 3))) y10 4))) y10 2))) y32)))) NL 4 q37)) NL 5 q42)) y47)))) NL 7 (mi ((mI ((mI ((mI ((mI ((mI ((mI ((mI ((mN m1 NL 6 9)) NL 0 (mi ((mN m1 NL 6 9)) y10 3))) NL 1 (mi ((mI ((mN m1 NL 6 9)) NL 0 (mi ((mN m1 NL 6 9)) y10 3))) y10 4))) NL 2 (mi ((mI ((mI ((mN m1 NL 6 9)) NL 0 (mi ((mN m1 NL 6 9)) y10 3))) NL 1 (mi ((mI ((mN m1 NL 6 9)) NL 0 (mi ((mN m1 NL 6 9)) y10 3))) y10 4))) y10 2))) NL 3 (Int32.ofNat (ml ((mI ((mI ((mI ((mN m1 NL 6 9)) NL 0 (mi ((mN m1 NL 6 9)) y10 3))) NL 1 (mi ((mI ((mN m1 NL 6 9)) NL 0 (mi ((mN m1 NL 6 9)) y10 3))) y10 4))) NL 2 (mi ((mI ((mI ((mN m1 NL 6 9)) NL 0 (mi ((mN m1 NL 6 9)) y10 3))) NL 1 (mi ((mI ((mN m1 NL 6 9)) NL 0 (mi ((mN m1 NL 6 9)) y10 3))) y10 4))) y10 2))) y32)))) NL 4 q37)) NL 5 q42)) NL 6 (Int32.ofNat (ml ((mI ((mI ((mI ((mI ((mI ((mI ((mN m1 NL 6 9)) NL 0 (mi ((mN m1 NL 6 9)) y10 3))) NL 1 (mi ((mI ((mN m1 NL 6 9)) NL 0 (mi ((mN m1 NL 6 9)) y10 3))) y10 4))) NL 2 (mi ((mI ((mI ((mN m1 NL 6 9)) NL 0 (mi ((mN m1 NL 6 9)) y10 3))) NL 1 (mi ((mI ((mN m1 NL 6 9)) NL 0 (mi ((mN m1 NL 6 9)) y10 3))) y10 4))) y10 2))) NL 3 (Int32.ofNat (ml ((mI ((mI ((mI ((mN m1 NL 6 9)) NL 0 (mi ((mN m1 NL 6 9)) y10 3))) NL 1 (mi ((mI ((mN m1 NL 6 9)) NL 0 (mi ((mN m1 NL 6 9)) y10 3))) y10 4))) NL 2 (mi ((mI ((mI ((mN m1 NL 6 9)) NL 0 (mi ((mN m1 NL 6 9)) y10 3))) NL 1 (mi ((mI ((mN m1 NL 6 9)) NL 0 (mi ((mN m1 NL 6 9)) y10 3))) y10 4))) y10 2))) y32)))) NL 4 q37)) NL 5 q42)) y47)))) y10 7)))) H := hP
            have hD : va_D A (vW tc ad14 ((NL + 1)) ((mI ((mI ((mI ((mI ((mI ((mI ((mI ((mI ((mN m1 NL 6 9)) NL 0 (mi ((mN m1 NL 6 9)) y10 3))) NL 1 (mi ((mI ((mN m1 NL 6 9)) NL 0 (mi ((mN m1 NL 6 9)) y10 3))) y10 4))) NL 2 (mi ((mI ((mI ((mN m1 NL 6 9)) NL 0 (mi ((mN m1 NL 6 9)) y10 3))) NL 1 (mi ((mI ((mN m1 NL 6 9)) NL 0 (mi ((mN m1 NL 6 9)) y10 3))) y10 4))) y10 2))) NL 3 (Int32.ofNat (ml ((mI ((mI ((mI ((mN m1 NL 6 9)) NL 0 (mi ((mN m1 NL 6 9)) y10 3))) NL 1 (mi ((mI ((mN m1 NL 6 9)) NL 0 (mi ((mN m1 NL 6 9)) y10 3))) y10 4))) NL 2 (mi ((mI ((mI ((mN m1 NL 6 9)) NL 0 (mi ((mN m1 NL 6 9)) y10 3))) NL 1 (mi ((mI ((mN m1 NL 6 9)) NL 0 (mi ((mN m1 NL 6 9)) y10 3))) y10 4))) y10 2))) y32)))) NL 4 q37)) NL 5 q42)) NL 6 (Int32.ofNat (ml ((mI ((mI ((mI ((mI ((mI ((mI ((mN m1 NL 6 9)) NL 0 (mi ((mN m1 NL 6 9)) y10 3))) NL 1 (mi ((mI ((mN m1 NL 6 9)) NL 0 (mi ((mN m1 NL 6 9)) y10 3))) y10 4))) NL 2 (mi ((mI ((mI ((mN m1 NL 6 9)) NL 0 (mi ((mN m1 NL 6 9)) y10 3))) NL 1 (mi ((mI ((mN m1 NL 6 9)) NL 0 (mi ((mN m1 NL 6 9)) y10 3))) y10 4))) y10 2))) NL 3 (Int32.ofNat (ml ((mI ((mI ((mI ((mN m1 NL 6 9)) NL 0 (mi ((mN m1 NL 6 9)) y10 3))) NL 1 (mi ((mI ((mN m1 NL 6 9)) NL 0 (mi ((mN m1 NL 6 9)) y10 3))) y10 4))) NL 2 (mi ((mI ((mI ((mN m1 NL 6 9)) NL 0 (mi ((mN m1 NL 6 9)) y10 3))) NL 1 (mi ((mI ((mN m1 NL 6 9)) NL 0 (mi ((mN m1 NL 6 9)) y10 3))) y10 4))) y10 2))) y32)))) NL 4 q37)) NL 5 q42)) y47)))) NL 7 (mi ((mI ((mI ((mI ((mI ((mI ((mI ((mI ((mN m1 NL 6 9)) NL 0 (mi ((mN m1 NL 6 9)) y10 3))) NL 1 (mi ((mI ((mN m1 NL 6 9)) NL 0 (mi ((mN m1 NL 6 9)) y10 3))) y10 4))) NL 2 (mi ((mI ((mI ((mN m1 NL 6 9)) NL 0 (mi ((mN m1 NL 6 9)) y10 3))) NL 1 (mi ((mI ((mN m1 NL 6 9)) NL 0 (mi ((mN m1 NL 6 9)) y10 3))) y10 4))) y10 2))) NL 3 (Int32.ofNat (ml ((mI ((mI ((mI ((mN m1 NL 6 9)) NL 0 (mi ((mN m1 NL 6 9)) y10 3))) NL 1 (mi ((mI ((mN m1 NL 6 9)) NL 0 (mi ((mN m1 NL 6 9)) y10 3))) y10 4))) NL 2 (mi ((mI ((mI ((mN m1 NL 6 9)) NL 0 (mi ((mN m1 NL 6 9)) y10 3))) NL 1 (mi ((mI ((mN m1 NL 6 9)) NL 0 (mi ((mN m1 NL 6 9)) y10 3))) y10 4))) y10 2))) y32)))) NL 4 q37)) NL 5 q42)) NL 6 (Int32.ofNat (ml ((mI ((mI ((mI ((mI ((mI ((mI ((mN m1 NL 6 9)) NL 0 (mi ((mN m1 NL 6 9)) y10 3))) NL 1 (mi ((mI ((mN m1 NL 6 9)) NL 0 (mi ((mN m1 NL 6 9)) y10 3))) y10 4))) NL 2 (mi ((mI ((mI ((mN m1 NL 6 9)) NL 0 (mi ((mN m1 NL 6 9)) y10 3))) NL 1 (mi ((mI ((mN m1 NL 6 9)) NL 0 (mi ((mN m1 NL 6 9)) y10 3))) y10 4))) y10 2))) NL 3 (Int32.ofNat (ml ((mI ((mI ((mI ((mN m1 NL 6 9)) NL 0 (mi ((mN m1 NL 6 9)) y10 3))) NL 1 (mi ((mI ((mN m1 NL 6 9)) NL 0 (mi ((mN m1 NL 6 9)) y10 3))) y10 4))) NL 2 (mi ((mI ((mI ((mN m1 NL 6 9)) NL 0 (mi ((mN m1 NL 6 9)) y10 3))) NL 1 (mi ((mI ((mN m1 NL 6 9)) NL 0 (mi ((mN m1 NL 6 9)) y10 3))) y10 4))) y10 2))) y32)))) NL 4 q37)) NL 5 q42)) y47)))) y10 7)))) := hD
            refine lv_dup hx hb dX5_isSame_112 rfl ?_
            refine lv_bipush (v := 8) hx hb dX5_isSame_113 (by decide) ?_
            refine lv_aload hx hb dX5_isSame_115 (lv_at hl 0 rfl) ?_
            refine va_get (D := D) (ci := 4) (v := .int (mi ((mI ((mI ((mI ((mI ((mI ((mI ((mI ((mI ((mN m1 NL 6 9)) NL 0 (mi ((mN m1 NL 6 9)) y10 3))) NL 1 (mi ((mI ((mN m1 NL 6 9)) NL 0 (mi ((mN m1 NL 6 9)) y10 3))) y10 4))) NL 2 (mi ((mI ((mI ((mN m1 NL 6 9)) NL 0 (mi ((mN m1 NL 6 9)) y10 3))) NL 1 (mi ((mI ((mN m1 NL 6 9)) NL 0 (mi ((mN m1 NL 6 9)) y10 3))) y10 4))) y10 2))) NL 3 (Int32.ofNat (ml ((mI ((mI ((mI ((mN m1 NL 6 9)) NL 0 (mi ((mN m1 NL 6 9)) y10 3))) NL 1 (mi ((mI ((mN m1 NL 6 9)) NL 0 (mi ((mN m1 NL 6 9)) y10 3))) y10 4))) NL 2 (mi ((mI ((mI ((mN m1 NL 6 9)) NL 0 (mi ((mN m1 NL 6 9)) y10 3))) NL 1 (mi ((mI ((mN m1 NL 6 9)) NL 0 (mi ((mN m1 NL 6 9)) y10 3))) y10 4))) y10 2))) y32)))) NL 4 q37)) NL 5 q42)) NL 6 (Int32.ofNat (ml ((mI ((mI ((mI ((mI ((mI ((mI ((mN m1 NL 6 9)) NL 0 (mi ((mN m1 NL 6 9)) y10 3))) NL 1 (mi ((mI ((mN m1 NL 6 9)) NL 0 (mi ((mN m1 NL 6 9)) y10 3))) y10 4))) NL 2 (mi ((mI ((mI ((mN m1 NL 6 9)) NL 0 (mi ((mN m1 NL 6 9)) y10 3))) NL 1 (mi ((mI ((mN m1 NL 6 9)) NL 0 (mi ((mN m1 NL 6 9)) y10 3))) y10 4))) y10 2))) NL 3 (Int32.ofNat (ml ((mI ((mI ((mI ((mN m1 NL 6 9)) NL 0 (mi ((mN m1 NL 6 9)) y10 3))) NL 1 (mi ((mI ((mN m1 NL 6 9)) NL 0 (mi ((mN m1 NL 6 9)) y10 3))) y10 4))) NL 2 (mi ((mI ((mI ((mN m1 NL 6 9)) NL 0 (mi ((mN m1 NL 6 9)) y10 3))) NL 1 (mi ((mI ((mN m1 NL 6 9)) NL 0 (mi ((mN m1 NL 6 9)) y10 3))) y10 4))) y10 2))) y32)))) NL 4 q37)) NL 5 q42)) y47)))) NL 7 (mi ((mI ((mI ((mI ((mI ((mI ((mI ((mI ((mN m1 NL 6 9)) NL 0 (mi ((mN m1 NL 6 9)) y10 3))) NL 1 (mi ((mI ((mN m1 NL 6 9)) NL 0 (mi ((mN m1 NL 6 9)) y10 3))) y10 4))) NL 2 (mi ((mI ((mI ((mN m1 NL 6 9)) NL 0 (mi ((mN m1 NL 6 9)) y10 3))) NL 1 (mi ((mI ((mN m1 NL 6 9)) NL 0 (mi ((mN m1 NL 6 9)) y10 3))) y10 4))) y10 2))) NL 3 (Int32.ofNat (ml ((mI ((mI ((mI ((mN m1 NL 6 9)) NL 0 (mi ((mN m1 NL 6 9)) y10 3))) NL 1 (mi ((mI ((mN m1 NL 6 9)) NL 0 (mi ((mN m1 NL 6 9)) y10 3))) y10 4))) NL 2 (mi ((mI ((mI ((mN m1 NL 6 9)) NL 0 (mi ((mN m1 NL 6 9)) y10 3))) NL 1 (mi ((mI ((mN m1 NL 6 9)) NL 0 (mi ((mN m1 NL 6 9)) y10 3))) y10 4))) y10 2))) y32)))) NL 4 q37)) NL 5 q42)) NL 6 (Int32.ofNat (ml ((mI ((mI ((mI ((mI ((mI ((mI ((mN m1 NL 6 9)) NL 0 (mi ((mN m1 NL 6 9)) y10 3))) NL 1 (mi ((mI ((mN m1 NL 6 9)) NL 0 (mi ((mN m1 NL 6 9)) y10 3))) y10 4))) NL 2 (mi ((mI ((mI ((mN m1 NL 6 9)) NL 0 (mi ((mN m1 NL 6 9)) y10 3))) NL 1 (mi ((mI ((mN m1 NL 6 9)) NL 0 (mi ((mN m1 NL 6 9)) y10 3))) y10 4))) y10 2))) NL 3 (Int32.ofNat (ml ((mI ((mI ((mI ((mN m1 NL 6 9)) NL 0 (mi ((mN m1 NL 6 9)) y10 3))) NL 1 (mi ((mI ((mN m1 NL 6 9)) NL 0 (mi ((mN m1 NL 6 9)) y10 3))) y10 4))) NL 2 (mi ((mI ((mI ((mN m1 NL 6 9)) NL 0 (mi ((mN m1 NL 6 9)) y10 3))) NL 1 (mi ((mI ((mN m1 NL 6 9)) NL 0 (mi ((mN m1 NL 6 9)) y10 3))) y10 4))) y10 2))) y32)))) NL 4 q37)) NL 5 q42)) y47)))) y10 7))) y10 8)) (C := RX4) (T := TX4) (N := 9) hx hb hts in_X5_isSame_X4 hown hK hP y10 (vW_k4 n23 g24) rfl 8 (by decide) (hts (.fieldLink RX5 67 "VaultDoorsLaw$Door" "barred" "I") (List.mem_of_getElem? (i := 9) rfl)) (fun _ h9 => h9) rfl dX5_isSame_117 ?_
            obtain ⟨g54, h⟩ := vg_if h
            refine va_iast (D := D) hx hb hK hP hD hS NL 0 (vW_k6 (Nat.lt_succ_self _) (mN_k1 (m := m1) (n := 9))) rfl (i := 8) (x := mi ((mI ((mI ((mI ((mI ((mI ((mI ((mI ((mI ((mN m1 NL 6 9)) NL 0 (mi ((mN m1 NL 6 9)) y10 3))) NL 1 (mi ((mI ((mN m1 NL 6 9)) NL 0 (mi ((mN m1 NL 6 9)) y10 3))) y10 4))) NL 2 (mi ((mI ((mI ((mN m1 NL 6 9)) NL 0 (mi ((mN m1 NL 6 9)) y10 3))) NL 1 (mi ((mI ((mN m1 NL 6 9)) NL 0 (mi ((mN m1 NL 6 9)) y10 3))) y10 4))) y10 2))) NL 3 (Int32.ofNat (ml ((mI ((mI ((mI ((mN m1 NL 6 9)) NL 0 (mi ((mN m1 NL 6 9)) y10 3))) NL 1 (mi ((mI ((mN m1 NL 6 9)) NL 0 (mi ((mN m1 NL 6 9)) y10 3))) y10 4))) NL 2 (mi ((mI ((mI ((mN m1 NL 6 9)) NL 0 (mi ((mN m1 NL 6 9)) y10 3))) NL 1 (mi ((mI ((mN m1 NL 6 9)) NL 0 (mi ((mN m1 NL 6 9)) y10 3))) y10 4))) y10 2))) y32)))) NL 4 q37)) NL 5 q42)) NL 6 (Int32.ofNat (ml ((mI ((mI ((mI ((mI ((mI ((mI ((mN m1 NL 6 9)) NL 0 (mi ((mN m1 NL 6 9)) y10 3))) NL 1 (mi ((mI ((mN m1 NL 6 9)) NL 0 (mi ((mN m1 NL 6 9)) y10 3))) y10 4))) NL 2 (mi ((mI ((mI ((mN m1 NL 6 9)) NL 0 (mi ((mN m1 NL 6 9)) y10 3))) NL 1 (mi ((mI ((mN m1 NL 6 9)) NL 0 (mi ((mN m1 NL 6 9)) y10 3))) y10 4))) y10 2))) NL 3 (Int32.ofNat (ml ((mI ((mI ((mI ((mN m1 NL 6 9)) NL 0 (mi ((mN m1 NL 6 9)) y10 3))) NL 1 (mi ((mI ((mN m1 NL 6 9)) NL 0 (mi ((mN m1 NL 6 9)) y10 3))) y10 4))) NL 2 (mi ((mI ((mI ((mN m1 NL 6 9)) NL 0 (mi ((mN m1 NL 6 9)) y10 3))) NL 1 (mi ((mI ((mN m1 NL 6 9)) NL 0 (mi ((mN m1 NL 6 9)) y10 3))) y10 4))) y10 2))) y32)))) NL 4 q37)) NL 5 q42)) y47)))) NL 7 (mi ((mI ((mI ((mI ((mI ((mI ((mI ((mI ((mN m1 NL 6 9)) NL 0 (mi ((mN m1 NL 6 9)) y10 3))) NL 1 (mi ((mI ((mN m1 NL 6 9)) NL 0 (mi ((mN m1 NL 6 9)) y10 3))) y10 4))) NL 2 (mi ((mI ((mI ((mN m1 NL 6 9)) NL 0 (mi ((mN m1 NL 6 9)) y10 3))) NL 1 (mi ((mI ((mN m1 NL 6 9)) NL 0 (mi ((mN m1 NL 6 9)) y10 3))) y10 4))) y10 2))) NL 3 (Int32.ofNat (ml ((mI ((mI ((mI ((mN m1 NL 6 9)) NL 0 (mi ((mN m1 NL 6 9)) y10 3))) NL 1 (mi ((mI ((mN m1 NL 6 9)) NL 0 (mi ((mN m1 NL 6 9)) y10 3))) y10 4))) NL 2 (mi ((mI ((mI ((mN m1 NL 6 9)) NL 0 (mi ((mN m1 NL 6 9)) y10 3))) NL 1 (mi ((mI ((mN m1 NL 6 9)) NL 0 (mi ((mN m1 NL 6 9)) y10 3))) y10 4))) y10 2))) y32)))) NL 4 q37)) NL 5 q42)) NL 6 (Int32.ofNat (ml ((mI ((mI ((mI ((mI ((mI ((mI ((mN m1 NL 6 9)) NL 0 (mi ((mN m1 NL 6 9)) y10 3))) NL 1 (mi ((mI ((mN m1 NL 6 9)) NL 0 (mi ((mN m1 NL 6 9)) y10 3))) y10 4))) NL 2 (mi ((mI ((mI ((mN m1 NL 6 9)) NL 0 (mi ((mN m1 NL 6 9)) y10 3))) NL 1 (mi ((mI ((mN m1 NL 6 9)) NL 0 (mi ((mN m1 NL 6 9)) y10 3))) y10 4))) y10 2))) NL 3 (Int32.ofNat (ml ((mI ((mI ((mI ((mN m1 NL 6 9)) NL 0 (mi ((mN m1 NL 6 9)) y10 3))) NL 1 (mi ((mI ((mN m1 NL 6 9)) NL 0 (mi ((mN m1 NL 6 9)) y10 3))) y10 4))) NL 2 (mi ((mI ((mI ((mN m1 NL 6 9)) NL 0 (mi ((mN m1 NL 6 9)) y10 3))) NL 1 (mi ((mI ((mN m1 NL 6 9)) NL 0 (mi ((mN m1 NL 6 9)) y10 3))) y10 4))) y10 2))) y32)))) NL 4 q37)) NL 5 q42)) y47)))) y10 7))) y10 8) g54 dX5_isSame_120 (fun H locs hP hD hS => ?_)
            rw [vW_p6 (m := ((mI ((mI ((mI ((mI ((mI ((mI ((mI ((mI ((mN m1 NL 6 9)) NL 0 (mi ((mN m1 NL 6 9)) y10 3))) NL 1 (mi ((mI ((mN m1 NL 6 9)) NL 0 (mi ((mN m1 NL 6 9)) y10 3))) y10 4))) NL 2 (mi ((mI ((mI ((mN m1 NL 6 9)) NL 0 (mi ((mN m1 NL 6 9)) y10 3))) NL 1 (mi ((mI ((mN m1 NL 6 9)) NL 0 (mi ((mN m1 NL 6 9)) y10 3))) y10 4))) y10 2))) NL 3 (Int32.ofNat (ml ((mI ((mI ((mI ((mN m1 NL 6 9)) NL 0 (mi ((mN m1 NL 6 9)) y10 3))) NL 1 (mi ((mI ((mN m1 NL 6 9)) NL 0 (mi ((mN m1 NL 6 9)) y10 3))) y10 4))) NL 2 (mi ((mI ((mI ((mN m1 NL 6 9)) NL 0 (mi ((mN m1 NL 6 9)) y10 3))) NL 1 (mi ((mI ((mN m1 NL 6 9)) NL 0 (mi ((mN m1 NL 6 9)) y10 3))) y10 4))) y10 2))) y32)))) NL 4 q37)) NL 5 q42)) NL 6 (Int32.ofNat (ml ((mI ((mI ((mI ((mI ((mI ((mI ((mN m1 NL 6 9)) NL 0 (mi ((mN m1 NL 6 9)) y10 3))) NL 1 (mi ((mI ((mN m1 NL 6 9)) NL 0 (mi ((mN m1 NL 6 9)) y10 3))) y10 4))) NL 2 (mi ((mI ((mI ((mN m1 NL 6 9)) NL 0 (mi ((mN m1 NL 6 9)) y10 3))) NL 1 (mi ((mI ((mN m1 NL 6 9)) NL 0 (mi ((mN m1 NL 6 9)) y10 3))) y10 4))) y10 2))) NL 3 (Int32.ofNat (ml ((mI ((mI ((mI ((mN m1 NL 6 9)) NL 0 (mi ((mN m1 NL 6 9)) y10 3))) NL 1 (mi ((mI ((mN m1 NL 6 9)) NL 0 (mi ((mN m1 NL 6 9)) y10 3))) y10 4))) NL 2 (mi ((mI ((mI ((mN m1 NL 6 9)) NL 0 (mi ((mN m1 NL 6 9)) y10 3))) NL 1 (mi ((mI ((mN m1 NL 6 9)) NL 0 (mi ((mN m1 NL 6 9)) y10 3))) y10 4))) y10 2))) y32)))) NL 4 q37)) NL 5 q42)) y47)))) NL 7 (mi ((mI ((mI ((mI ((mI ((mI ((mI ((mI ((mN m1 NL 6 9)) NL 0 (mi ((mN m1 NL 6 9)) y10 3))) NL 1 (mi ((mI ((mN m1 NL 6 9)) NL 0 (mi ((mN m1 NL 6 9)) y10 3))) y10 4))) NL 2 (mi ((mI ((mI ((mN m1 NL 6 9)) NL 0 (mi ((mN m1 NL 6 9)) y10 3))) NL 1 (mi ((mI ((mN m1 NL 6 9)) NL 0 (mi ((mN m1 NL 6 9)) y10 3))) y10 4))) y10 2))) NL 3 (Int32.ofNat (ml ((mI ((mI ((mI ((mN m1 NL 6 9)) NL 0 (mi ((mN m1 NL 6 9)) y10 3))) NL 1 (mi ((mI ((mN m1 NL 6 9)) NL 0 (mi ((mN m1 NL 6 9)) y10 3))) y10 4))) NL 2 (mi ((mI ((mI ((mN m1 NL 6 9)) NL 0 (mi ((mN m1 NL 6 9)) y10 3))) NL 1 (mi ((mI ((mN m1 NL 6 9)) NL 0 (mi ((mN m1 NL 6 9)) y10 3))) y10 4))) y10 2))) y32)))) NL 4 q37)) NL 5 q42)) NL 6 (Int32.ofNat (ml ((mI ((mI ((mI ((mI ((mI ((mI ((mN m1 NL 6 9)) NL 0 (mi ((mN m1 NL 6 9)) y10 3))) NL 1 (mi ((mI ((mN m1 NL 6 9)) NL 0 (mi ((mN m1 NL 6 9)) y10 3))) y10 4))) NL 2 (mi ((mI ((mI ((mN m1 NL 6 9)) NL 0 (mi ((mN m1 NL 6 9)) y10 3))) NL 1 (mi ((mI ((mN m1 NL 6 9)) NL 0 (mi ((mN m1 NL 6 9)) y10 3))) y10 4))) y10 2))) NL 3 (Int32.ofNat (ml ((mI ((mI ((mI ((mN m1 NL 6 9)) NL 0 (mi ((mN m1 NL 6 9)) y10 3))) NL 1 (mi ((mI ((mN m1 NL 6 9)) NL 0 (mi ((mN m1 NL 6 9)) y10 3))) y10 4))) NL 2 (mi ((mI ((mI ((mN m1 NL 6 9)) NL 0 (mi ((mN m1 NL 6 9)) y10 3))) NL 1 (mi ((mI ((mN m1 NL 6 9)) NL 0 (mi ((mN m1 NL 6 9)) y10 3))) y10 4))) y10 2))) y32)))) NL 4 q37)) NL 5 q42)) y47)))) y10 7)))) (Nat.lt_succ_self _) (mN_k1 (m := m1) (n := 9))] at hP hD
            have hO55 := vOK.I (a := NL) (j := 8) (v := (mi ((mI ((mI ((mI ((mI ((mI ((mI ((mI ((mI ((mN m1 NL 6 9)) NL 0 (mi ((mN m1 NL 6 9)) y10 3))) NL 1 (mi ((mI ((mN m1 NL 6 9)) NL 0 (mi ((mN m1 NL 6 9)) y10 3))) y10 4))) NL 2 (mi ((mI ((mI ((mN m1 NL 6 9)) NL 0 (mi ((mN m1 NL 6 9)) y10 3))) NL 1 (mi ((mI ((mN m1 NL 6 9)) NL 0 (mi ((mN m1 NL 6 9)) y10 3))) y10 4))) y10 2))) NL 3 (Int32.ofNat (ml ((mI ((mI ((mI ((mN m1 NL 6 9)) NL 0 (mi ((mN m1 NL 6 9)) y10 3))) NL 1 (mi ((mI ((mN m1 NL 6 9)) NL 0 (mi ((mN m1 NL 6 9)) y10 3))) y10 4))) NL 2 (mi ((mI ((mI ((mN m1 NL 6 9)) NL 0 (mi ((mN m1 NL 6 9)) y10 3))) NL 1 (mi ((mI ((mN m1 NL 6 9)) NL 0 (mi ((mN m1 NL 6 9)) y10 3))) y10 4))) y10 2))) y32)))) NL 4 q37)) NL 5 q42)) NL 6 (Int32.ofNat (ml ((mI ((mI ((mI ((mI ((mI ((mI ((mN m1 NL 6 9)) NL 0 (mi ((mN m1 NL 6 9)) y10 3))) NL 1 (mi ((mI ((mN m1 NL 6 9)) NL 0 (mi ((mN m1 NL 6 9)) y10 3))) y10 4))) NL 2 (mi ((mI ((mI ((mN m1 NL 6 9)) NL 0 (mi ((mN m1 NL 6 9)) y10 3))) NL 1 (mi ((mI ((mN m1 NL 6 9)) NL 0 (mi ((mN m1 NL 6 9)) y10 3))) y10 4))) y10 2))) NL 3 (Int32.ofNat (ml ((mI ((mI ((mI ((mN m1 NL 6 9)) NL 0 (mi ((mN m1 NL 6 9)) y10 3))) NL 1 (mi ((mI ((mN m1 NL 6 9)) NL 0 (mi ((mN m1 NL 6 9)) y10 3))) y10 4))) NL 2 (mi ((mI ((mI ((mN m1 NL 6 9)) NL 0 (mi ((mN m1 NL 6 9)) y10 3))) NL 1 (mi ((mI ((mN m1 NL 6 9)) NL 0 (mi ((mN m1 NL 6 9)) y10 3))) y10 4))) y10 2))) y32)))) NL 4 q37)) NL 5 q42)) y47)))) NL 7 (mi ((mI ((mI ((mI ((mI ((mI ((mI ((mI ((mN m1 NL 6 9)) NL 0 (mi ((mN m1 NL 6 9)) y10 3))) NL 1 (mi ((mI ((mN m1 NL 6 9)) NL 0 (mi ((mN m1 NL 6 9)) y10 3))) y10 4))) NL 2 (mi ((mI ((mI ((mN m1 NL 6 9)) NL 0 (mi ((mN m1 NL 6 9)) y10 3))) NL 1 (mi ((mI ((mN m1 NL 6 9)) NL 0 (mi ((mN m1 NL 6 9)) y10 3))) y10 4))) y10 2))) NL 3 (Int32.ofNat (ml ((mI ((mI ((mI ((mN m1 NL 6 9)) NL 0 (mi ((mN m1 NL 6 9)) y10 3))) NL 1 (mi ((mI ((mN m1 NL 6 9)) NL 0 (mi ((mN m1 NL 6 9)) y10 3))) y10 4))) NL 2 (mi ((mI ((mI ((mN m1 NL 6 9)) NL 0 (mi ((mN m1 NL 6 9)) y10 3))) NL 1 (mi ((mI ((mN m1 NL 6 9)) NL 0 (mi ((mN m1 NL 6 9)) y10 3))) y10 4))) y10 2))) y32)))) NL 4 q37)) NL 5 q42)) NL 6 (Int32.ofNat (ml ((mI ((mI ((mI ((mI ((mI ((mI ((mN m1 NL 6 9)) NL 0 (mi ((mN m1 NL 6 9)) y10 3))) NL 1 (mi ((mI ((mN m1 NL 6 9)) NL 0 (mi ((mN m1 NL 6 9)) y10 3))) y10 4))) NL 2 (mi ((mI ((mI ((mN m1 NL 6 9)) NL 0 (mi ((mN m1 NL 6 9)) y10 3))) NL 1 (mi ((mI ((mN m1 NL 6 9)) NL 0 (mi ((mN m1 NL 6 9)) y10 3))) y10 4))) y10 2))) NL 3 (Int32.ofNat (ml ((mI ((mI ((mI ((mN m1 NL 6 9)) NL 0 (mi ((mN m1 NL 6 9)) y10 3))) NL 1 (mi ((mI ((mN m1 NL 6 9)) NL 0 (mi ((mN m1 NL 6 9)) y10 3))) y10 4))) NL 2 (mi ((mI ((mI ((mN m1 NL 6 9)) NL 0 (mi ((mN m1 NL 6 9)) y10 3))) NL 1 (mi ((mI ((mN m1 NL 6 9)) NL 0 (mi ((mN m1 NL 6 9)) y10 3))) y10 4))) y10 2))) y32)))) NL 4 q37)) NL 5 q42)) y47)))) y10 7))) y10 8)) hO53
            have hP : va_P D vwCl (vW tc ad14 ((NL + 1)) ((mI ((mI ((mI ((mI ((mI ((mI ((mI ((mI ((mI ((mN m1 NL 6 9)) NL 0 (mi ((mN m1 NL 6 9)) y10 3))) NL 1 (mi ((mI ((mN m1 NL 6 9)) NL 0 (mi ((mN m1 NL 6 9)) y10 3))) y10 4))) NL 2 (mi ((mI ((mI ((mN m1 NL 6 9)) NL 0 (mi ((mN m1 NL 6 9)) y10 3))) NL 1 (mi ((mI ((mN m1 NL 6 9)) NL 0 (mi ((mN m1 NL 6 9)) y10 3))) y10 4))) y10 2))) NL 3 (Int32.ofNat (ml ((mI ((mI ((mI ((mN m1 NL 6 9)) NL 0 (mi ((mN m1 NL 6 9)) y10 3))) NL 1 (mi ((mI ((mN m1 NL 6 9)) NL 0 (mi ((mN m1 NL 6 9)) y10 3))) y10 4))) NL 2 (mi ((mI ((mI ((mN m1 NL 6 9)) NL 0 (mi ((mN m1 NL 6 9)) y10 3))) NL 1 (mi ((mI ((mN m1 NL 6 9)) NL 0 (mi ((mN m1 NL 6 9)) y10 3))) y10 4))) y10 2))) y32)))) NL 4 q37)) NL 5 q42)) NL 6 (Int32.ofNat (ml ((mI ((mI ((mI ((mI ((mI ((mI ((mN m1 NL 6 9)) NL 0 (mi ((mN m1 NL 6 9)) y10 3))) NL 1 (mi ((mI ((mN m1 NL 6 9)) NL 0 (mi ((mN m1 NL 6 9)) y10 3))) y10 4))) NL 2 (mi ((mI ((mI ((mN m1 NL 6 9)) NL 0 (mi ((mN m1 NL 6 9)) y10 3))) NL 1 (mi ((mI ((mN m1 NL 6 9)) NL 0 (mi ((mN m1 NL 6 9)) y10 3))) y10 4))) y10 2))) NL 3 (Int32.ofNat (ml ((mI ((mI ((mI ((mN m1 NL 6 9)) NL 0 (mi ((mN m1 NL 6 9)) y10 3))) NL 1 (mi ((mI ((mN m1 NL 6 9)) NL 0 (mi ((mN m1 NL 6 9)) y10 3))) y10 4))) NL 2 (mi ((mI ((mI ((mN m1 NL 6 9)) NL 0 (mi ((mN m1 NL 6 9)) y10 3))) NL 1 (mi ((mI ((mN m1 NL 6 9)) NL 0 (mi ((mN m1 NL 6 9)) y10 3))) y10 4))) y10 2))) y32)))) NL 4 q37)) NL 5 q42)) y47)))) NL 7 (mi ((mI ((mI ((mI ((mI ((mI ((mI ((mI ((mN m1 NL 6 9)) NL 0 (mi ((mN m1 NL 6 9)) y10 3))) NL 1 (mi ((mI ((mN m1 NL 6 9)) NL 0 (mi ((mN m1 NL 6 9)) y10 3))) y10 4))) NL 2 (mi ((mI ((mI ((mN m1 NL 6 9)) NL 0 (mi ((mN m1 NL 6 9)) y10 3))) NL 1 (mi ((mI ((mN m1 NL 6 9)) NL 0 (mi ((mN m1 NL 6 9)) y10 3))) y10 4))) y10 2))) NL 3 (Int32.ofNat (ml ((mI ((mI ((mI ((mN m1 NL 6 9)) NL 0 (mi ((mN m1 NL 6 9)) y10 3))) NL 1 (mi ((mI ((mN m1 NL 6 9)) NL 0 (mi ((mN m1 NL 6 9)) y10 3))) y10 4))) NL 2 (mi ((mI ((mI ((mN m1 NL 6 9)) NL 0 (mi ((mN m1 NL 6 9)) y10 3))) NL 1 (mi ((mI ((mN m1 NL 6 9)) NL 0 (mi ((mN m1 NL 6 9)) y10 3))) y10 4))) y10 2))) y32)))) NL 4 q37)) NL 5 q42)) NL 6 (Int32.ofNat (ml ((mI ((mI ((mI ((mI ((mI ((mI ((mN m1 NL 6 9)) NL 0 (mi ((mN m1 NL 6 9)) y10 3))) NL 1 (mi ((mI ((mN m1 NL 6 9)) NL 0 (mi ((mN m1 NL 6 9)) y10 3))) y10 4))) NL 2 (mi ((mI ((mI ((mN m1 NL 6 9)) NL 0 (mi ((mN m1 NL 6 9)) y10 3))) NL 1 (mi ((mI ((mN m1 NL 6 9)) NL 0 (mi ((mN m1 NL 6 9)) y10 3))) y10 4))) y10 2))) NL 3 (Int32.ofNat (ml ((mI ((mI ((mI ((mN m1 NL 6 9)) NL 0 (mi ((mN m1 NL 6 9)) y10 3))) NL 1 (mi ((mI ((mN m1 NL 6 9)) NL 0 (mi ((mN m1 NL 6 9)) y10 3))) y10 4))) NL 2 (mi ((mI ((mI ((mN m1 NL 6 9)) NL 0 (mi ((mN m1 NL 6 9)) y10 3))) NL 1 (mi ((mI ((mN m1 NL 6 9)) NL 0 (mi ((mN m1 NL 6 9)) y10 3))) y10 4))) y10 2))) y32)))) NL 4 q37)) NL 5 q42)) y47)))) y10 7))) NL 8 (mi ((mI ((mI ((mI ((mI ((mI ((mI ((mI ((mI ((mN m1 NL 6 9)) NL 0 (mi ((mN m1 NL 6 9)) y10 3))) NL 1 (mi ((mI ((mN m1 NL 6 9)) NL 0 (mi ((mN m1 NL 6 9)) y10 3))) y10 4))) NL 2 (mi ((mI ((mI ((mN m1 NL 6 9)) NL 0 (mi ((mN m1 NL 6 9)) y10 3))) NL 1 (mi ((mI ((mN m1 NL 6 9)) NL 0 (mi ((mN m1 NL 6 9)) y10 3))) y10 4))) y10 2))) NL 3 (Int32.ofNat (ml ((mI ((mI ((mI ((mN m1 NL 6 9)) NL 0 (mi ((mN m1 NL 6 9)) y10 3))) NL 1 (mi ((mI ((mN m1 NL 6 9)) NL 0 (mi ((mN m1 NL 6 9)) y10 3))) y10 4))) NL 2 (mi ((mI ((mI ((mN m1 NL 6 9)) NL 0 (mi ((mN m1 NL 6 9)) y10 3))) NL 1 (mi ((mI ((mN m1 NL 6 9)) NL 0 (mi ((mN m1 NL 6 9)) y10 3))) y10 4))) y10 2))) y32)))) NL 4 q37)) NL 5 q42)) NL 6 (Int32.ofNat (ml ((mI ((mI ((mI ((mI ((mI ((mI ((mN m1 NL 6 9)) NL 0 (mi ((mN m1 NL 6 9)) y10 3))) NL 1 (mi ((mI ((mN m1 NL 6 9)) NL 0 (mi ((mN m1 NL 6 9)) y10 3))) y10 4))) NL 2 (mi ((mI ((mI ((mN m1 NL 6 9)) NL 0 (mi ((mN m1 NL 6 9)) y10 3))) NL 1 (mi ((mI ((mN m1 NL 6 9)) NL 0 (mi ((mN m1 NL 6 9)) y10 3))) y10 4))) y10 2))) NL 3 (Int32.ofNat (ml ((mI ((mI ((mI ((mN m1 NL 6 9)) NL 0 (mi ((mN m1 NL 6 9)) y10 3))) NL 1 (mi ((mI ((mN m1 NL 6 9)) NL 0 (mi ((mN m1 NL 6 9)) y10 3))) y10 4))) NL 2 (mi ((mI ((mI ((mN m1 NL 6 9)) NL 0 (mi ((mN m1 NL 6 9)) y10 3))) NL 1 (mi ((mI ((mN m1 NL 6 9)) NL 0 (mi ((mN m1 NL 6 9)) y10 3))) y10 4))) y10 2))) y32)))) NL 4 q37)) NL 5 q42)) y47)))) NL 7 (mi ((mI ((mI ((mI ((mI ((mI ((mI ((mI ((mN m1 NL 6 9)) NL 0 (mi ((mN m1 NL 6 9)) y10 3))) NL 1 (mi ((mI ((mN m1 NL 6 9)) NL 0 (mi ((mN m1 NL 6 9)) y10 3))) y10 4))) NL 2 (mi ((mI ((mI ((mN m1 NL 6 9)) NL 0 (mi ((mN m1 NL 6 9)) y10 3))) NL 1 (mi ((mI ((mN m1 NL 6 9)) NL 0 (mi ((mN m1 NL 6 9)) y10 3))) y10 4))) y10 2))) NL 3 (Int32.ofNat (ml ((mI ((mI ((mI ((mN m1 NL 6 9)) NL 0 (mi ((mN m1 NL 6 9)) y10 3))) NL 1 (mi ((mI ((mN m1 NL 6 9)) NL 0 (mi ((mN m1 NL 6 9)) y10 3))) y10 4))) NL 2 (mi ((mI ((mI ((mN m1 NL 6 9)) NL 0 (mi ((mN m1 NL 6 9)) y10 3))) NL 1 (mi ((mI ((mN m1 NL 6 9)) NL 0 (mi ((mN m1 NL 6 9)) y10 3))) y10 4))) y10 2))) y32)))) NL 4 q37)) NL 5 q42)) NL 6 (Int32.ofNat (ml ((mI ((mI ((mI ((mI ((mI ((mI ((mN m1 NL 6 9)) NL 0 (mi ((mN m1 NL 6 9)) y10 3))) NL 1 (mi ((mI ((mN m1 NL 6 9)) NL 0 (mi ((mN m1 NL 6 9)) y10 3))) y10 4))) NL 2 (mi ((mI ((mI ((mN m1 NL 6 9)) NL 0 (mi ((mN m1 NL 6 9)) y10 3))) NL 1 (mi ((mI ((mN m1 NL 6 9)) NL 0 (mi ((mN m1 NL 6 9)) y10 3))) y10 4))) y10 2))) NL 3 (Int32.ofNat (ml ((mI ((mI ((mI ((mN m1 NL 6 9)) NL 0 (mi ((mN m1 NL 6 9)) y10 3))) NL 1 (mi ((mI ((mN m1 NL 6 9)) NL 0 (mi ((mN m1 NL 6 9)) y10 3))) y10 4))) NL 2 (mi ((mI ((mI ((mN m1 NL 6 9)) NL 0 (mi ((mN m1 NL 6 9)) y10 3))) NL 1 (mi ((mI ((mN m1 NL 6 9)) NL 0 (mi ((mN m1 NL 6 9)) y10 3))) y10 4))) y10 2))) y32)))) NL 4 q37)) NL 5 q42)) y47)))) y10 7))) y10 8)))) H := hP
            have hD : va_D A (vW tc ad14 ((NL + 1)) ((mI ((mI ((mI ((mI ((mI ((mI ((mI ((mI ((mI ((mN m1 NL 6 9)) NL 0 (mi ((mN m1 NL 6 9)) y10 3))) NL 1 (mi ((mI ((mN m1 NL 6 9)) NL 0 (mi ((mN m1 NL 6 9)) y10 3))) y10 4))) NL 2 (mi ((mI ((mI ((mN m1 NL 6 9)) NL 0 (mi ((mN m1 NL 6 9)) y10 3))) NL 1 (mi ((mI ((mN m1 NL 6 9)) NL 0 (mi ((mN m1 NL 6 9)) y10 3))) y10 4))) y10 2))) NL 3 (Int32.ofNat (ml ((mI ((mI ((mI ((mN m1 NL 6 9)) NL 0 (mi ((mN m1 NL 6 9)) y10 3))) NL 1 (mi ((mI ((mN m1 NL 6 9)) NL 0 (mi ((mN m1 NL 6 9)) y10 3))) y10 4))) NL 2 (mi ((mI ((mI ((mN m1 NL 6 9)) NL 0 (mi ((mN m1 NL 6 9)) y10 3))) NL 1 (mi ((mI ((mN m1 NL 6 9)) NL 0 (mi ((mN m1 NL 6 9)) y10 3))) y10 4))) y10 2))) y32)))) NL 4 q37)) NL 5 q42)) NL 6 (Int32.ofNat (ml ((mI ((mI ((mI ((mI ((mI ((mI ((mN m1 NL 6 9)) NL 0 (mi ((mN m1 NL 6 9)) y10 3))) NL 1 (mi ((mI ((mN m1 NL 6 9)) NL 0 (mi ((mN m1 NL 6 9)) y10 3))) y10 4))) NL 2 (mi ((mI ((mI ((mN m1 NL 6 9)) NL 0 (mi ((mN m1 NL 6 9)) y10 3))) NL 1 (mi ((mI ((mN m1 NL 6 9)) NL 0 (mi ((mN m1 NL 6 9)) y10 3))) y10 4))) y10 2))) NL 3 (Int32.ofNat (ml ((mI ((mI ((mI ((mN m1 NL 6 9)) NL 0 (mi ((mN m1 NL 6 9)) y10 3))) NL 1 (mi ((mI ((mN m1 NL 6 9)) NL 0 (mi ((mN m1 NL 6 9)) y10 3))) y10 4))) NL 2 (mi ((mI ((mI ((mN m1 NL 6 9)) NL 0 (mi ((mN m1 NL 6 9)) y10 3))) NL 1 (mi ((mI ((mN m1 NL 6 9)) NL 0 (mi ((mN m1 NL 6 9)) y10 3))) y10 4))) y10 2))) y32)))) NL 4 q37)) NL 5 q42)) y47)))) NL 7 (mi ((mI ((mI ((mI ((mI ((mI ((mI ((mI ((mN m1 NL 6 9)) NL 0 (mi ((mN m1 NL 6 9)) y10 3))) NL 1 (mi ((mI ((mN m1 NL 6 9)) NL 0 (mi ((mN m1 NL 6 9)) y10 3))) y10 4))) NL 2 (mi ((mI ((mI ((mN m1 NL 6 9)) NL 0 (mi ((mN m1 NL 6 9)) y10 3))) NL 1 (mi ((mI ((mN m1 NL 6 9)) NL 0 (mi ((mN m1 NL 6 9)) y10 3))) y10 4))) y10 2))) NL 3 (Int32.ofNat (ml ((mI ((mI ((mI ((mN m1 NL 6 9)) NL 0 (mi ((mN m1 NL 6 9)) y10 3))) NL 1 (mi ((mI ((mN m1 NL 6 9)) NL 0 (mi ((mN m1 NL 6 9)) y10 3))) y10 4))) NL 2 (mi ((mI ((mI ((mN m1 NL 6 9)) NL 0 (mi ((mN m1 NL 6 9)) y10 3))) NL 1 (mi ((mI ((mN m1 NL 6 9)) NL 0 (mi ((mN m1 NL 6 9)) y10 3))) y10 4))) y10 2))) y32)))) NL 4 q37)) NL 5 q42)) NL 6 (Int32.ofNat (ml ((mI ((mI ((mI ((mI ((mI ((mI ((mN m1 NL 6 9)) NL 0 (mi ((mN m1 NL 6 9)) y10 3))) NL 1 (mi ((mI ((mN m1 NL 6 9)) NL 0 (mi ((mN m1 NL 6 9)) y10 3))) y10 4))) NL 2 (mi ((mI ((mI ((mN m1 NL 6 9)) NL 0 (mi ((mN m1 NL 6 9)) y10 3))) NL 1 (mi ((mI ((mN m1 NL 6 9)) NL 0 (mi ((mN m1 NL 6 9)) y10 3))) y10 4))) y10 2))) NL 3 (Int32.ofNat (ml ((mI ((mI ((mI ((mN m1 NL 6 9)) NL 0 (mi ((mN m1 NL 6 9)) y10 3))) NL 1 (mi ((mI ((mN m1 NL 6 9)) NL 0 (mi ((mN m1 NL 6 9)) y10 3))) y10 4))) NL 2 (mi ((mI ((mI ((mN m1 NL 6 9)) NL 0 (mi ((mN m1 NL 6 9)) y10 3))) NL 1 (mi ((mI ((mN m1 NL 6 9)) NL 0 (mi ((mN m1 NL 6 9)) y10 3))) y10 4))) y10 2))) y32)))) NL 4 q37)) NL 5 q42)) y47)))) y10 7))) NL 8 (mi ((mI ((mI ((mI ((mI ((mI ((mI ((mI ((mI ((mN m1 NL 6 9)) NL 0 (mi ((mN m1 NL 6 9)) y10 3))) NL 1 (mi ((mI ((mN m1 NL 6 9)) NL 0 (mi ((mN m1 NL 6 9)) y10 3))) y10 4))) NL 2 (mi ((mI ((mI ((mN m1 NL 6 9)) NL 0 (mi ((mN m1 NL 6 9)) y10 3))) NL 1 (mi ((mI ((mN m1 NL 6 9)) NL 0 (mi ((mN m1 NL 6 9)) y10 3))) y10 4))) y10 2))) NL 3 (Int32.ofNat (ml ((mI ((mI ((mI ((mN m1 NL 6 9)) NL 0 (mi ((mN m1 NL 6 9)) y10 3))) NL 1 (mi ((mI ((mN m1 NL 6 9)) NL 0 (mi ((mN m1 NL 6 9)) y10 3))) y10 4))) NL 2 (mi ((mI ((mI ((mN m1 NL 6 9)) NL 0 (mi ((mN m1 NL 6 9)) y10 3))) NL 1 (mi ((mI ((mN m1 NL 6 9)) NL 0 (mi ((mN m1 NL 6 9)) y10 3))) y10 4))) y10 2))) y32)))) NL 4 q37)) NL 5 q42)) NL 6 (Int32.ofNat (ml ((mI ((mI ((mI ((mI ((mI ((mI ((mN m1 NL 6 9)) NL 0 (mi ((mN m1 NL 6 9)) y10 3))) NL 1 (mi ((mI ((mN m1 NL 6 9)) NL 0 (mi ((mN m1 NL 6 9)) y10 3))) y10 4))) NL 2 (mi ((mI ((mI ((mN m1 NL 6 9)) NL 0 (mi ((mN m1 NL 6 9)) y10 3))) NL 1 (mi ((mI ((mN m1 NL 6 9)) NL 0 (mi ((mN m1 NL 6 9)) y10 3))) y10 4))) y10 2))) NL 3 (Int32.ofNat (ml ((mI ((mI ((mI ((mN m1 NL 6 9)) NL 0 (mi ((mN m1 NL 6 9)) y10 3))) NL 1 (mi ((mI ((mN m1 NL 6 9)) NL 0 (mi ((mN m1 NL 6 9)) y10 3))) y10 4))) NL 2 (mi ((mI ((mI ((mN m1 NL 6 9)) NL 0 (mi ((mN m1 NL 6 9)) y10 3))) NL 1 (mi ((mI ((mN m1 NL 6 9)) NL 0 (mi ((mN m1 NL 6 9)) y10 3))) y10 4))) y10 2))) y32)))) NL 4 q37)) NL 5 q42)) y47)))) NL 7 (mi ((mI ((mI ((mI ((mI ((mI ((mI ((mI ((mN m1 NL 6 9)) NL 0 (mi ((mN m1 NL 6 9)) y10 3))) NL 1 (mi ((mI ((mN m1 NL 6 9)) NL 0 (mi ((mN m1 NL 6 9)) y10 3))) y10 4))) NL 2 (mi ((mI ((mI ((mN m1 NL 6 9)) NL 0 (mi ((mN m1 NL 6 9)) y10 3))) NL 1 (mi ((mI ((mN m1 NL 6 9)) NL 0 (mi ((mN m1 NL 6 9)) y10 3))) y10 4))) y10 2))) NL 3 (Int32.ofNat (ml ((mI ((mI ((mI ((mN m1 NL 6 9)) NL 0 (mi ((mN m1 NL 6 9)) y10 3))) NL 1 (mi ((mI ((mN m1 NL 6 9)) NL 0 (mi ((mN m1 NL 6 9)) y10 3))) y10 4))) NL 2 (mi ((mI ((mI ((mN m1 NL 6 9)) NL 0 (mi ((mN m1 NL 6 9)) y10 3))) NL 1 (mi ((mI ((mN m1 NL 6 9)) NL 0 (mi ((mN m1 NL 6 9)) y10 3))) y10 4))) y10 2))) y32)))) NL 4 q37)) NL 5 q42)) NL 6 (Int32.ofNat (ml ((mI ((mI ((mI ((mI ((mI ((mI ((mN m1 NL 6 9)) NL 0 (mi ((mN m1 NL 6 9)) y10 3))) NL 1 (mi ((mI ((mN m1 NL 6 9)) NL 0 (mi ((mN m1 NL 6 9)) y10 3))) y10 4))) NL 2 (mi ((mI ((mI ((mN m1 NL 6 9)) NL 0 (mi ((mN m1 NL 6 9)) y10 3))) NL 1 (mi ((mI ((mN m1 NL 6 9)) NL 0 (mi ((mN m1 NL 6 9)) y10 3))) y10 4))) y10 2))) NL 3 (Int32.ofNat (ml ((mI ((mI ((mI ((mN m1 NL 6 9)) NL 0 (mi ((mN m1 NL 6 9)) y10 3))) NL 1 (mi ((mI ((mN m1 NL 6 9)) NL 0 (mi ((mN m1 NL 6 9)) y10 3))) y10 4))) NL 2 (mi ((mI ((mI ((mN m1 NL 6 9)) NL 0 (mi ((mN m1 NL 6 9)) y10 3))) NL 1 (mi ((mI ((mN m1 NL 6 9)) NL 0 (mi ((mN m1 NL 6 9)) y10 3))) y10 4))) y10 2))) y32)))) NL 4 q37)) NL 5 q42)) y47)))) y10 7))) y10 8)))) := hD
            refine lv_astore (lv' := [(6, .ref (ad14 NL)), (5, .ref (ad14 y10)), (0, .ref (ad14 r0)), (1, .ref (ad14 r1)), (2, .int i2), (3, .int i3), (4, .int i4)]) hx hb dX5_isSame_121 hl (by decide) rfl (fun ls hl => ?_)
            refine lv_iconst (v := 0) hx hb dX5_isSame_123 (by decide) ?_
            refine lv_istore (lv' := [(7, .int 0), (6, .ref (ad14 NL)), (5, .ref (ad14 y10)), (0, .ref (ad14 r0)), (1, .ref (ad14 r1)), (2, .int i2), (3, .int i3), (4, .int i4)]) hx hb dX5_isSame_124 hl (by decide) rfl (fun ls hl => ?_)
            exact (ih.2.1) ((NL + 1)) ad14 ((mI ((mI ((mI ((mI ((mI ((mI ((mI ((mI ((mI ((mN m1 NL 6 9)) NL 0 (mi ((mN m1 NL 6 9)) y10 3))) NL 1 (mi ((mI ((mN m1 NL 6 9)) NL 0 (mi ((mN m1 NL 6 9)) y10 3))) y10 4))) NL 2 (mi ((mI ((mI ((mN m1 NL 6 9)) NL 0 (mi ((mN m1 NL 6 9)) y10 3))) NL 1 (mi ((mI ((mN m1 NL 6 9)) NL 0 (mi ((mN m1 NL 6 9)) y10 3))) y10 4))) y10 2))) NL 3 (Int32.ofNat (ml ((mI ((mI ((mI ((mN m1 NL 6 9)) NL 0 (mi ((mN m1 NL 6 9)) y10 3))) NL 1 (mi ((mI ((mN m1 NL 6 9)) NL 0 (mi ((mN m1 NL 6 9)) y10 3))) y10 4))) NL 2 (mi ((mI ((mI ((mN m1 NL 6 9)) NL 0 (mi ((mN m1 NL 6 9)) y10 3))) NL 1 (mi ((mI ((mN m1 NL 6 9)) NL 0 (mi ((mN m1 NL 6 9)) y10 3))) y10 4))) y10 2))) y32)))) NL 4 q37)) NL 5 q42)) NL 6 (Int32.ofNat (ml ((mI ((mI ((mI ((mI ((mI ((mI ((mN m1 NL 6 9)) NL 0 (mi ((mN m1 NL 6 9)) y10 3))) NL 1 (mi ((mI ((mN m1 NL 6 9)) NL 0 (mi ((mN m1 NL 6 9)) y10 3))) y10 4))) NL 2 (mi ((mI ((mI ((mN m1 NL 6 9)) NL 0 (mi ((mN m1 NL 6 9)) y10 3))) NL 1 (mi ((mI ((mN m1 NL 6 9)) NL 0 (mi ((mN m1 NL 6 9)) y10 3))) y10 4))) y10 2))) NL 3 (Int32.ofNat (ml ((mI ((mI ((mI ((mN m1 NL 6 9)) NL 0 (mi ((mN m1 NL 6 9)) y10 3))) NL 1 (mi ((mI ((mN m1 NL 6 9)) NL 0 (mi ((mN m1 NL 6 9)) y10 3))) y10 4))) NL 2 (mi ((mI ((mI ((mN m1 NL 6 9)) NL 0 (mi ((mN m1 NL 6 9)) y10 3))) NL 1 (mi ((mI ((mN m1 NL 6 9)) NL 0 (mi ((mN m1 NL 6 9)) y10 3))) y10 4))) y10 2))) y32)))) NL 4 q37)) NL 5 q42)) y47)))) NL 7 (mi ((mI ((mI ((mI ((mI ((mI ((mI ((mI ((mN m1 NL 6 9)) NL 0 (mi ((mN m1 NL 6 9)) y10 3))) NL 1 (mi ((mI ((mN m1 NL 6 9)) NL 0 (mi ((mN m1 NL 6 9)) y10 3))) y10 4))) NL 2 (mi ((mI ((mI ((mN m1 NL 6 9)) NL 0 (mi ((mN m1 NL 6 9)) y10 3))) NL 1 (mi ((mI ((mN m1 NL 6 9)) NL 0 (mi ((mN m1 NL 6 9)) y10 3))) y10 4))) y10 2))) NL 3 (Int32.ofNat (ml ((mI ((mI ((mI ((mN m1 NL 6 9)) NL 0 (mi ((mN m1 NL 6 9)) y10 3))) NL 1 (mi ((mI ((mN m1 NL 6 9)) NL 0 (mi ((mN m1 NL 6 9)) y10 3))) y10 4))) NL 2 (mi ((mI ((mI ((mN m1 NL 6 9)) NL 0 (mi ((mN m1 NL 6 9)) y10 3))) NL 1 (mi ((mI ((mN m1 NL 6 9)) NL 0 (mi ((mN m1 NL 6 9)) y10 3))) y10 4))) y10 2))) y32)))) NL 4 q37)) NL 5 q42)) NL 6 (Int32.ofNat (ml ((mI ((mI ((mI ((mI ((mI ((mI ((mN m1 NL 6 9)) NL 0 (mi ((mN m1 NL 6 9)) y10 3))) NL 1 (mi ((mI ((mN m1 NL 6 9)) NL 0 (mi ((mN m1 NL 6 9)) y10 3))) y10 4))) NL 2 (mi ((mI ((mI ((mN m1 NL 6 9)) NL 0 (mi ((mN m1 NL 6 9)) y10 3))) NL 1 (mi ((mI ((mN m1 NL 6 9)) NL 0 (mi ((mN m1 NL 6 9)) y10 3))) y10 4))) y10 2))) NL 3 (Int32.ofNat (ml ((mI ((mI ((mI ((mN m1 NL 6 9)) NL 0 (mi ((mN m1 NL 6 9)) y10 3))) NL 1 (mi ((mI ((mN m1 NL 6 9)) NL 0 (mi ((mN m1 NL 6 9)) y10 3))) y10 4))) NL 2 (mi ((mI ((mI ((mN m1 NL 6 9)) NL 0 (mi ((mN m1 NL 6 9)) y10 3))) NL 1 (mi ((mI ((mN m1 NL 6 9)) NL 0 (mi ((mN m1 NL 6 9)) y10 3))) y10 4))) y10 2))) y32)))) NL 4 q37)) NL 5 q42)) y47)))) y10 7))) NL 8 (mi ((mI ((mI ((mI ((mI ((mI ((mI ((mI ((mI ((mN m1 NL 6 9)) NL 0 (mi ((mN m1 NL 6 9)) y10 3))) NL 1 (mi ((mI ((mN m1 NL 6 9)) NL 0 (mi ((mN m1 NL 6 9)) y10 3))) y10 4))) NL 2 (mi ((mI ((mI ((mN m1 NL 6 9)) NL 0 (mi ((mN m1 NL 6 9)) y10 3))) NL 1 (mi ((mI ((mN m1 NL 6 9)) NL 0 (mi ((mN m1 NL 6 9)) y10 3))) y10 4))) y10 2))) NL 3 (Int32.ofNat (ml ((mI ((mI ((mI ((mN m1 NL 6 9)) NL 0 (mi ((mN m1 NL 6 9)) y10 3))) NL 1 (mi ((mI ((mN m1 NL 6 9)) NL 0 (mi ((mN m1 NL 6 9)) y10 3))) y10 4))) NL 2 (mi ((mI ((mI ((mN m1 NL 6 9)) NL 0 (mi ((mN m1 NL 6 9)) y10 3))) NL 1 (mi ((mI ((mN m1 NL 6 9)) NL 0 (mi ((mN m1 NL 6 9)) y10 3))) y10 4))) y10 2))) y32)))) NL 4 q37)) NL 5 q42)) NL 6 (Int32.ofNat (ml ((mI ((mI ((mI ((mI ((mI ((mI ((mN m1 NL 6 9)) NL 0 (mi ((mN m1 NL 6 9)) y10 3))) NL 1 (mi ((mI ((mN m1 NL 6 9)) NL 0 (mi ((mN m1 NL 6 9)) y10 3))) y10 4))) NL 2 (mi ((mI ((mI ((mN m1 NL 6 9)) NL 0 (mi ((mN m1 NL 6 9)) y10 3))) NL 1 (mi ((mI ((mN m1 NL 6 9)) NL 0 (mi ((mN m1 NL 6 9)) y10 3))) y10 4))) y10 2))) NL 3 (Int32.ofNat (ml ((mI ((mI ((mI ((mN m1 NL 6 9)) NL 0 (mi ((mN m1 NL 6 9)) y10 3))) NL 1 (mi ((mI ((mN m1 NL 6 9)) NL 0 (mi ((mN m1 NL 6 9)) y10 3))) y10 4))) NL 2 (mi ((mI ((mI ((mN m1 NL 6 9)) NL 0 (mi ((mN m1 NL 6 9)) y10 3))) NL 1 (mi ((mI ((mN m1 NL 6 9)) NL 0 (mi ((mN m1 NL 6 9)) y10 3))) y10 4))) y10 2))) y32)))) NL 4 q37)) NL 5 q42)) y47)))) NL 7 (mi ((mI ((mI ((mI ((mI ((mI ((mI ((mI ((mN m1 NL 6 9)) NL 0 (mi ((mN m1 NL 6 9)) y10 3))) NL 1 (mi ((mI ((mN m1 NL 6 9)) NL 0 (mi ((mN m1 NL 6 9)) y10 3))) y10 4))) NL 2 (mi ((mI ((mI ((mN m1 NL 6 9)) NL 0 (mi ((mN m1 NL 6 9)) y10 3))) NL 1 (mi ((mI ((mN m1 NL 6 9)) NL 0 (mi ((mN m1 NL 6 9)) y10 3))) y10 4))) y10 2))) NL 3 (Int32.ofNat (ml ((mI ((mI ((mI ((mN m1 NL 6 9)) NL 0 (mi ((mN m1 NL 6 9)) y10 3))) NL 1 (mi ((mI ((mN m1 NL 6 9)) NL 0 (mi ((mN m1 NL 6 9)) y10 3))) y10 4))) NL 2 (mi ((mI ((mI ((mN m1 NL 6 9)) NL 0 (mi ((mN m1 NL 6 9)) y10 3))) NL 1 (mi ((mI ((mN m1 NL 6 9)) NL 0 (mi ((mN m1 NL 6 9)) y10 3))) y10 4))) y10 2))) y32)))) NL 4 q37)) NL 5 q42)) NL 6 (Int32.ofNat (ml ((mI ((mI ((mI ((mI ((mI ((mI ((mN m1 NL 6 9)) NL 0 (mi ((mN m1 NL 6 9)) y10 3))) NL 1 (mi ((mI ((mN m1 NL 6 9)) NL 0 (mi ((mN m1 NL 6 9)) y10 3))) y10 4))) NL 2 (mi ((mI ((mI ((mN m1 NL 6 9)) NL 0 (mi ((mN m1 NL 6 9)) y10 3))) NL 1 (mi ((mI ((mN m1 NL 6 9)) NL 0 (mi ((mN m1 NL 6 9)) y10 3))) y10 4))) y10 2))) NL 3 (Int32.ofNat (ml ((mI ((mI ((mI ((mN m1 NL 6 9)) NL 0 (mi ((mN m1 NL 6 9)) y10 3))) NL 1 (mi ((mI ((mN m1 NL 6 9)) NL 0 (mi ((mN m1 NL 6 9)) y10 3))) y10 4))) NL 2 (mi ((mI ((mI ((mN m1 NL 6 9)) NL 0 (mi ((mN m1 NL 6 9)) y10 3))) NL 1 (mi ((mI ((mN m1 NL 6 9)) NL 0 (mi ((mN m1 NL 6 9)) y10 3))) y10 4))) y10 2))) y32)))) NL 4 q37)) NL 5 q42)) y47)))) y10 7))) y10 8))) ((kc + 1)) ((ks + 9)) r0 r1 i2 i3 i4 y10 NL (0 : Int32) _ _ _ e17 e16 g12 g13 hO55 n19 n20 n23 (Nat.lt_succ_self _) h hP hD hS (lv_sub hl (l' := [(0, .ref (ad14 r0)), (1, .ref (ad14 r1)), (2, .int i2), (3, .int i3), (4, .int i4), (5, .ref (ad14 y10)), (6, .ref (ad14 NL)), (7, .int 0)]) [3, 4, 5, 6, 7, 2, 1, 0] rfl)
          · rw [if_pos c27] at h
            refine lv_iconst (v := 0) hx hb dX5_isSame_48 (by decide) ?_
            refine lv_goto (tgt := 57) hx hb dX5_isSame_49 (by decide) ?_
            obtain ⟨g56, h⟩ := vg_if h
            refine va_iast (D := D) hx hb hK hP hD hS NL 0 (vW_k6 (Nat.lt_succ_self _) (mN_k1 (m := m1) (n := 9))) rfl (i := 1) (x := 0) g56 dX5_isSame_57 (fun H locs hP hD hS => ?_)
            rw [vW_p6 (m := ((mI ((mN m1 NL 6 9)) NL 0 (mi ((mN m1 NL 6 9)) y10 3)))) (Nat.lt_succ_self _) (mN_k1 (m := m1) (n := 9))] at hP hD
            have hO57 := vOK.I (a := NL) (j := 1) (v := 0) hO26
            have hP : va_P D vwCl (vW tc ad14 ((NL + 1)) ((mI ((mI ((mN m1 NL 6 9)) NL 0 (mi ((mN m1 NL 6 9)) y10 3))) NL 1 0))) H := hP
            have hD : va_D A (vW tc ad14 ((NL + 1)) ((mI ((mI ((mN m1 NL 6 9)) NL 0 (mi ((mN m1 NL 6 9)) y10 3))) NL 1 0))) := hD
            refine lv_dup hx hb dX5_isSame_58 rfl ?_
            refine lv_iconst (v := 2) hx hb dX5_isSame_59 (by decide) ?_
            refine lv_aload hx hb dX5_isSame_60 (lv_at hl 0 rfl) ?_
            refine va_get (D := D) (ci := 4) (v := .int (mi ((mI ((mI ((mN m1 NL 6 9)) NL 0 (mi ((mN m1 NL 6 9)) y10 3))) NL 1 0)) y10 2)) (C := RX4) (T := TX4) (N := 9) hx hb hts in_X5_isSame_X4 hown hK hP y10 (vW_k4 n23 g24) rfl 2 (by decide) (hts (.fieldLink RX5 38 "VaultDoorsLaw$Door" "rule" "I") (List.mem_of_getElem? (i := 5) rfl)) (fun _ h9 => h9) rfl dX5_isSame_62 ?_
            obtain ⟨g58, h⟩ := vg_if h
            refine va_iast (D := D) hx hb hK hP hD hS NL 0 (vW_k6 (Nat.lt_succ_self _) (mN_k1 (m := m1) (n := 9))) rfl (i := 2) (x := mi ((mI ((mI ((mN m1 NL 6 9)) NL 0 (mi ((mN m1 NL 6 9)) y10 3))) NL 1 0)) y10 2) g58 dX5_isSame_65 (fun H locs hP hD hS => ?_)
            rw [vW_p6 (m := ((mI ((mI ((mN m1 NL 6 9)) NL 0 (mi ((mN m1 NL 6 9)) y10 3))) NL 1 0))) (Nat.lt_succ_self _) (mN_k1 (m := m1) (n := 9))] at hP hD
            have hO59 := vOK.I (a := NL) (j := 2) (v := (mi ((mI ((mI ((mN m1 NL 6 9)) NL 0 (mi ((mN m1 NL 6 9)) y10 3))) NL 1 0)) y10 2)) hO57
            have hP : va_P D vwCl (vW tc ad14 ((NL + 1)) ((mI ((mI ((mI ((mN m1 NL 6 9)) NL 0 (mi ((mN m1 NL 6 9)) y10 3))) NL 1 0)) NL 2 (mi ((mI ((mI ((mN m1 NL 6 9)) NL 0 (mi ((mN m1 NL 6 9)) y10 3))) NL 1 0)) y10 2)))) H := hP
            have hD : va_D A (vW tc ad14 ((NL + 1)) ((mI ((mI ((mI ((mN m1 NL 6 9)) NL 0 (mi ((mN m1 NL 6 9)) y10 3))) NL 1 0)) NL 2 (mi ((mI ((mI ((mN m1 NL 6 9)) NL 0 (mi ((mN m1 NL 6 9)) y10 3))) NL 1 0)) y10 2)))) := hD
            refine lv_dup hx hb dX5_isSame_66 rfl ?_
            refine lv_iconst (v := 3) hx hb dX5_isSame_67 (by decide) ?_
            refine lv_aload hx hb dX5_isSame_68 (lv_at hl 0 rfl) ?_
            obtain ⟨y60, g61, h⟩ := vg_bind h
            have n_y60 := hO59 _ _ _ g61
            refine va_get (D := D) (ci := 4) (v := .ref (ad14 y60)) (C := RX4) (T := TX4) (N := 9) hx hb hts in_X5_isSame_X4 hown hK hP y10 (vW_k4 n23 g24) rfl 5 (by decide) (hts (.fieldLink RX5 57 "VaultDoorsLaw$Door" "asks" "[[I") (List.mem_of_getElem? (i := 6) rfl)) (fun _ h9 => h9) (by show some (va_rf (Option.map ad14 (mr ((mI ((mI ((mI ((mN m1 NL 6 9)) NL 0 (mi ((mN m1 NL 6 9)) y10 3))) NL 1 0)) NL 2 (mi ((mI ((mI ((mN m1 NL 6 9)) NL 0 (mi ((mN m1 NL 6 9)) y10 3))) NL 1 0)) y10 2))) y10 5))) = _; rw [g61]; rfl) dX5_isSame_70 ?_
            obtain ⟨g62, h⟩ := vg_if h
            refine va_alen (D := D) hx hb hK hP y60 2 (vW_k8 n_y60 g62) rfl rfl dX5_isSame_73 ?_
            obtain ⟨g63, h⟩ := vg_if h
            refine va_iast (D := D) hx hb hK hP hD hS NL 0 (vW_k6 (Nat.lt_succ_self _) (mN_k1 (m := m1) (n := 9))) rfl (i := 3) (x := Int32.ofNat (ml ((mI ((mI ((mI ((mN m1 NL 6 9)) NL 0 (mi ((mN m1 NL 6 9)) y10 3))) NL 1 0)) NL 2 (mi ((mI ((mI ((mN m1 NL 6 9)) NL 0 (mi ((mN m1 NL 6 9)) y10 3))) NL 1 0)) y10 2))) y60)) g63 dX5_isSame_74 (fun H locs hP hD hS => ?_)
            rw [vW_p6 (m := ((mI ((mI ((mI ((mN m1 NL 6 9)) NL 0 (mi ((mN m1 NL 6 9)) y10 3))) NL 1 0)) NL 2 (mi ((mI ((mI ((mN m1 NL 6 9)) NL 0 (mi ((mN m1 NL 6 9)) y10 3))) NL 1 0)) y10 2)))) (Nat.lt_succ_self _) (mN_k1 (m := m1) (n := 9))] at hP hD
            have hO64 := vOK.I (a := NL) (j := 3) (v := (Int32.ofNat (ml ((mI ((mI ((mI ((mN m1 NL 6 9)) NL 0 (mi ((mN m1 NL 6 9)) y10 3))) NL 1 0)) NL 2 (mi ((mI ((mI ((mN m1 NL 6 9)) NL 0 (mi ((mN m1 NL 6 9)) y10 3))) NL 1 0)) y10 2))) y60))) hO59
            have hP : va_P D vwCl (vW tc ad14 ((NL + 1)) ((mI ((mI ((mI ((mI ((mN m1 NL 6 9)) NL 0 (mi ((mN m1 NL 6 9)) y10 3))) NL 1 0)) NL 2 (mi ((mI ((mI ((mN m1 NL 6 9)) NL 0 (mi ((mN m1 NL 6 9)) y10 3))) NL 1 0)) y10 2))) NL 3 (Int32.ofNat (ml ((mI ((mI ((mI ((mN m1 NL 6 9)) NL 0 (mi ((mN m1 NL 6 9)) y10 3))) NL 1 0)) NL 2 (mi ((mI ((mI ((mN m1 NL 6 9)) NL 0 (mi ((mN m1 NL 6 9)) y10 3))) NL 1 0)) y10 2))) y60))))) H := hP
            have hD : va_D A (vW tc ad14 ((NL + 1)) ((mI ((mI ((mI ((mI ((mN m1 NL 6 9)) NL 0 (mi ((mN m1 NL 6 9)) y10 3))) NL 1 0)) NL 2 (mi ((mI ((mI ((mN m1 NL 6 9)) NL 0 (mi ((mN m1 NL 6 9)) y10 3))) NL 1 0)) y10 2))) NL 3 (Int32.ofNat (ml ((mI ((mI ((mI ((mN m1 NL 6 9)) NL 0 (mi ((mN m1 NL 6 9)) y10 3))) NL 1 0)) NL 2 (mi ((mI ((mI ((mN m1 NL 6 9)) NL 0 (mi ((mN m1 NL 6 9)) y10 3))) NL 1 0)) y10 2))) y60))))) := hD
            refine lv_dup hx hb dX5_isSame_75 rfl ?_
            refine lv_iconst (v := 4) hx hb dX5_isSame_76 (by decide) ?_
            refine lv_aload hx hb dX5_isSame_77 (lv_at hl 0 rfl) ?_
            refine lv_iconst (v := (-1)) hx hb dX5_isSame_79 (by decide) ?_
            obtain ⟨q65, g66, h⟩ := vg_bind h
            refine va_calli (va_runV (As := [.int ((-1))]) (rest := [.int 4, .ref (ad14 NL), .ref (ad14 NL)]) ⟨hx, hb, hml, hown, hts⟩ (cm_X4_answers (m0 := (mI ((mI ((mI ((mI ((mN m1 NL 6 9)) NL 0 (mi ((mN m1 NL 6 9)) y10 3))) NL 1 0)) NL 2 (mi ((mI ((mI ((mN m1 NL 6 9)) NL 0 (mi ((mN m1 NL 6 9)) y10 3))) NL 1 0)) y10 2))) NL 3 (Int32.ofNat (ml ((mI ((mI ((mI ((mN m1 NL 6 9)) NL 0 (mi ((mN m1 NL 6 9)) y10 3))) NL 1 0)) NL 2 (mi ((mI ((mI ((mN m1 NL 6 9)) NL 0 (mi ((mN m1 NL 6 9)) y10 3))) NL 1 0)) y10 2))) y60)))) l D tc ad14 hO64 n23 g66) (cwV 1 hts gX5_isSame_X4_answers rfl rfl rfl (by decide +kernel) ⟨(Nat.le_of_ble_eq_true rfl), (Nat.le_of_ble_eq_true rfl)⟩) ⟨qR_blind, va_recv hK hP (ci := 4) (q0 := y10) rfl (vW_k4 n23 g24), qR_pre hP hK hZ⟩ rfl rfl hl.1 rfl (lv_room (Nat.le_of_ble_eq_true rfl)) dX5_isSame_80 ⟨g12, g13⟩) hS (fun q9 _ h9 => h9.elim) (fun q9 h9 => h9.elim) (fun w67 u t H1 locs ht hvm hw hB hz1 hk1 hS => ?_)
            have hP := hP.kept (fun k9 q9 hk9 => hk1 q9.1 (hP k9 q9 hk9).lt (fun h9 => h9))
            generalize H1 = H at hP hS ⊢
            clear hk1 hz1 ht hvm
            have hw : w67 = q65 := hw
            rw [hw]
            obtain ⟨g68, h⟩ := vg_if h
            refine va_iast (D := D) hx hb hK hP hD hS NL 0 (vW_k6 (Nat.lt_succ_self _) (mN_k1 (m := m1) (n := 9))) rfl (i := 4) (x := q65) g68 dX5_isSame_83 (fun H locs hP hD hS => ?_)
            rw [vW_p6 (m := ((mI ((mI ((mI ((mI ((mN m1 NL 6 9)) NL 0 (mi ((mN m1 NL 6 9)) y10 3))) NL 1 0)) NL 2 (mi ((mI ((mI ((mN m1 NL 6 9)) NL 0 (mi ((mN m1 NL 6 9)) y10 3))) NL 1 0)) y10 2))) NL 3 (Int32.ofNat (ml ((mI ((mI ((mI ((mN m1 NL 6 9)) NL 0 (mi ((mN m1 NL 6 9)) y10 3))) NL 1 0)) NL 2 (mi ((mI ((mI ((mN m1 NL 6 9)) NL 0 (mi ((mN m1 NL 6 9)) y10 3))) NL 1 0)) y10 2))) y60))))) (Nat.lt_succ_self _) (mN_k1 (m := m1) (n := 9))] at hP hD
            have hO69 := vOK.I (a := NL) (j := 4) (v := q65) hO64
            have hP : va_P D vwCl (vW tc ad14 ((NL + 1)) ((mI ((mI ((mI ((mI ((mI ((mN m1 NL 6 9)) NL 0 (mi ((mN m1 NL 6 9)) y10 3))) NL 1 0)) NL 2 (mi ((mI ((mI ((mN m1 NL 6 9)) NL 0 (mi ((mN m1 NL 6 9)) y10 3))) NL 1 0)) y10 2))) NL 3 (Int32.ofNat (ml ((mI ((mI ((mI ((mN m1 NL 6 9)) NL 0 (mi ((mN m1 NL 6 9)) y10 3))) NL 1 0)) NL 2 (mi ((mI ((mI ((mN m1 NL 6 9)) NL 0 (mi ((mN m1 NL 6 9)) y10 3))) NL 1 0)) y10 2))) y60)))) NL 4 q65))) H := hP
            have hD : va_D A (vW tc ad14 ((NL + 1)) ((mI ((mI ((mI ((mI ((mI ((mN m1 NL 6 9)) NL 0 (mi ((mN m1 NL 6 9)) y10 3))) NL 1 0)) NL 2 (mi ((mI ((mI ((mN m1 NL 6 9)) NL 0 (mi ((mN m1 NL 6 9)) y10 3))) NL 1 0)) y10 2))) NL 3 (Int32.ofNat (ml ((mI ((mI ((mI ((mN m1 NL 6 9)) NL 0 (mi ((mN m1 NL 6 9)) y10 3))) NL 1 0)) NL 2 (mi ((mI ((mI ((mN m1 NL 6 9)) NL 0 (mi ((mN m1 NL 6 9)) y10 3))) NL 1 0)) y10 2))) y60)))) NL 4 q65))) := hD
            refine lv_dup hx hb dX5_isSame_84 rfl ?_
            refine lv_iconst (v := 5) hx hb dX5_isSame_85 (by decide) ?_
            refine lv_aload hx hb dX5_isSame_86 (lv_at hl 0 rfl) ?_
            refine lv_iconst (v := 1) hx hb dX5_isSame_88 (by decide) ?_
            obtain ⟨q70, g71, h⟩ := vg_bind h
            refine va_calli (va_runV (As := [.int 1]) (rest := [.int 5, .ref (ad14 NL), .ref (ad14 NL)]) ⟨hx, hb, hml, hown, hts⟩ (cm_X4_answers (m0 := (mI ((mI ((mI ((mI ((mI ((mN m1 NL 6 9)) NL 0 (mi ((mN m1 NL 6 9)) y10 3))) NL 1 0)) NL 2 (mi ((mI ((mI ((mN m1 NL 6 9)) NL 0 (mi ((mN m1 NL 6 9)) y10 3))) NL 1 0)) y10 2))) NL 3 (Int32.ofNat (ml ((mI ((mI ((mI ((mN m1 NL 6 9)) NL 0 (mi ((mN m1 NL 6 9)) y10 3))) NL 1 0)) NL 2 (mi ((mI ((mI ((mN m1 NL 6 9)) NL 0 (mi ((mN m1 NL 6 9)) y10 3))) NL 1 0)) y10 2))) y60)))) NL 4 q65)) l D tc ad14 hO69 n23 g71) (cwV 1 hts gX5_isSame_X4_answers rfl rfl rfl (by decide +kernel) ⟨(Nat.le_of_ble_eq_true rfl), (Nat.le_of_ble_eq_true rfl)⟩) ⟨qR_blind, va_recv hK hP (ci := 4) (q0 := y10) rfl (vW_k4 n23 g24), qR_pre hP hK hZ⟩ rfl rfl hl.1 rfl (lv_room (Nat.le_of_ble_eq_true rfl)) dX5_isSame_89 ⟨g12, g13⟩) hS (fun q9 _ h9 => h9.elim) (fun q9 h9 => h9.elim) (fun w72 u t H1 locs ht hvm hw hB hz1 hk1 hS => ?_)
            have hP := hP.kept (fun k9 q9 hk9 => hk1 q9.1 (hP k9 q9 hk9).lt (fun h9 => h9))
            generalize H1 = H at hP hS ⊢
            clear hk1 hz1 ht hvm
            have hw : w72 = q70 := hw
            rw [hw]
            obtain ⟨g73, h⟩ := vg_if h
            refine va_iast (D := D) hx hb hK hP hD hS NL 0 (vW_k6 (Nat.lt_succ_self _) (mN_k1 (m := m1) (n := 9))) rfl (i := 5) (x := q70) g73 dX5_isSame_92 (fun H locs hP hD hS => ?_)
            rw [vW_p6 (m := ((mI ((mI ((mI ((mI ((mI ((mN m1 NL 6 9)) NL 0 (mi ((mN m1 NL 6 9)) y10 3))) NL 1 0)) NL 2 (mi ((mI ((mI ((mN m1 NL 6 9)) NL 0 (mi ((mN m1 NL 6 9)) y10 3))) NL 1 0)) y10 2))) NL 3 (Int32.ofNat (ml ((mI ((mI ((mI ((mN m1 NL 6 9)) NL 0 (mi ((mN m1 NL 6 9)) y10 3))) NL 1 0)) NL 2 (mi ((mI ((mI ((mN m1 NL 6 9)) NL 0 (mi ((mN m1 NL 6 9)) y10 3))) NL 1 0)) y10 2))) y60)))) NL 4 q65))) (Nat.lt_succ_self _) (mN_k1 (m := m1) (n := 9))] at hP hD
            have hO74 := vOK.I (a := NL) (j := 5) (v := q70) hO69
            have hP : va_P D vwCl (vW tc ad14 ((NL + 1)) ((mI ((mI ((mI ((mI ((mI ((mI ((mN m1 NL 6 9)) NL 0 (mi ((mN m1 NL 6 9)) y10 3))) NL 1 0)) NL 2 (mi ((mI ((mI ((mN m1 NL 6 9)) NL 0 (mi ((mN m1 NL 6 9)) y10 3))) NL 1 0)) y10 2))) NL 3 (Int32.ofNat (ml ((mI ((mI ((mI ((mN m1 NL 6 9)) NL 0 (mi ((mN m1 NL 6 9)) y10 3))) NL 1 0)) NL 2 (mi ((mI ((mI ((mN m1 NL 6 9)) NL 0 (mi ((mN m1 NL 6 9)) y10 3))) NL 1 0)) y10 2))) y60)))) NL 4 q65)) NL 5 q70))) H := hP
            have hD : va_D A (vW tc ad14 ((NL + 1)) ((mI ((mI ((mI ((mI ((mI ((mI ((mN m1 NL 6 9)) NL 0 (mi ((mN m1 NL 6 9)) y10 3))) NL 1 0)) NL 2 (mi ((mI ((mI ((mN m1 NL 6 9)) NL 0 (mi ((mN m1 NL 6 9)) y10 3))) NL 1 0)) y10 2))) NL 3 (Int32.ofNat (ml ((mI ((mI ((mI ((mN m1 NL 6 9)) NL 0 (mi ((mN m1 NL 6 9)) y10 3))) NL 1 0)) NL 2 (mi ((mI ((mI ((mN m1 NL 6 9)) NL 0 (mi ((mN m1 NL 6 9)) y10 3))) NL 1 0)) y10 2))) y60)))) NL 4 q65)) NL 5 q70))) := hD
            refine lv_dup hx hb dX5_isSame_93 rfl ?_
            refine lv_bipush (v := 6) hx hb dX5_isSame_94 (by decide) ?_
            refine lv_aload hx hb dX5_isSame_96 (lv_at hl 0 rfl) ?_
            obtain ⟨y75, g76, h⟩ := vg_bind h
            have n_y75 := hO74 _ _ _ g76
            refine va_get (D := D) (ci := 4) (v := .ref (ad14 y75)) (C := RX4) (T := TX4) (N := 9) hx hb hts in_X5_isSame_X4 hown hK hP y10 (vW_k4 n23 g24) rfl 6 (by decide) (hts (.fieldLink RX5 54 "VaultDoorsLaw$Door" "kept" "[[I") (List.mem_of_getElem? (i := 7) rfl)) (fun _ h9 => h9) (by show some (va_rf (Option.map ad14 (mr ((mI ((mI ((mI ((mI ((mI ((mI ((mN m1 NL 6 9)) NL 0 (mi ((mN m1 NL 6 9)) y10 3))) NL 1 0)) NL 2 (mi ((mI ((mI ((mN m1 NL 6 9)) NL 0 (mi ((mN m1 NL 6 9)) y10 3))) NL 1 0)) y10 2))) NL 3 (Int32.ofNat (ml ((mI ((mI ((mI ((mN m1 NL 6 9)) NL 0 (mi ((mN m1 NL 6 9)) y10 3))) NL 1 0)) NL 2 (mi ((mI ((mI ((mN m1 NL 6 9)) NL 0 (mi ((mN m1 NL 6 9)) y10 3))) NL 1 0)) y10 2))) y60)))) NL 4 q65)) NL 5 q70)) y10 6))) = _; rw [g76]; rfl) dX5_isSame_98 ?_
            obtain ⟨g77, h⟩ := vg_if h
            refine va_alen (D := D) hx hb hK hP y75 2 (vW_k8 n_y75 g77) rfl rfl dX5_isSame_101 ?_
            obtain ⟨g78, h⟩ := vg_if h
            refine va_iast (D := D) hx hb hK hP hD hS NL 0 (vW_k6 (Nat.lt_succ_self _) (mN_k1 (m := m1) (n := 9))) rfl (i := 6) (x := Int32.ofNat (ml ((mI ((mI ((mI ((mI ((mI ((mI ((mN m1 NL 6 9)) NL 0 (mi ((mN m1 NL 6 9)) y10 3))) NL 1 0)) NL 2 (mi ((mI ((mI ((mN m1 NL 6 9)) NL 0 (mi ((mN m1 NL 6 9)) y10 3))) NL 1 0)) y10 2))) NL 3 (Int32.ofNat (ml ((mI ((mI ((mI ((mN m1 NL 6 9)) NL 0 (mi ((mN m1 NL 6 9)) y10 3))) NL 1 0)) NL 2 (mi ((mI ((mI ((mN m1 NL 6 9)) NL 0 (mi ((mN m1 NL 6 9)) y10 3))) NL 1 0)) y10 2))) y60)))) NL 4 q65)) NL 5 q70)) y75)) g78 dX5_isSame_102 (fun H locs hP hD hS => ?_)
            rw [vW_p6 (m := ((mI ((mI ((mI ((mI ((mI ((mI ((mN m1 NL 6 9)) NL 0 (mi ((mN m1 NL 6 9)) y10 3))) NL 1 0)) NL 2 (mi ((mI ((mI ((mN m1 NL 6 9)) NL 0 (mi ((mN m1 NL 6 9)) y10 3))) NL 1 0)) y10 2))) NL 3 (Int32.ofNat (ml ((mI ((mI ((mI ((mN m1 NL 6 9)) NL 0 (mi ((mN m1 NL 6 9)) y10 3))) NL 1 0)) NL 2 (mi ((mI ((mI ((mN m1 NL 6 9)) NL 0 (mi ((mN m1 NL 6 9)) y10 3))) NL 1 0)) y10 2))) y60)))) NL 4 q65)) NL 5 q70))) (Nat.lt_succ_self _) (mN_k1 (m := m1) (n := 9))] at hP hD
            have hO79 := vOK.I (a := NL) (j := 6) (v := (Int32.ofNat (ml ((mI ((mI ((mI ((mI ((mI ((mI ((mN m1 NL 6 9)) NL 0 (mi ((mN m1 NL 6 9)) y10 3))) NL 1 0)) NL 2 (mi ((mI ((mI ((mN m1 NL 6 9)) NL 0 (mi ((mN m1 NL 6 9)) y10 3))) NL 1 0)) y10 2))) NL 3 (Int32.ofNat (ml ((mI ((mI ((mI ((mN m1 NL 6 9)) NL 0 (mi ((mN m1 NL 6 9)) y10 3))) NL 1 0)) NL 2 (mi ((mI ((mI ((mN m1 NL 6 9)) NL 0 (mi ((mN m1 NL 6 9)) y10 3))) NL 1 0)) y10 2))) y60)))) NL 4 q65)) NL 5 q70)) y75))) hO74
            have hP : va_P D vwCl (vW tc ad14 ((NL + 1)) ((mI ((mI ((mI ((mI ((mI ((mI ((mI ((mN m1 NL 6 9)) NL 0 (mi ((mN m1 NL 6 9)) y10 3))) NL 1 0)) NL 2 (mi ((mI ((mI ((mN m1 NL 6 9)) NL 0 (mi ((mN m1 NL 6 9)) y10 3))) NL 1 0)) y10 2))) NL 3 (Int32.ofNat (ml ((mI ((mI ((mI ((mN m1 NL 6 9)) NL 0 (mi ((mN m1 NL 6 9)) y10 3))) NL 1 0)) NL 2 (mi ((mI ((mI ((mN m1 NL 6 9)) NL 0 (mi ((mN m1 NL 6 9)) y10 3))) NL 1 0)) y10 2))) y60)))) NL 4 q65)) NL 5 q70)) NL 6 (Int32.ofNat (ml ((mI ((mI ((mI ((mI ((mI ((mI ((mN m1 NL 6 9)) NL 0 (mi ((mN m1 NL 6 9)) y10 3))) NL 1 0)) NL 2 (mi ((mI ((mI ((mN m1 NL 6 9)) NL 0 (mi ((mN m1 NL 6 9)) y10 3))) NL 1 0)) y10 2))) NL 3 (Int32.ofNat (ml ((mI ((mI ((mI ((mN m1 NL 6 9)) NL 0 (mi ((mN m1 NL 6 9)) y10 3))) NL 1 0)) NL 2 (mi ((mI ((mI ((mN m1 NL 6 9)) NL 0 (mi ((mN m1 NL 6 9)) y10 3))) NL 1 0)) y10 2))) y60)))) NL 4 q65)) NL 5 q70)) y75))))) H := hP
            have hD : va_D A (vW tc ad14 ((NL + 1)) ((mI ((mI ((mI ((mI ((mI ((mI ((mI ((mN m1 NL 6 9)) NL 0 (mi ((mN m1 NL 6 9)) y10 3))) NL 1 0)) NL 2 (mi ((mI ((mI ((mN m1 NL 6 9)) NL 0 (mi ((mN m1 NL 6 9)) y10 3))) NL 1 0)) y10 2))) NL 3 (Int32.ofNat (ml ((mI ((mI ((mI ((mN m1 NL 6 9)) NL 0 (mi ((mN m1 NL 6 9)) y10 3))) NL 1 0)) NL 2 (mi ((mI ((mI ((mN m1 NL 6 9)) NL 0 (mi ((mN m1 NL 6 9)) y10 3))) NL 1 0)) y10 2))) y60)))) NL 4 q65)) NL 5 q70)) NL 6 (Int32.ofNat (ml ((mI ((mI ((mI ((mI ((mI ((mI ((mN m1 NL 6 9)) NL 0 (mi ((mN m1 NL 6 9)) y10 3))) NL 1 0)) NL 2 (mi ((mI ((mI ((mN m1 NL 6 9)) NL 0 (mi ((mN m1 NL 6 9)) y10 3))) NL 1 0)) y10 2))) NL 3 (Int32.ofNat (ml ((mI ((mI ((mI ((mN m1 NL 6 9)) NL 0 (mi ((mN m1 NL 6 9)) y10 3))) NL 1 0)) NL 2 (mi ((mI ((mI ((mN m1 NL 6 9)) NL 0 (mi ((mN m1 NL 6 9)) y10 3))) NL 1 0)) y10 2))) y60)))) NL 4 q65)) NL 5 q70)) y75))))) := hD
            refine lv_dup hx hb dX5_isSame_103 rfl ?_
            refine lv_bipush (v := 7) hx hb dX5_isSame_104 (by decide) ?_
            refine lv_aload hx hb dX5_isSame_106 (lv_at hl 0 rfl) ?_
            refine va_get (D := D) (ci := 4) (v := .int (mi ((mI ((mI ((mI ((mI ((mI ((mI ((mI ((mN m1 NL 6 9)) NL 0 (mi ((mN m1 NL 6 9)) y10 3))) NL 1 0)) NL 2 (mi ((mI ((mI ((mN m1 NL 6 9)) NL 0 (mi ((mN m1 NL 6 9)) y10 3))) NL 1 0)) y10 2))) NL 3 (Int32.ofNat (ml ((mI ((mI ((mI ((mN m1 NL 6 9)) NL 0 (mi ((mN m1 NL 6 9)) y10 3))) NL 1 0)) NL 2 (mi ((mI ((mI ((mN m1 NL 6 9)) NL 0 (mi ((mN m1 NL 6 9)) y10 3))) NL 1 0)) y10 2))) y60)))) NL 4 q65)) NL 5 q70)) NL 6 (Int32.ofNat (ml ((mI ((mI ((mI ((mI ((mI ((mI ((mN m1 NL 6 9)) NL 0 (mi ((mN m1 NL 6 9)) y10 3))) NL 1 0)) NL 2 (mi ((mI ((mI ((mN m1 NL 6 9)) NL 0 (mi ((mN m1 NL 6 9)) y10 3))) NL 1 0)) y10 2))) NL 3 (Int32.ofNat (ml ((mI ((mI ((mI ((mN m1 NL 6 9)) NL 0 (mi ((mN m1 NL 6 9)) y10 3))) NL 1 0)) NL 2 (mi ((mI ((mI ((mN m1 NL 6 9)) NL 0 (mi ((mN m1 NL 6 9)) y10 3))) NL 1 0)) y10 2))) y60)))) NL 4 q65)) NL 5 q70)) y75)))) y10 7)) (C := RX4) (T := TX4) (N := 9) hx hb hts in_X5_isSame_X4 hown hK hP y10 (vW_k4 n23 g24) rfl 7 (by decide) (hts (.fieldLink RX5 64 "VaultDoorsLaw$Door" "opened" "I") (List.mem_of_getElem? (i := 8) rfl)) (fun _ h9 => h9) rfl dX5_isSame_108 ?_
            obtain ⟨g80, h⟩ := vg_if h
            refine va_iast (D := D) hx hb hK hP hD hS NL 0 (vW_k6 (Nat.lt_succ_self _) (mN_k1 (m := m1) (n := 9))) rfl (i := 7) (x := mi ((mI ((mI ((mI ((mI ((mI ((mI ((mI ((mN m1 NL 6 9)) NL 0 (mi ((mN m1 NL 6 9)) y10 3))) NL 1 0)) NL 2 (mi ((mI ((mI ((mN m1 NL 6 9)) NL 0 (mi ((mN m1 NL 6 9)) y10 3))) NL 1 0)) y10 2))) NL 3 (Int32.ofNat (ml ((mI ((mI ((mI ((mN m1 NL 6 9)) NL 0 (mi ((mN m1 NL 6 9)) y10 3))) NL 1 0)) NL 2 (mi ((mI ((mI ((mN m1 NL 6 9)) NL 0 (mi ((mN m1 NL 6 9)) y10 3))) NL 1 0)) y10 2))) y60)))) NL 4 q65)) NL 5 q70)) NL 6 (Int32.ofNat (ml ((mI ((mI ((mI ((mI ((mI ((mI ((mN m1 NL 6 9)) NL 0 (mi ((mN m1 NL 6 9)) y10 3))) NL 1 0)) NL 2 (mi ((mI ((mI ((mN m1 NL 6 9)) NL 0 (mi ((mN m1 NL 6 9)) y10 3))) NL 1 0)) y10 2))) NL 3 (Int32.ofNat (ml ((mI ((mI ((mI ((mN m1 NL 6 9)) NL 0 (mi ((mN m1 NL 6 9)) y10 3))) NL 1 0)) NL 2 (mi ((mI ((mI ((mN m1 NL 6 9)) NL 0 (mi ((mN m1 NL 6 9)) y10 3))) NL 1 0)) y10 2))) y60)))) NL 4 q65)) NL 5 q70)) y75)))) y10 7) g80 dX5_isSame_111 (fun H locs hP hD hS => ?_)
            rw [vW_p6 (m := ((mI ((mI ((mI ((mI ((mI ((mI ((mI ((mN m1 NL 6 9)) NL 0 (mi ((mN m1 NL 6 9)) y10 3))) NL 1 0)) NL 2 (mi ((mI ((mI ((mN m1 NL 6 9)) NL 0 (mi ((mN m1 NL 6 9)) y10 3))) NL 1 0)) y10 2))) NL 3 (Int32.ofNat (ml ((mI ((mI ((mI ((mN m1 NL 6 9)) NL 0 (mi ((mN m1 NL 6 9)) y10 3))) NL 1 0)) NL 2 (mi ((mI ((mI ((mN m1 NL 6 9)) NL 0 (mi ((mN m1 NL 6 9)) y10 3))) NL 1 0)) y10 2))) y60)))) NL 4 q65)) NL 5 q70)) NL 6 (Int32.ofNat (ml ((mI ((mI ((mI ((mI ((mI ((mI ((mN m1 NL 6 9)) NL 0 (mi ((mN m1 NL 6 9)) y10 3))) NL 1 0)) NL 2 (mi ((mI ((mI ((mN m1 NL 6 9)) NL 0 (mi ((mN m1 NL 6 9)) y10 3))) NL 1 0)) y10 2))) NL 3 (Int32.ofNat (ml ((mI ((mI ((mI ((mN m1 NL 6 9)) NL 0 (mi ((mN m1 NL 6 9)) y10 3))) NL 1 0)) NL 2 (mi ((mI ((mI ((mN m1 NL 6 9)) NL 0 (mi ((mN m1 NL 6 9)) y10 3))) NL 1 0)) y10 2))) y60)))) NL 4 q65)) NL 5 q70)) y75))))) (Nat.lt_succ_self _) (mN_k1 (m := m1) (n := 9))] at hP hD
            have hO81 := vOK.I (a := NL) (j := 7) (v := (mi ((mI ((mI ((mI ((mI ((mI ((mI ((mI ((mN m1 NL 6 9)) NL 0 (mi ((mN m1 NL 6 9)) y10 3))) NL 1 0)) NL 2 (mi ((mI ((mI ((mN m1 NL 6 9)) NL 0 (mi ((mN m1 NL 6 9)) y10 3))) NL 1 0)) y10 2))) NL 3 (Int32.ofNat (ml ((mI ((mI ((mI ((mN m1 NL 6 9)) NL 0 (mi ((mN m1 NL 6 9)) y10 3))) NL 1 0)) NL 2 (mi ((mI ((mI ((mN m1 NL 6 9)) NL 0 (mi ((mN m1 NL 6 9)) y10 3))) NL 1 0)) y10 2))) y60)))) NL 4 q65)) NL 5 q70)) NL 6 (Int32.ofNat (ml ((mI ((mI ((mI ((mI ((mI ((mI ((mN m1 NL 6 9)) NL 0 (mi ((mN m1 NL 6 9)) y10 3))) NL 1 0)) NL 2 (mi ((mI ((mI ((mN m1 NL 6 9)) NL 0 (mi ((mN m1 NL 6 9)) y10 3))) NL 1 0)) y10 2))) NL 3 (Int32.ofNat (ml ((mI ((mI ((mI ((mN m1 NL 6 9)) NL 0 (mi ((mN m1 NL 6 9)) y10 3))) NL 1 0)) NL 2 (mi ((mI ((mI ((mN m1 NL 6 9)) NL 0 (mi ((mN m1 NL 6 9)) y10 3))) NL 1 0)) y10 2))) y60)))) NL 4 q65)) NL 5 q70)) y75)))) y10 7)) hO79
            have hP : va_P D vwCl (vW tc ad14 ((NL + 1)) ((mI ((mI ((mI ((mI ((mI ((mI ((mI ((mI ((mN m1 NL 6 9)) NL 0 (mi ((mN m1 NL 6 9)) y10 3))) NL 1 0)) NL 2 (mi ((mI ((mI ((mN m1 NL 6 9)) NL 0 (mi ((mN m1 NL 6 9)) y10 3))) NL 1 0)) y10 2))) NL 3 (Int32.ofNat (ml ((mI ((mI ((mI ((mN m1 NL 6 9)) NL 0 (mi ((mN m1 NL 6 9)) y10 3))) NL 1 0)) NL 2 (mi ((mI ((mI ((mN m1 NL 6 9)) NL 0 (mi ((mN m1 NL 6 9)) y10 3))) NL 1 0)) y10 2))) y60)))) NL 4 q65)) NL 5 q70)) NL 6 (Int32.ofNat (ml ((mI ((mI ((mI ((mI ((mI ((mI ((mN m1 NL 6 9)) NL 0 (mi ((mN m1 NL 6 9)) y10 3))) NL 1 0)) NL 2 (mi ((mI ((mI ((mN m1 NL 6 9)) NL 0 (mi ((mN m1 NL 6 9)) y10 3))) NL 1 0)) y10 2))) NL 3 (Int32.ofNat (ml ((mI ((mI ((mI ((mN m1 NL 6 9)) NL 0 (mi ((mN m1 NL 6 9)) y10 3))) NL 1 0)) NL 2 (mi ((mI ((mI ((mN m1 NL 6 9)) NL 0 (mi ((mN m1 NL 6 9)) y10 3))) NL 1 0)) y10 2))) y60)))) NL 4 q65)) NL 5 q70)) y75)))) NL 7 (mi ((mI ((mI ((mI ((mI ((mI ((mI ((mI ((mN m1 NL 6 9)) NL 0 (mi ((mN m1 NL 6 9)) y10 3))) NL 1 0)) NL 2 (mi ((mI ((mI ((mN m1 NL 6 9)) NL 0 (mi ((mN m1 NL 6 9)) y10 3))) NL 1 0)) y10 2))) NL 3 (Int32.ofNat (ml ((mI ((mI ((mI ((mN m1 NL 6 9)) NL 0 (mi ((mN m1 NL 6 9)) y10 3))) NL 1 0)) NL 2 (mi ((mI ((mI ((mN m1 NL 6 9)) NL 0 (mi ((mN m1 NL 6 9)) y10 3))) NL 1 0)) y10 2))) y60)))) NL 4 q65)) NL 5 q70)) NL 6 (Int32.ofNat (ml ((mI ((mI ((mI ((mI ((mI ((mI ((mN m1 NL 6 9)) NL 0 (mi ((mN m1 NL 6 9)) y10 3))) NL 1 0)) NL 2 (mi ((mI ((mI ((mN m1 NL 6 9)) NL 0 (mi ((mN m1 NL 6 9)) y10 3))) NL 1 0)) y10 2))) NL 3 (Int32.ofNat (ml ((mI ((mI ((mI ((mN m1 NL 6 9)) NL 0 (mi ((mN m1 NL 6 9)) y10 3))) NL 1 0)) NL 2 (mi ((mI ((mI ((mN m1 NL 6 9)) NL 0 (mi ((mN m1 NL 6 9)) y10 3))) NL 1 0)) y10 2))) y60)))) NL 4 q65)) NL 5 q70)) y75)))) y10 7)))) H := hP
            have hD : va_D A (vW tc ad14 ((NL + 1)) ((mI ((mI ((mI ((mI ((mI ((mI ((mI ((mI ((mN m1 NL 6 9)) NL 0 (mi ((mN m1 NL 6 9)) y10 3))) NL 1 0)) NL 2 (mi ((mI ((mI ((mN m1 NL 6 9)) NL 0 (mi ((mN m1 NL 6 9)) y10 3))) NL 1 0)) y10 2))) NL 3 (Int32.ofNat (ml ((mI ((mI ((mI ((mN m1 NL 6 9)) NL 0 (mi ((mN m1 NL 6 9)) y10 3))) NL 1 0)) NL 2 (mi ((mI ((mI ((mN m1 NL 6 9)) NL 0 (mi ((mN m1 NL 6 9)) y10 3))) NL 1 0)) y10 2))) y60)))) NL 4 q65)) NL 5 q70)) NL 6 (Int32.ofNat (ml ((mI ((mI ((mI ((mI ((mI ((mI ((mN m1 NL 6 9)) NL 0 (mi ((mN m1 NL 6 9)) y10 3))) NL 1 0)) NL 2 (mi ((mI ((mI ((mN m1 NL 6 9)) NL 0 (mi ((mN m1 NL 6 9)) y10 3))) NL 1 0)) y10 2))) NL 3 (Int32.ofNat (ml ((mI ((mI ((mI ((mN m1 NL 6 9)) NL 0 (mi ((mN m1 NL 6 9)) y10 3))) NL 1 0)) NL 2 (mi ((mI ((mI ((mN m1 NL 6 9)) NL 0 (mi ((mN m1 NL 6 9)) y10 3))) NL 1 0)) y10 2))) y60)))) NL 4 q65)) NL 5 q70)) y75)))) NL 7 (mi ((mI ((mI ((mI ((mI ((mI ((mI ((mI ((mN m1 NL 6 9)) NL 0 (mi ((mN m1 NL 6 9)) y10 3))) NL 1 0)) NL 2 (mi ((mI ((mI ((mN m1 NL 6 9)) NL 0 (mi ((mN m1 NL 6 9)) y10 3))) NL 1 0)) y10 2))) NL 3 (Int32.ofNat (ml ((mI ((mI ((mI ((mN m1 NL 6 9)) NL 0 (mi ((mN m1 NL 6 9)) y10 3))) NL 1 0)) NL 2 (mi ((mI ((mI ((mN m1 NL 6 9)) NL 0 (mi ((mN m1 NL 6 9)) y10 3))) NL 1 0)) y10 2))) y60)))) NL 4 q65)) NL 5 q70)) NL 6 (Int32.ofNat (ml ((mI ((mI ((mI ((mI ((mI ((mI ((mN m1 NL 6 9)) NL 0 (mi ((mN m1 NL 6 9)) y10 3))) NL 1 0)) NL 2 (mi ((mI ((mI ((mN m1 NL 6 9)) NL 0 (mi ((mN m1 NL 6 9)) y10 3))) NL 1 0)) y10 2))) NL 3 (Int32.ofNat (ml ((mI ((mI ((mI ((mN m1 NL 6 9)) NL 0 (mi ((mN m1 NL 6 9)) y10 3))) NL 1 0)) NL 2 (mi ((mI ((mI ((mN m1 NL 6 9)) NL 0 (mi ((mN m1 NL 6 9)) y10 3))) NL 1 0)) y10 2))) y60)))) NL 4 q65)) NL 5 q70)) y75)))) y10 7)))) := hD
            refine lv_dup hx hb dX5_isSame_112 rfl ?_
            refine lv_bipush (v := 8) hx hb dX5_isSame_113 (by decide) ?_
            refine lv_aload hx hb dX5_isSame_115 (lv_at hl 0 rfl) ?_
            refine va_get (D := D) (ci := 4) (v := .int (mi ((mI ((mI ((mI ((mI ((mI ((mI ((mI ((mI ((mN m1 NL 6 9)) NL 0 (mi ((mN m1 NL 6 9)) y10 3))) NL 1 0)) NL 2 (mi ((mI ((mI ((mN m1 NL 6 9)) NL 0 (mi ((mN m1 NL 6 9)) y10 3))) NL 1 0)) y10 2))) NL 3 (Int32.ofNat (ml ((mI ((mI ((mI ((mN m1 NL 6 9)) NL 0 (mi ((mN m1 NL 6 9)) y10 3))) NL 1 0)) NL 2 (mi ((mI ((mI ((mN m1 NL 6 9)) NL 0 (mi ((mN m1 NL 6 9)) y10 3))) NL 1 0)) y10 2))) y60)))) NL 4 q65)) NL 5 q70)) NL 6 (Int32.ofNat (ml ((mI ((mI ((mI ((mI ((mI ((mI ((mN m1 NL 6 9)) NL 0 (mi ((mN m1 NL 6 9)) y10 3))) NL 1 0)) NL 2 (mi ((mI ((mI ((mN m1 NL 6 9)) NL 0 (mi ((mN m1 NL 6 9)) y10 3))) NL 1 0)) y10 2))) NL 3 (Int32.ofNat (ml ((mI ((mI ((mI ((mN m1 NL 6 9)) NL 0 (mi ((mN m1 NL 6 9)) y10 3))) NL 1 0)) NL 2 (mi ((mI ((mI ((mN m1 NL 6 9)) NL 0 (mi ((mN m1 NL 6 9)) y10 3))) NL 1 0)) y10 2))) y60)))) NL 4 q65)) NL 5 q70)) y75)))) NL 7 (mi ((mI ((mI ((mI ((mI ((mI ((mI ((mI ((mN m1 NL 6 9)) NL 0 (mi ((mN m1 NL 6 9)) y10 3))) NL 1 0)) NL 2 (mi ((mI ((mI ((mN m1 NL 6 9)) NL 0 (mi ((mN m1 NL 6 9)) y10 3))) NL 1 0)) y10 2))) NL 3 (Int32.ofNat (ml ((mI ((mI ((mI ((mN m1 NL 6 9)) NL 0 (mi ((mN m1 NL 6 9)) y10 3))) NL 1 0)) NL 2 (mi ((mI ((mI ((mN m1 NL 6 9)) NL 0 (mi ((mN m1 NL 6 9)) y10 3))) NL 1 0)) y10 2))) y60)))) NL 4 q65)) NL 5 q70)) NL 6 (Int32.ofNat (ml ((mI ((mI ((mI ((mI ((mI ((mI ((mN m1 NL 6 9)) NL 0 (mi ((mN m1 NL 6 9)) y10 3))) NL 1 0)) NL 2 (mi ((mI ((mI ((mN m1 NL 6 9)) NL 0 (mi ((mN m1 NL 6 9)) y10 3))) NL 1 0)) y10 2))) NL 3 (Int32.ofNat (ml ((mI ((mI ((mI ((mN m1 NL 6 9)) NL 0 (mi ((mN m1 NL 6 9)) y10 3))) NL 1 0)) NL 2 (mi ((mI ((mI ((mN m1 NL 6 9)) NL 0 (mi ((mN m1 NL 6 9)) y10 3))) NL 1 0)) y10 2))) y60)))) NL 4 q65)) NL 5 q70)) y75)))) y10 7))) y10 8)) (C := RX4) (T := TX4) (N := 9) hx hb hts in_X5_isSame_X4 hown hK hP y10 (vW_k4 n23 g24) rfl 8 (by decide) (hts (.fieldLink RX5 67 "VaultDoorsLaw$Door" "barred" "I") (List.mem_of_getElem? (i := 9) rfl)) (fun _ h9 => h9) rfl dX5_isSame_117 ?_
            obtain ⟨g82, h⟩ := vg_if h
            refine va_iast (D := D) hx hb hK hP hD hS NL 0 (vW_k6 (Nat.lt_succ_self _) (mN_k1 (m := m1) (n := 9))) rfl (i := 8) (x := mi ((mI ((mI ((mI ((mI ((mI ((mI ((mI ((mI ((mN m1 NL 6 9)) NL 0 (mi ((mN m1 NL 6 9)) y10 3))) NL 1 0)) NL 2 (mi ((mI ((mI ((mN m1 NL 6 9)) NL 0 (mi ((mN m1 NL 6 9)) y10 3))) NL 1 0)) y10 2))) NL 3 (Int32.ofNat (ml ((mI ((mI ((mI ((mN m1 NL 6 9)) NL 0 (mi ((mN m1 NL 6 9)) y10 3))) NL 1 0)) NL 2 (mi ((mI ((mI ((mN m1 NL 6 9)) NL 0 (mi ((mN m1 NL 6 9)) y10 3))) NL 1 0)) y10 2))) y60)))) NL 4 q65)) NL 5 q70)) NL 6 (Int32.ofNat (ml ((mI ((mI ((mI ((mI ((mI ((mI ((mN m1 NL 6 9)) NL 0 (mi ((mN m1 NL 6 9)) y10 3))) NL 1 0)) NL 2 (mi ((mI ((mI ((mN m1 NL 6 9)) NL 0 (mi ((mN m1 NL 6 9)) y10 3))) NL 1 0)) y10 2))) NL 3 (Int32.ofNat (ml ((mI ((mI ((mI ((mN m1 NL 6 9)) NL 0 (mi ((mN m1 NL 6 9)) y10 3))) NL 1 0)) NL 2 (mi ((mI ((mI ((mN m1 NL 6 9)) NL 0 (mi ((mN m1 NL 6 9)) y10 3))) NL 1 0)) y10 2))) y60)))) NL 4 q65)) NL 5 q70)) y75)))) NL 7 (mi ((mI ((mI ((mI ((mI ((mI ((mI ((mI ((mN m1 NL 6 9)) NL 0 (mi ((mN m1 NL 6 9)) y10 3))) NL 1 0)) NL 2 (mi ((mI ((mI ((mN m1 NL 6 9)) NL 0 (mi ((mN m1 NL 6 9)) y10 3))) NL 1 0)) y10 2))) NL 3 (Int32.ofNat (ml ((mI ((mI ((mI ((mN m1 NL 6 9)) NL 0 (mi ((mN m1 NL 6 9)) y10 3))) NL 1 0)) NL 2 (mi ((mI ((mI ((mN m1 NL 6 9)) NL 0 (mi ((mN m1 NL 6 9)) y10 3))) NL 1 0)) y10 2))) y60)))) NL 4 q65)) NL 5 q70)) NL 6 (Int32.ofNat (ml ((mI ((mI ((mI ((mI ((mI ((mI ((mN m1 NL 6 9)) NL 0 (mi ((mN m1 NL 6 9)) y10 3))) NL 1 0)) NL 2 (mi ((mI ((mI ((mN m1 NL 6 9)) NL 0 (mi ((mN m1 NL 6 9)) y10 3))) NL 1 0)) y10 2))) NL 3 (Int32.ofNat (ml ((mI ((mI ((mI ((mN m1 NL 6 9)) NL 0 (mi ((mN m1 NL 6 9)) y10 3))) NL 1 0)) NL 2 (mi ((mI ((mI ((mN m1 NL 6 9)) NL 0 (mi ((mN m1 NL 6 9)) y10 3))) NL 1 0)) y10 2))) y60)))) NL 4 q65)) NL 5 q70)) y75)))) y10 7))) y10 8) g82 dX5_isSame_120 (fun H locs hP hD hS => ?_)
            rw [vW_p6 (m := ((mI ((mI ((mI ((mI ((mI ((mI ((mI ((mI ((mN m1 NL 6 9)) NL 0 (mi ((mN m1 NL 6 9)) y10 3))) NL 1 0)) NL 2 (mi ((mI ((mI ((mN m1 NL 6 9)) NL 0 (mi ((mN m1 NL 6 9)) y10 3))) NL 1 0)) y10 2))) NL 3 (Int32.ofNat (ml ((mI ((mI ((mI ((mN m1 NL 6 9)) NL 0 (mi ((mN m1 NL 6 9)) y10 3))) NL 1 0)) NL 2 (mi ((mI ((mI ((mN m1 NL 6 9)) NL 0 (mi ((mN m1 NL 6 9)) y10 3))) NL 1 0)) y10 2))) y60)))) NL 4 q65)) NL 5 q70)) NL 6 (Int32.ofNat (ml ((mI ((mI ((mI ((mI ((mI ((mI ((mN m1 NL 6 9)) NL 0 (mi ((mN m1 NL 6 9)) y10 3))) NL 1 0)) NL 2 (mi ((mI ((mI ((mN m1 NL 6 9)) NL 0 (mi ((mN m1 NL 6 9)) y10 3))) NL 1 0)) y10 2))) NL 3 (Int32.ofNat (ml ((mI ((mI ((mI ((mN m1 NL 6 9)) NL 0 (mi ((mN m1 NL 6 9)) y10 3))) NL 1 0)) NL 2 (mi ((mI ((mI ((mN m1 NL 6 9)) NL 0 (mi ((mN m1 NL 6 9)) y10 3))) NL 1 0)) y10 2))) y60)))) NL 4 q65)) NL 5 q70)) y75)))) NL 7 (mi ((mI ((mI ((mI ((mI ((mI ((mI ((mI ((mN m1 NL 6 9)) NL 0 (mi ((mN m1 NL 6 9)) y10 3))) NL 1 0)) NL 2 (mi ((mI ((mI ((mN m1 NL 6 9)) NL 0 (mi ((mN m1 NL 6 9)) y10 3))) NL 1 0)) y10 2))) NL 3 (Int32.ofNat (ml ((mI ((mI ((mI ((mN m1 NL 6 9)) NL 0 (mi ((mN m1 NL 6 9)) y10 3))) NL 1 0)) NL 2 (mi ((mI ((mI ((mN m1 NL 6 9)) NL 0 (mi ((mN m1 NL 6 9)) y10 3))) NL 1 0)) y10 2))) y60)))) NL 4 q65)) NL 5 q70)) NL 6 (Int32.ofNat (ml ((mI ((mI ((mI ((mI ((mI ((mI ((mN m1 NL 6 9)) NL 0 (mi ((mN m1 NL 6 9)) y10 3))) NL 1 0)) NL 2 (mi ((mI ((mI ((mN m1 NL 6 9)) NL 0 (mi ((mN m1 NL 6 9)) y10 3))) NL 1 0)) y10 2))) NL 3 (Int32.ofNat (ml ((mI ((mI ((mI ((mN m1 NL 6 9)) NL 0 (mi ((mN m1 NL 6 9)) y10 3))) NL 1 0)) NL 2 (mi ((mI ((mI ((mN m1 NL 6 9)) NL 0 (mi ((mN m1 NL 6 9)) y10 3))) NL 1 0)) y10 2))) y60)))) NL 4 q65)) NL 5 q70)) y75)))) y10 7)))) (Nat.lt_succ_self _) (mN_k1 (m := m1) (n := 9))] at hP hD
            have hO83 := vOK.I (a := NL) (j := 8) (v := (mi ((mI ((mI ((mI ((mI ((mI ((mI ((mI ((mI ((mN m1 NL 6 9)) NL 0 (mi ((mN m1 NL 6 9)) y10 3))) NL 1 0)) NL 2 (mi ((mI ((mI ((mN m1 NL 6 9)) NL 0 (mi ((mN m1 NL 6 9)) y10 3))) NL 1 0)) y10 2))) NL 3 (Int32.ofNat (ml ((mI ((mI ((mI ((mN m1 NL 6 9)) NL 0 (mi ((mN m1 NL 6 9)) y10 3))) NL 1 0)) NL 2 (mi ((mI ((mI ((mN m1 NL 6 9)) NL 0 (mi ((mN m1 NL 6 9)) y10 3))) NL 1 0)) y10 2))) y60)))) NL 4 q65)) NL 5 q70)) NL 6 (Int32.ofNat (ml ((mI ((mI ((mI ((mI ((mI ((mI ((mN m1 NL 6 9)) NL 0 (mi ((mN m1 NL 6 9)) y10 3))) NL 1 0)) NL 2 (mi ((mI ((mI ((mN m1 NL 6 9)) NL 0 (mi ((mN m1 NL 6 9)) y10 3))) NL 1 0)) y10 2))) NL 3 (Int32.ofNat (ml ((mI ((mI ((mI ((mN m1 NL 6 9)) NL 0 (mi ((mN m1 NL 6 9)) y10 3))) NL 1 0)) NL 2 (mi ((mI ((mI ((mN m1 NL 6 9)) NL 0 (mi ((mN m1 NL 6 9)) y10 3))) NL 1 0)) y10 2))) y60)))) NL 4 q65)) NL 5 q70)) y75)))) NL 7 (mi ((mI ((mI ((mI ((mI ((mI ((mI ((mI ((mN m1 NL 6 9)) NL 0 (mi ((mN m1 NL 6 9)) y10 3))) NL 1 0)) NL 2 (mi ((mI ((mI ((mN m1 NL 6 9)) NL 0 (mi ((mN m1 NL 6 9)) y10 3))) NL 1 0)) y10 2))) NL 3 (Int32.ofNat (ml ((mI ((mI ((mI ((mN m1 NL 6 9)) NL 0 (mi ((mN m1 NL 6 9)) y10 3))) NL 1 0)) NL 2 (mi ((mI ((mI ((mN m1 NL 6 9)) NL 0 (mi ((mN m1 NL 6 9)) y10 3))) NL 1 0)) y10 2))) y60)))) NL 4 q65)) NL 5 q70)) NL 6 (Int32.ofNat (ml ((mI ((mI ((mI ((mI ((mI ((mI ((mN m1 NL 6 9)) NL 0 (mi ((mN m1 NL 6 9)) y10 3))) NL 1 0)) NL 2 (mi ((mI ((mI ((mN m1 NL 6 9)) NL 0 (mi ((mN m1 NL 6 9)) y10 3))) NL 1 0)) y10 2))) NL 3 (Int32.ofNat (ml ((mI ((mI ((mI ((mN m1 NL 6 9)) NL 0 (mi ((mN m1 NL 6 9)) y10 3))) NL 1 0)) NL 2 (mi ((mI ((mI ((mN m1 NL 6 9)) NL 0 (mi ((mN m1 NL 6 9)) y10 3))) NL 1 0)) y10 2))) y60)))) NL 4 q65)) NL 5 q70)) y75)))) y10 7))) y10 8)) hO81
            have hP : va_P D vwCl (vW tc ad14 ((NL + 1)) ((mI ((mI ((mI ((mI ((mI ((mI ((mI ((mI ((mI ((mN m1 NL 6 9)) NL 0 (mi ((mN m1 NL 6 9)) y10 3))) NL 1 0)) NL 2 (mi ((mI ((mI ((mN m1 NL 6 9)) NL 0 (mi ((mN m1 NL 6 9)) y10 3))) NL 1 0)) y10 2))) NL 3 (Int32.ofNat (ml ((mI ((mI ((mI ((mN m1 NL 6 9)) NL 0 (mi ((mN m1 NL 6 9)) y10 3))) NL 1 0)) NL 2 (mi ((mI ((mI ((mN m1 NL 6 9)) NL 0 (mi ((mN m1 NL 6 9)) y10 3))) NL 1 0)) y10 2))) y60)))) NL 4 q65)) NL 5 q70)) NL 6 (Int32.ofNat (ml ((mI ((mI ((mI ((mI ((mI ((mI ((mN m1 NL 6 9)) NL 0 (mi ((mN m1 NL 6 9)) y10 3))) NL 1 0)) NL 2 (mi ((mI ((mI ((mN m1 NL 6 9)) NL 0 (mi ((mN m1 NL 6 9)) y10 3))) NL 1 0)) y10 2))) NL 3 (Int32.ofNat (ml ((mI ((mI ((mI ((mN m1 NL 6 9)) NL 0 (mi ((mN m1 NL 6 9)) y10 3))) NL 1 0)) NL 2 (mi ((mI ((mI ((mN m1 NL 6 9)) NL 0 (mi ((mN m1 NL 6 9)) y10 3))) NL 1 0)) y10 2))) y60)))) NL 4 q65)) NL 5 q70)) y75)))) NL 7 (mi ((mI ((mI ((mI ((mI ((mI ((mI ((mI ((mN m1 NL 6 9)) NL 0 (mi ((mN m1 NL 6 9)) y10 3))) NL 1 0)) NL 2 (mi ((mI ((mI ((mN m1 NL 6 9)) NL 0 (mi ((mN m1 NL 6 9)) y10 3))) NL 1 0)) y10 2))) NL 3 (Int32.ofNat (ml ((mI ((mI ((mI ((mN m1 NL 6 9)) NL 0 (mi ((mN m1 NL 6 9)) y10 3))) NL 1 0)) NL 2 (mi ((mI ((mI ((mN m1 NL 6 9)) NL 0 (mi ((mN m1 NL 6 9)) y10 3))) NL 1 0)) y10 2))) y60)))) NL 4 q65)) NL 5 q70)) NL 6 (Int32.ofNat (ml ((mI ((mI ((mI ((mI ((mI ((mI ((mN m1 NL 6 9)) NL 0 (mi ((mN m1 NL 6 9)) y10 3))) NL 1 0)) NL 2 (mi ((mI ((mI ((mN m1 NL 6 9)) NL 0 (mi ((mN m1 NL 6 9)) y10 3))) NL 1 0)) y10 2))) NL 3 (Int32.ofNat (ml ((mI ((mI ((mI ((mN m1 NL 6 9)) NL 0 (mi ((mN m1 NL 6 9)) y10 3))) NL 1 0)) NL 2 (mi ((mI ((mI ((mN m1 NL 6 9)) NL 0 (mi ((mN m1 NL 6 9)) y10 3))) NL 1 0)) y10 2))) y60)))) NL 4 q65)) NL 5 q70)) y75)))) y10 7))) NL 8 (mi ((mI ((mI ((mI ((mI ((mI ((mI ((mI ((mI ((mN m1 NL 6 9)) NL 0 (mi ((mN m1 NL 6 9)) y10 3))) NL 1 0)) NL 2 (mi ((mI ((mI ((mN m1 NL 6 9)) NL 0 (mi ((mN m1 NL 6 9)) y10 3))) NL 1 0)) y10 2))) NL 3 (Int32.ofNat (ml ((mI ((mI ((mI ((mN m1 NL 6 9)) NL 0 (mi ((mN m1 NL 6 9)) y10 3))) NL 1 0)) NL 2 (mi ((mI ((mI ((mN m1 NL 6 9)) NL 0 (mi ((mN m1 NL 6 9)) y10 3))) NL 1 0)) y10 2))) y60)))) NL 4 q65)) NL 5 q70)) NL 6 (Int32.ofNat (ml ((mI ((mI ((mI ((mI ((mI ((mI ((mN m1 NL 6 9)) NL 0 (mi ((mN m1 NL 6 9)) y10 3))) NL 1 0)) NL 2 (mi ((mI ((mI ((mN m1 NL 6 9)) NL 0 (mi ((mN m1 NL 6 9)) y10 3))) NL 1 0)) y10 2))) NL 3 (Int32.ofNat (ml ((mI ((mI ((mI ((mN m1 NL 6 9)) NL 0 (mi ((mN m1 NL 6 9)) y10 3))) NL 1 0)) NL 2 (mi ((mI ((mI ((mN m1 NL 6 9)) NL 0 (mi ((mN m1 NL 6 9)) y10 3))) NL 1 0)) y10 2))) y60)))) NL 4 q65)) NL 5 q70)) y75)))) NL 7 (mi ((mI ((mI ((mI ((mI ((mI ((mI ((mI ((mN m1 NL 6 9)) NL 0 (mi ((mN m1 NL 6 9)) y10 3))) NL 1 0)) NL 2 (mi ((mI ((mI ((mN m1 NL 6 9)) NL 0 (mi ((mN m1 NL 6 9)) y10 3))) NL 1 0)) y10 2))) NL 3 (Int32.ofNat (ml ((mI ((mI ((mI ((mN m1 NL 6 9)) NL 0 (mi ((mN m1 NL 6 9)) y10 3))) NL 1 0)) NL 2 (mi ((mI ((mI ((mN m1 NL 6 9)) NL 0 (mi ((mN m1 NL 6 9)) y10 3))) NL 1 0)) y10 2))) y60)))) NL 4 q65)) NL 5 q70)) NL 6 (Int32.ofNat (ml ((mI ((mI ((mI ((mI ((mI ((mI ((mN m1 NL 6 9)) NL 0 (mi ((mN m1 NL 6 9)) y10 3))) NL 1 0)) NL 2 (mi ((mI ((mI ((mN m1 NL 6 9)) NL 0 (mi ((mN m1 NL 6 9)) y10 3))) NL 1 0)) y10 2))) NL 3 (Int32.ofNat (ml ((mI ((mI ((mI ((mN m1 NL 6 9)) NL 0 (mi ((mN m1 NL 6 9)) y10 3))) NL 1 0)) NL 2 (mi ((mI ((mI ((mN m1 NL 6 9)) NL 0 (mi ((mN m1 NL 6 9)) y10 3))) NL 1 0)) y10 2))) y60)))) NL 4 q65)) NL 5 q70)) y75)))) y10 7))) y10 8)))) H := hP
            have hD : va_D A (vW tc ad14 ((NL + 1)) ((mI ((mI ((mI ((mI ((mI ((mI ((mI ((mI ((mI ((mN m1 NL 6 9)) NL 0 (mi ((mN m1 NL 6 9)) y10 3))) NL 1 0)) NL 2 (mi ((mI ((mI ((mN m1 NL 6 9)) NL 0 (mi ((mN m1 NL 6 9)) y10 3))) NL 1 0)) y10 2))) NL 3 (Int32.ofNat (ml ((mI ((mI ((mI ((mN m1 NL 6 9)) NL 0 (mi ((mN m1 NL 6 9)) y10 3))) NL 1 0)) NL 2 (mi ((mI ((mI ((mN m1 NL 6 9)) NL 0 (mi ((mN m1 NL 6 9)) y10 3))) NL 1 0)) y10 2))) y60)))) NL 4 q65)) NL 5 q70)) NL 6 (Int32.ofNat (ml ((mI ((mI ((mI ((mI ((mI ((mI ((mN m1 NL 6 9)) NL 0 (mi ((mN m1 NL 6 9)) y10 3))) NL 1 0)) NL 2 (mi ((mI ((mI ((mN m1 NL 6 9)) NL 0 (mi ((mN m1 NL 6 9)) y10 3))) NL 1 0)) y10 2))) NL 3 (Int32.ofNat (ml ((mI ((mI ((mI ((mN m1 NL 6 9)) NL 0 (mi ((mN m1 NL 6 9)) y10 3))) NL 1 0)) NL 2 (mi ((mI ((mI ((mN m1 NL 6 9)) NL 0 (mi ((mN m1 NL 6 9)) y10 3))) NL 1 0)) y10 2))) y60)))) NL 4 q65)) NL 5 q70)) y75)))) NL 7 (mi ((mI ((mI ((mI ((mI ((mI ((mI ((mI ((mN m1 NL 6 9)) NL 0 (mi ((mN m1 NL 6 9)) y10 3))) NL 1 0)) NL 2 (mi ((mI ((mI ((mN m1 NL 6 9)) NL 0 (mi ((mN m1 NL 6 9)) y10 3))) NL 1 0)) y10 2))) NL 3 (Int32.ofNat (ml ((mI ((mI ((mI ((mN m1 NL 6 9)) NL 0 (mi ((mN m1 NL 6 9)) y10 3))) NL 1 0)) NL 2 (mi ((mI ((mI ((mN m1 NL 6 9)) NL 0 (mi ((mN m1 NL 6 9)) y10 3))) NL 1 0)) y10 2))) y60)))) NL 4 q65)) NL 5 q70)) NL 6 (Int32.ofNat (ml ((mI ((mI ((mI ((mI ((mI ((mI ((mN m1 NL 6 9)) NL 0 (mi ((mN m1 NL 6 9)) y10 3))) NL 1 0)) NL 2 (mi ((mI ((mI ((mN m1 NL 6 9)) NL 0 (mi ((mN m1 NL 6 9)) y10 3))) NL 1 0)) y10 2))) NL 3 (Int32.ofNat (ml ((mI ((mI ((mI ((mN m1 NL 6 9)) NL 0 (mi ((mN m1 NL 6 9)) y10 3))) NL 1 0)) NL 2 (mi ((mI ((mI ((mN m1 NL 6 9)) NL 0 (mi ((mN m1 NL 6 9)) y10 3))) NL 1 0)) y10 2))) y60)))) NL 4 q65)) NL 5 q70)) y75)))) y10 7))) NL 8 (mi ((mI ((mI ((mI ((mI ((mI ((mI ((mI ((mI ((mN m1 NL 6 9)) NL 0 (mi ((mN m1 NL 6 9)) y10 3))) NL 1 0)) NL 2 (mi ((mI ((mI ((mN m1 NL 6 9)) NL 0 (mi ((mN m1 NL 6 9)) y10 3))) NL 1 0)) y10 2))) NL 3 (Int32.ofNat (ml ((mI ((mI ((mI ((mN m1 NL 6 9)) NL 0 (mi ((mN m1 NL 6 9)) y10 3))) NL 1 0)) NL 2 (mi ((mI ((mI ((mN m1 NL 6 9)) NL 0 (mi ((mN m1 NL 6 9)) y10 3))) NL 1 0)) y10 2))) y60)))) NL 4 q65)) NL 5 q70)) NL 6 (Int32.ofNat (ml ((mI ((mI ((mI ((mI ((mI ((mI ((mN m1 NL 6 9)) NL 0 (mi ((mN m1 NL 6 9)) y10 3))) NL 1 0)) NL 2 (mi ((mI ((mI ((mN m1 NL 6 9)) NL 0 (mi ((mN m1 NL 6 9)) y10 3))) NL 1 0)) y10 2))) NL 3 (Int32.ofNat (ml ((mI ((mI ((mI ((mN m1 NL 6 9)) NL 0 (mi ((mN m1 NL 6 9)) y10 3))) NL 1 0)) NL 2 (mi ((mI ((mI ((mN m1 NL 6 9)) NL 0 (mi ((mN m1 NL 6 9)) y10 3))) NL 1 0)) y10 2))) y60)))) NL 4 q65)) NL 5 q70)) y75)))) NL 7 (mi ((mI ((mI ((mI ((mI ((mI ((mI ((mI ((mN m1 NL 6 9)) NL 0 (mi ((mN m1 NL 6 9)) y10 3))) NL 1 0)) NL 2 (mi ((mI ((mI ((mN m1 NL 6 9)) NL 0 (mi ((mN m1 NL 6 9)) y10 3))) NL 1 0)) y10 2))) NL 3 (Int32.ofNat (ml ((mI ((mI ((mI ((mN m1 NL 6 9)) NL 0 (mi ((mN m1 NL 6 9)) y10 3))) NL 1 0)) NL 2 (mi ((mI ((mI ((mN m1 NL 6 9)) NL 0 (mi ((mN m1 NL 6 9)) y10 3))) NL 1 0)) y10 2))) y60)))) NL 4 q65)) NL 5 q70)) NL 6 (Int32.ofNat (ml ((mI ((mI ((mI ((mI ((mI ((mI ((mN m1 NL 6 9)) NL 0 (mi ((mN m1 NL 6 9)) y10 3))) NL 1 0)) NL 2 (mi ((mI ((mI ((mN m1 NL 6 9)) NL 0 (mi ((mN m1 NL 6 9)) y10 3))) NL 1 0)) y10 2))) NL 3 (Int32.ofNat (ml ((mI ((mI ((mI ((mN m1 NL 6 9)) NL 0 (mi ((mN m1 NL 6 9)) y10 3))) NL 1 0)) NL 2 (mi ((mI ((mI ((mN m1 NL 6 9)) NL 0 (mi ((mN m1 NL 6 9)) y10 3))) NL 1 0)) y10 2))) y60)))) NL 4 q65)) NL 5 q70)) y75)))) y10 7))) y10 8)))) := hD
            refine lv_astore (lv' := [(6, .ref (ad14 NL)), (5, .ref (ad14 y10)), (0, .ref (ad14 r0)), (1, .ref (ad14 r1)), (2, .int i2), (3, .int i3), (4, .int i4)]) hx hb dX5_isSame_121 hl (by decide) rfl (fun ls hl => ?_)
            refine lv_iconst (v := 0) hx hb dX5_isSame_123 (by decide) ?_
            refine lv_istore (lv' := [(7, .int 0), (6, .ref (ad14 NL)), (5, .ref (ad14 y10)), (0, .ref (ad14 r0)), (1, .ref (ad14 r1)), (2, .int i2), (3, .int i3), (4, .int i4)]) hx hb dX5_isSame_124 hl (by decide) rfl (fun ls hl => ?_)
            exact (ih.2.1) ((NL + 1)) ad14 ((mI ((mI ((mI ((mI ((mI ((mI ((mI ((mI ((mI ((mN m1 NL 6 9)) NL 0 (mi ((mN m1 NL 6 9)) y10 3))) NL 1 0)) NL 2 (mi ((mI ((mI ((mN m1 NL 6 9)) NL 0 (mi ((mN m1 NL 6 9)) y10 3))) NL 1 0)) y10 2))) NL 3 (Int32.ofNat (ml ((mI ((mI ((mI ((mN m1 NL 6 9)) NL 0 (mi ((mN m1 NL 6 9)) y10 3))) NL 1 0)) NL 2 (mi ((mI ((mI ((mN m1 NL 6 9)) NL 0 (mi ((mN m1 NL 6 9)) y10 3))) NL 1 0)) y10 2))) y60)))) NL 4 q65)) NL 5 q70)) NL 6 (Int32.ofNat (ml ((mI ((mI ((mI ((mI ((mI ((mI ((mN m1 NL 6 9)) NL 0 (mi ((mN m1 NL 6 9)) y10 3))) NL 1 0)) NL 2 (mi ((mI ((mI ((mN m1 NL 6 9)) NL 0 (mi ((mN m1 NL 6 9)) y10 3))) NL 1 0)) y10 2))) NL 3 (Int32.ofNat (ml ((mI ((mI ((mI ((mN m1 NL 6 9)) NL 0 (mi ((mN m1 NL 6 9)) y10 3))) NL 1 0)) NL 2 (mi ((mI ((mI ((mN m1 NL 6 9)) NL 0 (mi ((mN m1 NL 6 9)) y10 3))) NL 1 0)) y10 2))) y60)))) NL 4 q65)) NL 5 q70)) y75)))) NL 7 (mi ((mI ((mI ((mI ((mI ((mI ((mI ((mI ((mN m1 NL 6 9)) NL 0 (mi ((mN m1 NL 6 9)) y10 3))) NL 1 0)) NL 2 (mi ((mI ((mI ((mN m1 NL 6 9)) NL 0 (mi ((mN m1 NL 6 9)) y10 3))) NL 1 0)) y10 2))) NL 3 (Int32.ofNat (ml ((mI ((mI ((mI ((mN m1 NL 6 9)) NL 0 (mi ((mN m1 NL 6 9)) y10 3))) NL 1 0)) NL 2 (mi ((mI ((mI ((mN m1 NL 6 9)) NL 0 (mi ((mN m1 NL 6 9)) y10 3))) NL 1 0)) y10 2))) y60)))) NL 4 q65)) NL 5 q70)) NL 6 (Int32.ofNat (ml ((mI ((mI ((mI ((mI ((mI ((mI ((mN m1 NL 6 9)) NL 0 (mi ((mN m1 NL 6 9)) y10 3))) NL 1 0)) NL 2 (mi ((mI ((mI ((mN m1 NL 6 9)) NL 0 (mi ((mN m1 NL 6 9)) y10 3))) NL 1 0)) y10 2))) NL 3 (Int32.ofNat (ml ((mI ((mI ((mI ((mN m1 NL 6 9)) NL 0 (mi ((mN m1 NL 6 9)) y10 3))) NL 1 0)) NL 2 (mi ((mI ((mI ((mN m1 NL 6 9)) NL 0 (mi ((mN m1 NL 6 9)) y10 3))) NL 1 0)) y10 2))) y60)))) NL 4 q65)) NL 5 q70)) y75)))) y10 7))) NL 8 (mi ((mI ((mI ((mI ((mI ((mI ((mI ((mI ((mI ((mN m1 NL 6 9)) NL 0 (mi ((mN m1 NL 6 9)) y10 3))) NL 1 0)) NL 2 (mi ((mI ((mI ((mN m1 NL 6 9)) NL 0 (mi ((mN m1 NL 6 9)) y10 3))) NL 1 0)) y10 2))) NL 3 (Int32.ofNat (ml ((mI ((mI ((mI ((mN m1 NL 6 9)) NL 0 (mi ((mN m1 NL 6 9)) y10 3))) NL 1 0)) NL 2 (mi ((mI ((mI ((mN m1 NL 6 9)) NL 0 (mi ((mN m1 NL 6 9)) y10 3))) NL 1 0)) y10 2))) y60)))) NL 4 q65)) NL 5 q70)) NL 6 (Int32.ofNat (ml ((mI ((mI ((mI ((mI ((mI ((mI ((mN m1 NL 6 9)) NL 0 (mi ((mN m1 NL 6 9)) y10 3))) NL 1 0)) NL 2 (mi ((mI ((mI ((mN m1 NL 6 9)) NL 0 (mi ((mN m1 NL 6 9)) y10 3))) NL 1 0)) y10 2))) NL 3 (Int32.ofNat (ml ((mI ((mI ((mI ((mN m1 NL 6 9)) NL 0 (mi ((mN m1 NL 6 9)) y10 3))) NL 1 0)) NL 2 (mi ((mI ((mI ((mN m1 NL 6 9)) NL 0 (mi ((mN m1 NL 6 9)) y10 3))) NL 1 0)) y10 2))) y60)))) NL 4 q65)) NL 5 q70)) y75)))) NL 7 (mi ((mI ((mI ((mI ((mI ((mI ((mI ((mI ((mN m1 NL 6 9)) NL 0 (mi ((mN m1 NL 6 9)) y10 3))) NL 1 0)) NL 2 (mi ((mI ((mI ((mN m1 NL 6 9)) NL 0 (mi ((mN m1 NL 6 9)) y10 3))) NL 1 0)) y10 2))) NL 3 (Int32.ofNat (ml ((mI ((mI ((mI ((mN m1 NL 6 9)) NL 0 (mi ((mN m1 NL 6 9)) y10 3))) NL 1 0)) NL 2 (mi ((mI ((mI ((mN m1 NL 6 9)) NL 0 (mi ((mN m1 NL 6 9)) y10 3))) NL 1 0)) y10 2))) y60)))) NL 4 q65)) NL 5 q70)) NL 6 (Int32.ofNat (ml ((mI ((mI ((mI ((mI ((mI ((mI ((mN m1 NL 6 9)) NL 0 (mi ((mN m1 NL 6 9)) y10 3))) NL 1 0)) NL 2 (mi ((mI ((mI ((mN m1 NL 6 9)) NL 0 (mi ((mN m1 NL 6 9)) y10 3))) NL 1 0)) y10 2))) NL 3 (Int32.ofNat (ml ((mI ((mI ((mI ((mN m1 NL 6 9)) NL 0 (mi ((mN m1 NL 6 9)) y10 3))) NL 1 0)) NL 2 (mi ((mI ((mI ((mN m1 NL 6 9)) NL 0 (mi ((mN m1 NL 6 9)) y10 3))) NL 1 0)) y10 2))) y60)))) NL 4 q65)) NL 5 q70)) y75)))) y10 7))) y10 8))) ((kc + 1)) ((ks + 9)) r0 r1 i2 i3 i4 y10 NL (0 : Int32) _ _ _ e17 e16 g12 g13 hO83 n19 n20 n23 (Nat.lt_succ_self _) h hP hD hS (lv_sub hl (l' := [(0, .ref (ad14 r0)), (1, .ref (ad14 r1)), (2, .int i2), (3, .int i3), (4, .int i4), (5, .ref (ad14 y10)), (6, .ref (ad14 NL)), (7, .int 0)]) [3, 4, 5, 6, 7, 2, 1, 0] rfl)
      · intro NL adL m1 kc ks r0 r1 i2 i3 i4 r5 r6 i7 H locs ls hNN hE hc hs hO n_r0 n_r1 n_r5 n_r6 h hP hD hS hl
        have h : fB_X5_isSame_126 (fL_X5_isSame n) NL m1 kc ks r0 r1 i2 i3 i4 0 0 r5 r6 i7 = some z := h
        unfold fB_X5_isSame_126 at h
        refine lv_iload hx hb dX5_isSame_126 (lv_at hl 7 rfl) ?_
        refine lv_bipush (v := 9) hx hb dX5_isSame_128 (by decide) ?_
        refine lv_icmp_ge (tgt := 157) hx hb dX5_isSame_130 (by decide) (fun c84 => ?_) (fun c84 => ?_)
        · rw [if_pos c84] at h
          refine lv_iconst (v := 0) hx hb dX5_isSame_157 (by decide) ?_
          refine lv_istore (lv' := [(7, .int 0), (0, .ref (adL r0)), (1, .ref (adL r1)), (2, .int i2), (3, .int i3), (4, .int i4), (5, .ref (adL r5)), (6, .ref (adL r6))]) hx hb dX5_isSame_158 hl (by decide) rfl (fun ls hl => ?_)
          exact (ih.2.2.1) NL adL m1 kc ks r0 r1 i2 i3 i4 r5 r6 (0 : Int32) _ _ _ hNN hE hc hs hO n_r0 n_r1 n_r5 n_r6 h hP hD hS (lv_sub hl (l' := [(0, .ref (adL r0)), (1, .ref (adL r1)), (2, .int i2), (3, .int i3), (4, .int i4), (5, .ref (adL r5)), (6, .ref (adL r6)), (7, .int 0)]) [1, 2, 3, 4, 5, 6, 7, 0] rfl)
        · rw [if_neg c84] at h
          refine lv_aload_n hx hb dX5_isSame_133 rfl (lv_at hl 1 rfl) ?_
          refine lv_iload hx hb dX5_isSame_134 (lv_at hl 4 rfl) ?_
          refine lv_iload hx hb dX5_isSame_136 (lv_at hl 7 rfl) ?_
          obtain ⟨g85, h⟩ := vg_if h
          obtain ⟨q86, g87, h⟩ := vg_bind h
          refine va_calli (va_runV (As := [.int i4, .int i7]) (rest := []) ⟨hx, hb, hml, hown, hts⟩ (cm_X3_door (m0 := m1) l D tc adL hO n_r1 g87) (cwV 2 hts gX5_isSame_X3_door rfl rfl rfl (by decide +kernel) ⟨(Nat.le_of_ble_eq_true rfl), (Nat.le_of_ble_eq_true rfl)⟩) ⟨qR_blind, va_recv hK hP (ci := 3) (q0 := r1) rfl (vW_k3 n_r1 g85), qR_pre hP hK hZ⟩ rfl rfl hl.1 rfl (lv_room (Nat.le_of_ble_eq_true rfl)) dX5_isSame_138 ⟨hc, hs⟩) hS (fun q9 _ h9 => h9.elim) (fun q9 h9 => h9.elim) (fun w88 u t H1 locs ht hvm hw hB hz1 hk1 hS => ?_)
          have hP := hP.kept (fun k9 q9 hk9 => hk1 q9.1 (hP k9 q9 hk9).lt (fun h9 => h9))
          generalize H1 = H at hP hS ⊢
          clear hk1 hz1 ht hvm
          have hw : w88 = q86 := hw
          rw [hw]
          refine lv_aload hx hb dX5_isSame_141 (lv_at hl 6 rfl) ?_
          refine lv_iload hx hb dX5_isSame_143 (lv_at hl 7 rfl) ?_
          obtain ⟨g89, h⟩ := vg_if h
          obtain ⟨g90, h⟩ := vg_if h
          refine va_iald (D := D) hx hb hK hP r6 0 (vW_k6 n_r6 g89) rfl (i := i7) g90 dX5_isSame_145 ?_
          refine lv_icmp_eq (tgt := 151) hx hb dX5_isSame_146 (by decide) (fun c91 => ?_) (fun c91 => ?_)
          · rw [if_pos c91] at h
            refine lv_iinc (v := i7 + 1) (lv' := [(7, .int (i7 + 1)), (0, .ref (adL r0)), (1, .ref (adL r1)), (2, .int i2), (3, .int i3), (4, .int i4), (5, .ref (adL r5)), (6, .ref (adL r6))]) hx hb dX5_isSame_151 hl (k := 7) rfl rfl (by decide) rfl (fun ls hl => ?_)
            refine lv_goto (tgt := 126) hx hb dX5_isSame_154 (by decide) ?_
            exact (ih.2.1) NL adL m1 kc ks r0 r1 i2 i3 i4 r5 r6 (i7 + 1) _ _ _ hNN hE hc hs hO n_r0 n_r1 n_r5 n_r6 h hP hD hS (lv_sub hl (l' := [(0, .ref (adL r0)), (1, .ref (adL r1)), (2, .int i2), (3, .int i3), (4, .int i4), (5, .ref (adL r5)), (6, .ref (adL r6)), (7, .int (i7 + 1))]) [1, 2, 3, 4, 5, 6, 7, 0] rfl)
          · rw [if_neg c91] at h
            refine lv_iconst (v := 0) hx hb dX5_isSame_149 (by decide) ?_
            have hz := Option.some.inj h
            refine W.widen (k := 11) (n := 99) hc hs ?_
            exact W.zret (v := 0) (ty := .boolean) hx hb hr (by decide) (fun t ht hW => ⟨⟨_, (), rfl, by rw [← hz], by rw [← hz]; exact ⟨adL, hE, hNN, hO, by rw [ht]; exact hP, va_K.moved hW.alike hK, hD⟩⟩, hS.F ht⟩) hS.2.2 dX5_isSame_150
      · intro NL adL m1 kc ks r0 r1 i2 i3 i4 r5 r6 i7 H locs ls hNN hE hc hs hO n_r0 n_r1 n_r5 n_r6 h hP hD hS hl
        have h : fB_X5_isSame_160 (fL_X5_isSame n) NL m1 kc ks r0 r1 i2 i3 i4 0 0 r5 r6 i7 = some z := h
        unfold fB_X5_isSame_160 at h
        refine lv_iload hx hb dX5_isSame_160 (lv_at hl 7 rfl) ?_
        refine lv_aload hx hb dX5_isSame_162 (lv_at hl 5 rfl) ?_
        obtain ⟨g92, h⟩ := vg_if h
        obtain ⟨y93, g94, h⟩ := vg_bind h
        have n_y93 := hO _ _ _ g94
        refine va_get (D := D) (ci := 4) (v := .ref (adL y93)) (C := RX4) (T := TX4) (N := 9) hx hb hts in_X5_isSame_X4 hown hK hP r5 (vW_k4 n_r5 g92) rfl 5 (by decide) (hts (.fieldLink RX5 57 "VaultDoorsLaw$Door" "asks" "[[I") (List.mem_of_getElem? (i := 6) rfl)) (fun _ h9 => h9) (by show some (va_rf (Option.map adL (mr m1 r5 5))) = _; rw [g94]; rfl) dX5_isSame_164 ?_
        obtain ⟨g95, h⟩ := vg_if h
        refine va_alen (D := D) hx hb hK hP y93 2 (vW_k8 n_y93 g95) rfl rfl dX5_isSame_167 ?_
        refine lv_icmp_ge (tgt := 258) hx hb dX5_isSame_168 (by decide) (fun c96 => ?_) (fun c96 => ?_)
        · rw [if_pos c96] at h
          refine lv_iload_n hx hb dX5_isSame_258 rfl (lv_at hl 2 rfl) ?_
          refine lv_aload hx hb dX5_isSame_259 (lv_at hl 5 rfl) ?_
          refine va_get (D := D) (ci := 4) (v := .int (mi m1 r5 7)) (C := RX4) (T := TX4) (N := 9) hx hb hts in_X5_isSame_X4 hown hK hP r5 (vW_k4 n_r5 g92) rfl 7 (by decide) (hts (.fieldLink RX5 64 "VaultDoorsLaw$Door" "opened" "I") (List.mem_of_getElem? (i := 8) rfl)) (fun _ h9 => h9) rfl dX5_isSame_261 ?_
          refine lv_iadd hx hb dX5_isSame_264 ?_
          refine lv_istore_n (lv' := [(2, .int (i2 + (mi m1 r5 7))), (0, .ref (adL r0)), (1, .ref (adL r1)), (3, .int i3), (4, .int i4), (5, .ref (adL r5)), (6, .ref (adL r6)), (7, .int i7)]) hx hb dX5_isSame_265 rfl hl (by decide) rfl (fun ls hl => ?_)
          refine lv_iload_n hx hb dX5_isSame_266 rfl (lv_at hl 3 rfl) ?_
          refine lv_aload hx hb dX5_isSame_267 (lv_at hl 5 rfl) ?_
          refine va_get (D := D) (ci := 4) (v := .int (mi m1 r5 7)) (C := RX4) (T := TX4) (N := 9) hx hb hts in_X5_isSame_X4 hown hK hP r5 (vW_k4 n_r5 g92) rfl 7 (by decide) (hts (.fieldLink RX5 64 "VaultDoorsLaw$Door" "opened" "I") (List.mem_of_getElem? (i := 8) rfl)) (fun _ h9 => h9) rfl dX5_isSame_269 ?_
          refine lv_aload hx hb dX5_isSame_272 (lv_at hl 5 rfl) ?_
          refine va_get (D := D) (ci := 4) (v := .int (mi m1 r5 8)) (C := RX4) (T := TX4) (N := 9) hx hb hts in_X5_isSame_X4 hown hK hP r5 (vW_k4 n_r5 g92) rfl 8 (by decide) (hts (.fieldLink RX5 67 "VaultDoorsLaw$Door" "barred" "I") (List.mem_of_getElem? (i := 9) rfl)) (fun _ h9 => h9) rfl dX5_isSame_274 ?_
          refine lv_iadd hx hb dX5_isSame_277 ?_
          refine lv_iadd hx hb dX5_isSame_278 ?_
          refine lv_istore_n (lv' := [(3, .int (i3 + ((mi m1 r5 7) + (mi m1 r5 8)))), (2, .int (i2 + (mi m1 r5 7))), (0, .ref (adL r0)), (1, .ref (adL r1)), (4, .int i4), (5, .ref (adL r5)), (6, .ref (adL r6)), (7, .int i7)]) hx hb dX5_isSame_279 rfl hl (by decide) rfl (fun ls hl => ?_)
          refine lv_iinc (v := i4 + 1) (lv' := [(4, .int (i4 + 1)), (3, .int (i3 + ((mi m1 r5 7) + (mi m1 r5 8)))), (2, .int (i2 + (mi m1 r5 7))), (0, .ref (adL r0)), (1, .ref (adL r1)), (5, .ref (adL r5)), (6, .ref (adL r6)), (7, .int i7)]) hx hb dX5_isSame_280 hl (k := 4) rfl rfl (by decide) rfl (fun ls hl => ?_)
          refine lv_goto (tgt := 7) hx hb dX5_isSame_283 (by decide) ?_
          exact (ih.1) NL adL m1 kc ks r0 r1 (i2 + (mi m1 r5 7)) (i3 + ((mi m1 r5 7) + (mi m1 r5 8))) (i4 + 1) _ _ _ hNN hE hc hs hO n_r0 n_r1 h hP hD hS (lv_sub hl (l' := [(0, .ref (adL r0)), (1, .ref (adL r1)), (2, .int (i2 + (mi m1 r5 7))), (3, .int (i3 + ((mi m1 r5 7) + (mi m1 r5 8)))), (4, .int (i4 + 1))]) [3, 4, 2, 1, 0] rfl)
        · rw [if_neg c96] at h
          refine lv_aload_n hx hb dX5_isSame_171 rfl (lv_at hl 1 rfl) ?_
          refine lv_iload hx hb dX5_isSame_172 (lv_at hl 4 rfl) ?_
          refine lv_iload hx hb dX5_isSame_174 (lv_at hl 7 rfl) ?_
          refine lv_iconst (v := 0) hx hb dX5_isSame_176 (by decide) ?_
          obtain ⟨g97, h⟩ := vg_if h
          obtain ⟨q98, g99, h⟩ := vg_bind h
          refine va_calli (va_runV (As := [.int i4, .int i7, .int 0]) (rest := []) ⟨hx, hb, hml, hown, hts⟩ (cm_X3_asks (m0 := m1) l D tc adL hO n_r1 g99) (cwV 3 hts gX5_isSame_X3_asks rfl rfl rfl (by decide +kernel) ⟨(Nat.le_of_ble_eq_true rfl), (Nat.le_of_ble_eq_true rfl)⟩) ⟨qR_blind, va_recv hK hP (ci := 3) (q0 := r1) rfl (vW_k3 n_r1 g97), qR_pre hP hK hZ⟩ rfl rfl hl.1 rfl (lv_room (Nat.le_of_ble_eq_true rfl)) dX5_isSame_177 ⟨hc, hs⟩) hS (fun q9 _ h9 => h9.elim) (fun q9 h9 => h9.elim) (fun w100 u t H1 locs ht hvm hw hB hz1 hk1 hS => ?_)
          have hP := hP.kept (fun k9 q9 hk9 => hk1 q9.1 (hP k9 q9 hk9).lt (fun h9 => h9))
          generalize H1 = H at hP hS ⊢
          clear hk1 hz1 ht hvm
          have hw : w100 = q98 := hw
          rw [hw]
          refine lv_aload hx hb dX5_isSame_180 (lv_at hl 5 rfl) ?_
          obtain ⟨y101, g102, h⟩ := vg_bind h
          have n_y101 := hO _ _ _ g102
          refine va_get (D := D) (ci := 4) (v := .ref (adL y101)) (C := RX4) (T := TX4) (N := 9) hx hb hts in_X5_isSame_X4 hown hK hP r5 (vW_k4 n_r5 g92) rfl 5 (by decide) (hts (.fieldLink RX5 57 "VaultDoorsLaw$Door" "asks" "[[I") (List.mem_of_getElem? (i := 6) rfl)) (fun _ h9 => h9) (by show some (va_rf (Option.map adL (mr m1 r5 5))) = _; rw [g102]; rfl) dX5_isSame_182 ?_
          refine lv_iload hx hb dX5_isSame_185 (lv_at hl 7 rfl) ?_
          obtain ⟨g103, h⟩ := vg_if h
          obtain ⟨g104, h⟩ := vg_if h
          obtain ⟨y105, g106, h⟩ := vg_bind h
          have n_y105 := hO _ _ _ g106
          refine wm_aald8 hx hb hK hP n_y101 g103 (i := i7) g104 dX5_isSame_187 ?_
          refine W.eq (g2 := F0 m 188 ls [.ref (adL y105), .int q98]) (by show F0 m 188 ls (va_rf (Option.map adL (mr m1 y101 i7.toNatClampNeg)) :: _) = _; rw [g106]; rfl) ?_
          refine lv_iconst (v := 0) hx hb dX5_isSame_188 (by decide) ?_
          obtain ⟨g107, h⟩ := vg_if h
          obtain ⟨g108, h⟩ := vg_if h
          refine va_iald (D := D) hx hb hK hP y105 0 (vW_k6 n_y105 g107) rfl (i := 0) g108 dX5_isSame_189 ?_
          refine W.eq (g2 := F0 m 190 ls [.int (mi m1 y105 0), .int q98]) rfl ?_
          refine lv_icmp_ne (tgt := 250) hx hb dX5_isSame_190 (by decide) (fun c109 => ?_) (fun c109 => ?_)
          · rw [if_neg c109] at h
            refine lv_iconst (v := 0) hx hb dX5_isSame_250 (by decide) ?_
            have hz := Option.some.inj h
            refine W.widen (k := 11) (n := 99) hc hs ?_
            exact W.zret (v := 0) (ty := .boolean) hx hb hr (by decide) (fun t ht hW => ⟨⟨_, (), rfl, by rw [← hz], by rw [← hz]; exact ⟨adL, hE, hNN, hO, by rw [ht]; exact hP, va_K.moved hW.alike hK, hD⟩⟩, hS.F ht⟩) hS.2.2 dX5_isSame_251
          · rw [if_pos c109] at h
            refine lv_aload_n hx hb dX5_isSame_193 rfl (lv_at hl 1 rfl) ?_
            refine lv_iload hx hb dX5_isSame_194 (lv_at hl 4 rfl) ?_
            refine lv_iload hx hb dX5_isSame_196 (lv_at hl 7 rfl) ?_
            refine lv_iconst (v := 1) hx hb dX5_isSame_198 (by decide) ?_
            obtain ⟨q110, g111, h⟩ := vg_bind h
            refine va_calli (va_runV (As := [.int i4, .int i7, .int 1]) (rest := []) ⟨hx, hb, hml, hown, hts⟩ (cm_X3_asks (m0 := m1) l D tc adL hO n_r1 g111) (cwV 3 hts gX5_isSame_X3_asks rfl rfl rfl (by decide +kernel) ⟨(Nat.le_of_ble_eq_true rfl), (Nat.le_of_ble_eq_true rfl)⟩) ⟨qR_blind, va_recv hK hP (ci := 3) (q0 := r1) rfl (vW_k3 n_r1 g97), qR_pre hP hK hZ⟩ rfl rfl hl.1 rfl (lv_room (Nat.le_of_ble_eq_true rfl)) dX5_isSame_199 ⟨hc, hs⟩) hS (fun q9 _ h9 => h9.elim) (fun q9 h9 => h9.elim) (fun w112 u t H1 locs ht hvm hw hB hz1 hk1 hS => ?_)
            have hP := hP.kept (fun k9 q9 hk9 => hk1 q9.1 (hP k9 q9 hk9).lt (fun h9 => h9))
            generalize H1 = H at hP hS ⊢
            clear hk1 hz1 ht hvm
            have hw : w112 = q110 := hw
            rw [hw]
            refine lv_aload hx hb dX5_isSame_202 (lv_at hl 5 rfl) ?_
            obtain ⟨y113, g114, h⟩ := vg_bind h
            have n_y113 := hO _ _ _ g114
            refine va_get (D := D) (ci := 4) (v := .ref (adL y113)) (C := RX4) (T := TX4) (N := 9) hx hb hts in_X5_isSame_X4 hown hK hP r5 (vW_k4 n_r5 g92) rfl 5 (by decide) (hts (.fieldLink RX5 57 "VaultDoorsLaw$Door" "asks" "[[I") (List.mem_of_getElem? (i := 6) rfl)) (fun _ h9 => h9) (by show some (va_rf (Option.map adL (mr m1 r5 5))) = _; rw [g114]; rfl) dX5_isSame_204 ?_
            refine lv_iload hx hb dX5_isSame_207 (lv_at hl 7 rfl) ?_
            obtain ⟨g115, h⟩ := vg_if h
            obtain ⟨g116, h⟩ := vg_if h
            obtain ⟨y117, g118, h⟩ := vg_bind h
            have n_y117 := hO _ _ _ g118
            refine wm_aald8 hx hb hK hP n_y113 g115 (i := i7) g116 dX5_isSame_209 ?_
            refine W.eq (g2 := F0 m 210 ls [.ref (adL y117), .int q110]) (by show F0 m 210 ls (va_rf (Option.map adL (mr m1 y113 i7.toNatClampNeg)) :: _) = _; rw [g118]; rfl) ?_
            refine lv_iconst (v := 1) hx hb dX5_isSame_210 (by decide) ?_
            obtain ⟨g119, h⟩ := vg_if h
            obtain ⟨g120, h⟩ := vg_if h
            refine va_iald (D := D) hx hb hK hP y117 0 (vW_k6 n_y117 g119) rfl (i := 1) g120 dX5_isSame_211 ?_
            refine W.eq (g2 := F0 m 212 ls [.int (mi m1 y117 1), .int q110]) rfl ?_
            refine lv_icmp_ne (tgt := 250) hx hb dX5_isSame_212 (by decide) (fun c121 => ?_) (fun c121 => ?_)
            · rw [if_neg c121] at h
              refine lv_iconst (v := 0) hx hb dX5_isSame_250 (by decide) ?_
              have hz := Option.some.inj h
              refine W.widen (k := 11) (n := 99) hc hs ?_
              exact W.zret (v := 0) (ty := .boolean) hx hb hr (by decide) (fun t ht hW => ⟨⟨_, (), rfl, by rw [← hz], by rw [← hz]; exact ⟨adL, hE, hNN, hO, by rw [ht]; exact hP, va_K.moved hW.alike hK, hD⟩⟩, hS.F ht⟩) hS.2.2 dX5_isSame_251
            · rw [if_pos c121] at h
              refine lv_aload_n hx hb dX5_isSame_215 rfl (lv_at hl 1 rfl) ?_
              refine lv_iload hx hb dX5_isSame_216 (lv_at hl 4 rfl) ?_
              refine lv_iload hx hb dX5_isSame_218 (lv_at hl 7 rfl) ?_
              refine lv_iconst (v := 2) hx hb dX5_isSame_220 (by decide) ?_
              obtain ⟨q122, g123, h⟩ := vg_bind h
              refine va_calli (va_runV (As := [.int i4, .int i7, .int 2]) (rest := []) ⟨hx, hb, hml, hown, hts⟩ (cm_X3_asks (m0 := m1) l D tc adL hO n_r1 g123) (cwV 3 hts gX5_isSame_X3_asks rfl rfl rfl (by decide +kernel) ⟨(Nat.le_of_ble_eq_true rfl), (Nat.le_of_ble_eq_true rfl)⟩) ⟨qR_blind, va_recv hK hP (ci := 3) (q0 := r1) rfl (vW_k3 n_r1 g97), qR_pre hP hK hZ⟩ rfl rfl hl.1 rfl (lv_room (Nat.le_of_ble_eq_true rfl)) dX5_isSame_221 ⟨hc, hs⟩) hS (fun q9 _ h9 => h9.elim) (fun q9 h9 => h9.elim) (fun w124 u t H1 locs ht hvm hw hB hz1 hk1 hS => ?_)
              have hP := hP.kept (fun k9 q9 hk9 => hk1 q9.1 (hP k9 q9 hk9).lt (fun h9 => h9))
              generalize H1 = H at hP hS ⊢
              clear hk1 hz1 ht hvm
              have hw : w124 = q122 := hw
              rw [hw]
              refine lv_aload hx hb dX5_isSame_224 (lv_at hl 5 rfl) ?_
              refine va_get (D := D) (ci := 4) (v := .int (mi m1 r5 3)) (C := RX4) (T := TX4) (N := 9) hx hb hts in_X5_isSame_X4 hown hK hP r5 (vW_k4 n_r5 g92) rfl 3 (by decide) (hts (.fieldLink RX5 48 "VaultDoorsLaw$Door" "state" "I") (List.mem_of_getElem? (i := 3) rfl)) (fun _ h9 => h9) rfl dX5_isSame_226 ?_
              refine lv_iconst (v := 1) hx hb dX5_isSame_229 (by decide) ?_
              refine lv_icmp_ne (tgt := 246) hx hb dX5_isSame_230 (by decide) (fun c125 => ?_) (fun c125 => ?_)
              · rw [if_neg c125] at h
                refine lv_iconst (v := (-1)) hx hb dX5_isSame_246 (by decide) ?_
                refine lv_icmp_eq (tgt := 252) hx hb dX5_isSame_247 (by decide) (fun c126 => ?_) (fun c126 => ?_)
                · rw [if_pos c126] at h
                  refine lv_iinc (v := i7 + 1) (lv' := [(7, .int (i7 + 1)), (0, .ref (adL r0)), (1, .ref (adL r1)), (2, .int i2), (3, .int i3), (4, .int i4), (5, .ref (adL r5)), (6, .ref (adL r6))]) hx hb dX5_isSame_252 hl (k := 7) rfl rfl (by decide) rfl (fun ls hl => ?_)
                  refine lv_goto (tgt := 160) hx hb dX5_isSame_255 (by decide) ?_
                  exact (ih.2.2.1) NL adL m1 kc ks r0 r1 i2 i3 i4 r5 r6 (i7 + 1) _ _ _ hNN hE hc hs hO n_r0 n_r1 n_r5 n_r6 h hP hD hS (lv_sub hl (l' := [(0, .ref (adL r0)), (1, .ref (adL r1)), (2, .int i2), (3, .int i3), (4, .int i4), (5, .ref (adL r5)), (6, .ref (adL r6)), (7, .int (i7 + 1))]) [1, 2, 3, 4, 5, 6, 7, 0] rfl)
                · rw [if_neg c126] at h
                  refine lv_iconst (v := 0) hx hb dX5_isSame_250 (by decide) ?_
                  have hz := Option.some.inj h
                  refine W.widen (k := 11) (n := 99) hc hs ?_
                  exact W.zret (v := 0) (ty := .boolean) hx hb hr (by decide) (fun t ht hW => ⟨⟨_, (), rfl, by rw [← hz], by rw [← hz]; exact ⟨adL, hE, hNN, hO, by rw [ht]; exact hP, va_K.moved hW.alike hK, hD⟩⟩, hS.F ht⟩) hS.2.2 dX5_isSame_251
              · rw [if_pos c125] at h
                refine lv_aload hx hb dX5_isSame_233 (lv_at hl 5 rfl) ?_
                obtain ⟨y127, g128, h⟩ := vg_bind h
                have n_y127 := hO _ _ _ g128
                refine va_get (D := D) (ci := 4) (v := .ref (adL y127)) (C := RX4) (T := TX4) (N := 9) hx hb hts in_X5_isSame_X4 hown hK hP r5 (vW_k4 n_r5 g92) rfl 5 (by decide) (hts (.fieldLink RX5 57 "VaultDoorsLaw$Door" "asks" "[[I") (List.mem_of_getElem? (i := 6) rfl)) (fun _ h9 => h9) (by show some (va_rf (Option.map adL (mr m1 r5 5))) = _; rw [g128]; rfl) dX5_isSame_235 ?_
                refine lv_iload hx hb dX5_isSame_238 (lv_at hl 7 rfl) ?_
                obtain ⟨g129, h⟩ := vg_if h
                obtain ⟨g130, h⟩ := vg_if h
                obtain ⟨y131, g132, h⟩ := vg_bind h
                have n_y131 := hO _ _ _ g132
                refine wm_aald8 hx hb hK hP n_y127 g129 (i := i7) g130 dX5_isSame_240 ?_
                refine W.eq (g2 := F0 m 241 ls [.ref (adL y131), .int q122]) (by show F0 m 241 ls (va_rf (Option.map adL (mr m1 y127 i7.toNatClampNeg)) :: _) = _; rw [g132]; rfl) ?_
                refine lv_iconst (v := 2) hx hb dX5_isSame_241 (by decide) ?_
                obtain ⟨g133, h⟩ := vg_if h
                obtain ⟨g134, h⟩ := vg_if h
                refine va_iald (D := D) hx hb hK hP y131 0 (vW_k6 n_y131 g133) rfl (i := 2) g134 dX5_isSame_242 ?_
                refine W.eq (g2 := F0 m 243 ls [.int (mi m1 y131 2), .int q122]) rfl ?_
                refine lv_goto (tgt := 247) hx hb dX5_isSame_243 (by decide) ?_
                refine lv_icmp_eq (tgt := 252) hx hb dX5_isSame_247 (by decide) (fun c135 => ?_) (fun c135 => ?_)
                · rw [if_pos c135] at h
                  refine lv_iinc (v := i7 + 1) (lv' := [(7, .int (i7 + 1)), (0, .ref (adL r0)), (1, .ref (adL r1)), (2, .int i2), (3, .int i3), (4, .int i4), (5, .ref (adL r5)), (6, .ref (adL r6))]) hx hb dX5_isSame_252 hl (k := 7) rfl rfl (by decide) rfl (fun ls hl => ?_)
                  refine lv_goto (tgt := 160) hx hb dX5_isSame_255 (by decide) ?_
                  exact (ih.2.2.1) NL adL m1 kc ks r0 r1 i2 i3 i4 r5 r6 (i7 + 1) _ _ _ hNN hE hc hs hO n_r0 n_r1 n_r5 n_r6 h hP hD hS (lv_sub hl (l' := [(0, .ref (adL r0)), (1, .ref (adL r1)), (2, .int i2), (3, .int i3), (4, .int i4), (5, .ref (adL r5)), (6, .ref (adL r6)), (7, .int (i7 + 1))]) [1, 2, 3, 4, 5, 6, 7, 0] rfl)
                · rw [if_neg c135] at h
                  refine lv_iconst (v := 0) hx hb dX5_isSame_250 (by decide) ?_
                  have hz := Option.some.inj h
                  refine W.widen (k := 11) (n := 99) hc hs ?_
                  exact W.zret (v := 0) (ty := .boolean) hx hb hr (by decide) (fun t ht hW => ⟨⟨_, (), rfl, by rw [← hz], by rw [← hz]; exact ⟨adL, hE, hNN, hO, by rw [ht]; exact hP, va_K.moved hW.alike hK, hD⟩⟩, hS.F ht⟩) hS.2.2 dX5_isSame_251
      · intro NL adL m1 kc ks r0 r1 i2 i3 i4 H locs ls hNN hE hc hs hO n_r0 n_r1 h hP hD hS hl
        have h : fB_X5_isSame_289 (fL_X5_isSame n) NL m1 kc ks r0 r1 i2 i3 i4 0 0 0 0 0 = some z := h
        unfold fB_X5_isSame_289 at h
        refine lv_iload hx hb dX5_isSame_289 (lv_at hl 4 rfl) ?_
        refine lv_aload_n hx hb dX5_isSame_291 rfl (lv_at hl 0 rfl) ?_
        obtain ⟨g136, h⟩ := vg_if h
        obtain ⟨y137, g138, h⟩ := vg_bind h
        have n_y137 := hO _ _ _ g138
        refine va_get (D := D) (ci := 5) (v := .ref (adL y137)) (C := RX5) (T := TX5) (N := 4) hx hb hts in_X5_isSame_X5 hown hK hP r0 (vW_k5 n_r0 g136) rfl 1 (by decide) (hts (.fieldLink RX5 17 "VaultDoorsLaw$Sim" "voices" "[[I") (List.mem_of_getElem? (i := 10) rfl)) (fun _ h9 => h9) (by show some (va_rf (Option.map adL (mr m1 r0 1))) = _; rw [g138]; rfl) dX5_isSame_292 ?_
        obtain ⟨g139, h⟩ := vg_if h
        refine va_alen (D := D) hx hb hK hP y137 2 (vW_k8 n_y137 g139) rfl rfl dX5_isSame_295 ?_
        refine lv_icmp_ge (tgt := 343) hx hb dX5_isSame_296 (by decide) (fun c140 => ?_) (fun c140 => ?_)
        · rw [if_pos c140] at h
          refine lv_bipush (v := 9) hx hb dX5_isSame_343 (by decide) ?_
          obtain ⟨g141, h⟩ := vg_if h
          obtain ⟨g142, h⟩ := vg_if h
          refine wm_new6 (n := 9) (n' := 9) hx hb (hts (.arrayClass .int) (List.mem_of_getElem? (i := 2) rfl)) hO hK hP hD hS hA (by decide) (by decide) (Nat.le_of_ble_eq_true rfl) g141 g142 dX5_isSame_345 (fun ad143 H e144 hP hD hS => ?_)
          have hl : lv_has ls 8 [(0, .ref (ad143 r0)), (1, .ref (ad143 r1)), (2, .int i2), (3, .int i3), (4, .int i4)] := by rw [e144 r0 n_r0, e144 r1 n_r1]; exact hl
          have e145 : ∀ k, k < N → ad143 k = ad k := fun k hk => (e144 k (Nat.lt_of_lt_of_le hk hNN)).trans (hE k hk)
          have e146 : N ≤ (NL + 1) := Nat.le_trans hNN (Nat.le_succ _)
          have hO147 := vOK.N (k := 6) (n := 9) hO
          have n148 : r0 < (NL + 1) := Nat.lt_of_lt_of_le n_r0 (Nat.le_succ _)
          have n149 : r1 < (NL + 1) := Nat.lt_of_lt_of_le n_r1 (Nat.le_succ _)
          have n150 : y137 < (NL + 1) := Nat.lt_of_lt_of_le n_y137 (Nat.le_succ _)
          have hP : va_P D vwCl (vW tc ad143 ((NL + 1)) ((mN m1 NL 6 9))) H := hP
          have hD : va_D A (vW tc ad143 ((NL + 1)) ((mN m1 NL 6 9))) := hD
          refine lv_dup hx hb dX5_isSame_347 rfl ?_
          refine lv_iconst (v := 0) hx hb dX5_isSame_348 (by decide) ?_
          refine lv_aload_n hx hb dX5_isSame_349 rfl (lv_at hl 0 rfl) ?_
          refine va_get (D := D) (ci := 5) (v := .int (mi ((mN m1 NL 6 9)) r0 2)) (C := RX5) (T := TX5) (N := 4) hx hb hts in_X5_isSame_X5 hown hK hP r0 (vW_k5 n148 (mN_k2 (m := m1) (n := 9) n_r0 g136)) rfl 2 (by decide) (hts (.fieldLink RX5 86 "VaultDoorsLaw$Sim" "tick" "I") (List.mem_of_getElem? (i := 11) rfl)) (fun _ h9 => h9) rfl dX5_isSame_350 ?_
          obtain ⟨g151, h⟩ := vg_if h
          refine va_iast (D := D) hx hb hK hP hD hS NL 0 (vW_k6 (Nat.lt_succ_self _) (mN_k1 (m := m1) (n := 9))) rfl (i := 0) (x := mi ((mN m1 NL 6 9)) r0 2) g151 dX5_isSame_353 (fun H locs hP hD hS => ?_)
          rw [vW_p6 (m := ((mN m1 NL 6 9))) (Nat.lt_succ_self _) (mN_k1 (m := m1) (n := 9))] at hP hD
          have hO152 := vOK.I (a := NL) (j := 0) (v := (mi ((mN m1 NL 6 9)) r0 2)) hO147
          have hP : va_P D vwCl (vW tc ad143 ((NL + 1)) ((mI ((mN m1 NL 6 9)) NL 0 (mi ((mN m1 NL 6 9)) r0 2)))) H := hP
          have hD : va_D A (vW tc ad143 ((NL + 1)) ((mI ((mN m1 NL 6 9)) NL 0 (mi ((mN m1 NL 6 9)) r0 2)))) := hD
          refine lv_dup hx hb dX5_isSame_354 rfl ?_
          refine lv_iconst (v := 1) hx hb dX5_isSame_355 (by decide) ?_
          refine lv_aload_n hx hb dX5_isSame_356 rfl (lv_at hl 0 rfl) ?_
          obtain ⟨y153, g154, h⟩ := vg_bind h
          have n_y153 := hO152 _ _ _ g154
          refine va_get (D := D) (ci := 5) (v := .ref (ad143 y153)) (C := RX5) (T := TX5) (N := 4) hx hb hts in_X5_isSame_X5 hown hK hP r0 (vW_k5 n148 (mN_k2 (m := m1) (n := 9) n_r0 g136)) rfl 0 (by decide) (hts (.fieldLink RX5 9 "VaultDoorsLaw$Sim" "doors" "[LVaultDoorsLaw$Door;") (List.mem_of_getElem? (i := 1) rfl)) (fun _ h9 => h9) (by show some (va_rf (Option.map ad143 (mr ((mI ((mN m1 NL 6 9)) NL 0 (mi ((mN m1 NL 6 9)) r0 2))) r0 0))) = _; rw [g154]; rfl) dX5_isSame_357 ?_
          obtain ⟨g155, h⟩ := vg_if h
          refine va_alen (D := D) hx hb hK hP y153 3 (vW_k9 n_y153 g155) rfl rfl dX5_isSame_360 ?_
          obtain ⟨g156, h⟩ := vg_if h
          refine va_iast (D := D) hx hb hK hP hD hS NL 0 (vW_k6 (Nat.lt_succ_self _) (mN_k1 (m := m1) (n := 9))) rfl (i := 1) (x := Int32.ofNat (ml ((mI ((mN m1 NL 6 9)) NL 0 (mi ((mN m1 NL 6 9)) r0 2))) y153)) g156 dX5_isSame_361 (fun H locs hP hD hS => ?_)
          rw [vW_p6 (m := ((mI ((mN m1 NL 6 9)) NL 0 (mi ((mN m1 NL 6 9)) r0 2)))) (Nat.lt_succ_self _) (mN_k1 (m := m1) (n := 9))] at hP hD
          have hO157 := vOK.I (a := NL) (j := 1) (v := (Int32.ofNat (ml ((mI ((mN m1 NL 6 9)) NL 0 (mi ((mN m1 NL 6 9)) r0 2))) y153))) hO152
          have hP : va_P D vwCl (vW tc ad143 ((NL + 1)) ((mI ((mI ((mN m1 NL 6 9)) NL 0 (mi ((mN m1 NL 6 9)) r0 2))) NL 1 (Int32.ofNat (ml ((mI ((mN m1 NL 6 9)) NL 0 (mi ((mN m1 NL 6 9)) r0 2))) y153))))) H := hP
          have hD : va_D A (vW tc ad143 ((NL + 1)) ((mI ((mI ((mN m1 NL 6 9)) NL 0 (mi ((mN m1 NL 6 9)) r0 2))) NL 1 (Int32.ofNat (ml ((mI ((mN m1 NL 6 9)) NL 0 (mi ((mN m1 NL 6 9)) r0 2))) y153))))) := hD
          refine lv_dup hx hb dX5_isSame_362 rfl ?_
          refine lv_iconst (v := 2) hx hb dX5_isSame_363 (by decide) ?_
          refine lv_aload_n hx hb dX5_isSame_364 rfl (lv_at hl 0 rfl) ?_
          refine lv_iconst (v := 0) hx hb dX5_isSame_365 (by decide) ?_
          obtain ⟨q158, g159, h⟩ := vg_bind h
          refine va_calli (va_runV (As := [.int 0]) (rest := [.int 2, .ref (ad143 NL), .ref (ad143 NL)]) ⟨hx, hb, hml, hown, hts⟩ (cm_X5_with (m0 := (mI ((mI ((mN m1 NL 6 9)) NL 0 (mi ((mN m1 NL 6 9)) r0 2))) NL 1 (Int32.ofNat (ml ((mI ((mN m1 NL 6 9)) NL 0 (mi ((mN m1 NL 6 9)) r0 2))) y153)))) l D tc ad143 hO157 n148 g159) (cwV 1 hts gX5_isSame_X5_with rfl rfl rfl (by decide +kernel) ⟨(Nat.le_of_ble_eq_true rfl), (Nat.le_of_ble_eq_true rfl)⟩) ⟨qR_blind, va_recv hK hP (ci := 5) (q0 := r0) rfl (vW_k5 n148 (mN_k2 (m := m1) (n := 9) n_r0 g136)), qR_pre hP hK hZ⟩ rfl rfl hl.1 rfl (lv_room (Nat.le_of_ble_eq_true rfl)) dX5_isSame_366 ⟨g141, g142⟩) hS (fun q9 _ h9 => h9.elim) (fun q9 h9 => h9.elim) (fun w160 u t H1 locs ht hvm hw hB hz1 hk1 hS => ?_)
          have hP := hP.kept (fun k9 q9 hk9 => hk1 q9.1 (hP k9 q9 hk9).lt (fun h9 => h9))
          generalize H1 = H at hP hS ⊢
          clear hk1 hz1 ht hvm
          have hw : w160 = q158 := hw
          rw [hw]
          obtain ⟨g161, h⟩ := vg_if h
          refine va_iast (D := D) hx hb hK hP hD hS NL 0 (vW_k6 (Nat.lt_succ_self _) (mN_k1 (m := m1) (n := 9))) rfl (i := 2) (x := q158) g161 dX5_isSame_369 (fun H locs hP hD hS => ?_)
          rw [vW_p6 (m := ((mI ((mI ((mN m1 NL 6 9)) NL 0 (mi ((mN m1 NL 6 9)) r0 2))) NL 1 (Int32.ofNat (ml ((mI ((mN m1 NL 6 9)) NL 0 (mi ((mN m1 NL 6 9)) r0 2))) y153))))) (Nat.lt_succ_self _) (mN_k1 (m := m1) (n := 9))] at hP hD
          have hO162 := vOK.I (a := NL) (j := 2) (v := q158) hO157
          have hP : va_P D vwCl (vW tc ad143 ((NL + 1)) ((mI ((mI ((mI ((mN m1 NL 6 9)) NL 0 (mi ((mN m1 NL 6 9)) r0 2))) NL 1 (Int32.ofNat (ml ((mI ((mN m1 NL 6 9)) NL 0 (mi ((mN m1 NL 6 9)) r0 2))) y153)))) NL 2 q158))) H := hP
          have hD : va_D A (vW tc ad143 ((NL + 1)) ((mI ((mI ((mI ((mN m1 NL 6 9)) NL 0 (mi ((mN m1 NL 6 9)) r0 2))) NL 1 (Int32.ofNat (ml ((mI ((mN m1 NL 6 9)) NL 0 (mi ((mN m1 NL 6 9)) r0 2))) y153)))) NL 2 q158))) := hD
          refine lv_dup hx hb dX5_isSame_370 rfl ?_
          refine lv_iconst (v := 3) hx hb dX5_isSame_371 (by decide) ?_
          refine lv_aload_n hx hb dX5_isSame_372 rfl (lv_at hl 0 rfl) ?_
          refine lv_iconst (v := 1) hx hb dX5_isSame_373 (by decide) ?_
          obtain ⟨q163, g164, h⟩ := vg_bind h
          refine va_calli (va_runV (As := [.int 1]) (rest := [.int 3, .ref (ad143 NL), .ref (ad143 NL)]) ⟨hx, hb, hml, hown, hts⟩ (cm_X5_with (m0 := (mI ((mI ((mI ((mN m1 NL 6 9)) NL 0 (mi ((mN m1 NL 6 9)) r0 2))) NL 1 (Int32.ofNat (ml ((mI ((mN m1 NL 6 9)) NL 0 (mi ((mN m1 NL 6 9)) r0 2))) y153)))) NL 2 q158)) l D tc ad143 hO162 n148 g164) (cwV 1 hts gX5_isSame_X5_with rfl rfl rfl (by decide +kernel) ⟨(Nat.le_of_ble_eq_true rfl), (Nat.le_of_ble_eq_true rfl)⟩) ⟨qR_blind, va_recv hK hP (ci := 5) (q0 := r0) rfl (vW_k5 n148 (mN_k2 (m := m1) (n := 9) n_r0 g136)), qR_pre hP hK hZ⟩ rfl rfl hl.1 rfl (lv_room (Nat.le_of_ble_eq_true rfl)) dX5_isSame_374 ⟨g141, g142⟩) hS (fun q9 _ h9 => h9.elim) (fun q9 h9 => h9.elim) (fun w165 u t H1 locs ht hvm hw hB hz1 hk1 hS => ?_)
          have hP := hP.kept (fun k9 q9 hk9 => hk1 q9.1 (hP k9 q9 hk9).lt (fun h9 => h9))
          generalize H1 = H at hP hS ⊢
          clear hk1 hz1 ht hvm
          have hw : w165 = q163 := hw
          rw [hw]
          obtain ⟨g166, h⟩ := vg_if h
          refine va_iast (D := D) hx hb hK hP hD hS NL 0 (vW_k6 (Nat.lt_succ_self _) (mN_k1 (m := m1) (n := 9))) rfl (i := 3) (x := q163) g166 dX5_isSame_377 (fun H locs hP hD hS => ?_)
          rw [vW_p6 (m := ((mI ((mI ((mI ((mN m1 NL 6 9)) NL 0 (mi ((mN m1 NL 6 9)) r0 2))) NL 1 (Int32.ofNat (ml ((mI ((mN m1 NL 6 9)) NL 0 (mi ((mN m1 NL 6 9)) r0 2))) y153)))) NL 2 q158))) (Nat.lt_succ_self _) (mN_k1 (m := m1) (n := 9))] at hP hD
          have hO167 := vOK.I (a := NL) (j := 3) (v := q163) hO162
          have hP : va_P D vwCl (vW tc ad143 ((NL + 1)) ((mI ((mI ((mI ((mI ((mN m1 NL 6 9)) NL 0 (mi ((mN m1 NL 6 9)) r0 2))) NL 1 (Int32.ofNat (ml ((mI ((mN m1 NL 6 9)) NL 0 (mi ((mN m1 NL 6 9)) r0 2))) y153)))) NL 2 q158)) NL 3 q163))) H := hP
          have hD : va_D A (vW tc ad143 ((NL + 1)) ((mI ((mI ((mI ((mI ((mN m1 NL 6 9)) NL 0 (mi ((mN m1 NL 6 9)) r0 2))) NL 1 (Int32.ofNat (ml ((mI ((mN m1 NL 6 9)) NL 0 (mi ((mN m1 NL 6 9)) r0 2))) y153)))) NL 2 q158)) NL 3 q163))) := hD
          refine lv_dup hx hb dX5_isSame_378 rfl ?_
          refine lv_iconst (v := 4) hx hb dX5_isSame_379 (by decide) ?_
          refine lv_aload_n hx hb dX5_isSame_380 rfl (lv_at hl 0 rfl) ?_
          refine lv_iconst (v := 2) hx hb dX5_isSame_381 (by decide) ?_
          obtain ⟨q168, g169, h⟩ := vg_bind h
          refine va_calli (va_runV (As := [.int 2]) (rest := [.int 4, .ref (ad143 NL), .ref (ad143 NL)]) ⟨hx, hb, hml, hown, hts⟩ (cm_X5_with (m0 := (mI ((mI ((mI ((mI ((mN m1 NL 6 9)) NL 0 (mi ((mN m1 NL 6 9)) r0 2))) NL 1 (Int32.ofNat (ml ((mI ((mN m1 NL 6 9)) NL 0 (mi ((mN m1 NL 6 9)) r0 2))) y153)))) NL 2 q158)) NL 3 q163)) l D tc ad143 hO167 n148 g169) (cwV 1 hts gX5_isSame_X5_with rfl rfl rfl (by decide +kernel) ⟨(Nat.le_of_ble_eq_true rfl), (Nat.le_of_ble_eq_true rfl)⟩) ⟨qR_blind, va_recv hK hP (ci := 5) (q0 := r0) rfl (vW_k5 n148 (mN_k2 (m := m1) (n := 9) n_r0 g136)), qR_pre hP hK hZ⟩ rfl rfl hl.1 rfl (lv_room (Nat.le_of_ble_eq_true rfl)) dX5_isSame_382 ⟨g141, g142⟩) hS (fun q9 _ h9 => h9.elim) (fun q9 h9 => h9.elim) (fun w170 u t H1 locs ht hvm hw hB hz1 hk1 hS => ?_)
          have hP := hP.kept (fun k9 q9 hk9 => hk1 q9.1 (hP k9 q9 hk9).lt (fun h9 => h9))
          generalize H1 = H at hP hS ⊢
          clear hk1 hz1 ht hvm
          have hw : w170 = q168 := hw
          rw [hw]
          obtain ⟨g171, h⟩ := vg_if h
          refine va_iast (D := D) hx hb hK hP hD hS NL 0 (vW_k6 (Nat.lt_succ_self _) (mN_k1 (m := m1) (n := 9))) rfl (i := 4) (x := q168) g171 dX5_isSame_385 (fun H locs hP hD hS => ?_)
          rw [vW_p6 (m := ((mI ((mI ((mI ((mI ((mN m1 NL 6 9)) NL 0 (mi ((mN m1 NL 6 9)) r0 2))) NL 1 (Int32.ofNat (ml ((mI ((mN m1 NL 6 9)) NL 0 (mi ((mN m1 NL 6 9)) r0 2))) y153)))) NL 2 q158)) NL 3 q163))) (Nat.lt_succ_self _) (mN_k1 (m := m1) (n := 9))] at hP hD
          have hO172 := vOK.I (a := NL) (j := 4) (v := q168) hO167
          have hP : va_P D vwCl (vW tc ad143 ((NL + 1)) ((mI ((mI ((mI ((mI ((mI ((mN m1 NL 6 9)) NL 0 (mi ((mN m1 NL 6 9)) r0 2))) NL 1 (Int32.ofNat (ml ((mI ((mN m1 NL 6 9)) NL 0 (mi ((mN m1 NL 6 9)) r0 2))) y153)))) NL 2 q158)) NL 3 q163)) NL 4 q168))) H := hP
          have hD : va_D A (vW tc ad143 ((NL + 1)) ((mI ((mI ((mI ((mI ((mI ((mN m1 NL 6 9)) NL 0 (mi ((mN m1 NL 6 9)) r0 2))) NL 1 (Int32.ofNat (ml ((mI ((mN m1 NL 6 9)) NL 0 (mi ((mN m1 NL 6 9)) r0 2))) y153)))) NL 2 q158)) NL 3 q163)) NL 4 q168))) := hD
          refine lv_dup hx hb dX5_isSame_386 rfl ?_
          refine lv_iconst (v := 5) hx hb dX5_isSame_387 (by decide) ?_
          refine lv_aload_n hx hb dX5_isSame_388 rfl (lv_at hl 0 rfl) ?_
          refine lv_iconst (v := 3) hx hb dX5_isSame_389 (by decide) ?_
          obtain ⟨q173, g174, h⟩ := vg_bind h
          refine va_calli (va_runV (As := [.int 3]) (rest := [.int 5, .ref (ad143 NL), .ref (ad143 NL)]) ⟨hx, hb, hml, hown, hts⟩ (cm_X5_with (m0 := (mI ((mI ((mI ((mI ((mI ((mN m1 NL 6 9)) NL 0 (mi ((mN m1 NL 6 9)) r0 2))) NL 1 (Int32.ofNat (ml ((mI ((mN m1 NL 6 9)) NL 0 (mi ((mN m1 NL 6 9)) r0 2))) y153)))) NL 2 q158)) NL 3 q163)) NL 4 q168)) l D tc ad143 hO172 n148 g174) (cwV 1 hts gX5_isSame_X5_with rfl rfl rfl (by decide +kernel) ⟨(Nat.le_of_ble_eq_true rfl), (Nat.le_of_ble_eq_true rfl)⟩) ⟨qR_blind, va_recv hK hP (ci := 5) (q0 := r0) rfl (vW_k5 n148 (mN_k2 (m := m1) (n := 9) n_r0 g136)), qR_pre hP hK hZ⟩ rfl rfl hl.1 rfl (lv_room (Nat.le_of_ble_eq_true rfl)) dX5_isSame_390 ⟨g141, g142⟩) hS (fun q9 _ h9 => h9.elim) (fun q9 h9 => h9.elim) (fun w175 u t H1 locs ht hvm hw hB hz1 hk1 hS => ?_)
          have hP := hP.kept (fun k9 q9 hk9 => hk1 q9.1 (hP k9 q9 hk9).lt (fun h9 => h9))
          generalize H1 = H at hP hS ⊢
          clear hk1 hz1 ht hvm
          have hw : w175 = q173 := hw
          rw [hw]
          obtain ⟨g176, h⟩ := vg_if h
          refine va_iast (D := D) hx hb hK hP hD hS NL 0 (vW_k6 (Nat.lt_succ_self _) (mN_k1 (m := m1) (n := 9))) rfl (i := 5) (x := q173) g176 dX5_isSame_393 (fun H locs hP hD hS => ?_)
          rw [vW_p6 (m := ((mI ((mI ((mI ((mI ((mI ((mN m1 NL 6 9)) NL 0 (mi ((mN m1 NL 6 9)) r0 2))) NL 1 (Int32.ofNat (ml ((mI ((mN m1 NL 6 9)) NL 0 (mi ((mN m1 NL 6 9)) r0 2))) y153)))) NL 2 q158)) NL 3 q163)) NL 4 q168))) (Nat.lt_succ_self _) (mN_k1 (m := m1) (n := 9))] at hP hD
          have hO177 := vOK.I (a := NL) (j := 5) (v := q173) hO172
          have hP : va_P D vwCl (vW tc ad143 ((NL + 1)) ((mI ((mI ((mI ((mI ((mI ((mI ((mN m1 NL 6 9)) NL 0 (mi ((mN m1 NL 6 9)) r0 2))) NL 1 (Int32.ofNat (ml ((mI ((mN m1 NL 6 9)) NL 0 (mi ((mN m1 NL 6 9)) r0 2))) y153)))) NL 2 q158)) NL 3 q163)) NL 4 q168)) NL 5 q173))) H := hP
          have hD : va_D A (vW tc ad143 ((NL + 1)) ((mI ((mI ((mI ((mI ((mI ((mI ((mN m1 NL 6 9)) NL 0 (mi ((mN m1 NL 6 9)) r0 2))) NL 1 (Int32.ofNat (ml ((mI ((mN m1 NL 6 9)) NL 0 (mi ((mN m1 NL 6 9)) r0 2))) y153)))) NL 2 q158)) NL 3 q163)) NL 4 q168)) NL 5 q173))) := hD
          refine lv_dup hx hb dX5_isSame_394 rfl ?_
          refine lv_bipush (v := 6) hx hb dX5_isSame_395 (by decide) ?_
          refine lv_aload_n hx hb dX5_isSame_397 rfl (lv_at hl 0 rfl) ?_
          obtain ⟨y178, g179, h⟩ := vg_bind h
          have n_y178 := hO177 _ _ _ g179
          refine va_get (D := D) (ci := 5) (v := .ref (ad143 y178)) (C := RX5) (T := TX5) (N := 4) hx hb hts in_X5_isSame_X5 hown hK hP r0 (vW_k5 n148 (mN_k2 (m := m1) (n := 9) n_r0 g136)) rfl 1 (by decide) (hts (.fieldLink RX5 17 "VaultDoorsLaw$Sim" "voices" "[[I") (List.mem_of_getElem? (i := 10) rfl)) (fun _ h9 => h9) (by show some (va_rf (Option.map ad143 (mr ((mI ((mI ((mI ((mI ((mI ((mI ((mN m1 NL 6 9)) NL 0 (mi ((mN m1 NL 6 9)) r0 2))) NL 1 (Int32.ofNat (ml ((mI ((mN m1 NL 6 9)) NL 0 (mi ((mN m1 NL 6 9)) r0 2))) y153)))) NL 2 q158)) NL 3 q163)) NL 4 q168)) NL 5 q173)) r0 1))) = _; rw [g179]; rfl) dX5_isSame_398 ?_
          obtain ⟨g180, h⟩ := vg_if h
          refine va_alen (D := D) hx hb hK hP y178 2 (vW_k8 n_y178 g180) rfl rfl dX5_isSame_401 ?_
          obtain ⟨g181, h⟩ := vg_if h
          refine va_iast (D := D) hx hb hK hP hD hS NL 0 (vW_k6 (Nat.lt_succ_self _) (mN_k1 (m := m1) (n := 9))) rfl (i := 6) (x := Int32.ofNat (ml ((mI ((mI ((mI ((mI ((mI ((mI ((mN m1 NL 6 9)) NL 0 (mi ((mN m1 NL 6 9)) r0 2))) NL 1 (Int32.ofNat (ml ((mI ((mN m1 NL 6 9)) NL 0 (mi ((mN m1 NL 6 9)) r0 2))) y153)))) NL 2 q158)) NL 3 q163)) NL 4 q168)) NL 5 q173)) y178)) g181 dX5_isSame_402 (fun H locs hP hD hS => ?_)
          rw [vW_p6 (m := ((mI ((mI ((mI ((mI ((mI ((mI ((mN m1 NL 6 9)) NL 0 (mi ((mN m1 NL 6 9)) r0 2))) NL 1 (Int32.ofNat (ml ((mI ((mN m1 NL 6 9)) NL 0 (mi ((mN m1 NL 6 9)) r0 2))) y153)))) NL 2 q158)) NL 3 q163)) NL 4 q168)) NL 5 q173))) (Nat.lt_succ_self _) (mN_k1 (m := m1) (n := 9))] at hP hD
          have hO182 := vOK.I (a := NL) (j := 6) (v := (Int32.ofNat (ml ((mI ((mI ((mI ((mI ((mI ((mI ((mN m1 NL 6 9)) NL 0 (mi ((mN m1 NL 6 9)) r0 2))) NL 1 (Int32.ofNat (ml ((mI ((mN m1 NL 6 9)) NL 0 (mi ((mN m1 NL 6 9)) r0 2))) y153)))) NL 2 q158)) NL 3 q163)) NL 4 q168)) NL 5 q173)) y178))) hO177
          have hP : va_P D vwCl (vW tc ad143 ((NL + 1)) ((mI ((mI ((mI ((mI ((mI ((mI ((mI ((mN m1 NL 6 9)) NL 0 (mi ((mN m1 NL 6 9)) r0 2))) NL 1 (Int32.ofNat (ml ((mI ((mN m1 NL 6 9)) NL 0 (mi ((mN m1 NL 6 9)) r0 2))) y153)))) NL 2 q158)) NL 3 q163)) NL 4 q168)) NL 5 q173)) NL 6 (Int32.ofNat (ml ((mI ((mI ((mI ((mI ((mI ((mI ((mN m1 NL 6 9)) NL 0 (mi ((mN m1 NL 6 9)) r0 2))) NL 1 (Int32.ofNat (ml ((mI ((mN m1 NL 6 9)) NL 0 (mi ((mN m1 NL 6 9)) r0 2))) y153)))) NL 2 q158)) NL 3 q163)) NL 4 q168)) NL 5 q173)) y178))))) H := hP
          have hD : va_D A (vW tc ad143 ((NL + 1)) ((mI ((mI ((mI ((mI ((mI ((mI ((mI ((mN m1 NL 6 9)) NL 0 (mi ((mN m1 NL 6 9)) r0 2))) NL 1 (Int32.ofNat (ml ((mI ((mN m1 NL 6 9)) NL 0 (mi ((mN m1 NL 6 9)) r0 2))) y153)))) NL 2 q158)) NL 3 q163)) NL 4 q168)) NL 5 q173)) NL 6 (Int32.ofNat (ml ((mI ((mI ((mI ((mI ((mI ((mI ((mN m1 NL 6 9)) NL 0 (mi ((mN m1 NL 6 9)) r0 2))) NL 1 (Int32.ofNat (ml ((mI ((mN m1 NL 6 9)) NL 0 (mi ((mN m1 NL 6 9)) r0 2))) y153)))) NL 2 q158)) NL 3 q163)) NL 4 q168)) NL 5 q173)) y178))))) := hD
          refine lv_dup hx hb dX5_isSame_403 rfl ?_
          refine lv_bipush (v := 7) hx hb dX5_isSame_404 (by decide) ?_
          refine lv_aload_n hx hb dX5_isSame_406 rfl (lv_at hl 0 rfl) ?_
          refine va_get (D := D) (ci := 5) (v := .int (mi ((mI ((mI ((mI ((mI ((mI ((mI ((mI ((mN m1 NL 6 9)) NL 0 (mi ((mN m1 NL 6 9)) r0 2))) NL 1 (Int32.ofNat (ml ((mI ((mN m1 NL 6 9)) NL 0 (mi ((mN m1 NL 6 9)) r0 2))) y153)))) NL 2 q158)) NL 3 q163)) NL 4 q168)) NL 5 q173)) NL 6 (Int32.ofNat (ml ((mI ((mI ((mI ((mI ((mI ((mI ((mN m1 NL 6 9)) NL 0 (mi ((mN m1 NL 6 9)) r0 2))) NL 1 (Int32.ofNat (ml ((mI ((mN m1 NL 6 9)) NL 0 (mi ((mN m1 NL 6 9)) r0 2))) y153)))) NL 2 q158)) NL 3 q163)) NL 4 q168)) NL 5 q173)) y178)))) r0 3)) (C := RX5) (T := TX5) (N := 4) hx hb hts in_X5_isSame_X5 hown hK hP r0 (vW_k5 n148 (mN_k2 (m := m1) (n := 9) n_r0 g136)) rfl 3 (by decide) (hts (.fieldLink RX5 45 "VaultDoorsLaw$Sim" "lost" "I") (List.mem_of_getElem? (i := 12) rfl)) (fun _ h9 => h9) rfl dX5_isSame_407 ?_
          obtain ⟨g183, h⟩ := vg_if h
          refine va_iast (D := D) hx hb hK hP hD hS NL 0 (vW_k6 (Nat.lt_succ_self _) (mN_k1 (m := m1) (n := 9))) rfl (i := 7) (x := mi ((mI ((mI ((mI ((mI ((mI ((mI ((mI ((mN m1 NL 6 9)) NL 0 (mi ((mN m1 NL 6 9)) r0 2))) NL 1 (Int32.ofNat (ml ((mI ((mN m1 NL 6 9)) NL 0 (mi ((mN m1 NL 6 9)) r0 2))) y153)))) NL 2 q158)) NL 3 q163)) NL 4 q168)) NL 5 q173)) NL 6 (Int32.ofNat (ml ((mI ((mI ((mI ((mI ((mI ((mI ((mN m1 NL 6 9)) NL 0 (mi ((mN m1 NL 6 9)) r0 2))) NL 1 (Int32.ofNat (ml ((mI ((mN m1 NL 6 9)) NL 0 (mi ((mN m1 NL 6 9)) r0 2))) y153)))) NL 2 q158)) NL 3 q163)) NL 4 q168)) NL 5 q173)) y178)))) r0 3) g183 dX5_isSame_410 (fun H locs hP hD hS => ?_)
          rw [vW_p6 (m := ((mI ((mI ((mI ((mI ((mI ((mI ((mI ((mN m1 NL 6 9)) NL 0 (mi ((mN m1 NL 6 9)) r0 2))) NL 1 (Int32.ofNat (ml ((mI ((mN m1 NL 6 9)) NL 0 (mi ((mN m1 NL 6 9)) r0 2))) y153)))) NL 2 q158)) NL 3 q163)) NL 4 q168)) NL 5 q173)) NL 6 (Int32.ofNat (ml ((mI ((mI ((mI ((mI ((mI ((mI ((mN m1 NL 6 9)) NL 0 (mi ((mN m1 NL 6 9)) r0 2))) NL 1 (Int32.ofNat (ml ((mI ((mN m1 NL 6 9)) NL 0 (mi ((mN m1 NL 6 9)) r0 2))) y153)))) NL 2 q158)) NL 3 q163)) NL 4 q168)) NL 5 q173)) y178))))) (Nat.lt_succ_self _) (mN_k1 (m := m1) (n := 9))] at hP hD
          have hO184 := vOK.I (a := NL) (j := 7) (v := (mi ((mI ((mI ((mI ((mI ((mI ((mI ((mI ((mN m1 NL 6 9)) NL 0 (mi ((mN m1 NL 6 9)) r0 2))) NL 1 (Int32.ofNat (ml ((mI ((mN m1 NL 6 9)) NL 0 (mi ((mN m1 NL 6 9)) r0 2))) y153)))) NL 2 q158)) NL 3 q163)) NL 4 q168)) NL 5 q173)) NL 6 (Int32.ofNat (ml ((mI ((mI ((mI ((mI ((mI ((mI ((mN m1 NL 6 9)) NL 0 (mi ((mN m1 NL 6 9)) r0 2))) NL 1 (Int32.ofNat (ml ((mI ((mN m1 NL 6 9)) NL 0 (mi ((mN m1 NL 6 9)) r0 2))) y153)))) NL 2 q158)) NL 3 q163)) NL 4 q168)) NL 5 q173)) y178)))) r0 3)) hO182
          have hP : va_P D vwCl (vW tc ad143 ((NL + 1)) ((mI ((mI ((mI ((mI ((mI ((mI ((mI ((mI ((mN m1 NL 6 9)) NL 0 (mi ((mN m1 NL 6 9)) r0 2))) NL 1 (Int32.ofNat (ml ((mI ((mN m1 NL 6 9)) NL 0 (mi ((mN m1 NL 6 9)) r0 2))) y153)))) NL 2 q158)) NL 3 q163)) NL 4 q168)) NL 5 q173)) NL 6 (Int32.ofNat (ml ((mI ((mI ((mI ((mI ((mI ((mI ((mN m1 NL 6 9)) NL 0 (mi ((mN m1 NL 6 9)) r0 2))) NL 1 (Int32.ofNat (ml ((mI ((mN m1 NL 6 9)) NL 0 (mi ((mN m1 NL 6 9)) r0 2))) y153)))) NL 2 q158)) NL 3 q163)) NL 4 q168)) NL 5 q173)) y178)))) NL 7 (mi ((mI ((mI ((mI ((mI ((mI ((mI ((mI ((mN m1 NL 6 9)) NL 0 (mi ((mN m1 NL 6 9)) r0 2))) NL 1 (Int32.ofNat (ml ((mI ((mN m1 NL 6 9)) NL 0 (mi ((mN m1 NL 6 9)) r0 2))) y153)))) NL 2 q158)) NL 3 q163)) NL 4 q168)) NL 5 q173)) NL 6 (Int32.ofNat (ml ((mI ((mI ((mI ((mI ((mI ((mI ((mN m1 NL 6 9)) NL 0 (mi ((mN m1 NL 6 9)) r0 2))) NL 1 (Int32.ofNat (ml ((mI ((mN m1 NL 6 9)) NL 0 (mi ((mN m1 NL 6 9)) r0 2))) y153)))) NL 2 q158)) NL 3 q163)) NL 4 q168)) NL 5 q173)) y178)))) r0 3)))) H := hP
          have hD : va_D A (vW tc ad143 ((NL + 1)) ((mI ((mI ((mI ((mI ((mI ((mI ((mI ((mI ((mN m1 NL 6 9)) NL 0 (mi ((mN m1 NL 6 9)) r0 2))) NL 1 (Int32.ofNat (ml ((mI ((mN m1 NL 6 9)) NL 0 (mi ((mN m1 NL 6 9)) r0 2))) y153)))) NL 2 q158)) NL 3 q163)) NL 4 q168)) NL 5 q173)) NL 6 (Int32.ofNat (ml ((mI ((mI ((mI ((mI ((mI ((mI ((mN m1 NL 6 9)) NL 0 (mi ((mN m1 NL 6 9)) r0 2))) NL 1 (Int32.ofNat (ml ((mI ((mN m1 NL 6 9)) NL 0 (mi ((mN m1 NL 6 9)) r0 2))) y153)))) NL 2 q158)) NL 3 q163)) NL 4 q168)) NL 5 q173)) y178)))) NL 7 (mi ((mI ((mI ((mI ((mI ((mI ((mI ((mI ((mN m1 NL 6 9)) NL 0 (mi ((mN m1 NL 6 9)) r0 2))) NL 1 (Int32.ofNat (ml ((mI ((mN m1 NL 6 9)) NL 0 (mi ((mN m1 NL 6 9)) r0 2))) y153)))) NL 2 q158)) NL 3 q163)) NL 4 q168)) NL 5 q173)) NL 6 (Int32.ofNat (ml ((mI ((mI ((mI ((mI ((mI ((mI ((mN m1 NL 6 9)) NL 0 (mi ((mN m1 NL 6 9)) r0 2))) NL 1 (Int32.ofNat (ml ((mI ((mN m1 NL 6 9)) NL 0 (mi ((mN m1 NL 6 9)) r0 2))) y153)))) NL 2 q158)) NL 3 q163)) NL 4 q168)) NL 5 q173)) y178)))) r0 3)))) := hD
          refine lv_dup hx hb dX5_isSame_411 rfl ?_
          refine lv_bipush (v := 8) hx hb dX5_isSame_412 (by decide) ?_
          refine lv_aload_n hx hb dX5_isSame_414 rfl (lv_at hl 0 rfl) ?_
          obtain ⟨q185, g186, h⟩ := vg_bind h
          refine va_calli (va_runV (As := []) (rest := [.int 8, .ref (ad143 NL), .ref (ad143 NL)]) ⟨hx, hb, hml, hown, hts⟩ (cm_X5_open (m0 := (mI ((mI ((mI ((mI ((mI ((mI ((mI ((mI ((mN m1 NL 6 9)) NL 0 (mi ((mN m1 NL 6 9)) r0 2))) NL 1 (Int32.ofNat (ml ((mI ((mN m1 NL 6 9)) NL 0 (mi ((mN m1 NL 6 9)) r0 2))) y153)))) NL 2 q158)) NL 3 q163)) NL 4 q168)) NL 5 q173)) NL 6 (Int32.ofNat (ml ((mI ((mI ((mI ((mI ((mI ((mI ((mN m1 NL 6 9)) NL 0 (mi ((mN m1 NL 6 9)) r0 2))) NL 1 (Int32.ofNat (ml ((mI ((mN m1 NL 6 9)) NL 0 (mi ((mN m1 NL 6 9)) r0 2))) y153)))) NL 2 q158)) NL 3 q163)) NL 4 q168)) NL 5 q173)) y178)))) NL 7 (mi ((mI ((mI ((mI ((mI ((mI ((mI ((mI ((mN m1 NL 6 9)) NL 0 (mi ((mN m1 NL 6 9)) r0 2))) NL 1 (Int32.ofNat (ml ((mI ((mN m1 NL 6 9)) NL 0 (mi ((mN m1 NL 6 9)) r0 2))) y153)))) NL 2 q158)) NL 3 q163)) NL 4 q168)) NL 5 q173)) NL 6 (Int32.ofNat (ml ((mI ((mI ((mI ((mI ((mI ((mI ((mN m1 NL 6 9)) NL 0 (mi ((mN m1 NL 6 9)) r0 2))) NL 1 (Int32.ofNat (ml ((mI ((mN m1 NL 6 9)) NL 0 (mi ((mN m1 NL 6 9)) r0 2))) y153)))) NL 2 q158)) NL 3 q163)) NL 4 q168)) NL 5 q173)) y178)))) r0 3))) l D tc ad143 hO184 n148 g186) (cwV 0 hts gX5_isSame_X5_open rfl rfl rfl (by decide +kernel) ⟨(Nat.le_of_ble_eq_true rfl), (Nat.le_of_ble_eq_true rfl)⟩) ⟨qR_blind, va_recv hK hP (ci := 5) (q0 := r0) rfl (vW_k5 n148 (mN_k2 (m := m1) (n := 9) n_r0 g136)), qR_pre hP hK hZ⟩ rfl rfl hl.1 rfl (lv_room (Nat.le_of_ble_eq_true rfl)) dX5_isSame_415 ⟨g141, g142⟩) hS (fun q9 _ h9 => h9.elim) (fun q9 h9 => h9.elim) (fun w187 u t H1 locs ht hvm hw hB hz1 hk1 hS => ?_)
          have hP := hP.kept (fun k9 q9 hk9 => hk1 q9.1 (hP k9 q9 hk9).lt (fun h9 => h9))
          generalize H1 = H at hP hS ⊢
          clear hk1 hz1 ht hvm
          have hw : w187 = q185 := hw
          rw [hw]
          obtain ⟨g188, h⟩ := vg_if h
          refine va_iast (D := D) hx hb hK hP hD hS NL 0 (vW_k6 (Nat.lt_succ_self _) (mN_k1 (m := m1) (n := 9))) rfl (i := 8) (x := q185) g188 dX5_isSame_418 (fun H locs hP hD hS => ?_)
          rw [vW_p6 (m := ((mI ((mI ((mI ((mI ((mI ((mI ((mI ((mI ((mN m1 NL 6 9)) NL 0 (mi ((mN m1 NL 6 9)) r0 2))) NL 1 (Int32.ofNat (ml ((mI ((mN m1 NL 6 9)) NL 0 (mi ((mN m1 NL 6 9)) r0 2))) y153)))) NL 2 q158)) NL 3 q163)) NL 4 q168)) NL 5 q173)) NL 6 (Int32.ofNat (ml ((mI ((mI ((mI ((mI ((mI ((mI ((mN m1 NL 6 9)) NL 0 (mi ((mN m1 NL 6 9)) r0 2))) NL 1 (Int32.ofNat (ml ((mI ((mN m1 NL 6 9)) NL 0 (mi ((mN m1 NL 6 9)) r0 2))) y153)))) NL 2 q158)) NL 3 q163)) NL 4 q168)) NL 5 q173)) y178)))) NL 7 (mi ((mI ((mI ((mI ((mI ((mI ((mI ((mI ((mN m1 NL 6 9)) NL 0 (mi ((mN m1 NL 6 9)) r0 2))) NL 1 (Int32.ofNat (ml ((mI ((mN m1 NL 6 9)) NL 0 (mi ((mN m1 NL 6 9)) r0 2))) y153)))) NL 2 q158)) NL 3 q163)) NL 4 q168)) NL 5 q173)) NL 6 (Int32.ofNat (ml ((mI ((mI ((mI ((mI ((mI ((mI ((mN m1 NL 6 9)) NL 0 (mi ((mN m1 NL 6 9)) r0 2))) NL 1 (Int32.ofNat (ml ((mI ((mN m1 NL 6 9)) NL 0 (mi ((mN m1 NL 6 9)) r0 2))) y153)))) NL 2 q158)) NL 3 q163)) NL 4 q168)) NL 5 q173)) y178)))) r0 3)))) (Nat.lt_succ_self _) (mN_k1 (m := m1) (n := 9))] at hP hD
          have hO189 := vOK.I (a := NL) (j := 8) (v := q185) hO184
          have hP : va_P D vwCl (vW tc ad143 ((NL + 1)) ((mI ((mI ((mI ((mI ((mI ((mI ((mI ((mI ((mI ((mN m1 NL 6 9)) NL 0 (mi ((mN m1 NL 6 9)) r0 2))) NL 1 (Int32.ofNat (ml ((mI ((mN m1 NL 6 9)) NL 0 (mi ((mN m1 NL 6 9)) r0 2))) y153)))) NL 2 q158)) NL 3 q163)) NL 4 q168)) NL 5 q173)) NL 6 (Int32.ofNat (ml ((mI ((mI ((mI ((mI ((mI ((mI ((mN m1 NL 6 9)) NL 0 (mi ((mN m1 NL 6 9)) r0 2))) NL 1 (Int32.ofNat (ml ((mI ((mN m1 NL 6 9)) NL 0 (mi ((mN m1 NL 6 9)) r0 2))) y153)))) NL 2 q158)) NL 3 q163)) NL 4 q168)) NL 5 q173)) y178)))) NL 7 (mi ((mI ((mI ((mI ((mI ((mI ((mI ((mI ((mN m1 NL 6 9)) NL 0 (mi ((mN m1 NL 6 9)) r0 2))) NL 1 (Int32.ofNat (ml ((mI ((mN m1 NL 6 9)) NL 0 (mi ((mN m1 NL 6 9)) r0 2))) y153)))) NL 2 q158)) NL 3 q163)) NL 4 q168)) NL 5 q173)) NL 6 (Int32.ofNat (ml ((mI ((mI ((mI ((mI ((mI ((mI ((mN m1 NL 6 9)) NL 0 (mi ((mN m1 NL 6 9)) r0 2))) NL 1 (Int32.ofNat (ml ((mI ((mN m1 NL 6 9)) NL 0 (mi ((mN m1 NL 6 9)) r0 2))) y153)))) NL 2 q158)) NL 3 q163)) NL 4 q168)) NL 5 q173)) y178)))) r0 3))) NL 8 q185))) H := hP
          have hD : va_D A (vW tc ad143 ((NL + 1)) ((mI ((mI ((mI ((mI ((mI ((mI ((mI ((mI ((mI ((mN m1 NL 6 9)) NL 0 (mi ((mN m1 NL 6 9)) r0 2))) NL 1 (Int32.ofNat (ml ((mI ((mN m1 NL 6 9)) NL 0 (mi ((mN m1 NL 6 9)) r0 2))) y153)))) NL 2 q158)) NL 3 q163)) NL 4 q168)) NL 5 q173)) NL 6 (Int32.ofNat (ml ((mI ((mI ((mI ((mI ((mI ((mI ((mN m1 NL 6 9)) NL 0 (mi ((mN m1 NL 6 9)) r0 2))) NL 1 (Int32.ofNat (ml ((mI ((mN m1 NL 6 9)) NL 0 (mi ((mN m1 NL 6 9)) r0 2))) y153)))) NL 2 q158)) NL 3 q163)) NL 4 q168)) NL 5 q173)) y178)))) NL 7 (mi ((mI ((mI ((mI ((mI ((mI ((mI ((mI ((mN m1 NL 6 9)) NL 0 (mi ((mN m1 NL 6 9)) r0 2))) NL 1 (Int32.ofNat (ml ((mI ((mN m1 NL 6 9)) NL 0 (mi ((mN m1 NL 6 9)) r0 2))) y153)))) NL 2 q158)) NL 3 q163)) NL 4 q168)) NL 5 q173)) NL 6 (Int32.ofNat (ml ((mI ((mI ((mI ((mI ((mI ((mI ((mN m1 NL 6 9)) NL 0 (mi ((mN m1 NL 6 9)) r0 2))) NL 1 (Int32.ofNat (ml ((mI ((mN m1 NL 6 9)) NL 0 (mi ((mN m1 NL 6 9)) r0 2))) y153)))) NL 2 q158)) NL 3 q163)) NL 4 q168)) NL 5 q173)) y178)))) r0 3))) NL 8 q185))) := hD
          refine lv_astore (lv' := [(4, .ref (ad143 NL)), (0, .ref (ad143 r0)), (1, .ref (ad143 r1)), (2, .int i2), (3, .int i3)]) hx hb dX5_isSame_419 hl (by decide) rfl (fun ls hl => ?_)
          refine lv_iconst (v := 0) hx hb dX5_isSame_421 (by decide) ?_
          refine lv_istore (lv' := [(5, .int 0), (4, .ref (ad143 NL)), (0, .ref (ad143 r0)), (1, .ref (ad143 r1)), (2, .int i2), (3, .int i3)]) hx hb dX5_isSame_422 hl (by decide) rfl (fun ls hl => ?_)
          exact (ih.2.2.2.2.2) ((NL + 1)) ad143 ((mI ((mI ((mI ((mI ((mI ((mI ((mI ((mI ((mI ((mN m1 NL 6 9)) NL 0 (mi ((mN m1 NL 6 9)) r0 2))) NL 1 (Int32.ofNat (ml ((mI ((mN m1 NL 6 9)) NL 0 (mi ((mN m1 NL 6 9)) r0 2))) y153)))) NL 2 q158)) NL 3 q163)) NL 4 q168)) NL 5 q173)) NL 6 (Int32.ofNat (ml ((mI ((mI ((mI ((mI ((mI ((mI ((mN m1 NL 6 9)) NL 0 (mi ((mN m1 NL 6 9)) r0 2))) NL 1 (Int32.ofNat (ml ((mI ((mN m1 NL 6 9)) NL 0 (mi ((mN m1 NL 6 9)) r0 2))) y153)))) NL 2 q158)) NL 3 q163)) NL 4 q168)) NL 5 q173)) y178)))) NL 7 (mi ((mI ((mI ((mI ((mI ((mI ((mI ((mI ((mN m1 NL 6 9)) NL 0 (mi ((mN m1 NL 6 9)) r0 2))) NL 1 (Int32.ofNat (ml ((mI ((mN m1 NL 6 9)) NL 0 (mi ((mN m1 NL 6 9)) r0 2))) y153)))) NL 2 q158)) NL 3 q163)) NL 4 q168)) NL 5 q173)) NL 6 (Int32.ofNat (ml ((mI ((mI ((mI ((mI ((mI ((mI ((mN m1 NL 6 9)) NL 0 (mi ((mN m1 NL 6 9)) r0 2))) NL 1 (Int32.ofNat (ml ((mI ((mN m1 NL 6 9)) NL 0 (mi ((mN m1 NL 6 9)) r0 2))) y153)))) NL 2 q158)) NL 3 q163)) NL 4 q168)) NL 5 q173)) y178)))) r0 3))) NL 8 q185)) ((kc + 1)) ((ks + 9)) r0 r1 i2 i3 NL (0 : Int32) _ _ _ e146 e145 g141 g142 hO189 n148 n149 (Nat.lt_succ_self _) h hP hD hS (lv_sub hl (l' := [(0, .ref (ad143 r0)), (1, .ref (ad143 r1)), (2, .int i2), (3, .int i3), (4, .ref (ad143 NL)), (5, .int 0)]) [2, 3, 4, 5, 1, 0] rfl)
        · rw [if_neg c140] at h
          refine lv_iconst (v := 0) hx hb dX5_isSame_299 (by decide) ?_
          refine lv_istore (lv' := [(5, .int 0), (0, .ref (adL r0)), (1, .ref (adL r1)), (2, .int i2), (3, .int i3), (4, .int i4)]) hx hb dX5_isSame_300 hl (by decide) rfl (fun ls hl => ?_)
          exact (ih.2.2.2.2.1) NL adL m1 kc ks r0 r1 i2 i3 i4 (0 : Int32) _ _ _ hNN hE hc hs hO n_r0 n_r1 h hP hD hS (lv_sub hl (l' := [(0, .ref (adL r0)), (1, .ref (adL r1)), (2, .int i2), (3, .int i3), (4, .int i4), (5, .int 0)]) [1, 2, 3, 4, 5, 0] rfl)
      · intro NL adL m1 kc ks r0 r1 i2 i3 i4 i5 H locs ls hNN hE hc hs hO n_r0 n_r1 h hP hD hS hl
        have h : fB_X5_isSame_302 (fL_X5_isSame n) NL m1 kc ks r0 r1 i2 i3 i4 0 i5 0 0 0 = some z := h
        unfold fB_X5_isSame_302 at h
        refine lv_iload hx hb dX5_isSame_302 (lv_at hl 5 rfl) ?_
        refine lv_iconst (v := 4) hx hb dX5_isSame_304 (by decide) ?_
        refine lv_icmp_ge (tgt := 337) hx hb dX5_isSame_305 (by decide) (fun c190 => ?_) (fun c190 => ?_)
        · rw [if_pos c190] at h
          refine lv_iinc (v := i4 + 1) (lv' := [(4, .int (i4 + 1)), (0, .ref (adL r0)), (1, .ref (adL r1)), (2, .int i2), (3, .int i3), (5, .int i5)]) hx hb dX5_isSame_337 hl (k := 4) rfl rfl (by decide) rfl (fun ls hl => ?_)
          refine lv_goto (tgt := 289) hx hb dX5_isSame_340 (by decide) ?_
          exact (ih.2.2.2.1) NL adL m1 kc ks r0 r1 i2 i3 (i4 + 1) _ _ _ hNN hE hc hs hO n_r0 n_r1 h hP hD hS (lv_sub hl (l' := [(0, .ref (adL r0)), (1, .ref (adL r1)), (2, .int i2), (3, .int i3), (4, .int (i4 + 1))]) [1, 2, 3, 4, 0] rfl)
        · rw [if_neg c190] at h
          refine lv_aload_n hx hb dX5_isSame_308 rfl (lv_at hl 1 rfl) ?_
          refine lv_iload hx hb dX5_isSame_309 (lv_at hl 4 rfl) ?_
          refine lv_iload hx hb dX5_isSame_311 (lv_at hl 5 rfl) ?_
          obtain ⟨g191, h⟩ := vg_if h
          obtain ⟨q192, g193, h⟩ := vg_bind h
          refine va_calli (va_runV (As := [.int i4, .int i5]) (rest := []) ⟨hx, hb, hml, hown, hts⟩ (cm_X3_voice (m0 := m1) l D tc adL hO n_r1 g193) (cwV 2 hts gX5_isSame_X3_voice rfl rfl rfl (by decide +kernel) ⟨(Nat.le_of_ble_eq_true rfl), (Nat.le_of_ble_eq_true rfl)⟩) ⟨qR_blind, va_recv hK hP (ci := 3) (q0 := r1) rfl (vW_k3 n_r1 g191), qR_pre hP hK hZ⟩ rfl rfl hl.1 rfl (lv_room (Nat.le_of_ble_eq_true rfl)) dX5_isSame_313 ⟨hc, hs⟩) hS (fun q9 _ h9 => h9.elim) (fun q9 h9 => h9.elim) (fun w194 u t H1 locs ht hvm hw hB hz1 hk1 hS => ?_)
          have hP := hP.kept (fun k9 q9 hk9 => hk1 q9.1 (hP k9 q9 hk9).lt (fun h9 => h9))
          generalize H1 = H at hP hS ⊢
          clear hk1 hz1 ht hvm
          have hw : w194 = q192 := hw
          rw [hw]
          refine lv_aload_n hx hb dX5_isSame_316 rfl (lv_at hl 0 rfl) ?_
          obtain ⟨g195, h⟩ := vg_if h
          obtain ⟨y196, g197, h⟩ := vg_bind h
          have n_y196 := hO _ _ _ g197
          refine va_get (D := D) (ci := 5) (v := .ref (adL y196)) (C := RX5) (T := TX5) (N := 4) hx hb hts in_X5_isSame_X5 hown hK hP r0 (vW_k5 n_r0 g195) rfl 1 (by decide) (hts (.fieldLink RX5 17 "VaultDoorsLaw$Sim" "voices" "[[I") (List.mem_of_getElem? (i := 10) rfl)) (fun _ h9 => h9) (by show some (va_rf (Option.map adL (mr m1 r0 1))) = _; rw [g197]; rfl) dX5_isSame_317 ?_
          refine lv_iload hx hb dX5_isSame_320 (lv_at hl 4 rfl) ?_
          obtain ⟨g198, h⟩ := vg_if h
          obtain ⟨g199, h⟩ := vg_if h
          obtain ⟨y200, g201, h⟩ := vg_bind h
          have n_y200 := hO _ _ _ g201
          refine wm_aald8 hx hb hK hP n_y196 g198 (i := i4) g199 dX5_isSame_322 ?_
          refine W.eq (g2 := F0 m 323 ls [.ref (adL y200), .int q192]) (by show F0 m 323 ls (va_rf (Option.map adL (mr m1 y196 i4.toNatClampNeg)) :: _) = _; rw [g201]; rfl) ?_
          refine lv_iload hx hb dX5_isSame_323 (lv_at hl 5 rfl) ?_
          obtain ⟨g202, h⟩ := vg_if h
          obtain ⟨g203, h⟩ := vg_if h
          refine va_iald (D := D) hx hb hK hP y200 0 (vW_k6 n_y200 g202) rfl (i := i5) g203 dX5_isSame_325 ?_
          refine lv_icmp_eq (tgt := 331) hx hb dX5_isSame_326 (by decide) (fun c204 => ?_) (fun c204 => ?_)
          · rw [if_pos c204] at h
            refine lv_iinc (v := i5 + 1) (lv' := [(5, .int (i5 + 1)), (0, .ref (adL r0)), (1, .ref (adL r1)), (2, .int i2), (3, .int i3), (4, .int i4)]) hx hb dX5_isSame_331 hl (k := 5) rfl rfl (by decide) rfl (fun ls hl => ?_)
            refine lv_goto (tgt := 302) hx hb dX5_isSame_334 (by decide) ?_
            exact (ih.2.2.2.2.1) NL adL m1 kc ks r0 r1 i2 i3 i4 (i5 + 1) _ _ _ hNN hE hc hs hO n_r0 n_r1 h hP hD hS (lv_sub hl (l' := [(0, .ref (adL r0)), (1, .ref (adL r1)), (2, .int i2), (3, .int i3), (4, .int i4), (5, .int (i5 + 1))]) [1, 2, 3, 4, 5, 0] rfl)
          · rw [if_neg c204] at h
            refine lv_iconst (v := 0) hx hb dX5_isSame_329 (by decide) ?_
            have hz := Option.some.inj h
            refine W.widen (k := 11) (n := 99) hc hs ?_
            exact W.zret (v := 0) (ty := .boolean) hx hb hr (by decide) (fun t ht hW => ⟨⟨_, (), rfl, by rw [← hz], by rw [← hz]; exact ⟨adL, hE, hNN, hO, by rw [ht]; exact hP, va_K.moved hW.alike hK, hD⟩⟩, hS.F ht⟩) hS.2.2 dX5_isSame_330
      · intro NL adL m1 kc ks r0 r1 i2 i3 r4 i5 H locs ls hNN hE hc hs hO n_r0 n_r1 n_r4 h hP hD hS hl
        have h : fB_X5_isSame_424 (fL_X5_isSame n) NL m1 kc ks r0 r1 i2 i3 0 r4 i5 0 0 0 = some z := h
        unfold fB_X5_isSame_424 at h
        refine lv_iload hx hb dX5_isSame_424 (lv_at hl 5 rfl) ?_
        refine lv_bipush (v := 9) hx hb dX5_isSame_426 (by decide) ?_
        refine lv_icmp_ge (tgt := 453) hx hb dX5_isSame_428 (by decide) (fun c205 => ?_) (fun c205 => ?_)
        · rw [if_pos c205] at h
          refine lv_aload_n hx hb dX5_isSame_453 rfl (lv_at hl 1 rfl) ?_
          obtain ⟨g206, h⟩ := vg_if h
          obtain ⟨q207, g208, h⟩ := vg_bind h
          refine va_calld (va_runV (As := []) (rest := []) ⟨hx, hb, hml, hown, hts⟩ (cm_X3_mean (m0 := m1) l D tc adL hO n_r1 g208) (cwV 0 hts gX5_isSame_X3_mean rfl rfl rfl (by decide +kernel) ⟨(Nat.le_of_ble_eq_true rfl), (Nat.le_of_ble_eq_true rfl)⟩) ⟨qR_blind, va_recv hK hP (ci := 3) (q0 := r1) rfl (vW_k3 n_r1 g206), qR_pre hP hK hZ⟩ rfl rfl hl.1 rfl (lv_room (Nat.le_of_ble_eq_true rfl)) dX5_isSame_454 ⟨hc, hs⟩) hS (fun q9 _ h9 => h9.elim) (fun q9 h9 => h9.elim) (fun w209 u t H1 locs ht hvm hw hB hz1 hk1 hS => ?_)
          have hP := hP.kept (fun k9 q9 hk9 => hk1 q9.1 (hP k9 q9 hk9).lt (fun h9 => h9))
          generalize H1 = H at hP hS ⊢
          clear hk1 hz1 ht hvm
          have hw : w209 = q207 := hw
          rw [hw]
          refine lv_iload_n hx hb dX5_isSame_457 rfl (lv_at hl 3 rfl) ?_
          refine lv_if_ne (tgt := 465) hx hb dX5_isSame_458 (by decide) (fun c210 => ?_) (fun c210 => ?_)
          · rw [if_neg c210] at h
            refine lv_iload_n hx hb dX5_isSame_465 rfl (lv_at hl 2 rfl) ?_
            refine lv_i2d hx hb dX5_isSame_466 ?_
            refine lv_iload_n hx hb dX5_isSame_467 rfl (lv_at hl 3 rfl) ?_
            refine lv_i2d hx hb dX5_isSame_468 ?_
            obtain ⟨g211, h⟩ := vg_if h
            refine lv_ddiv hx hb dX5_isSame_469 (@of_decide_eq_true _ (Classical.propDecidable _) g211) ?_
            refine lv_dcmp hx hb dX5_isSame_470 ?_
            refine lv_if_ne (tgt := 478) hx hb dX5_isSame_471 (by decide) (fun c212 => ?_) (fun c212 => ?_)
            · rw [if_neg c212] at h
              refine lv_iconst (v := 0) hx hb dX5_isSame_478 (by decide) ?_
              have hz := Option.some.inj h
              refine W.widen (k := 11) (n := 99) hc hs ?_
              exact W.zret (v := 0) (ty := .boolean) hx hb hr (by decide) (fun t ht hW => ⟨⟨_, (), rfl, by rw [← hz], by rw [← hz]; exact ⟨adL, hE, hNN, hO, by rw [ht]; exact hP, va_K.moved hW.alike hK, hD⟩⟩, hS.F ht⟩) hS.2.2 dX5_isSame_479
            · rw [if_pos c212] at h
              refine lv_iconst (v := 1) hx hb dX5_isSame_474 (by decide) ?_
              refine lv_goto (tgt := 479) hx hb dX5_isSame_475 (by decide) ?_
              have hz := Option.some.inj h
              refine W.widen (k := 11) (n := 99) hc hs ?_
              exact W.zret (v := 1) (ty := .boolean) hx hb hr (by decide) (fun t ht hW => ⟨⟨_, (), rfl, by rw [← hz], by rw [← hz]; exact ⟨adL, hE, hNN, hO, by rw [ht]; exact hP, va_K.moved hW.alike hK, hD⟩⟩, hS.F ht⟩) hS.2.2 dX5_isSame_479
          · rw [if_pos c210] at h
            refine lv_dconst0 hx hb dX5_isSame_461 ?_
            refine lv_goto (tgt := 470) hx hb dX5_isSame_462 (by decide) ?_
            refine lv_dcmp hx hb dX5_isSame_470 ?_
            refine lv_if_ne (tgt := 478) hx hb dX5_isSame_471 (by decide) (fun c213 => ?_) (fun c213 => ?_)
            · rw [if_neg c213] at h
              refine lv_iconst (v := 0) hx hb dX5_isSame_478 (by decide) ?_
              have hz := Option.some.inj h
              refine W.widen (k := 11) (n := 99) hc hs ?_
              exact W.zret (v := 0) (ty := .boolean) hx hb hr (by decide) (fun t ht hW => ⟨⟨_, (), rfl, by rw [← hz], by rw [← hz]; exact ⟨adL, hE, hNN, hO, by rw [ht]; exact hP, va_K.moved hW.alike hK, hD⟩⟩, hS.F ht⟩) hS.2.2 dX5_isSame_479
            · rw [if_pos c213] at h
              refine lv_iconst (v := 1) hx hb dX5_isSame_474 (by decide) ?_
              refine lv_goto (tgt := 479) hx hb dX5_isSame_475 (by decide) ?_
              have hz := Option.some.inj h
              refine W.widen (k := 11) (n := 99) hc hs ?_
              exact W.zret (v := 1) (ty := .boolean) hx hb hr (by decide) (fun t ht hW => ⟨⟨_, (), rfl, by rw [← hz], by rw [← hz]; exact ⟨adL, hE, hNN, hO, by rw [ht]; exact hP, va_K.moved hW.alike hK, hD⟩⟩, hS.F ht⟩) hS.2.2 dX5_isSame_479
        · rw [if_neg c205] at h
          refine lv_aload_n hx hb dX5_isSame_431 rfl (lv_at hl 1 rfl) ?_
          refine lv_iload hx hb dX5_isSame_432 (lv_at hl 5 rfl) ?_
          obtain ⟨g214, h⟩ := vg_if h
          obtain ⟨q215, g216, h⟩ := vg_bind h
          refine va_calli (va_runV (As := [.int i5]) (rest := []) ⟨hx, hb, hml, hown, hts⟩ (cm_X3_count (m0 := m1) l D tc adL hO n_r1 g216) (cwV 1 hts gX5_isSame_X3_count rfl rfl rfl (by decide +kernel) ⟨(Nat.le_of_ble_eq_true rfl), (Nat.le_of_ble_eq_true rfl)⟩) ⟨qR_blind, va_recv hK hP (ci := 3) (q0 := r1) rfl (vW_k3 n_r1 g214), qR_pre hP hK hZ⟩ rfl rfl hl.1 rfl (lv_room (Nat.le_of_ble_eq_true rfl)) dX5_isSame_434 ⟨hc, hs⟩) hS (fun q9 _ h9 => h9.elim) (fun q9 h9 => h9.elim) (fun w217 u t H1 locs ht hvm hw hB hz1 hk1 hS => ?_)
          have hP := hP.kept (fun k9 q9 hk9 => hk1 q9.1 (hP k9 q9 hk9).lt (fun h9 => h9))
          generalize H1 = H at hP hS ⊢
          clear hk1 hz1 ht hvm
          have hw : w217 = q215 := hw
          rw [hw]
          refine lv_aload hx hb dX5_isSame_437 (lv_at hl 4 rfl) ?_
          refine lv_iload hx hb dX5_isSame_439 (lv_at hl 5 rfl) ?_
          obtain ⟨g218, h⟩ := vg_if h
          obtain ⟨g219, h⟩ := vg_if h
          refine va_iald (D := D) hx hb hK hP r4 0 (vW_k6 n_r4 g218) rfl (i := i5) g219 dX5_isSame_441 ?_
          refine lv_icmp_eq (tgt := 447) hx hb dX5_isSame_442 (by decide) (fun c220 => ?_) (fun c220 => ?_)
          · rw [if_pos c220] at h
            refine lv_iinc (v := i5 + 1) (lv' := [(5, .int (i5 + 1)), (0, .ref (adL r0)), (1, .ref (adL r1)), (2, .int i2), (3, .int i3), (4, .ref (adL r4))]) hx hb dX5_isSame_447 hl (k := 5) rfl rfl (by decide) rfl (fun ls hl => ?_)
            refine lv_goto (tgt := 424) hx hb dX5_isSame_450 (by decide) ?_
            exact (ih.2.2.2.2.2) NL adL m1 kc ks r0 r1 i2 i3 r4 (i5 + 1) _ _ _ hNN hE hc hs hO n_r0 n_r1 n_r4 h hP hD hS (lv_sub hl (l' := [(0, .ref (adL r0)), (1, .ref (adL r1)), (2, .int i2), (3, .int i3), (4, .ref (adL r4)), (5, .int (i5 + 1))]) [1, 2, 3, 4, 5, 0] rfl)
          · rw [if_neg c220] at h
            refine lv_iconst (v := 0) hx hb dX5_isSame_445 (by decide) ?_
            have hz := Option.some.inj h
            refine W.widen (k := 11) (n := 99) hc hs ?_
            exact W.zret (v := 0) (ty := .boolean) hx hb hr (by decide) (fun t ht hW => ⟨⟨_, (), rfl, by rw [← hz], by rw [← hz]; exact ⟨adL, hE, hNN, hO, by rw [ht]; exact hP, va_K.moved hW.alike hK, hD⟩⟩, hS.F ht⟩) hS.2.2 dX5_isSame_446
  unfold f_X5_isSame at h
  refine lv_iconst (v := 0) hx hb dX5_isSame_0 (by decide) ?_
  refine lv_istore_n (lv' := [(2, .int 0), (0, .ref (ad p0)), (1, .ref (ad p1))]) hx hb dX5_isSame_1 rfl hl (by decide) rfl (fun ls hl => ?_)
  refine lv_iconst (v := 0) hx hb dX5_isSame_2 (by decide) ?_
  refine lv_istore_n (lv' := [(3, .int 0), (2, .int 0), (0, .ref (ad p0)), (1, .ref (ad p1))]) hx hb dX5_isSame_3 rfl hl (by decide) rfl (fun ls hl => ?_)
  refine lv_iconst (v := 0) hx hb dX5_isSame_4 (by decide) ?_
  refine lv_istore (lv' := [(4, .int 0), (3, .int 0), (2, .int 0), (0, .ref (ad p0)), (1, .ref (ad p1))]) hx hb dX5_isSame_5 hl (by decide) rfl (fun ls hl => ?_)
  exact ((hL vF).1) N ad m0 0 0 p0 p1 (0 : Int32) (0 : Int32) (0 : Int32) _ _ _ (Nat.le_refl _) (fun _ _ => rfl) (Nat.le_of_ble_eq_true rfl) (Nat.le_of_ble_eq_true rfl) hO n_p0 n_p1 h hP hD hS (lv_sub hl (l' := [(0, .ref (ad p0)), (1, .ref (ad p1)), (2, .int 0), (3, .int 0), (4, .int 0)]) [3, 4, 2, 1, 0] rfl)
