noncomputable def f_X3_build (m : vM) (p0 : Nat) (p1 : Int32) (p2 : Int32) (p3 : Int32) : Option (Int32 × vM) :=
  Option.bind (f_X3_isIn m p1 ((0 : Int32)) ((99 : Int32))) fun q1 =>
  if q1 = 0 then (
    none
  ) else (
    Option.bind (f_X3_isPatience m p2) fun q5 =>
    if q5 = 0 then (
      none
    ) else (
      Option.bind (f_X3_isRule m p3) fun q9 =>
      if q9 = 0 then (
        none
      ) else (
        if mk m p0 = 3 then
        Option.bind (mr m p0 0) fun y14 =>
        if mk m y14 = 1 then
        if (mi m y14 1) < 10 then (
          Option.bind (mr m p0 0) fun y18 =>
          if mk m y18 = 1 then
          Option.bind (f_X1_addDoor m y18 p1 p2 p3) fun q21 =>
          some (q21.1, q21.2)
          else none
        ) else (
          none
        )
        else none
        else none
      )
    )
  )
theorem in_X3_build_X1 : ∀ w ∈ wsX10, w ∈ wsX3_build := by decide +kernel
theorem in_X3_build_X3 : ∀ w ∈ wsX30, w ∈ wsX3_build := by decide +kernel
set_option maxHeartbeats 1000000 in
set_option maxRecDepth 100000 in
theorem cm_X3_build (l : Launch) (D : va_G) (tc : Nat → ClassId) (ad : Nat → Nat) {N : Nat} {m0 : vM} {sz : Nat} {p0 : Nat} {p1 : Int32} {p2 : Int32} {p3 : Int32} (hO : vOK N m0) (n_p0 : p0 < N) {z : Int32 × vM} (h : f_X3_build m0 p0 p1 p2 p3 = some z) : Met l yX3_build wsX3_build ({ frames := 2, cells := 0, slots := 0, locals := 42 } : Room) (va_Pc [.ref (ad p0), .int p1, .int p2, .int p3] (qW D tc ad N m0 sz)) (va_Qi (fun (r9 : Int32) (_ : Unit) => r9 = z.1) (fun _ t => vOK N z.2 ∧ pB D (va_A (vW tc ad N m0) sz) (vW tc ad N z.2) (vT tc) t) (va_A (vW tc ad N m0) sz)) 0 0 (va_A (vW tc ad N m0) sz) := by
  refine Met.ofW (cc := cX3_build) (maxL := 4) (ret := (some .int)) (by decide) rfl ?_
  intro p e s m args below meth c s₁ B hml hv
  obtain ⟨rfl, hsz, hP, hK, hD0, hZ⟩ := hv
  have hx := B.exec
  have hb := B.bytes
  have hr := B.returns
  have hts := atoms_spec (ws := wsX3_build) B.pre
  have hown : s.vm.findClass RX3 = some m.cls := findClass_of_methodNamed B.named
  have hlocks := B.notSynchronized
  subst hsz
  have hD := hD0.self (sz := s.heap.size)
  generalize hAe : va_A (vW tc ad N m0) s.heap.size = A at hD ⊢
  have hA : ∀ q : Nat, s.heap.size ≤ q → A q := fun q h => by rw [← hAe]; exact Or.inr h
  have hS : va_S A s.heap s.heap [] := va_S.rf
  have hl := lv_entry ([.ref (ad p0), .int p1, .int p2, .int p3]) (n := 4) (Nat.le_of_ble_eq_true rfl)
  rw [lg_entry_eq]
  generalize (lg_sl ([.ref (ad p0), .int p1, .int p2, .int p3]) ++ List.replicate (4 - (lg_sl ([.ref (ad p0), .int p1, .int p2, .int p3])).length) Slot.unset).toArray = ls at hl ⊢
  have hl : lv_has ls 4 [(0, .ref (ad p0)), (1, .int p1), (2, .int p2), (3, .int p3)] := hl
  unfold f_X3_build at h
  refine lv_iload_n hx hb dX3_build_0 rfl (lv_at hl 1 rfl) ?_
  refine lv_iconst (v := 0) hx hb dX3_build_1 (by decide) ?_
  refine lv_bipush (v := 99) hx hb dX3_build_2 (by decide) ?_
  obtain ⟨q1, g2, h⟩ := vg_bind h
  refine va_calli (va_runS (As := [.int p1, .int 0, .int 99]) (rest := []) ⟨hx, hb, hml, hown, hts⟩ (cm_X3_isIn (m0 := m0) l D tc ad hO g2) (va_cwS 3 hts gX3_build_X3_isIn rfl rfl rfl (by decide +kernel) ⟨(Nat.le_of_ble_eq_true rfl), (Nat.le_of_ble_eq_true rfl)⟩) ⟨qR_blind, qR_pre hP hK hZ⟩ rfl rfl hl.1 rfl (lv_room (Nat.le_of_ble_eq_true rfl)) dX3_build_4 ⟨(Nat.le_of_ble_eq_true rfl), (Nat.le_of_ble_eq_true rfl)⟩) hS (fun q9 _ h9 => h9.elim) (fun q9 h9 => h9.elim) (fun w3 u t H1 locs ht hvm hw hB hz1 hk1 hS => ?_)
  have hP := hP.kept (fun k9 q9 hk9 => hk1 q9.1 (hP k9 q9 hk9).lt (fun h9 => h9))
  generalize H1 = H at hP hS ⊢
  clear hk1 hz1 ht hvm
  have hw : w3 = q1 := hw
  rw [hw]
  refine lv_if_ne (tgt := 20) hx hb dX3_build_7 (by decide) (fun c4 => ?_) (fun c4 => ?_)
  · rw [if_neg c4] at h
    refine lv_iload_n hx hb dX3_build_20 rfl (lv_at hl 2 rfl) ?_
    obtain ⟨q5, g6, h⟩ := vg_bind h
    refine va_calli (va_runS (As := [.int p2]) (rest := []) ⟨hx, hb, hml, hown, hts⟩ (cm_X3_isPatience (m0 := m0) l D tc ad hO g6) (va_cwS 1 hts gX3_build_X3_isPatience rfl rfl rfl (by decide +kernel) ⟨(Nat.le_of_ble_eq_true rfl), (Nat.le_of_ble_eq_true rfl)⟩) ⟨qR_blind, qR_pre hP hK hZ⟩ rfl rfl hl.1 rfl (lv_room (Nat.le_of_ble_eq_true rfl)) dX3_build_21 ⟨(Nat.le_of_ble_eq_true rfl), (Nat.le_of_ble_eq_true rfl)⟩) hS (fun q9 _ h9 => h9.elim) (fun q9 h9 => h9.elim) (fun w7 u t H1 locs ht hvm hw hB hz1 hk1 hS => ?_)
    have hP := hP.kept (fun k9 q9 hk9 => hk1 q9.1 (hP k9 q9 hk9).lt (fun h9 => h9))
    generalize H1 = H at hP hS ⊢
    clear hk1 hz1 ht hvm
    have hw : w7 = q5 := hw
    rw [hw]
    refine lv_if_eq (tgt := 34) hx hb dX3_build_24 (by decide) (fun c8 => ?_) (fun c8 => ?_)
    · rw [if_pos c8] at h
      exact absurd h (by simp)
    · rw [if_neg c8] at h
      refine lv_iload_n hx hb dX3_build_27 rfl (lv_at hl 3 rfl) ?_
      obtain ⟨q9, g10, h⟩ := vg_bind h
      refine va_calli (va_runS (As := [.int p3]) (rest := []) ⟨hx, hb, hml, hown, hts⟩ (cm_X3_isRule (m0 := m0) l D tc ad hO g10) (va_cwS 1 hts gX3_build_X3_isRule rfl rfl rfl (by decide +kernel) ⟨(Nat.le_of_ble_eq_true rfl), (Nat.le_of_ble_eq_true rfl)⟩) ⟨qR_blind, qR_pre hP hK hZ⟩ rfl rfl hl.1 rfl (lv_room (Nat.le_of_ble_eq_true rfl)) dX3_build_28 ⟨(Nat.le_of_ble_eq_true rfl), (Nat.le_of_ble_eq_true rfl)⟩) hS (fun q9 _ h9 => h9.elim) (fun q9 h9 => h9.elim) (fun w11 u t H1 locs ht hvm hw hB hz1 hk1 hS => ?_)
      have hP := hP.kept (fun k9 q9 hk9 => hk1 q9.1 (hP k9 q9 hk9).lt (fun h9 => h9))
      generalize H1 = H at hP hS ⊢
      clear hk1 hz1 ht hvm
      have hw : w11 = q9 := hw
      rw [hw]
      refine lv_if_ne (tgt := 44) hx hb dX3_build_31 (by decide) (fun c12 => ?_) (fun c12 => ?_)
      · rw [if_neg c12] at h
        refine lv_aload_n hx hb dX3_build_44 rfl (lv_at hl 0 rfl) ?_
        obtain ⟨g13, h⟩ := vg_if h
        obtain ⟨y14, g15, h⟩ := vg_bind h
        have n_y14 := hO _ _ _ g15
        refine va_get (D := D) (ci := 3) (v := .ref (ad y14)) (C := RX3) (T := TX3) (N := 2) hx hb hts in_X3_build_X3 hown hK hP p0 (vW_k3 n_p0 g13) rfl 0 (by decide) (hts (.fieldLink RX3 10 "VaultDoors" "vault" "LVaultDoors$Vault;") (List.mem_of_getElem? (i := 5) rfl)) (fun _ h9 => h9) (by show some (va_rf (Option.map ad (mr m0 p0 0))) = _; rw [g15]; rfl) dX3_build_45 ?_
        obtain ⟨g16, h⟩ := vg_if h
        refine va_get (D := D) (ci := 1) (v := .int (mi m0 y14 1)) (C := RX1) (T := TX1) (N := 5) hx hb hts in_X3_build_X1 hown hK hP y14 (vW_k1 n_y14 g16) rfl 1 (by decide) (hts (.fieldLink RX3 39 "VaultDoors$Vault" "doorCount" "I") (List.mem_of_getElem? (i := 6) rfl)) (fun _ h9 => h9) rfl dX3_build_48 ?_
        refine lv_bipush (v := 10) hx hb dX3_build_51 (by decide) ?_
        refine lv_icmp_lt (tgt := 66) hx hb dX3_build_53 (by decide) (fun c17 => ?_) (fun c17 => ?_)
        · rw [if_pos c17] at h
          refine lv_aload_n hx hb dX3_build_66 rfl (lv_at hl 0 rfl) ?_
          obtain ⟨y18, g19, h⟩ := vg_bind h
          have n_y18 := hO _ _ _ g19
          refine va_get (D := D) (ci := 3) (v := .ref (ad y18)) (C := RX3) (T := TX3) (N := 2) hx hb hts in_X3_build_X3 hown hK hP p0 (vW_k3 n_p0 g13) rfl 0 (by decide) (hts (.fieldLink RX3 10 "VaultDoors" "vault" "LVaultDoors$Vault;") (List.mem_of_getElem? (i := 5) rfl)) (fun _ h9 => h9) (by show some (va_rf (Option.map ad (mr m0 p0 0))) = _; rw [g19]; rfl) dX3_build_67 ?_
          refine lv_iload_n hx hb dX3_build_70 rfl (lv_at hl 1 rfl) ?_
          refine lv_iload_n hx hb dX3_build_71 rfl (lv_at hl 2 rfl) ?_
          refine lv_iload_n hx hb dX3_build_72 rfl (lv_at hl 3 rfl) ?_
          obtain ⟨g20, h⟩ := vg_if h
          obtain ⟨q21, g22, h⟩ := vg_bind h
          have hFc := vm_free hD hS hA
          refine va_calli (va_runV (As := [.int p1, .int p2, .int p3]) (rest := []) ⟨hx, hb, hml, hown, hts⟩ (cm_X1_addDoor (m0 := m0) l D tc ad hO n_y18 g22) (cwV 3 hts gX3_build_X1_addDoor rfl rfl rfl (by decide +kernel) ⟨(Nat.le_of_ble_eq_true rfl), (Nat.le_of_ble_eq_true rfl)⟩) ⟨qW_blind, va_recv hK hP (ci := 1) (q0 := y18) rfl (vW_k1 n_y18 g20), qW_pre hP hD hK hZ⟩ rfl rfl hl.1 rfl (lv_room (Nat.le_of_ble_eq_true rfl)) dX3_build_73 ⟨(Nat.le_of_ble_eq_true rfl), (Nat.le_of_ble_eq_true rfl)⟩) hS (fun q9 _ h9 => hFc q9 h9) hFc (fun w23 u t H1 locs ht hvm hw hB hz1 hk1 hS => ?_)
          obtain ⟨hO24, hP1, hK1, hD1⟩ := hB
          rw [ht] at hP1
          have hP := hP1
          have hD := hD1.weaken (fun _ q9 _ h9 => hFc q9.1 h9)
          generalize H1 = H at hP hS ⊢
          have hP : va_P D vwCl (vW tc ad N q21.2) H := hP
          have hD : va_D A (vW tc ad N q21.2) := hD
          clear hk1 hz1 ht hvm
          have hw : w23 = q21.1 := hw
          rw [hw]
          have hz := Option.some.inj h
          exact W.iret (v := q21.1) hx hb hr (fun t ht hW => ⟨⟨_, (), rfl, by rw [← hz], by rw [← hz]; exact hO24, by rw [ht, ← hz]; exact hP, va_K.moved hW.alike hK, by rw [← hz]; exact hD⟩, hS.F ht⟩) hS.2.2 dX3_build_76
        · rw [if_neg c17] at h
          exact absurd h (by simp)
      · rw [if_pos c12] at h
        exact absurd h (by simp)
  · rw [if_pos c4] at h
    exact absurd h (by simp)

noncomputable def f_X3_ask (m : vM) (p0 : Nat) (p1 : Int32) (p2 : Int32) (p3 : Int32) : Option (Int32 × vM) :=
  if mk m p0 = 3 then
  Option.bind (mr m p0 0) fun y2 =>
  if mk m y2 = 1 then
  Option.bind (f_X1_isDoor m y2 p1) fun q5 =>
  if q5 = 0 then (
    none
  ) else (
    Option.bind (mr m p0 0) fun y9 =>
    if mk m y9 = 1 then
    Option.bind (f_X1_isDoor m y9 p2) fun q12 =>
    if q12 = 0 then (
      none
    ) else (
      if p1 = p2 then (
        none
      ) else (
        Option.bind (f_X3_isIn m p3 ((1 : Int32)) ((5 : Int32))) fun q17 =>
        if q17 = 0 then (
          none
        ) else (
          Option.bind (mr m p0 0) fun y21 =>
          if mk m y21 = 1 then
          Option.bind (mr m y21 2) fun y24 =>
          if mk m y24 = 7 then
          if vin p1 (ml m y24) then
          Option.bind (mr m y24 p1.toNatClampNeg) fun y28 =>
          if mk m y28 = 0 then
          if (mi m y28 3) = 0 then (
            Option.bind (f_X0_placeOf m y28 p2) fun q32 =>
            if 0 ≤ q32 then (
              none
            ) else (
              if (mi m y28 7) < 4 then (
                Option.bind (f_X0_addAsked m y28 p2 p3) fun q37 =>
                if mk q37 y28 = 0 then
                some ((mi q37 y28 7), q37)
                else none
              ) else (
                none
              )
            )
          ) else (
            none
          )
          else none
          else none
          else none
          else none
        )
      )
    )
    else none
  )
  else none
  else none
theorem in_X3_ask_X0 : ∀ w ∈ wsX00, w ∈ wsX3_ask := by decide +kernel
theorem in_X3_ask_X1 : ∀ w ∈ wsX10, w ∈ wsX3_ask := by decide +kernel
theorem in_X3_ask_X3 : ∀ w ∈ wsX30, w ∈ wsX3_ask := by decide +kernel
set_option maxHeartbeats 1000000 in
set_option maxRecDepth 100000 in
theorem cm_X3_ask (l : Launch) (D : va_G) (tc : Nat → ClassId) (ad : Nat → Nat) {N : Nat} {m0 : vM} {sz : Nat} {p0 : Nat} {p1 : Int32} {p2 : Int32} {p3 : Int32} (hO : vOK N m0) (n_p0 : p0 < N) {z : Int32 × vM} (h : f_X3_ask m0 p0 p1 p2 p3 = some z) : Met l yX3_ask wsX3_ask ({ frames := 1, cells := 0, slots := 0, locals := 22 } : Room) (va_Pc [.ref (ad p0), .int p1, .int p2, .int p3] (qW D tc ad N m0 sz)) (va_Qi (fun (r9 : Int32) (_ : Unit) => r9 = z.1) (fun _ t => vOK N z.2 ∧ pB D (va_A (vW tc ad N m0) sz) (vW tc ad N z.2) (vT tc) t) (va_A (vW tc ad N m0) sz)) 0 0 (va_A (vW tc ad N m0) sz) := by
  refine Met.ofW (cc := cX3_ask) (maxL := 5) (ret := (some .int)) (by decide) rfl ?_
  intro p e s m args below meth c s₁ B hml hv
  obtain ⟨rfl, hsz, hP, hK, hD0, hZ⟩ := hv
  have hx := B.exec
  have hb := B.bytes
  have hr := B.returns
  have hts := atoms_spec (ws := wsX3_ask) B.pre
  have hown : s.vm.findClass RX3 = some m.cls := findClass_of_methodNamed B.named
  have hlocks := B.notSynchronized
  subst hsz
  have hD := hD0.self (sz := s.heap.size)
  generalize hAe : va_A (vW tc ad N m0) s.heap.size = A at hD ⊢
  have hA : ∀ q : Nat, s.heap.size ≤ q → A q := fun q h => by rw [← hAe]; exact Or.inr h
  have hS : va_S A s.heap s.heap [] := va_S.rf
  have hl := lv_entry ([.ref (ad p0), .int p1, .int p2, .int p3]) (n := 5) (Nat.le_of_ble_eq_true rfl)
  rw [lg_entry_eq]
  generalize (lg_sl ([.ref (ad p0), .int p1, .int p2, .int p3]) ++ List.replicate (5 - (lg_sl ([.ref (ad p0), .int p1, .int p2, .int p3])).length) Slot.unset).toArray = ls at hl ⊢
  have hl : lv_has ls 5 [(0, .ref (ad p0)), (1, .int p1), (2, .int p2), (3, .int p3)] := hl
  unfold f_X3_ask at h
  refine lv_aload_n hx hb dX3_ask_0 rfl (lv_at hl 0 rfl) ?_
  obtain ⟨g1, h⟩ := vg_if h
  obtain ⟨y2, g3, h⟩ := vg_bind h
  have n_y2 := hO _ _ _ g3
  refine va_get (D := D) (ci := 3) (v := .ref (ad y2)) (C := RX3) (T := TX3) (N := 2) hx hb hts in_X3_ask_X3 hown hK hP p0 (vW_k3 n_p0 g1) rfl 0 (by decide) (hts (.fieldLink RX3 10 "VaultDoors" "vault" "LVaultDoors$Vault;") (List.mem_of_getElem? (i := 7) rfl)) (fun _ h9 => h9) (by show some (va_rf (Option.map ad (mr m0 p0 0))) = _; rw [g3]; rfl) dX3_ask_1 ?_
  refine lv_iload_n hx hb dX3_ask_4 rfl (lv_at hl 1 rfl) ?_
  obtain ⟨g4, h⟩ := vg_if h
  obtain ⟨q5, g6, h⟩ := vg_bind h
  refine va_calli (va_runV (As := [.int p1]) (rest := []) ⟨hx, hb, hml, hown, hts⟩ (cm_X1_isDoor (m0 := m0) l D tc ad hO n_y2 g6) (cwV 1 hts gX3_ask_X1_isDoor rfl rfl rfl (by decide +kernel) ⟨(Nat.le_of_ble_eq_true rfl), (Nat.le_of_ble_eq_true rfl)⟩) ⟨qR_blind, va_recv hK hP (ci := 1) (q0 := y2) rfl (vW_k1 n_y2 g4), qR_pre hP hK hZ⟩ rfl rfl hl.1 rfl (lv_room (Nat.le_of_ble_eq_true rfl)) dX3_ask_5 ⟨(Nat.le_of_ble_eq_true rfl), (Nat.le_of_ble_eq_true rfl)⟩) hS (fun q9 _ h9 => h9.elim) (fun q9 h9 => h9.elim) (fun w7 u t H1 locs ht hvm hw hB hz1 hk1 hS => ?_)
  have hP := hP.kept (fun k9 q9 hk9 => hk1 q9.1 (hP k9 q9 hk9).lt (fun h9 => h9))
  generalize H1 = H at hP hS ⊢
  clear hk1 hz1 ht hvm
  have hw : w7 = q5 := hw
  rw [hw]
  refine lv_if_eq (tgt := 22) hx hb dX3_ask_8 (by decide) (fun c8 => ?_) (fun c8 => ?_)
  · rw [if_pos c8] at h
    exact absurd h (by simp)
  · rw [if_neg c8] at h
    refine lv_aload_n hx hb dX3_ask_11 rfl (lv_at hl 0 rfl) ?_
    obtain ⟨y9, g10, h⟩ := vg_bind h
    have n_y9 := hO _ _ _ g10
    refine va_get (D := D) (ci := 3) (v := .ref (ad y9)) (C := RX3) (T := TX3) (N := 2) hx hb hts in_X3_ask_X3 hown hK hP p0 (vW_k3 n_p0 g1) rfl 0 (by decide) (hts (.fieldLink RX3 10 "VaultDoors" "vault" "LVaultDoors$Vault;") (List.mem_of_getElem? (i := 7) rfl)) (fun _ h9 => h9) (by show some (va_rf (Option.map ad (mr m0 p0 0))) = _; rw [g10]; rfl) dX3_ask_12 ?_
    refine lv_iload_n hx hb dX3_ask_15 rfl (lv_at hl 2 rfl) ?_
    obtain ⟨g11, h⟩ := vg_if h
    obtain ⟨q12, g13, h⟩ := vg_bind h
    refine va_calli (va_runV (As := [.int p2]) (rest := []) ⟨hx, hb, hml, hown, hts⟩ (cm_X1_isDoor (m0 := m0) l D tc ad hO n_y9 g13) (cwV 1 hts gX3_ask_X1_isDoor rfl rfl rfl (by decide +kernel) ⟨(Nat.le_of_ble_eq_true rfl), (Nat.le_of_ble_eq_true rfl)⟩) ⟨qR_blind, va_recv hK hP (ci := 1) (q0 := y9) rfl (vW_k1 n_y9 g11), qR_pre hP hK hZ⟩ rfl rfl hl.1 rfl (lv_room (Nat.le_of_ble_eq_true rfl)) dX3_ask_16 ⟨(Nat.le_of_ble_eq_true rfl), (Nat.le_of_ble_eq_true rfl)⟩) hS (fun q9 _ h9 => h9.elim) (fun q9 h9 => h9.elim) (fun w14 u t H1 locs ht hvm hw hB hz1 hk1 hS => ?_)
    have hP := hP.kept (fun k9 q9 hk9 => hk1 q9.1 (hP k9 q9 hk9).lt (fun h9 => h9))
    generalize H1 = H at hP hS ⊢
    clear hk1 hz1 ht hvm
    have hw : w14 = q12 := hw
    rw [hw]
    refine lv_if_ne (tgt := 32) hx hb dX3_ask_19 (by decide) (fun c15 => ?_) (fun c15 => ?_)
    · rw [if_neg c15] at h
      refine lv_iload_n hx hb dX3_ask_32 rfl (lv_at hl 1 rfl) ?_
      refine lv_iload_n hx hb dX3_ask_33 rfl (lv_at hl 2 rfl) ?_
      refine lv_icmp_eq (tgt := 46) hx hb dX3_ask_34 (by decide) (fun c16 => ?_) (fun c16 => ?_)
      · rw [if_pos c16] at h
        exact absurd h (by simp)
      · rw [if_neg c16] at h
        refine lv_iload_n hx hb dX3_ask_37 rfl (lv_at hl 3 rfl) ?_
        refine lv_iconst (v := 1) hx hb dX3_ask_38 (by decide) ?_
        refine lv_iconst (v := 5) hx hb dX3_ask_39 (by decide) ?_
        obtain ⟨q17, g18, h⟩ := vg_bind h
        refine va_calli (va_runS (As := [.int p3, .int 1, .int 5]) (rest := []) ⟨hx, hb, hml, hown, hts⟩ (cm_X3_isIn (m0 := m0) l D tc ad hO g18) (va_cwS 3 hts gX3_ask_X3_isIn rfl rfl rfl (by decide +kernel) ⟨(Nat.le_of_ble_eq_true rfl), (Nat.le_of_ble_eq_true rfl)⟩) ⟨qR_blind, qR_pre hP hK hZ⟩ rfl rfl hl.1 rfl (lv_room (Nat.le_of_ble_eq_true rfl)) dX3_ask_40 ⟨(Nat.le_of_ble_eq_true rfl), (Nat.le_of_ble_eq_true rfl)⟩) hS (fun q9 _ h9 => h9.elim) (fun q9 h9 => h9.elim) (fun w19 u t H1 locs ht hvm hw hB hz1 hk1 hS => ?_)
        have hP := hP.kept (fun k9 q9 hk9 => hk1 q9.1 (hP k9 q9 hk9).lt (fun h9 => h9))
        generalize H1 = H at hP hS ⊢
        clear hk1 hz1 ht hvm
        have hw : w19 = q17 := hw
        rw [hw]
        refine lv_if_ne (tgt := 56) hx hb dX3_ask_43 (by decide) (fun c20 => ?_) (fun c20 => ?_)
        · rw [if_neg c20] at h
          refine lv_aload_n hx hb dX3_ask_56 rfl (lv_at hl 0 rfl) ?_
          obtain ⟨y21, g22, h⟩ := vg_bind h
          have n_y21 := hO _ _ _ g22
          refine va_get (D := D) (ci := 3) (v := .ref (ad y21)) (C := RX3) (T := TX3) (N := 2) hx hb hts in_X3_ask_X3 hown hK hP p0 (vW_k3 n_p0 g1) rfl 0 (by decide) (hts (.fieldLink RX3 10 "VaultDoors" "vault" "LVaultDoors$Vault;") (List.mem_of_getElem? (i := 7) rfl)) (fun _ h9 => h9) (by show some (va_rf (Option.map ad (mr m0 p0 0))) = _; rw [g22]; rfl) dX3_ask_57 ?_
          obtain ⟨g23, h⟩ := vg_if h
          obtain ⟨y24, g25, h⟩ := vg_bind h
          have n_y24 := hO _ _ _ g25
          refine va_get (D := D) (ci := 1) (v := .ref (ad y24)) (C := RX1) (T := TX1) (N := 5) hx hb hts in_X3_ask_X1 hown hK hP y21 (vW_k1 n_y21 g23) rfl 2 (by decide) (hts (.fieldLink RX3 62 "VaultDoors$Vault" "doors" "[LVaultDoors$Door;") (List.mem_of_getElem? (i := 8) rfl)) (fun _ h9 => h9) (by show some (va_rf (Option.map ad (mr m0 y21 2))) = _; rw [g25]; rfl) dX3_ask_60 ?_
          refine lv_iload_n hx hb dX3_ask_63 rfl (lv_at hl 1 rfl) ?_
          obtain ⟨g26, h⟩ := vg_if h
          obtain ⟨g27, h⟩ := vg_if h
          obtain ⟨y28, g29, h⟩ := vg_bind h
          have n_y28 := hO _ _ _ g29
          refine va_aldq (D := D) hx hb hK hP y24 1 (vW_k7 n_y24 g26) rfl (i := p1) g27 dX3_ask_64 ?_
          refine W.eq (g2 := F0 m 65 ls [.ref (ad y28)]) (by show F0 m 65 ls (va_rf (Option.map ad (mr m0 y24 p1.toNatClampNeg)) :: _) = _; rw [g29]; rfl) ?_
          refine lv_astore (lv' := [(4, .ref (ad y28)), (0, .ref (ad p0)), (1, .int p1), (2, .int p2), (3, .int p3)]) hx hb dX3_ask_65 hl (by decide) rfl (fun ls hl => ?_)
          refine lv_aload hx hb dX3_ask_67 (lv_at hl 0 rfl) ?_
          obtain ⟨g30, h⟩ := vg_if h
          refine va_get (D := D) (ci := 0) (v := .int (mi m0 y28 3)) (C := RX0) (T := TX0) (N := 14) hx hb hts in_X3_ask_X0 hown hK hP y28 (vW_k0 n_y28 g30) rfl 3 (by decide) (hts (.fieldLink RX3 66 "VaultDoors$Door" "state" "I") (List.mem_of_getElem? (i := 9) rfl)) (fun _ h9 => h9) rfl dX3_ask_69 ?_
          refine lv_if_ne (tgt := 93) hx hb dX3_ask_72 (by decide) (fun c31 => ?_) (fun c31 => ?_)
          · rw [if_neg c31] at h
            exact absurd h (by simp)
          · rw [if_pos c31] at h
            refine lv_aload hx hb dX3_ask_75 (lv_at hl 0 rfl) ?_
            refine lv_iload_n hx hb dX3_ask_77 rfl (lv_at hl 3 rfl) ?_
            obtain ⟨q32, g33, h⟩ := vg_bind h
            refine va_calli (va_runV (As := [.int p2]) (rest := []) ⟨hx, hb, hml, hown, hts⟩ (cm_X0_placeOf (m0 := m0) l D tc ad hO n_y28 g33) (cwV 1 hts gX3_ask_X0_placeOf rfl rfl rfl (by decide +kernel) ⟨(Nat.le_of_ble_eq_true rfl), (Nat.le_of_ble_eq_true rfl)⟩) ⟨qR_blind, va_recv hK hP (ci := 0) (q0 := y28) rfl (vW_k0 n_y28 g30), qR_pre hP hK hZ⟩ rfl rfl hl.1 rfl (lv_room (Nat.le_of_ble_eq_true rfl)) dX3_ask_78 ⟨(Nat.le_of_ble_eq_true rfl), (Nat.le_of_ble_eq_true rfl)⟩) hS (fun q9 _ h9 => h9.elim) (fun q9 h9 => h9.elim) (fun w34 u t H1 locs ht hvm hw hB hz1 hk1 hS => ?_)
            have hP := hP.kept (fun k9 q9 hk9 => hk1 q9.1 (hP k9 q9 hk9).lt (fun h9 => h9))
            generalize H1 = H at hP hS ⊢
            clear hk1 hz1 ht hvm
            have hw : w34 = q32 := hw
            rw [hw]
            refine lv_if_ge (tgt := 93) hx hb dX3_ask_81 (by decide) (fun c35 => ?_) (fun c35 => ?_)
            · rw [if_pos c35] at h
              exact absurd h (by simp)
            · rw [if_neg c35] at h
              refine lv_aload hx hb dX3_ask_84 (lv_at hl 0 rfl) ?_
              refine va_get (D := D) (ci := 0) (v := .int (mi m0 y28 7)) (C := RX0) (T := TX0) (N := 14) hx hb hts in_X3_ask_X0 hown hK hP y28 (vW_k0 n_y28 g30) rfl 7 (by decide) (hts (.fieldLink RX3 75 "VaultDoors$Door" "asked" "I") (List.mem_of_getElem? (i := 10) rfl)) (fun _ h9 => h9) rfl dX3_ask_86 ?_
              refine lv_iconst (v := 4) hx hb dX3_ask_89 (by decide) ?_
              refine lv_icmp_lt (tgt := 103) hx hb dX3_ask_90 (by decide) (fun c36 => ?_) (fun c36 => ?_)
              · rw [if_pos c36] at h
                refine lv_aload hx hb dX3_ask_103 (lv_at hl 0 rfl) ?_
                refine lv_iload_n hx hb dX3_ask_105 rfl (lv_at hl 3 rfl) ?_
                refine lv_iload_n hx hb dX3_ask_106 rfl (lv_at hl 4 rfl) ?_
                obtain ⟨q37, g38, h⟩ := vg_bind h
                have hFc := vm_free hD hS hA
                refine va_callv (va_runV (As := [.int p2, .int p3]) (rest := []) ⟨hx, hb, hml, hown, hts⟩ (cm_X0_addAsked (m0 := m0) l D tc ad hO n_y28 g38) (cwV 2 hts gX3_ask_X0_addAsked rfl rfl rfl (by decide +kernel) ⟨(Nat.le_of_ble_eq_true rfl), (Nat.le_of_ble_eq_true rfl)⟩) ⟨qW_blind, va_recv hK hP (ci := 0) (q0 := y28) rfl (vW_k0 n_y28 g30), qW_pre hP hD hK hZ⟩ rfl rfl hl.1 rfl (lv_room (Nat.le_of_ble_eq_true rfl)) dX3_ask_107 ⟨(Nat.le_of_ble_eq_true rfl), (Nat.le_of_ble_eq_true rfl)⟩) hS (fun q9 _ h9 => hFc q9 h9) hFc (fun u t H1 locs ht hvm hw hB hz1 hk1 hS => ?_)
                obtain ⟨hO40, hP1, hK1, hD1⟩ := hB
                rw [ht] at hP1
                have hP := hP1
                have hD := hD1.weaken (fun _ q9 _ h9 => hFc q9.1 h9)
                generalize H1 = H at hP hS ⊢
                have hP : va_P D vwCl (vW tc ad N q37) H := hP
                have hD : va_D A (vW tc ad N q37) := hD
                clear hk1 hz1 ht hvm
                refine lv_aload hx hb dX3_ask_110 (lv_at hl 0 rfl) ?_
                obtain ⟨g41, h⟩ := vg_if h
                refine va_get (D := D) (ci := 0) (v := .int (mi q37 y28 7)) (C := RX0) (T := TX0) (N := 14) hx hb hts in_X3_ask_X0 hown hK hP y28 (vW_k0 n_y28 g41) rfl 7 (by decide) (hts (.fieldLink RX3 75 "VaultDoors$Door" "asked" "I") (List.mem_of_getElem? (i := 10) rfl)) (fun _ h9 => h9) rfl dX3_ask_112 ?_
                have hz := Option.some.inj h
                exact W.iret (v := mi q37 y28 7) hx hb hr (fun t ht hW => ⟨⟨_, (), rfl, by rw [← hz], by rw [← hz]; exact hO40, by rw [ht, ← hz]; exact hP, va_K.moved hW.alike hK, by rw [← hz]; exact hD⟩, hS.F ht⟩) hS.2.2 dX3_ask_115
              · rw [if_neg c36] at h
                exact absurd h (by simp)
        · rw [if_pos c20] at h
          exact absurd h (by simp)
    · rw [if_pos c15] at h
      exact absurd h (by simp)

noncomputable def f_X3_set (m : vM) (p0 : Nat) (p1 : Int32) (p2 : Int32) (p3 : Int32) : Option (Int32 × vM) :=
  if mk m p0 = 3 then
  Option.bind (mr m p0 0) fun y2 =>
  if mk m y2 = 1 then
  Option.bind (f_X1_isDoor m y2 p1) fun q5 =>
  if q5 = 0 then (
    none
  ) else (
    Option.bind (f_X3_isRule m p2) fun q9 =>
    if q9 = 0 then (
      none
    ) else (
      Option.bind (f_X3_isPatience m p3) fun q13 =>
      if q13 = 0 then (
        none
      ) else (
        Option.bind (mr m p0 0) fun y17 =>
        if mk m y17 = 1 then
        Option.bind (mr m y17 2) fun y20 =>
        if mk m y20 = 7 then
        if vin p1 (ml m y20) then
        Option.bind (mr m y20 p1.toNatClampNeg) fun y24 =>
        if mk m y24 = 0 then
        some (((100 * (mi m y24 2)) + (mi m y24 1)), (mI ((mI m y24 2 p2)) y24 1 p3))
        else none
        else none
        else none
        else none
      )
    )
  )
  else none
  else none
theorem in_X3_set_X0 : ∀ w ∈ wsX00, w ∈ wsX3_set := by decide +kernel
theorem in_X3_set_X1 : ∀ w ∈ wsX10, w ∈ wsX3_set := by decide +kernel
theorem in_X3_set_X3 : ∀ w ∈ wsX30, w ∈ wsX3_set := by decide +kernel
set_option maxHeartbeats 1000000 in
set_option maxRecDepth 100000 in
theorem cm_X3_set (l : Launch) (D : va_G) (tc : Nat → ClassId) (ad : Nat → Nat) {N : Nat} {m0 : vM} {sz : Nat} {p0 : Nat} {p1 : Int32} {p2 : Int32} {p3 : Int32} (hO : vOK N m0) (n_p0 : p0 < N) {z : Int32 × vM} (h : f_X3_set m0 p0 p1 p2 p3 = some z) : Met l yX3_set wsX3_set ({ frames := 2, cells := 0, slots := 0, locals := 42 } : Room) (va_Pc [.ref (ad p0), .int p1, .int p2, .int p3] (qW D tc ad N m0 sz)) (va_Qi (fun (r9 : Int32) (_ : Unit) => r9 = z.1) (fun _ t => vOK N z.2 ∧ pB D (va_A (vW tc ad N m0) sz) (vW tc ad N z.2) (vT tc) t) (va_A (vW tc ad N m0) sz)) 0 0 (va_A (vW tc ad N m0) sz) := by
  refine Met.ofW (cc := cX3_set) (maxL := 6) (ret := (some .int)) (by decide) rfl ?_
  intro p e s m args below meth c s₁ B hml hv
  obtain ⟨rfl, hsz, hP, hK, hD0, hZ⟩ := hv
  have hx := B.exec
  have hb := B.bytes
  have hr := B.returns
  have hts := atoms_spec (ws := wsX3_set) B.pre
  have hown : s.vm.findClass RX3 = some m.cls := findClass_of_methodNamed B.named
  have hlocks := B.notSynchronized
  subst hsz
  have hD := hD0.self (sz := s.heap.size)
  generalize hAe : va_A (vW tc ad N m0) s.heap.size = A at hD ⊢
  have hA : ∀ q : Nat, s.heap.size ≤ q → A q := fun q h => by rw [← hAe]; exact Or.inr h
  have hS : va_S A s.heap s.heap [] := va_S.rf
  have hl := lv_entry ([.ref (ad p0), .int p1, .int p2, .int p3]) (n := 6) (Nat.le_of_ble_eq_true rfl)
  rw [lg_entry_eq]
  generalize (lg_sl ([.ref (ad p0), .int p1, .int p2, .int p3]) ++ List.replicate (6 - (lg_sl ([.ref (ad p0), .int p1, .int p2, .int p3])).length) Slot.unset).toArray = ls at hl ⊢
  have hl : lv_has ls 6 [(0, .ref (ad p0)), (1, .int p1), (2, .int p2), (3, .int p3)] := hl
  unfold f_X3_set at h
  refine lv_aload_n hx hb dX3_set_0 rfl (lv_at hl 0 rfl) ?_
  obtain ⟨g1, h⟩ := vg_if h
  obtain ⟨y2, g3, h⟩ := vg_bind h
  have n_y2 := hO _ _ _ g3
  refine va_get (D := D) (ci := 3) (v := .ref (ad y2)) (C := RX3) (T := TX3) (N := 2) hx hb hts in_X3_set_X3 hown hK hP p0 (vW_k3 n_p0 g1) rfl 0 (by decide) (hts (.fieldLink RX3 10 "VaultDoors" "vault" "LVaultDoors$Vault;") (List.mem_of_getElem? (i := 5) rfl)) (fun _ h9 => h9) (by show some (va_rf (Option.map ad (mr m0 p0 0))) = _; rw [g3]; rfl) dX3_set_1 ?_
  refine lv_iload_n hx hb dX3_set_4 rfl (lv_at hl 1 rfl) ?_
  obtain ⟨g4, h⟩ := vg_if h
  obtain ⟨q5, g6, h⟩ := vg_bind h
  refine va_calli (va_runV (As := [.int p1]) (rest := []) ⟨hx, hb, hml, hown, hts⟩ (cm_X1_isDoor (m0 := m0) l D tc ad hO n_y2 g6) (cwV 1 hts gX3_set_X1_isDoor rfl rfl rfl (by decide +kernel) ⟨(Nat.le_of_ble_eq_true rfl), (Nat.le_of_ble_eq_true rfl)⟩) ⟨qR_blind, va_recv hK hP (ci := 1) (q0 := y2) rfl (vW_k1 n_y2 g4), qR_pre hP hK hZ⟩ rfl rfl hl.1 rfl (lv_room (Nat.le_of_ble_eq_true rfl)) dX3_set_5 ⟨(Nat.le_of_ble_eq_true rfl), (Nat.le_of_ble_eq_true rfl)⟩) hS (fun q9 _ h9 => h9.elim) (fun q9 h9 => h9.elim) (fun w7 u t H1 locs ht hvm hw hB hz1 hk1 hS => ?_)
  have hP := hP.kept (fun k9 q9 hk9 => hk1 q9.1 (hP k9 q9 hk9).lt (fun h9 => h9))
  generalize H1 = H at hP hS ⊢
  clear hk1 hz1 ht hvm
  have hw : w7 = q5 := hw
  rw [hw]
  refine lv_if_ne (tgt := 21) hx hb dX3_set_8 (by decide) (fun c8 => ?_) (fun c8 => ?_)
  · rw [if_neg c8] at h
    refine lv_iload_n hx hb dX3_set_21 rfl (lv_at hl 2 rfl) ?_
    obtain ⟨q9, g10, h⟩ := vg_bind h
    refine va_calli (va_runS (As := [.int p2]) (rest := []) ⟨hx, hb, hml, hown, hts⟩ (cm_X3_isRule (m0 := m0) l D tc ad hO g10) (va_cwS 1 hts gX3_set_X3_isRule rfl rfl rfl (by decide +kernel) ⟨(Nat.le_of_ble_eq_true rfl), (Nat.le_of_ble_eq_true rfl)⟩) ⟨qR_blind, qR_pre hP hK hZ⟩ rfl rfl hl.1 rfl (lv_room (Nat.le_of_ble_eq_true rfl)) dX3_set_22 ⟨(Nat.le_of_ble_eq_true rfl), (Nat.le_of_ble_eq_true rfl)⟩) hS (fun q9 _ h9 => h9.elim) (fun q9 h9 => h9.elim) (fun w11 u t H1 locs ht hvm hw hB hz1 hk1 hS => ?_)
    have hP := hP.kept (fun k9 q9 hk9 => hk1 q9.1 (hP k9 q9 hk9).lt (fun h9 => h9))
    generalize H1 = H at hP hS ⊢
    clear hk1 hz1 ht hvm
    have hw : w11 = q9 := hw
    rw [hw]
    refine lv_if_eq (tgt := 35) hx hb dX3_set_25 (by decide) (fun c12 => ?_) (fun c12 => ?_)
    · rw [if_pos c12] at h
      exact absurd h (by simp)
    · rw [if_neg c12] at h
      refine lv_iload_n hx hb dX3_set_28 rfl (lv_at hl 3 rfl) ?_
      obtain ⟨q13, g14, h⟩ := vg_bind h
      refine va_calli (va_runS (As := [.int p3]) (rest := []) ⟨hx, hb, hml, hown, hts⟩ (cm_X3_isPatience (m0 := m0) l D tc ad hO g14) (va_cwS 1 hts gX3_set_X3_isPatience rfl rfl rfl (by decide +kernel) ⟨(Nat.le_of_ble_eq_true rfl), (Nat.le_of_ble_eq_true rfl)⟩) ⟨qR_blind, qR_pre hP hK hZ⟩ rfl rfl hl.1 rfl (lv_room (Nat.le_of_ble_eq_true rfl)) dX3_set_29 ⟨(Nat.le_of_ble_eq_true rfl), (Nat.le_of_ble_eq_true rfl)⟩) hS (fun q9 _ h9 => h9.elim) (fun q9 h9 => h9.elim) (fun w15 u t H1 locs ht hvm hw hB hz1 hk1 hS => ?_)
      have hP := hP.kept (fun k9 q9 hk9 => hk1 q9.1 (hP k9 q9 hk9).lt (fun h9 => h9))
      generalize H1 = H at hP hS ⊢
      clear hk1 hz1 ht hvm
      have hw : w15 = q13 := hw
      rw [hw]
      refine lv_if_ne (tgt := 45) hx hb dX3_set_32 (by decide) (fun c16 => ?_) (fun c16 => ?_)
      · rw [if_neg c16] at h
        refine lv_aload_n hx hb dX3_set_45 rfl (lv_at hl 0 rfl) ?_
        obtain ⟨y17, g18, h⟩ := vg_bind h
        have n_y17 := hO _ _ _ g18
        refine va_get (D := D) (ci := 3) (v := .ref (ad y17)) (C := RX3) (T := TX3) (N := 2) hx hb hts in_X3_set_X3 hown hK hP p0 (vW_k3 n_p0 g1) rfl 0 (by decide) (hts (.fieldLink RX3 10 "VaultDoors" "vault" "LVaultDoors$Vault;") (List.mem_of_getElem? (i := 5) rfl)) (fun _ h9 => h9) (by show some (va_rf (Option.map ad (mr m0 p0 0))) = _; rw [g18]; rfl) dX3_set_46 ?_
        obtain ⟨g19, h⟩ := vg_if h
        obtain ⟨y20, g21, h⟩ := vg_bind h
        have n_y20 := hO _ _ _ g21
        refine va_get (D := D) (ci := 1) (v := .ref (ad y20)) (C := RX1) (T := TX1) (N := 5) hx hb hts in_X3_set_X1 hown hK hP y17 (vW_k1 n_y17 g19) rfl 2 (by decide) (hts (.fieldLink RX3 62 "VaultDoors$Vault" "doors" "[LVaultDoors$Door;") (List.mem_of_getElem? (i := 6) rfl)) (fun _ h9 => h9) (by show some (va_rf (Option.map ad (mr m0 y17 2))) = _; rw [g21]; rfl) dX3_set_49 ?_
        refine lv_iload_n hx hb dX3_set_52 rfl (lv_at hl 1 rfl) ?_
        obtain ⟨g22, h⟩ := vg_if h
        obtain ⟨g23, h⟩ := vg_if h
        obtain ⟨y24, g25, h⟩ := vg_bind h
        have n_y24 := hO _ _ _ g25
        refine va_aldq (D := D) hx hb hK hP y20 1 (vW_k7 n_y20 g22) rfl (i := p1) g23 dX3_set_53 ?_
        refine W.eq (g2 := F0 m 54 ls [.ref (ad y24)]) (by show F0 m 54 ls (va_rf (Option.map ad (mr m0 y20 p1.toNatClampNeg)) :: _) = _; rw [g25]; rfl) ?_
        refine lv_astore (lv' := [(4, .ref (ad y24)), (0, .ref (ad p0)), (1, .int p1), (2, .int p2), (3, .int p3)]) hx hb dX3_set_54 hl (by decide) rfl (fun ls hl => ?_)
        refine lv_bipush (v := 100) hx hb dX3_set_56 (by decide) ?_
        refine lv_aload hx hb dX3_set_58 (lv_at hl 0 rfl) ?_
        obtain ⟨g26, h⟩ := vg_if h
        refine va_get (D := D) (ci := 0) (v := .int (mi m0 y24 2)) (C := RX0) (T := TX0) (N := 14) hx hb hts in_X3_set_X0 hown hK hP y24 (vW_k0 n_y24 g26) rfl 2 (by decide) (hts (.fieldLink RX3 86 "VaultDoors$Door" "rule" "I") (List.mem_of_getElem? (i := 7) rfl)) (fun _ h9 => h9) rfl dX3_set_60 ?_
        refine lv_imul hx hb dX3_set_63 ?_
        refine lv_aload hx hb dX3_set_64 (lv_at hl 0 rfl) ?_
        refine va_get (D := D) (ci := 0) (v := .int (mi m0 y24 1)) (C := RX0) (T := TX0) (N := 14) hx hb hts in_X3_set_X0 hown hK hP y24 (vW_k0 n_y24 g26) rfl 1 (by decide) (hts (.fieldLink RX3 89 "VaultDoors$Door" "patience" "I") (List.mem_of_getElem? (i := 8) rfl)) (fun _ h9 => h9) rfl dX3_set_66 ?_
        refine lv_iadd hx hb dX3_set_69 ?_
        refine lv_istore (lv' := [(5, .int ((100 * (mi m0 y24 2)) + (mi m0 y24 1))), (4, .ref (ad y24)), (0, .ref (ad p0)), (1, .int p1), (2, .int p2), (3, .int p3)]) hx hb dX3_set_70 hl (by decide) rfl (fun ls hl => ?_)
        refine lv_aload hx hb dX3_set_72 (lv_at hl 1 rfl) ?_
        refine lv_iload_n hx hb dX3_set_74 rfl (lv_at hl 4 rfl) ?_
        refine va_put (D := D) (ci := 0) (v := .int p2) (ty := .int) (C := RX0) (T := TX0) (N := 14) hx hb hts in_X3_set_X0 tyX0 tyX0_ok nmX0 hown hK hP hD hS y24 (vW_k0 n_y24 g26) rfl 2 (by decide) (hts (.fieldLink RX3 86 "VaultDoors$Door" "rule" "I") (List.mem_of_getElem? (i := 7) rfl)) (fun _ h9 => h9) rfl (by decide +kernel) rfl rfl (Nat.le_of_ble_eq_true rfl) dX3_set_75 (fun H locs hP hD hS => ?_)
        have hO27 := vOK.I (a := y24) (j := 2) (v := p2) hO
        rw [vW_p0_2 (m := m0) n_y24 g26] at hP hD
        have hP : va_P D vwCl (vW tc ad N ((mI m0 y24 2 p2))) H := hP
        have hD : va_D A (vW tc ad N ((mI m0 y24 2 p2))) := hD
        refine lv_aload hx hb dX3_set_78 (lv_at hl 1 rfl) ?_
        refine lv_iload_n hx hb dX3_set_80 rfl (lv_at hl 5 rfl) ?_
        refine va_put (D := D) (ci := 0) (v := .int p3) (ty := .int) (C := RX0) (T := TX0) (N := 14) hx hb hts in_X3_set_X0 tyX0 tyX0_ok nmX0 hown hK hP hD hS y24 (vW_k0 n_y24 g26) rfl 1 (by decide) (hts (.fieldLink RX3 89 "VaultDoors$Door" "patience" "I") (List.mem_of_getElem? (i := 8) rfl)) (fun _ h9 => h9) rfl (by decide +kernel) rfl rfl (Nat.le_of_ble_eq_true rfl) dX3_set_81 (fun H locs hP hD hS => ?_)
        have hO28 := vOK.I (a := y24) (j := 1) (v := p3) hO27
        rw [vW_p0_1 (m := ((mI m0 y24 2 p2))) n_y24 g26] at hP hD
        have hP : va_P D vwCl (vW tc ad N ((mI ((mI m0 y24 2 p2)) y24 1 p3))) H := hP
        have hD : va_D A (vW tc ad N ((mI ((mI m0 y24 2 p2)) y24 1 p3))) := hD
        refine lv_iload hx hb dX3_set_84 (lv_at hl 0 rfl) ?_
        have hz := Option.some.inj h
        exact W.iret (v := (100 * (mi m0 y24 2)) + (mi m0 y24 1)) hx hb hr (fun t ht hW => ⟨⟨_, (), rfl, by rw [← hz], by rw [← hz]; exact hO28, by rw [ht, ← hz]; exact hP, va_K.moved hW.alike hK, by rw [← hz]; exact hD⟩, hS.F ht⟩) hS.2.2 dX3_set_86
      · rw [if_pos c16] at h
        exact absurd h (by simp)
  · rw [if_pos c8] at h
    exact absurd h (by simp)

noncomputable def f_X3_whisper (m : vM) (p0 : Nat) (p1 : Int32) (p2 : Int32) : Option (Int32 × vM) :=
  if mk m p0 = 3 then
  Option.bind (mr m p0 0) fun y2 =>
  if mk m y2 = 1 then
  Option.bind (f_X1_isDoor m y2 p1) fun q5 =>
  if q5 = 0 then (
    none
  ) else (
    Option.bind (f_X3_isIn m p2 ((0 : Int32)) ((99 : Int32))) fun q9 =>
    if q9 = 0 then (
      none
    ) else (
      Option.bind (mr m p0 0) fun y13 =>
      if mk m y13 = 1 then
      Option.bind (f_X1_hearToken m y13 p1 p2) fun q16 =>
      if q16.1 = 0 ∨ q16.1 = 1 then
      some (q16.1, q16.2)
      else none
      else none
    )
  )
  else none
  else none
theorem in_X3_whisper_X3 : ∀ w ∈ wsX30, w ∈ wsX3_whisper := by decide +kernel
set_option maxHeartbeats 1000000 in
set_option maxRecDepth 100000 in
theorem cm_X3_whisper (l : Launch) (D : va_G) (tc : Nat → ClassId) (ad : Nat → Nat) {N : Nat} {m0 : vM} {sz : Nat} {p0 : Nat} {p1 : Int32} {p2 : Int32} (hO : vOK N m0) (n_p0 : p0 < N) {z : Int32 × vM} (h : f_X3_whisper m0 p0 p1 p2 = some z) : Met l yX3_whisper wsX3_whisper ({ frames := 3, cells := 0, slots := 0, locals := 69 } : Room) (va_Pc [.ref (ad p0), .int p1, .int p2] (qW D tc ad N m0 sz)) (va_Qi (fun (r9 : Int32) (_ : Unit) => r9 = z.1) (fun _ t => vOK N z.2 ∧ pB D (va_A (vW tc ad N m0) sz) (vW tc ad N z.2) (vT tc) t) (va_A (vW tc ad N m0) sz)) 0 0 (va_A (vW tc ad N m0) sz) := by
  refine Met.ofW (cc := cX3_whisper) (maxL := 3) (ret := (some .boolean)) (by decide) rfl ?_
  intro p e s m args below meth c s₁ B hml hv
  obtain ⟨rfl, hsz, hP, hK, hD0, hZ⟩ := hv
  have hx := B.exec
  have hb := B.bytes
  have hr := B.returns
  have hts := atoms_spec (ws := wsX3_whisper) B.pre
  have hown : s.vm.findClass RX3 = some m.cls := findClass_of_methodNamed B.named
  have hlocks := B.notSynchronized
  subst hsz
  have hD := hD0.self (sz := s.heap.size)
  generalize hAe : va_A (vW tc ad N m0) s.heap.size = A at hD ⊢
  have hA : ∀ q : Nat, s.heap.size ≤ q → A q := fun q h => by rw [← hAe]; exact Or.inr h
  have hS : va_S A s.heap s.heap [] := va_S.rf
  have hl := lv_entry ([.ref (ad p0), .int p1, .int p2]) (n := 3) (Nat.le_of_ble_eq_true rfl)
  rw [lg_entry_eq]
  generalize (lg_sl ([.ref (ad p0), .int p1, .int p2]) ++ List.replicate (3 - (lg_sl ([.ref (ad p0), .int p1, .int p2])).length) Slot.unset).toArray = ls at hl ⊢
  have hl : lv_has ls 3 [(0, .ref (ad p0)), (1, .int p1), (2, .int p2)] := hl
  unfold f_X3_whisper at h
  refine lv_aload_n hx hb dX3_whisper_0 rfl (lv_at hl 0 rfl) ?_
  obtain ⟨g1, h⟩ := vg_if h
  obtain ⟨y2, g3, h⟩ := vg_bind h
  have n_y2 := hO _ _ _ g3
  refine va_get (D := D) (ci := 3) (v := .ref (ad y2)) (C := RX3) (T := TX3) (N := 2) hx hb hts in_X3_whisper_X3 hown hK hP p0 (vW_k3 n_p0 g1) rfl 0 (by decide) (hts (.fieldLink RX3 10 "VaultDoors" "vault" "LVaultDoors$Vault;") (List.mem_of_getElem? (i := 5) rfl)) (fun _ h9 => h9) (by show some (va_rf (Option.map ad (mr m0 p0 0))) = _; rw [g3]; rfl) dX3_whisper_1 ?_
  refine lv_iload_n hx hb dX3_whisper_4 rfl (lv_at hl 1 rfl) ?_
  obtain ⟨g4, h⟩ := vg_if h
  obtain ⟨q5, g6, h⟩ := vg_bind h
  refine va_calli (va_runV (As := [.int p1]) (rest := []) ⟨hx, hb, hml, hown, hts⟩ (cm_X1_isDoor (m0 := m0) l D tc ad hO n_y2 g6) (cwV 1 hts gX3_whisper_X1_isDoor rfl rfl rfl (by decide +kernel) ⟨(Nat.le_of_ble_eq_true rfl), (Nat.le_of_ble_eq_true rfl)⟩) ⟨qR_blind, va_recv hK hP (ci := 1) (q0 := y2) rfl (vW_k1 n_y2 g4), qR_pre hP hK hZ⟩ rfl rfl hl.1 rfl (lv_room (Nat.le_of_ble_eq_true rfl)) dX3_whisper_5 ⟨(Nat.le_of_ble_eq_true rfl), (Nat.le_of_ble_eq_true rfl)⟩) hS (fun q9 _ h9 => h9.elim) (fun q9 h9 => h9.elim) (fun w7 u t H1 locs ht hvm hw hB hz1 hk1 hS => ?_)
  have hP := hP.kept (fun k9 q9 hk9 => hk1 q9.1 (hP k9 q9 hk9).lt (fun h9 => h9))
  generalize H1 = H at hP hS ⊢
  clear hk1 hz1 ht hvm
  have hw : w7 = q5 := hw
  rw [hw]
  refine lv_if_ne (tgt := 21) hx hb dX3_whisper_8 (by decide) (fun c8 => ?_) (fun c8 => ?_)
  · rw [if_neg c8] at h
    refine lv_iload_n hx hb dX3_whisper_21 rfl (lv_at hl 2 rfl) ?_
    refine lv_iconst (v := 0) hx hb dX3_whisper_22 (by decide) ?_
    refine lv_bipush (v := 99) hx hb dX3_whisper_23 (by decide) ?_
    obtain ⟨q9, g10, h⟩ := vg_bind h
    refine va_calli (va_runS (As := [.int p2, .int 0, .int 99]) (rest := []) ⟨hx, hb, hml, hown, hts⟩ (cm_X3_isIn (m0 := m0) l D tc ad hO g10) (va_cwS 3 hts gX3_whisper_X3_isIn rfl rfl rfl (by decide +kernel) ⟨(Nat.le_of_ble_eq_true rfl), (Nat.le_of_ble_eq_true rfl)⟩) ⟨qR_blind, qR_pre hP hK hZ⟩ rfl rfl hl.1 rfl (lv_room (Nat.le_of_ble_eq_true rfl)) dX3_whisper_25 ⟨(Nat.le_of_ble_eq_true rfl), (Nat.le_of_ble_eq_true rfl)⟩) hS (fun q9 _ h9 => h9.elim) (fun q9 h9 => h9.elim) (fun w11 u t H1 locs ht hvm hw hB hz1 hk1 hS => ?_)
    have hP := hP.kept (fun k9 q9 hk9 => hk1 q9.1 (hP k9 q9 hk9).lt (fun h9 => h9))
    generalize H1 = H at hP hS ⊢
    clear hk1 hz1 ht hvm
    have hw : w11 = q9 := hw
    rw [hw]
    refine lv_if_ne (tgt := 41) hx hb dX3_whisper_28 (by decide) (fun c12 => ?_) (fun c12 => ?_)
    · rw [if_neg c12] at h
      refine lv_aload_n hx hb dX3_whisper_41 rfl (lv_at hl 0 rfl) ?_
      obtain ⟨y13, g14, h⟩ := vg_bind h
      have n_y13 := hO _ _ _ g14
      refine va_get (D := D) (ci := 3) (v := .ref (ad y13)) (C := RX3) (T := TX3) (N := 2) hx hb hts in_X3_whisper_X3 hown hK hP p0 (vW_k3 n_p0 g1) rfl 0 (by decide) (hts (.fieldLink RX3 10 "VaultDoors" "vault" "LVaultDoors$Vault;") (List.mem_of_getElem? (i := 5) rfl)) (fun _ h9 => h9) (by show some (va_rf (Option.map ad (mr m0 p0 0))) = _; rw [g14]; rfl) dX3_whisper_42 ?_
      refine lv_iload_n hx hb dX3_whisper_45 rfl (lv_at hl 1 rfl) ?_
      refine lv_iload_n hx hb dX3_whisper_46 rfl (lv_at hl 2 rfl) ?_
      obtain ⟨g15, h⟩ := vg_if h
      obtain ⟨q16, g17, h⟩ := vg_bind h
      have hFc := vm_free hD hS hA
      refine va_calli (va_runV (As := [.int p1, .int p2]) (rest := []) ⟨hx, hb, hml, hown, hts⟩ (cm_X1_hearToken (m0 := m0) l D tc ad hO n_y13 g17) (cwV 2 hts gX3_whisper_X1_hearToken rfl rfl rfl (by decide +kernel) ⟨(Nat.le_of_ble_eq_true rfl), (Nat.le_of_ble_eq_true rfl)⟩) ⟨qW_blind, va_recv hK hP (ci := 1) (q0 := y13) rfl (vW_k1 n_y13 g15), qW_pre hP hD hK hZ⟩ rfl rfl hl.1 rfl (lv_room (Nat.le_of_ble_eq_true rfl)) dX3_whisper_47 ⟨(Nat.le_of_ble_eq_true rfl), (Nat.le_of_ble_eq_true rfl)⟩) hS (fun q9 _ h9 => hFc q9 h9) hFc (fun w18 u t H1 locs ht hvm hw hB hz1 hk1 hS => ?_)
      obtain ⟨hO19, hP1, hK1, hD1⟩ := hB
      rw [ht] at hP1
      have hP := hP1
      have hD := hD1.weaken (fun _ q9 _ h9 => hFc q9.1 h9)
      generalize H1 = H at hP hS ⊢
      have hP : va_P D vwCl (vW tc ad N q16.2) H := hP
      have hD : va_D A (vW tc ad N q16.2) := hD
      clear hk1 hz1 ht hvm
      have hw : w18 = q16.1 := hw
      rw [hw]
      obtain ⟨g20, h⟩ := vg_if h
      have hz := Option.some.inj h
      exact W.zret (v := q16.1) (ty := .boolean) hx hb hr (vm_z g20) (fun t ht hW => ⟨⟨_, (), rfl, by rw [← hz], by rw [← hz]; exact hO19, by rw [ht, ← hz]; exact hP, va_K.moved hW.alike hK, by rw [← hz]; exact hD⟩, hS.F ht⟩) hS.2.2 dX3_whisper_50
    · rw [if_pos c12] at h
      exact absurd h (by simp)
  · rw [if_pos c8] at h
    exact absurd h (by simp)

noncomputable def f_X3_door (m : vM) (p0 : Nat) (p1 : Int32) (p2 : Int32) : Option (Int32) :=
  if mk m p0 = 3 then
  Option.bind (mr m p0 0) fun y2 =>
  if mk m y2 = 1 then
  Option.bind (f_X1_isDoor m y2 p1) fun q5 =>
  if q5 = 0 then (
    none
  ) else (
    Option.bind (f_X3_isIn m p2 ((0 : Int32)) ((8 : Int32))) fun q9 =>
    if q9 = 0 then (
      none
    ) else (
      Option.bind (mr m p0 0) fun y13 =>
      if mk m y13 = 1 then
      Option.bind (mr m y13 2) fun y16 =>
      if mk m y16 = 7 then
      if vin p1 (ml m y16) then
      Option.bind (mr m y16 p1.toNatClampNeg) fun y20 =>
      if mk m y20 = 0 then
      Option.bind (f_X0_fact m y20 p2) fun q23 =>
      some q23
      else none
      else none
      else none
      else none
    )
  )
  else none
  else none
theorem in_X3_door_X1 : ∀ w ∈ wsX10, w ∈ wsX3_door := by decide +kernel
theorem in_X3_door_X3 : ∀ w ∈ wsX30, w ∈ wsX3_door := by decide +kernel
set_option maxHeartbeats 1000000 in
set_option maxRecDepth 100000 in
theorem cm_X3_door (l : Launch) (D : va_G) (tc : Nat → ClassId) (ad : Nat → Nat) {N : Nat} {m0 : vM} {p0 : Nat} {p1 : Int32} {p2 : Int32} (hO : vOK N m0) (n_p0 : p0 < N) {z : Int32} (h : f_X3_door m0 p0 p1 p2 = some z) : Met l yX3_door wsX3_door ({ frames := 2, cells := 0, slots := 0, locals := 44 } : Room) (va_Pc [.ref (ad p0), .int p1, .int p2] (qR D tc ad N m0)) (va_Qi (fun (r9 : Int32) (_ : Unit) => r9 = z) (fun _ _ => True) (fun _ => False)) 0 0 (fun _ => False) := by
  refine Met.ofW (cc := cX3_door) (maxL := 3) (ret := (some .int)) (by decide) rfl ?_
  intro p e s m args below meth c s₁ B hml hv
  obtain ⟨rfl, hP, hK, hZ⟩ := hv
  have hx := B.exec
  have hb := B.bytes
  have hr := B.returns
  have hts := atoms_spec (ws := wsX3_door) B.pre
  have hown : s.vm.findClass RX3 = some m.cls := findClass_of_methodNamed B.named
  have hlocks := B.notSynchronized
  have hS : va_S (fun _ => False) s.heap s.heap [] := va_S.rf
  have hl := lv_entry ([.ref (ad p0), .int p1, .int p2]) (n := 3) (Nat.le_of_ble_eq_true rfl)
  rw [lg_entry_eq]
  generalize (lg_sl ([.ref (ad p0), .int p1, .int p2]) ++ List.replicate (3 - (lg_sl ([.ref (ad p0), .int p1, .int p2])).length) Slot.unset).toArray = ls at hl ⊢
  have hl : lv_has ls 3 [(0, .ref (ad p0)), (1, .int p1), (2, .int p2)] := hl
  unfold f_X3_door at h
  refine lv_aload_n hx hb dX3_door_0 rfl (lv_at hl 0 rfl) ?_
  obtain ⟨g1, h⟩ := vg_if h
  obtain ⟨y2, g3, h⟩ := vg_bind h
  have n_y2 := hO _ _ _ g3
  refine va_get (D := D) (ci := 3) (v := .ref (ad y2)) (C := RX3) (T := TX3) (N := 2) hx hb hts in_X3_door_X3 hown hK hP p0 (vW_k3 n_p0 g1) rfl 0 (by decide) (hts (.fieldLink RX3 10 "VaultDoors" "vault" "LVaultDoors$Vault;") (List.mem_of_getElem? (i := 3) rfl)) (fun _ h9 => h9) (by show some (va_rf (Option.map ad (mr m0 p0 0))) = _; rw [g3]; rfl) dX3_door_1 ?_
  refine lv_iload_n hx hb dX3_door_4 rfl (lv_at hl 1 rfl) ?_
  obtain ⟨g4, h⟩ := vg_if h
  obtain ⟨q5, g6, h⟩ := vg_bind h
  refine va_calli (va_runV (As := [.int p1]) (rest := []) ⟨hx, hb, hml, hown, hts⟩ (cm_X1_isDoor (m0 := m0) l D tc ad hO n_y2 g6) (cwV 1 hts gX3_door_X1_isDoor rfl rfl rfl (by decide +kernel) ⟨(Nat.le_of_ble_eq_true rfl), (Nat.le_of_ble_eq_true rfl)⟩) ⟨qR_blind, va_recv hK hP (ci := 1) (q0 := y2) rfl (vW_k1 n_y2 g4), qR_pre hP hK hZ⟩ rfl rfl hl.1 rfl (lv_room (Nat.le_of_ble_eq_true rfl)) dX3_door_5 ⟨(Nat.le_of_ble_eq_true rfl), (Nat.le_of_ble_eq_true rfl)⟩) hS (fun q9 _ h9 => h9.elim) (fun q9 h9 => h9.elim) (fun w7 u t H1 locs ht hvm hw hB hz1 hk1 hS => ?_)
  have hP := hP.kept (fun k9 q9 hk9 => hk1 q9.1 (hP k9 q9 hk9).lt (fun h9 => h9))
  generalize H1 = H at hP hS ⊢
  clear hk1 hz1 ht hvm
  have hw : w7 = q5 := hw
  rw [hw]
  refine lv_if_eq (tgt := 21) hx hb dX3_door_8 (by decide) (fun c8 => ?_) (fun c8 => ?_)
  · rw [if_pos c8] at h
    exact absurd h (by simp)
  · rw [if_neg c8] at h
    refine lv_iload_n hx hb dX3_door_11 rfl (lv_at hl 2 rfl) ?_
    refine lv_iconst (v := 0) hx hb dX3_door_12 (by decide) ?_
    refine lv_bipush (v := 8) hx hb dX3_door_13 (by decide) ?_
    obtain ⟨q9, g10, h⟩ := vg_bind h
    refine va_calli (va_runS (As := [.int p2, .int 0, .int 8]) (rest := []) ⟨hx, hb, hml, hown, hts⟩ (cm_X3_isIn (m0 := m0) l D tc ad hO g10) (va_cwS 3 hts gX3_door_X3_isIn rfl rfl rfl (by decide +kernel) ⟨(Nat.le_of_ble_eq_true rfl), (Nat.le_of_ble_eq_true rfl)⟩) ⟨qR_blind, qR_pre hP hK hZ⟩ rfl rfl hl.1 rfl (lv_room (Nat.le_of_ble_eq_true rfl)) dX3_door_15 ⟨(Nat.le_of_ble_eq_true rfl), (Nat.le_of_ble_eq_true rfl)⟩) hS (fun q9 _ h9 => h9.elim) (fun q9 h9 => h9.elim) (fun w11 u t H1 locs ht hvm hw hB hz1 hk1 hS => ?_)
    have hP := hP.kept (fun k9 q9 hk9 => hk1 q9.1 (hP k9 q9 hk9).lt (fun h9 => h9))
    generalize H1 = H at hP hS ⊢
    clear hk1 hz1 ht hvm
    have hw : w11 = q9 := hw
    rw [hw]
    refine lv_if_ne (tgt := 31) hx hb dX3_door_18 (by decide) (fun c12 => ?_) (fun c12 => ?_)
    · rw [if_neg c12] at h
      refine lv_aload_n hx hb dX3_door_31 rfl (lv_at hl 0 rfl) ?_
      obtain ⟨y13, g14, h⟩ := vg_bind h
      have n_y13 := hO _ _ _ g14
      refine va_get (D := D) (ci := 3) (v := .ref (ad y13)) (C := RX3) (T := TX3) (N := 2) hx hb hts in_X3_door_X3 hown hK hP p0 (vW_k3 n_p0 g1) rfl 0 (by decide) (hts (.fieldLink RX3 10 "VaultDoors" "vault" "LVaultDoors$Vault;") (List.mem_of_getElem? (i := 3) rfl)) (fun _ h9 => h9) (by show some (va_rf (Option.map ad (mr m0 p0 0))) = _; rw [g14]; rfl) dX3_door_32 ?_
      obtain ⟨g15, h⟩ := vg_if h
      obtain ⟨y16, g17, h⟩ := vg_bind h
      have n_y16 := hO _ _ _ g17
      refine va_get (D := D) (ci := 1) (v := .ref (ad y16)) (C := RX1) (T := TX1) (N := 5) hx hb hts in_X3_door_X1 hown hK hP y13 (vW_k1 n_y13 g15) rfl 2 (by decide) (hts (.fieldLink RX3 62 "VaultDoors$Vault" "doors" "[LVaultDoors$Door;") (List.mem_of_getElem? (i := 4) rfl)) (fun _ h9 => h9) (by show some (va_rf (Option.map ad (mr m0 y13 2))) = _; rw [g17]; rfl) dX3_door_35 ?_
      refine lv_iload_n hx hb dX3_door_38 rfl (lv_at hl 1 rfl) ?_
      obtain ⟨g18, h⟩ := vg_if h
      obtain ⟨g19, h⟩ := vg_if h
      obtain ⟨y20, g21, h⟩ := vg_bind h
      have n_y20 := hO _ _ _ g21
      refine va_aldq (D := D) hx hb hK hP y16 1 (vW_k7 n_y16 g18) rfl (i := p1) g19 dX3_door_39 ?_
      refine W.eq (g2 := F0 m 40 ls [.ref (ad y20)]) (by show F0 m 40 ls (va_rf (Option.map ad (mr m0 y16 p1.toNatClampNeg)) :: _) = _; rw [g21]; rfl) ?_
      refine lv_iload_n hx hb dX3_door_40 rfl (lv_at hl 2 rfl) ?_
      obtain ⟨g22, h⟩ := vg_if h
      obtain ⟨q23, g24, h⟩ := vg_bind h
      refine va_calli (va_runV (As := [.int p2]) (rest := []) ⟨hx, hb, hml, hown, hts⟩ (cm_X0_fact (m0 := m0) l D tc ad hO n_y20 g24) (cwV 1 hts gX3_door_X0_fact rfl rfl rfl (by decide +kernel) ⟨(Nat.le_of_ble_eq_true rfl), (Nat.le_of_ble_eq_true rfl)⟩) ⟨qR_blind, va_recv hK hP (ci := 0) (q0 := y20) rfl (vW_k0 n_y20 g22), qR_pre hP hK hZ⟩ rfl rfl hl.1 rfl (lv_room (Nat.le_of_ble_eq_true rfl)) dX3_door_41 ⟨(Nat.le_of_ble_eq_true rfl), (Nat.le_of_ble_eq_true rfl)⟩) hS (fun q9 _ h9 => h9.elim) (fun q9 h9 => h9.elim) (fun w25 u t H1 locs ht hvm hw hB hz1 hk1 hS => ?_)
      have hP := hP.kept (fun k9 q9 hk9 => hk1 q9.1 (hP k9 q9 hk9).lt (fun h9 => h9))
      generalize H1 = H at hP hS ⊢
      clear hk1 hz1 ht hvm
      have hw : w25 = q23 := hw
      rw [hw]
      have hz := Option.some.inj h
      exact W.iret (v := q23) hx hb hr (fun t ht hW => ⟨⟨_, (), rfl, hz, trivial⟩, hS.F ht⟩) hS.2.2 dX3_door_44
    · rw [if_pos c12] at h
      exact absurd h (by simp)

noncomputable def f_X3_asks (m : vM) (p0 : Nat) (p1 : Int32) (p2 : Int32) (p3 : Int32) : Option (Int32) :=
  if mk m p0 = 3 then
  Option.bind (mr m p0 0) fun y2 =>
  if mk m y2 = 1 then
  Option.bind (f_X1_isDoor m y2 p1) fun q5 =>
  if q5 = 0 then (
    none
  ) else (
    Option.bind (f_X3_isIn m p3 ((0 : Int32)) ((2 : Int32))) fun q9 =>
    if q9 = 0 then (
      none
    ) else (
      Option.bind (mr m p0 0) fun y13 =>
      if mk m y13 = 1 then
      Option.bind (mr m y13 2) fun y16 =>
      if mk m y16 = 7 then
      if vin p1 (ml m y16) then
      Option.bind (mr m y16 p1.toNatClampNeg) fun y20 =>
      if mk m y20 = 0 then
      Option.bind (f_X3_isIn m p2 ((0 : Int32)) (((mi m y20 7) - 1))) fun q23 =>
      if q23 = 0 then (
        none
      ) else (
        Option.bind (f_X0_askedFact m y20 p2 p3) fun q27 =>
        some q27
      )
      else none
      else none
      else none
      else none
    )
  )
  else none
  else none
theorem in_X3_asks_X0 : ∀ w ∈ wsX00, w ∈ wsX3_asks := by decide +kernel
theorem in_X3_asks_X1 : ∀ w ∈ wsX10, w ∈ wsX3_asks := by decide +kernel
theorem in_X3_asks_X3 : ∀ w ∈ wsX30, w ∈ wsX3_asks := by decide +kernel
set_option maxHeartbeats 1000000 in
set_option maxRecDepth 100000 in
theorem cm_X3_asks (l : Launch) (D : va_G) (tc : Nat → ClassId) (ad : Nat → Nat) {N : Nat} {m0 : vM} {p0 : Nat} {p1 : Int32} {p2 : Int32} {p3 : Int32} (hO : vOK N m0) (n_p0 : p0 < N) {z : Int32} (h : f_X3_asks m0 p0 p1 p2 p3 = some z) : Met l yX3_asks wsX3_asks ({ frames := 2, cells := 0, slots := 0, locals := 44 } : Room) (va_Pc [.ref (ad p0), .int p1, .int p2, .int p3] (qR D tc ad N m0)) (va_Qi (fun (r9 : Int32) (_ : Unit) => r9 = z) (fun _ _ => True) (fun _ => False)) 0 0 (fun _ => False) := by
  refine Met.ofW (cc := cX3_asks) (maxL := 5) (ret := (some .int)) (by decide) rfl ?_
  intro p e s m args below meth c s₁ B hml hv
  obtain ⟨rfl, hP, hK, hZ⟩ := hv
  have hx := B.exec
  have hb := B.bytes
  have hr := B.returns
  have hts := atoms_spec (ws := wsX3_asks) B.pre
  have hown : s.vm.findClass RX3 = some m.cls := findClass_of_methodNamed B.named
  have hlocks := B.notSynchronized
  have hS : va_S (fun _ => False) s.heap s.heap [] := va_S.rf
  have hl := lv_entry ([.ref (ad p0), .int p1, .int p2, .int p3]) (n := 5) (Nat.le_of_ble_eq_true rfl)
  rw [lg_entry_eq]
  generalize (lg_sl ([.ref (ad p0), .int p1, .int p2, .int p3]) ++ List.replicate (5 - (lg_sl ([.ref (ad p0), .int p1, .int p2, .int p3])).length) Slot.unset).toArray = ls at hl ⊢
  have hl : lv_has ls 5 [(0, .ref (ad p0)), (1, .int p1), (2, .int p2), (3, .int p3)] := hl
  unfold f_X3_asks at h
  refine lv_aload_n hx hb dX3_asks_0 rfl (lv_at hl 0 rfl) ?_
  obtain ⟨g1, h⟩ := vg_if h
  obtain ⟨y2, g3, h⟩ := vg_bind h
  have n_y2 := hO _ _ _ g3
  refine va_get (D := D) (ci := 3) (v := .ref (ad y2)) (C := RX3) (T := TX3) (N := 2) hx hb hts in_X3_asks_X3 hown hK hP p0 (vW_k3 n_p0 g1) rfl 0 (by decide) (hts (.fieldLink RX3 10 "VaultDoors" "vault" "LVaultDoors$Vault;") (List.mem_of_getElem? (i := 3) rfl)) (fun _ h9 => h9) (by show some (va_rf (Option.map ad (mr m0 p0 0))) = _; rw [g3]; rfl) dX3_asks_1 ?_
  refine lv_iload_n hx hb dX3_asks_4 rfl (lv_at hl 1 rfl) ?_
  obtain ⟨g4, h⟩ := vg_if h
  obtain ⟨q5, g6, h⟩ := vg_bind h
  refine va_calli (va_runV (As := [.int p1]) (rest := []) ⟨hx, hb, hml, hown, hts⟩ (cm_X1_isDoor (m0 := m0) l D tc ad hO n_y2 g6) (cwV 1 hts gX3_asks_X1_isDoor rfl rfl rfl (by decide +kernel) ⟨(Nat.le_of_ble_eq_true rfl), (Nat.le_of_ble_eq_true rfl)⟩) ⟨qR_blind, va_recv hK hP (ci := 1) (q0 := y2) rfl (vW_k1 n_y2 g4), qR_pre hP hK hZ⟩ rfl rfl hl.1 rfl (lv_room (Nat.le_of_ble_eq_true rfl)) dX3_asks_5 ⟨(Nat.le_of_ble_eq_true rfl), (Nat.le_of_ble_eq_true rfl)⟩) hS (fun q9 _ h9 => h9.elim) (fun q9 h9 => h9.elim) (fun w7 u t H1 locs ht hvm hw hB hz1 hk1 hS => ?_)
  have hP := hP.kept (fun k9 q9 hk9 => hk1 q9.1 (hP k9 q9 hk9).lt (fun h9 => h9))
  generalize H1 = H at hP hS ⊢
  clear hk1 hz1 ht hvm
  have hw : w7 = q5 := hw
  rw [hw]
  refine lv_if_eq (tgt := 20) hx hb dX3_asks_8 (by decide) (fun c8 => ?_) (fun c8 => ?_)
  · rw [if_pos c8] at h
    exact absurd h (by simp)
  · rw [if_neg c8] at h
    refine lv_iload_n hx hb dX3_asks_11 rfl (lv_at hl 3 rfl) ?_
    refine lv_iconst (v := 0) hx hb dX3_asks_12 (by decide) ?_
    refine lv_iconst (v := 2) hx hb dX3_asks_13 (by decide) ?_
    obtain ⟨q9, g10, h⟩ := vg_bind h
    refine va_calli (va_runS (As := [.int p3, .int 0, .int 2]) (rest := []) ⟨hx, hb, hml, hown, hts⟩ (cm_X3_isIn (m0 := m0) l D tc ad hO g10) (va_cwS 3 hts gX3_asks_X3_isIn rfl rfl rfl (by decide +kernel) ⟨(Nat.le_of_ble_eq_true rfl), (Nat.le_of_ble_eq_true rfl)⟩) ⟨qR_blind, qR_pre hP hK hZ⟩ rfl rfl hl.1 rfl (lv_room (Nat.le_of_ble_eq_true rfl)) dX3_asks_14 ⟨(Nat.le_of_ble_eq_true rfl), (Nat.le_of_ble_eq_true rfl)⟩) hS (fun q9 _ h9 => h9.elim) (fun q9 h9 => h9.elim) (fun w11 u t H1 locs ht hvm hw hB hz1 hk1 hS => ?_)
    have hP := hP.kept (fun k9 q9 hk9 => hk1 q9.1 (hP k9 q9 hk9).lt (fun h9 => h9))
    generalize H1 = H at hP hS ⊢
    clear hk1 hz1 ht hvm
    have hw : w11 = q9 := hw
    rw [hw]
    refine lv_if_ne (tgt := 30) hx hb dX3_asks_17 (by decide) (fun c12 => ?_) (fun c12 => ?_)
    · rw [if_neg c12] at h
      refine lv_aload_n hx hb dX3_asks_30 rfl (lv_at hl 0 rfl) ?_
      obtain ⟨y13, g14, h⟩ := vg_bind h
      have n_y13 := hO _ _ _ g14
      refine va_get (D := D) (ci := 3) (v := .ref (ad y13)) (C := RX3) (T := TX3) (N := 2) hx hb hts in_X3_asks_X3 hown hK hP p0 (vW_k3 n_p0 g1) rfl 0 (by decide) (hts (.fieldLink RX3 10 "VaultDoors" "vault" "LVaultDoors$Vault;") (List.mem_of_getElem? (i := 3) rfl)) (fun _ h9 => h9) (by show some (va_rf (Option.map ad (mr m0 p0 0))) = _; rw [g14]; rfl) dX3_asks_31 ?_
      obtain ⟨g15, h⟩ := vg_if h
      obtain ⟨y16, g17, h⟩ := vg_bind h
      have n_y16 := hO _ _ _ g17
      refine va_get (D := D) (ci := 1) (v := .ref (ad y16)) (C := RX1) (T := TX1) (N := 5) hx hb hts in_X3_asks_X1 hown hK hP y13 (vW_k1 n_y13 g15) rfl 2 (by decide) (hts (.fieldLink RX3 62 "VaultDoors$Vault" "doors" "[LVaultDoors$Door;") (List.mem_of_getElem? (i := 4) rfl)) (fun _ h9 => h9) (by show some (va_rf (Option.map ad (mr m0 y13 2))) = _; rw [g17]; rfl) dX3_asks_34 ?_
      refine lv_iload_n hx hb dX3_asks_37 rfl (lv_at hl 1 rfl) ?_
      obtain ⟨g18, h⟩ := vg_if h
      obtain ⟨g19, h⟩ := vg_if h
      obtain ⟨y20, g21, h⟩ := vg_bind h
      have n_y20 := hO _ _ _ g21
      refine va_aldq (D := D) hx hb hK hP y16 1 (vW_k7 n_y16 g18) rfl (i := p1) g19 dX3_asks_38 ?_
      refine W.eq (g2 := F0 m 39 ls [.ref (ad y20)]) (by show F0 m 39 ls (va_rf (Option.map ad (mr m0 y16 p1.toNatClampNeg)) :: _) = _; rw [g21]; rfl) ?_
      refine lv_astore (lv' := [(4, .ref (ad y20)), (0, .ref (ad p0)), (1, .int p1), (2, .int p2), (3, .int p3)]) hx hb dX3_asks_39 hl (by decide) rfl (fun ls hl => ?_)
      refine lv_iload_n hx hb dX3_asks_41 rfl (lv_at hl 3 rfl) ?_
      refine lv_iconst (v := 0) hx hb dX3_asks_42 (by decide) ?_
      refine lv_aload hx hb dX3_asks_43 (lv_at hl 0 rfl) ?_
      obtain ⟨g22, h⟩ := vg_if h
      refine va_get (D := D) (ci := 0) (v := .int (mi m0 y20 7)) (C := RX0) (T := TX0) (N := 14) hx hb hts in_X3_asks_X0 hown hK hP y20 (vW_k0 n_y20 g22) rfl 7 (by decide) (hts (.fieldLink RX3 75 "VaultDoors$Door" "asked" "I") (List.mem_of_getElem? (i := 5) rfl)) (fun _ h9 => h9) rfl dX3_asks_45 ?_
      refine lv_iconst (v := 1) hx hb dX3_asks_48 (by decide) ?_
      refine lv_isub hx hb dX3_asks_49 ?_
      obtain ⟨q23, g24, h⟩ := vg_bind h
      refine va_calli (va_runS (As := [.int p2, .int 0, .int ((mi m0 y20 7) - 1)]) (rest := []) ⟨hx, hb, hml, hown, hts⟩ (cm_X3_isIn (m0 := m0) l D tc ad hO g24) (va_cwS 3 hts gX3_asks_X3_isIn rfl rfl rfl (by decide +kernel) ⟨(Nat.le_of_ble_eq_true rfl), (Nat.le_of_ble_eq_true rfl)⟩) ⟨qR_blind, qR_pre hP hK hZ⟩ rfl rfl hl.1 rfl (lv_room (Nat.le_of_ble_eq_true rfl)) dX3_asks_50 ⟨(Nat.le_of_ble_eq_true rfl), (Nat.le_of_ble_eq_true rfl)⟩) hS (fun q9 _ h9 => h9.elim) (fun q9 h9 => h9.elim) (fun w25 u t H1 locs ht hvm hw hB hz1 hk1 hS => ?_)
      have hP := hP.kept (fun k9 q9 hk9 => hk1 q9.1 (hP k9 q9 hk9).lt (fun h9 => h9))
      generalize H1 = H at hP hS ⊢
      clear hk1 hz1 ht hvm
      have hw : w25 = q23 := hw
      rw [hw]
      refine lv_if_ne (tgt := 66) hx hb dX3_asks_53 (by decide) (fun c26 => ?_) (fun c26 => ?_)
      · rw [if_neg c26] at h
        refine lv_aload hx hb dX3_asks_66 (lv_at hl 0 rfl) ?_
        refine lv_iload_n hx hb dX3_asks_68 rfl (lv_at hl 3 rfl) ?_
        refine lv_iload_n hx hb dX3_asks_69 rfl (lv_at hl 4 rfl) ?_
        obtain ⟨q27, g28, h⟩ := vg_bind h
        refine va_calli (va_runV (As := [.int p2, .int p3]) (rest := []) ⟨hx, hb, hml, hown, hts⟩ (cm_X0_askedFact (m0 := m0) l D tc ad hO n_y20 g28) (cwV 2 hts gX3_asks_X0_askedFact rfl rfl rfl (by decide +kernel) ⟨(Nat.le_of_ble_eq_true rfl), (Nat.le_of_ble_eq_true rfl)⟩) ⟨qR_blind, va_recv hK hP (ci := 0) (q0 := y20) rfl (vW_k0 n_y20 g22), qR_pre hP hK hZ⟩ rfl rfl hl.1 rfl (lv_room (Nat.le_of_ble_eq_true rfl)) dX3_asks_70 ⟨(Nat.le_of_ble_eq_true rfl), (Nat.le_of_ble_eq_true rfl)⟩) hS (fun q9 _ h9 => h9.elim) (fun q9 h9 => h9.elim) (fun w29 u t H1 locs ht hvm hw hB hz1 hk1 hS => ?_)
        have hP := hP.kept (fun k9 q9 hk9 => hk1 q9.1 (hP k9 q9 hk9).lt (fun h9 => h9))
        generalize H1 = H at hP hS ⊢
        clear hk1 hz1 ht hvm
        have hw : w29 = q27 := hw
        rw [hw]
        have hz := Option.some.inj h
        exact W.iret (v := q27) hx hb hr (fun t ht hW => ⟨⟨_, (), rfl, hz, trivial⟩, hS.F ht⟩) hS.2.2 dX3_asks_73
      · rw [if_pos c26] at h
        exact absurd h (by simp)
    · rw [if_pos c12] at h
      exact absurd h (by simp)

noncomputable def f_X3_voice (m : vM) (p0 : Nat) (p1 : Int32) (p2 : Int32) : Option (Int32) :=
  if mk m p0 = 3 then
  Option.bind (mr m p0 0) fun y2 =>
  if mk m y2 = 1 then
  Option.bind (mr m y2 3) fun y5 =>
  if mk m y5 = 2 then
  Option.bind (f_X3_isIn m p1 ((0 : Int32)) (((mi m y5 0) - 1))) fun q8 =>
  if q8 = 0 then (
    none
  ) else (
    Option.bind (f_X3_isIn m p2 ((0 : Int32)) ((3 : Int32))) fun q12 =>
    if q12 = 0 then (
      none
    ) else (
      Option.bind (mr m p0 0) fun y16 =>
      if mk m y16 = 1 then
      Option.bind (mr m y16 3) fun y19 =>
      if mk m y19 = 2 then
      Option.bind (f_X2_fact m y19 p1 p2) fun q22 =>
      some q22
      else none
      else none
    )
  )
  else none
  else none
  else none
theorem in_X3_voice_X1 : ∀ w ∈ wsX10, w ∈ wsX3_voice := by decide +kernel
theorem in_X3_voice_X2 : ∀ w ∈ wsX20, w ∈ wsX3_voice := by decide +kernel
theorem in_X3_voice_X3 : ∀ w ∈ wsX30, w ∈ wsX3_voice := by decide +kernel
set_option maxHeartbeats 1000000 in
set_option maxRecDepth 100000 in
theorem cm_X3_voice (l : Launch) (D : va_G) (tc : Nat → ClassId) (ad : Nat → Nat) {N : Nat} {m0 : vM} {p0 : Nat} {p1 : Int32} {p2 : Int32} (hO : vOK N m0) (n_p0 : p0 < N) {z : Int32} (h : f_X3_voice m0 p0 p1 p2 = some z) : Met l yX3_voice wsX3_voice ({ frames := 2, cells := 0, slots := 0, locals := 44 } : Room) (va_Pc [.ref (ad p0), .int p1, .int p2] (qR D tc ad N m0)) (va_Qi (fun (r9 : Int32) (_ : Unit) => r9 = z) (fun _ _ => True) (fun _ => False)) 0 0 (fun _ => False) := by
  refine Met.ofW (cc := cX3_voice) (maxL := 3) (ret := (some .int)) (by decide) rfl ?_
  intro p e s m args below meth c s₁ B hml hv
  obtain ⟨rfl, hP, hK, hZ⟩ := hv
  have hx := B.exec
  have hb := B.bytes
  have hr := B.returns
  have hts := atoms_spec (ws := wsX3_voice) B.pre
  have hown : s.vm.findClass RX3 = some m.cls := findClass_of_methodNamed B.named
  have hlocks := B.notSynchronized
  have hS : va_S (fun _ => False) s.heap s.heap [] := va_S.rf
  have hl := lv_entry ([.ref (ad p0), .int p1, .int p2]) (n := 3) (Nat.le_of_ble_eq_true rfl)
  rw [lg_entry_eq]
  generalize (lg_sl ([.ref (ad p0), .int p1, .int p2]) ++ List.replicate (3 - (lg_sl ([.ref (ad p0), .int p1, .int p2])).length) Slot.unset).toArray = ls at hl ⊢
  have hl : lv_has ls 3 [(0, .ref (ad p0)), (1, .int p1), (2, .int p2)] := hl
  unfold f_X3_voice at h
  refine lv_iload_n hx hb dX3_voice_0 rfl (lv_at hl 1 rfl) ?_
  refine lv_iconst (v := 0) hx hb dX3_voice_1 (by decide) ?_
  refine lv_aload_n hx hb dX3_voice_2 rfl (lv_at hl 0 rfl) ?_
  obtain ⟨g1, h⟩ := vg_if h
  obtain ⟨y2, g3, h⟩ := vg_bind h
  have n_y2 := hO _ _ _ g3
  refine va_get (D := D) (ci := 3) (v := .ref (ad y2)) (C := RX3) (T := TX3) (N := 2) hx hb hts in_X3_voice_X3 hown hK hP p0 (vW_k3 n_p0 g1) rfl 0 (by decide) (hts (.fieldLink RX3 10 "VaultDoors" "vault" "LVaultDoors$Vault;") (List.mem_of_getElem? (i := 3) rfl)) (fun _ h9 => h9) (by show some (va_rf (Option.map ad (mr m0 p0 0))) = _; rw [g3]; rfl) dX3_voice_3 ?_
  obtain ⟨g4, h⟩ := vg_if h
  obtain ⟨y5, g6, h⟩ := vg_bind h
  have n_y5 := hO _ _ _ g6
  refine va_get (D := D) (ci := 1) (v := .ref (ad y5)) (C := RX1) (T := TX1) (N := 5) hx hb hts in_X3_voice_X1 hown hK hP y2 (vW_k1 n_y2 g4) rfl 3 (by decide) (hts (.fieldLink RX3 111 "VaultDoors$Vault" "voices" "LVaultDoors$Voices;") (List.mem_of_getElem? (i := 4) rfl)) (fun _ h9 => h9) (by show some (va_rf (Option.map ad (mr m0 y2 3))) = _; rw [g6]; rfl) dX3_voice_6 ?_
  obtain ⟨g7, h⟩ := vg_if h
  refine va_get (D := D) (ci := 2) (v := .int (mi m0 y5 0)) (C := RX2) (T := TX2) (N := 7) hx hb hts in_X3_voice_X2 hown hK hP y5 (vW_k2 n_y5 g7) rfl 0 (by decide) (hts (.fieldLink RX3 115 "VaultDoors$Voices" "size" "I") (List.mem_of_getElem? (i := 5) rfl)) (fun _ h9 => h9) rfl dX3_voice_9 ?_
  refine lv_iconst (v := 1) hx hb dX3_voice_12 (by decide) ?_
  refine lv_isub hx hb dX3_voice_13 ?_
  obtain ⟨q8, g9, h⟩ := vg_bind h
  refine va_calli (va_runS (As := [.int p1, .int 0, .int ((mi m0 y5 0) - 1)]) (rest := []) ⟨hx, hb, hml, hown, hts⟩ (cm_X3_isIn (m0 := m0) l D tc ad hO g9) (va_cwS 3 hts gX3_voice_X3_isIn rfl rfl rfl (by decide +kernel) ⟨(Nat.le_of_ble_eq_true rfl), (Nat.le_of_ble_eq_true rfl)⟩) ⟨qR_blind, qR_pre hP hK hZ⟩ rfl rfl hl.1 rfl (lv_room (Nat.le_of_ble_eq_true rfl)) dX3_voice_14 ⟨(Nat.le_of_ble_eq_true rfl), (Nat.le_of_ble_eq_true rfl)⟩) hS (fun q9 _ h9 => h9.elim) (fun q9 h9 => h9.elim) (fun w10 u t H1 locs ht hvm hw hB hz1 hk1 hS => ?_)
  have hP := hP.kept (fun k9 q9 hk9 => hk1 q9.1 (hP k9 q9 hk9).lt (fun h9 => h9))
  generalize H1 = H at hP hS ⊢
  clear hk1 hz1 ht hvm
  have hw : w10 = q8 := hw
  rw [hw]
  refine lv_if_eq (tgt := 29) hx hb dX3_voice_17 (by decide) (fun c11 => ?_) (fun c11 => ?_)
  · rw [if_pos c11] at h
    exact absurd h (by simp)
  · rw [if_neg c11] at h
    refine lv_iload_n hx hb dX3_voice_20 rfl (lv_at hl 2 rfl) ?_
    refine lv_iconst (v := 0) hx hb dX3_voice_21 (by decide) ?_
    refine lv_iconst (v := 3) hx hb dX3_voice_22 (by decide) ?_
    obtain ⟨q12, g13, h⟩ := vg_bind h
    refine va_calli (va_runS (As := [.int p2, .int 0, .int 3]) (rest := []) ⟨hx, hb, hml, hown, hts⟩ (cm_X3_isIn (m0 := m0) l D tc ad hO g13) (va_cwS 3 hts gX3_voice_X3_isIn rfl rfl rfl (by decide +kernel) ⟨(Nat.le_of_ble_eq_true rfl), (Nat.le_of_ble_eq_true rfl)⟩) ⟨qR_blind, qR_pre hP hK hZ⟩ rfl rfl hl.1 rfl (lv_room (Nat.le_of_ble_eq_true rfl)) dX3_voice_23 ⟨(Nat.le_of_ble_eq_true rfl), (Nat.le_of_ble_eq_true rfl)⟩) hS (fun q9 _ h9 => h9.elim) (fun q9 h9 => h9.elim) (fun w14 u t H1 locs ht hvm hw hB hz1 hk1 hS => ?_)
    have hP := hP.kept (fun k9 q9 hk9 => hk1 q9.1 (hP k9 q9 hk9).lt (fun h9 => h9))
    generalize H1 = H at hP hS ⊢
    clear hk1 hz1 ht hvm
    have hw : w14 = q12 := hw
    rw [hw]
    refine lv_if_ne (tgt := 39) hx hb dX3_voice_26 (by decide) (fun c15 => ?_) (fun c15 => ?_)
    · rw [if_neg c15] at h
      refine lv_aload_n hx hb dX3_voice_39 rfl (lv_at hl 0 rfl) ?_
      obtain ⟨y16, g17, h⟩ := vg_bind h
      have n_y16 := hO _ _ _ g17
      refine va_get (D := D) (ci := 3) (v := .ref (ad y16)) (C := RX3) (T := TX3) (N := 2) hx hb hts in_X3_voice_X3 hown hK hP p0 (vW_k3 n_p0 g1) rfl 0 (by decide) (hts (.fieldLink RX3 10 "VaultDoors" "vault" "LVaultDoors$Vault;") (List.mem_of_getElem? (i := 3) rfl)) (fun _ h9 => h9) (by show some (va_rf (Option.map ad (mr m0 p0 0))) = _; rw [g17]; rfl) dX3_voice_40 ?_
      obtain ⟨g18, h⟩ := vg_if h
      obtain ⟨y19, g20, h⟩ := vg_bind h
      have n_y19 := hO _ _ _ g20
      refine va_get (D := D) (ci := 1) (v := .ref (ad y19)) (C := RX1) (T := TX1) (N := 5) hx hb hts in_X3_voice_X1 hown hK hP y16 (vW_k1 n_y16 g18) rfl 3 (by decide) (hts (.fieldLink RX3 111 "VaultDoors$Vault" "voices" "LVaultDoors$Voices;") (List.mem_of_getElem? (i := 4) rfl)) (fun _ h9 => h9) (by show some (va_rf (Option.map ad (mr m0 y16 3))) = _; rw [g20]; rfl) dX3_voice_43 ?_
      refine lv_iload_n hx hb dX3_voice_46 rfl (lv_at hl 1 rfl) ?_
      refine lv_iload_n hx hb dX3_voice_47 rfl (lv_at hl 2 rfl) ?_
      obtain ⟨g21, h⟩ := vg_if h
      obtain ⟨q22, g23, h⟩ := vg_bind h
      refine va_calli (va_runV (As := [.int p1, .int p2]) (rest := []) ⟨hx, hb, hml, hown, hts⟩ (cm_X2_fact (m0 := m0) l D tc ad hO n_y19 g23) (cwV 2 hts gX3_voice_X2_fact rfl rfl rfl (by decide +kernel) ⟨(Nat.le_of_ble_eq_true rfl), (Nat.le_of_ble_eq_true rfl)⟩) ⟨qR_blind, va_recv hK hP (ci := 2) (q0 := y19) rfl (vW_k2 n_y19 g21), qR_pre hP hK hZ⟩ rfl rfl hl.1 rfl (lv_room (Nat.le_of_ble_eq_true rfl)) dX3_voice_48 ⟨(Nat.le_of_ble_eq_true rfl), (Nat.le_of_ble_eq_true rfl)⟩) hS (fun q9 _ h9 => h9.elim) (fun q9 h9 => h9.elim) (fun w24 u t H1 locs ht hvm hw hB hz1 hk1 hS => ?_)
      have hP := hP.kept (fun k9 q9 hk9 => hk1 q9.1 (hP k9 q9 hk9).lt (fun h9 => h9))
      generalize H1 = H at hP hS ⊢
      clear hk1 hz1 ht hvm
      have hw : w24 = q22 := hw
      rw [hw]
      have hz := Option.some.inj h
      exact W.iret (v := q22) hx hb hr (fun t ht hW => ⟨⟨_, (), rfl, hz, trivial⟩, hS.F ht⟩) hS.2.2 dX3_voice_51
    · rw [if_pos c15] at h
      exact absurd h (by simp)

noncomputable def f_X3_count (m : vM) (p0 : Nat) (p1 : Int32) : Option (Int32) :=
  Option.bind (f_X3_isIn m p1 ((0 : Int32)) ((8 : Int32))) fun q1 =>
  if q1 = 0 then (
    none
  ) else (
    if mk m p0 = 3 then
    Option.bind (mr m p0 0) fun y6 =>
    if mk m y6 = 1 then
    Option.bind (f_X1_fact m y6 p1) fun q9 =>
    some q9
    else none
    else none
  )
theorem in_X3_count_X3 : ∀ w ∈ wsX30, w ∈ wsX3_count := by decide +kernel
set_option maxHeartbeats 1000000 in
set_option maxRecDepth 100000 in
theorem cm_X3_count (l : Launch) (D : va_G) (tc : Nat → ClassId) (ad : Nat → Nat) {N : Nat} {m0 : vM} {p0 : Nat} {p1 : Int32} (hO : vOK N m0) (n_p0 : p0 < N) {z : Int32} (h : f_X3_count m0 p0 p1 = some z) : Met l yX3_count wsX3_count ({ frames := 2, cells := 0, slots := 0, locals := 44 } : Room) (va_Pc [.ref (ad p0), .int p1] (qR D tc ad N m0)) (va_Qi (fun (r9 : Int32) (_ : Unit) => r9 = z) (fun _ _ => True) (fun _ => False)) 0 0 (fun _ => False) := by
  refine Met.ofW (cc := cX3_count) (maxL := 2) (ret := (some .int)) (by decide) rfl ?_
  intro p e s m args below meth c s₁ B hml hv
  obtain ⟨rfl, hP, hK, hZ⟩ := hv
  have hx := B.exec
  have hb := B.bytes
  have hr := B.returns
  have hts := atoms_spec (ws := wsX3_count) B.pre
  have hown : s.vm.findClass RX3 = some m.cls := findClass_of_methodNamed B.named
  have hlocks := B.notSynchronized
  have hS : va_S (fun _ => False) s.heap s.heap [] := va_S.rf
  have hl := lv_entry ([.ref (ad p0), .int p1]) (n := 2) (Nat.le_of_ble_eq_true rfl)
  rw [lg_entry_eq]
  generalize (lg_sl ([.ref (ad p0), .int p1]) ++ List.replicate (2 - (lg_sl ([.ref (ad p0), .int p1])).length) Slot.unset).toArray = ls at hl ⊢
  have hl : lv_has ls 2 [(0, .ref (ad p0)), (1, .int p1)] := hl
  unfold f_X3_count at h
  refine lv_iload_n hx hb dX3_count_0 rfl (lv_at hl 1 rfl) ?_
  refine lv_iconst (v := 0) hx hb dX3_count_1 (by decide) ?_
  refine lv_bipush (v := 8) hx hb dX3_count_2 (by decide) ?_
  obtain ⟨q1, g2, h⟩ := vg_bind h
  refine va_calli (va_runS (As := [.int p1, .int 0, .int 8]) (rest := []) ⟨hx, hb, hml, hown, hts⟩ (cm_X3_isIn (m0 := m0) l D tc ad hO g2) (va_cwS 3 hts gX3_count_X3_isIn rfl rfl rfl (by decide +kernel) ⟨(Nat.le_of_ble_eq_true rfl), (Nat.le_of_ble_eq_true rfl)⟩) ⟨qR_blind, qR_pre hP hK hZ⟩ rfl rfl hl.1 rfl (lv_room (Nat.le_of_ble_eq_true rfl)) dX3_count_4 ⟨(Nat.le_of_ble_eq_true rfl), (Nat.le_of_ble_eq_true rfl)⟩) hS (fun q9 _ h9 => h9.elim) (fun q9 h9 => h9.elim) (fun w3 u t H1 locs ht hvm hw hB hz1 hk1 hS => ?_)
  have hP := hP.kept (fun k9 q9 hk9 => hk1 q9.1 (hP k9 q9 hk9).lt (fun h9 => h9))
  generalize H1 = H at hP hS ⊢
  clear hk1 hz1 ht hvm
  have hw : w3 = q1 := hw
  rw [hw]
  refine lv_if_ne (tgt := 20) hx hb dX3_count_7 (by decide) (fun c4 => ?_) (fun c4 => ?_)
  · rw [if_neg c4] at h
    refine lv_aload_n hx hb dX3_count_20 rfl (lv_at hl 0 rfl) ?_
    obtain ⟨g5, h⟩ := vg_if h
    obtain ⟨y6, g7, h⟩ := vg_bind h
    have n_y6 := hO _ _ _ g7
    refine va_get (D := D) (ci := 3) (v := .ref (ad y6)) (C := RX3) (T := TX3) (N := 2) hx hb hts in_X3_count_X3 hown hK hP p0 (vW_k3 n_p0 g5) rfl 0 (by decide) (hts (.fieldLink RX3 10 "VaultDoors" "vault" "LVaultDoors$Vault;") (List.mem_of_getElem? (i := 3) rfl)) (fun _ h9 => h9) (by show some (va_rf (Option.map ad (mr m0 p0 0))) = _; rw [g7]; rfl) dX3_count_21 ?_
    refine lv_iload_n hx hb dX3_count_24 rfl (lv_at hl 1 rfl) ?_
    obtain ⟨g8, h⟩ := vg_if h
    obtain ⟨q9, g10, h⟩ := vg_bind h
    refine va_calli (va_runV (As := [.int p1]) (rest := []) ⟨hx, hb, hml, hown, hts⟩ (cm_X1_fact (m0 := m0) l D tc ad hO n_y6 g10) (cwV 1 hts gX3_count_X1_fact rfl rfl rfl (by decide +kernel) ⟨(Nat.le_of_ble_eq_true rfl), (Nat.le_of_ble_eq_true rfl)⟩) ⟨qR_blind, va_recv hK hP (ci := 1) (q0 := y6) rfl (vW_k1 n_y6 g8), qR_pre hP hK hZ⟩ rfl rfl hl.1 rfl (lv_room (Nat.le_of_ble_eq_true rfl)) dX3_count_25 ⟨(Nat.le_of_ble_eq_true rfl), (Nat.le_of_ble_eq_true rfl)⟩) hS (fun q9 _ h9 => h9.elim) (fun q9 h9 => h9.elim) (fun w11 u t H1 locs ht hvm hw hB hz1 hk1 hS => ?_)
    have hP := hP.kept (fun k9 q9 hk9 => hk1 q9.1 (hP k9 q9 hk9).lt (fun h9 => h9))
    generalize H1 = H at hP hS ⊢
    clear hk1 hz1 ht hvm
    have hw : w11 = q9 := hw
    rw [hw]
    have hz := Option.some.inj h
    exact W.iret (v := q9) hx hb hr (fun t ht hW => ⟨⟨_, (), rfl, hz, trivial⟩, hS.F ht⟩) hS.2.2 dX3_count_28
  · rw [if_pos c4] at h
    exact absurd h (by simp)

noncomputable def f_X3_reach (m : vM) (p0 : Nat) (p1 : Int32) : Option (Int32) :=
  if mk m p0 = 3 then
  Option.bind (mr m p0 0) fun y2 =>
  if mk m y2 = 1 then
  Option.bind (f_X1_isDoor m y2 p1) fun q5 =>
  if q5 = 0 then (
    none
  ) else (
    Option.bind (mr m p0 0) fun y9 =>
    if mk m y9 = 1 then
    Option.bind (f_X1_reachedFrom m y9 p1) fun q12 =>
    some q12
    else none
  )
  else none
  else none
theorem in_X3_reach_X3 : ∀ w ∈ wsX30, w ∈ wsX3_reach := by decide +kernel
set_option maxHeartbeats 1000000 in
set_option maxRecDepth 100000 in
theorem cm_X3_reach (l : Launch) (D : va_G) (tc : Nat → ClassId) (ad : Nat → Nat) {N : Nat} {m0 : vM} {p0 : Nat} {p1 : Int32} (hO : vOK N m0) (n_p0 : p0 < N) {z : Int32} (h : f_X3_reach m0 p0 p1 = some z) : Met l yX3_reach wsX3_reach ({ frames := 3, cells := 0, slots := 0, locals := 70 } : Room) (va_Pc [.ref (ad p0), .int p1] (qR D tc ad N m0)) (va_Qi (fun (r9 : Int32) (_ : Unit) => r9 = z) (fun _ _ => True) (fun _ => False)) 0 0 (fun _ => False) := by
  refine Met.ofW (cc := cX3_reach) (maxL := 2) (ret := (some .int)) (by decide) rfl ?_
  intro p e s m args below meth c s₁ B hml hv
  obtain ⟨rfl, hP, hK, hZ⟩ := hv
  have hx := B.exec
  have hb := B.bytes
  have hr := B.returns
  have hts := atoms_spec (ws := wsX3_reach) B.pre
  have hown : s.vm.findClass RX3 = some m.cls := findClass_of_methodNamed B.named
  have hlocks := B.notSynchronized
  have hS : va_S (fun _ => False) s.heap s.heap [] := va_S.rf
  have hl := lv_entry ([.ref (ad p0), .int p1]) (n := 2) (Nat.le_of_ble_eq_true rfl)
  rw [lg_entry_eq]
  generalize (lg_sl ([.ref (ad p0), .int p1]) ++ List.replicate (2 - (lg_sl ([.ref (ad p0), .int p1])).length) Slot.unset).toArray = ls at hl ⊢
  have hl : lv_has ls 2 [(0, .ref (ad p0)), (1, .int p1)] := hl
  unfold f_X3_reach at h
  refine lv_aload_n hx hb dX3_reach_0 rfl (lv_at hl 0 rfl) ?_
  obtain ⟨g1, h⟩ := vg_if h
  obtain ⟨y2, g3, h⟩ := vg_bind h
  have n_y2 := hO _ _ _ g3
  refine va_get (D := D) (ci := 3) (v := .ref (ad y2)) (C := RX3) (T := TX3) (N := 2) hx hb hts in_X3_reach_X3 hown hK hP p0 (vW_k3 n_p0 g1) rfl 0 (by decide) (hts (.fieldLink RX3 10 "VaultDoors" "vault" "LVaultDoors$Vault;") (List.mem_of_getElem? (i := 3) rfl)) (fun _ h9 => h9) (by show some (va_rf (Option.map ad (mr m0 p0 0))) = _; rw [g3]; rfl) dX3_reach_1 ?_
  refine lv_iload_n hx hb dX3_reach_4 rfl (lv_at hl 1 rfl) ?_
  obtain ⟨g4, h⟩ := vg_if h
  obtain ⟨q5, g6, h⟩ := vg_bind h
  refine va_calli (va_runV (As := [.int p1]) (rest := []) ⟨hx, hb, hml, hown, hts⟩ (cm_X1_isDoor (m0 := m0) l D tc ad hO n_y2 g6) (cwV 1 hts gX3_reach_X1_isDoor rfl rfl rfl (by decide +kernel) ⟨(Nat.le_of_ble_eq_true rfl), (Nat.le_of_ble_eq_true rfl)⟩) ⟨qR_blind, va_recv hK hP (ci := 1) (q0 := y2) rfl (vW_k1 n_y2 g4), qR_pre hP hK hZ⟩ rfl rfl hl.1 rfl (lv_room (Nat.le_of_ble_eq_true rfl)) dX3_reach_5 ⟨(Nat.le_of_ble_eq_true rfl), (Nat.le_of_ble_eq_true rfl)⟩) hS (fun q9 _ h9 => h9.elim) (fun q9 h9 => h9.elim) (fun w7 u t H1 locs ht hvm hw hB hz1 hk1 hS => ?_)
  have hP := hP.kept (fun k9 q9 hk9 => hk1 q9.1 (hP k9 q9 hk9).lt (fun h9 => h9))
  generalize H1 = H at hP hS ⊢
  clear hk1 hz1 ht hvm
  have hw : w7 = q5 := hw
  rw [hw]
  refine lv_if_ne (tgt := 21) hx hb dX3_reach_8 (by decide) (fun c8 => ?_) (fun c8 => ?_)
  · rw [if_neg c8] at h
    refine lv_aload_n hx hb dX3_reach_21 rfl (lv_at hl 0 rfl) ?_
    obtain ⟨y9, g10, h⟩ := vg_bind h
    have n_y9 := hO _ _ _ g10
    refine va_get (D := D) (ci := 3) (v := .ref (ad y9)) (C := RX3) (T := TX3) (N := 2) hx hb hts in_X3_reach_X3 hown hK hP p0 (vW_k3 n_p0 g1) rfl 0 (by decide) (hts (.fieldLink RX3 10 "VaultDoors" "vault" "LVaultDoors$Vault;") (List.mem_of_getElem? (i := 3) rfl)) (fun _ h9 => h9) (by show some (va_rf (Option.map ad (mr m0 p0 0))) = _; rw [g10]; rfl) dX3_reach_22 ?_
    refine lv_iload_n hx hb dX3_reach_25 rfl (lv_at hl 1 rfl) ?_
    obtain ⟨g11, h⟩ := vg_if h
    obtain ⟨q12, g13, h⟩ := vg_bind h
    refine va_calli (va_runV (As := [.int p1]) (rest := []) ⟨hx, hb, hml, hown, hts⟩ (cm_X1_reachedFrom (m0 := m0) l D tc ad hO n_y9 g13) (cwV 1 hts gX3_reach_X1_reachedFrom rfl rfl rfl (by decide +kernel) ⟨(Nat.le_of_ble_eq_true rfl), (Nat.le_of_ble_eq_true rfl)⟩) ⟨qR_blind, va_recv hK hP (ci := 1) (q0 := y9) rfl (vW_k1 n_y9 g11), qR_pre hP hK hZ⟩ rfl rfl hl.1 rfl (lv_room (Nat.le_of_ble_eq_true rfl)) dX3_reach_26 ⟨(Nat.le_of_ble_eq_true rfl), (Nat.le_of_ble_eq_true rfl)⟩) hS (fun q9 _ h9 => h9.elim) (fun q9 h9 => h9.elim) (fun w14 u t H1 locs ht hvm hw hB hz1 hk1 hS => ?_)
    have hP := hP.kept (fun k9 q9 hk9 => hk1 q9.1 (hP k9 q9 hk9).lt (fun h9 => h9))
    generalize H1 = H at hP hS ⊢
    clear hk1 hz1 ht hvm
    have hw : w14 = q12 := hw
    rw [hw]
    have hz := Option.some.inj h
    exact W.iret (v := q12) hx hb hr (fun t ht hW => ⟨⟨_, (), rfl, hz, trivial⟩, hS.F ht⟩) hS.2.2 dX3_reach_29
  · rw [if_pos c8] at h
    exact absurd h (by simp)

noncomputable def fB_X3_pass_25 (rec : Nat → vM → Nat → Int32 → Int32 → Int32 → Option (Int32 × vM)) (m : vM) (r0 : Nat) (i1 : Int32) (i2 : Int32) (i3 : Int32) : Option (Int32 × vM) :=
  if i1 ≤ i3 then (
    some (i2, m)
  ) else (
    if mk m r0 = 3 then
    Option.bind (mr m r0 0) fun y3 =>
    if mk m y3 = 1 then
    Option.bind (f_X1_tickOn m y3) fun q6 =>
    rec 25 q6.2 r0 i1 (i2 + q6.1) (i3 + 1)
    else none
    else none
  )
noncomputable def fL_X3_pass (n : Nat) : Nat → vM → Nat → Int32 → Int32 → Int32 → Option (Int32 × vM) := Nat.rec (fun _ _ _ _ _ _ => none) (fun _ rec pc m r0 i1 i2 i3 => if pc = 25 then fB_X3_pass_25 rec m r0 i1 i2 i3 else none) n
noncomputable def f_X3_pass (m : vM) (p0 : Nat) (p1 : Int32) : Option (Int32 × vM) :=
  Option.bind (f_X3_isIn m p1 ((1 : Int32)) ((200 : Int32))) fun q1 =>
  if q1 = 0 then (
    none
  ) else (
    fL_X3_pass vF 25 m p0 p1 (0 : Int32) (0 : Int32)
  )
theorem in_X3_pass_X3 : ∀ w ∈ wsX30, w ∈ wsX3_pass := by decide +kernel
set_option maxHeartbeats 1000000 in
set_option maxRecDepth 100000 in
theorem cm_X3_pass (l : Launch) (D : va_G) (tc : Nat → ClassId) (ad : Nat → Nat) {N : Nat} {m0 : vM} {sz : Nat} {p0 : Nat} {p1 : Int32} (hO : vOK N m0) (n_p0 : p0 < N) {z : Int32 × vM} (h : f_X3_pass m0 p0 p1 = some z) : Met l yX3_pass wsX3_pass ({ frames := 4, cells := 0, slots := 0, locals := 94 } : Room) (va_Pc [.ref (ad p0), .int p1] (qW D tc ad N m0 sz)) (va_Qi (fun (r9 : Int32) (_ : Unit) => r9 = z.1) (fun _ t => vOK N z.2 ∧ pB D (va_A (vW tc ad N m0) sz) (vW tc ad N z.2) (vT tc) t) (va_A (vW tc ad N m0) sz)) 0 0 (va_A (vW tc ad N m0) sz) := by
  refine Met.ofW (cc := cX3_pass) (maxL := 4) (ret := (some .int)) (by decide) rfl ?_
  intro p e s m args below meth c s₁ B hml hv
  obtain ⟨rfl, hsz, hP, hK, hD0, hZ⟩ := hv
  have hx := B.exec
  have hb := B.bytes
  have hr := B.returns
  have hts := atoms_spec (ws := wsX3_pass) B.pre
  have hown : s.vm.findClass RX3 = some m.cls := findClass_of_methodNamed B.named
  have hlocks := B.notSynchronized
  subst hsz
  have hD := hD0.self (sz := s.heap.size)
  generalize hAe : va_A (vW tc ad N m0) s.heap.size = A at hD ⊢
  have hA : ∀ q : Nat, s.heap.size ≤ q → A q := fun q h => by rw [← hAe]; exact Or.inr h
  have hS : va_S A s.heap s.heap [] := va_S.rf
  have hl := lv_entry ([.ref (ad p0), .int p1]) (n := 4) (Nat.le_of_ble_eq_true rfl)
  rw [lg_entry_eq]
  generalize (lg_sl ([.ref (ad p0), .int p1]) ++ List.replicate (4 - (lg_sl ([.ref (ad p0), .int p1])).length) Slot.unset).toArray = ls at hl ⊢
  have hl : lv_has ls 4 [(0, .ref (ad p0)), (1, .int p1)] := hl
  have hL : ∀ n : Nat, (∀ (m1 : vM) (r0 : Nat) (i1 : Int32) (i2 : Int32) (i3 : Int32) (H : Heap) (locs : List Loc) (ls : Array Slot), vOK N m1 → r0 < N → fL_X3_pass n 25 m1 r0 i1 i2 i3 = some z → va_P D vwCl (vW tc ad N m1) H → va_D A (vW tc ad N m1) → va_S A s.heap H locs → lv_has ls 4 [(0, .ref (ad r0)), (1, .int i1), (2, .int i2), (3, .int i3)] → W p l e (headSpec wsX3_pass ({ frames := 4, cells := 0, slots := 0, locals := 94 } : Room)).room s m ([.ref (ad p0), .int p1] : List Value).toArray below meth c H locs 0 0 (MQ below (va_Qi (fun (r9 : Int32) (_ : Unit) => r9 = z.1) (fun _ t => vOK N z.2 ∧ pB D A (vW tc ad N z.2) (vT tc) t) A) ([.ref (ad p0), .int p1] : List Value).toArray s 0 0 A) (F0 m 25 ls [])) := by
    intro n
    induction n with
    | zero => exact (fun _ _ _ _ _ _ _ _ _ _ h9 _ _ _ _ => by have h9 : (none : Option (Int32 × vM)) = some z := h9; cases h9)
    | succ n ih =>
      · intro m1 r0 i1 i2 i3 H locs ls hO n_r0 h hP hD hS hl
        have h : fB_X3_pass_25 (fL_X3_pass n) m1 r0 i1 i2 i3 = some z := h
        unfold fB_X3_pass_25 at h
        refine lv_iload_n hx hb dX3_pass_25 rfl (lv_at hl 3 rfl) ?_
        refine lv_iload_n hx hb dX3_pass_26 rfl (lv_at hl 1 rfl) ?_
        refine lv_icmp_ge (tgt := 46) hx hb dX3_pass_27 (by decide) (fun c1 => ?_) (fun c1 => ?_)
        · rw [if_pos c1] at h
          refine lv_iload_n hx hb dX3_pass_46 rfl (lv_at hl 2 rfl) ?_
          have hz := Option.some.inj h
          exact W.iret (v := i2) hx hb hr (fun t ht hW => ⟨⟨_, (), rfl, by rw [← hz], by rw [← hz]; exact hO, by rw [ht, ← hz]; exact hP, va_K.moved hW.alike hK, by rw [← hz]; exact hD⟩, hS.F ht⟩) hS.2.2 dX3_pass_47
        · rw [if_neg c1] at h
          refine lv_iload_n hx hb dX3_pass_30 rfl (lv_at hl 2 rfl) ?_
          refine lv_aload_n hx hb dX3_pass_31 rfl (lv_at hl 0 rfl) ?_
          obtain ⟨g2, h⟩ := vg_if h
          obtain ⟨y3, g4, h⟩ := vg_bind h
          have n_y3 := hO _ _ _ g4
          refine va_get (D := D) (ci := 3) (v := .ref (ad y3)) (C := RX3) (T := TX3) (N := 2) hx hb hts in_X3_pass_X3 hown hK hP r0 (vW_k3 n_r0 g2) rfl 0 (by decide) (hts (.fieldLink RX3 10 "VaultDoors" "vault" "LVaultDoors$Vault;") (List.mem_of_getElem? (i := 3) rfl)) (fun _ h9 => h9) (by show some (va_rf (Option.map ad (mr m1 r0 0))) = _; rw [g4]; rfl) dX3_pass_32 ?_
          obtain ⟨g5, h⟩ := vg_if h
          obtain ⟨q6, g7, h⟩ := vg_bind h
          have hFc := vm_free hD hS hA
          refine va_calli (va_runV (As := []) (rest := [.int i2]) ⟨hx, hb, hml, hown, hts⟩ (cm_X1_tickOn (m0 := m1) l D tc ad hO n_y3 g7) (cwV 0 hts gX3_pass_X1_tickOn rfl rfl rfl (by decide +kernel) ⟨(Nat.le_of_ble_eq_true rfl), (Nat.le_of_ble_eq_true rfl)⟩) ⟨qW_blind, va_recv hK hP (ci := 1) (q0 := y3) rfl (vW_k1 n_y3 g5), qW_pre hP hD hK hZ⟩ rfl rfl hl.1 rfl (lv_room (Nat.le_of_ble_eq_true rfl)) dX3_pass_35 ⟨(Nat.le_of_ble_eq_true rfl), (Nat.le_of_ble_eq_true rfl)⟩) hS (fun q9 _ h9 => hFc q9 h9) hFc (fun w8 u t H1 locs ht hvm hw hB hz1 hk1 hS => ?_)
          obtain ⟨hO9, hP1, hK1, hD1⟩ := hB
          rw [ht] at hP1
          have hP := hP1
          have hD := hD1.weaken (fun _ q9 _ h9 => hFc q9.1 h9)
          generalize H1 = H at hP hS ⊢
          have hP : va_P D vwCl (vW tc ad N q6.2) H := hP
          have hD : va_D A (vW tc ad N q6.2) := hD
          clear hk1 hz1 ht hvm
          have hw : w8 = q6.1 := hw
          rw [hw]
          refine lv_iadd hx hb dX3_pass_38 ?_
          refine lv_istore_n (lv' := [(2, .int (i2 + q6.1)), (0, .ref (ad r0)), (1, .int i1), (3, .int i3)]) hx hb dX3_pass_39 rfl hl (by decide) rfl (fun ls hl => ?_)
          refine lv_iinc (v := i3 + 1) (lv' := [(3, .int (i3 + 1)), (2, .int (i2 + q6.1)), (0, .ref (ad r0)), (1, .int i1)]) hx hb dX3_pass_40 hl (k := 3) rfl rfl (by decide) rfl (fun ls hl => ?_)
          refine lv_goto (tgt := 25) hx hb dX3_pass_43 (by decide) ?_
          exact (ih) q6.2 r0 i1 (i2 + q6.1) (i3 + 1) _ _ _ hO9 n_r0 h hP hD hS (lv_sub hl (l' := [(0, .ref (ad r0)), (1, .int i1), (2, .int (i2 + q6.1)), (3, .int (i3 + 1))]) [2, 3, 1, 0] rfl)
  unfold f_X3_pass at h
  refine lv_iload_n hx hb dX3_pass_0 rfl (lv_at hl 1 rfl) ?_
  refine lv_iconst (v := 1) hx hb dX3_pass_1 (by decide) ?_
  refine lv_sipush (v := 200) hx hb dX3_pass_2 (by decide) ?_
  obtain ⟨q10, g11, h⟩ := vg_bind h
  refine va_calli (va_runS (As := [.int p1, .int 1, .int 200]) (rest := []) ⟨hx, hb, hml, hown, hts⟩ (cm_X3_isIn (m0 := m0) l D tc ad hO g11) (va_cwS 3 hts gX3_pass_X3_isIn rfl rfl rfl (by decide +kernel) ⟨(Nat.le_of_ble_eq_true rfl), (Nat.le_of_ble_eq_true rfl)⟩) ⟨qR_blind, qR_pre hP hK hZ⟩ rfl rfl hl.1 rfl (lv_room (Nat.le_of_ble_eq_true rfl)) dX3_pass_5 ⟨(Nat.le_of_ble_eq_true rfl), (Nat.le_of_ble_eq_true rfl)⟩) hS (fun q9 _ h9 => h9.elim) (fun q9 h9 => h9.elim) (fun w12 u t H1 locs ht hvm hw hB hz1 hk1 hS => ?_)
  have hP := hP.kept (fun k9 q9 hk9 => hk1 q9.1 (hP k9 q9 hk9).lt (fun h9 => h9))
  generalize H1 = H at hP hS ⊢
  clear hk1 hz1 ht hvm
  have hw : w12 = q10 := hw
  rw [hw]
  refine lv_if_ne (tgt := 21) hx hb dX3_pass_8 (by decide) (fun c13 => ?_) (fun c13 => ?_)
  · rw [if_neg c13] at h
    refine lv_iconst (v := 0) hx hb dX3_pass_21 (by decide) ?_
    refine lv_istore_n (lv' := [(2, .int 0), (0, .ref (ad p0)), (1, .int p1)]) hx hb dX3_pass_22 rfl hl (by decide) rfl (fun ls hl => ?_)
    refine lv_iconst (v := 0) hx hb dX3_pass_23 (by decide) ?_
    refine lv_istore_n (lv' := [(3, .int 0), (2, .int 0), (0, .ref (ad p0)), (1, .int p1)]) hx hb dX3_pass_24 rfl hl (by decide) rfl (fun ls hl => ?_)
    exact ((hL vF)) m0 p0 p1 (0 : Int32) (0 : Int32) _ _ _ hO n_p0 h hP hD hS (lv_sub hl (l' := [(0, .ref (ad p0)), (1, .int p1), (2, .int 0), (3, .int 0)]) [2, 3, 1, 0] rfl)
  · rw [if_pos c13] at h
    exact absurd h (by simp)

noncomputable def fB_X3_opens_52 (rec : Nat → vM → Nat → Int32 → Int32 → Option (Int32 × vM)) (m : vM) (r0 : Nat) (i1 : Int32) (i2 : Int32) : Option (Int32 × vM) :=
  if 100 < i2 then (
    some ((-1 : Int32), m)
  ) else (
    if mk m r0 = 3 then
    Option.bind (mr m r0 1) fun y3 =>
    if mk m y3 = 1 then
    Option.bind (f_X1_tickOn m y3) fun q6 =>
    if mk q6.2 r0 = 3 then
    Option.bind (mr q6.2 r0 1) fun y11 =>
    if mk q6.2 y11 = 1 then
    Option.bind (mr q6.2 y11 2) fun y14 =>
    if mk q6.2 y14 = 7 then
    if vin i1 (ml q6.2 y14) then
    Option.bind (mr q6.2 y14 i1.toNatClampNeg) fun y18 =>
    if mk q6.2 y18 = 0 then
    if (mi q6.2 y18 3) = 2 then (
      some (i2, q6.2)
    ) else (
      rec 52 q6.2 r0 i1 (i2 + 1)
    )
    else none
    else none
    else none
    else none
    else none
    else none
    else none
  )
noncomputable def fL_X3_opens (n : Nat) : Nat → vM → Nat → Int32 → Int32 → Option (Int32 × vM) := Nat.rec (fun _ _ _ _ _ => none) (fun _ rec pc m r0 i1 i2 => if pc = 52 then fB_X3_opens_52 rec m r0 i1 i2 else none) n
noncomputable def f_X3_opens (m : vM) (p0 : Nat) (p1 : Int32) : Option (Int32 × vM) :=
  if mk m p0 = 3 then
  Option.bind (mr m p0 0) fun y2 =>
  if mk m y2 = 1 then
  Option.bind (f_X1_isDoor m y2 p1) fun q5 =>
  if q5 = 0 then (
    none
  ) else (
    Option.bind (mr m p0 0) fun y9 =>
    if mk m y9 = 1 then
    Option.bind (mr m y9 2) fun y12 =>
    if mk m y12 = 7 then
    if vin p1 (ml m y12) then
    Option.bind (mr m y12 p1.toNatClampNeg) fun y16 =>
    if mk m y16 = 0 then
    if (mi m y16 3) = 2 then (
      some ((0 : Int32), m)
    ) else (
      Option.bind (mr m p0 1) fun y20 =>
      Option.bind (mr m p0 0) fun y22 =>
      if mk m y20 = 1 then
      Option.bind (f_X1_copyFrom m y20 y22) fun q25 =>
      fL_X3_opens vF 52 q25 p0 p1 (1 : Int32)
      else none
    )
    else none
    else none
    else none
    else none
  )
  else none
  else none
theorem in_X3_opens_X0 : ∀ w ∈ wsX00, w ∈ wsX3_opens := by decide +kernel
theorem in_X3_opens_X1 : ∀ w ∈ wsX10, w ∈ wsX3_opens := by decide +kernel
theorem in_X3_opens_X3 : ∀ w ∈ wsX30, w ∈ wsX3_opens := by decide +kernel
set_option maxHeartbeats 1000000 in
set_option maxRecDepth 100000 in
theorem cm_X3_opens (l : Launch) (D : va_G) (tc : Nat → ClassId) (ad : Nat → Nat) {N : Nat} {m0 : vM} {sz : Nat} {p0 : Nat} {p1 : Int32} (hO : vOK N m0) (n_p0 : p0 < N) {z : Int32 × vM} (h : f_X3_opens m0 p0 p1 = some z) : Met l yX3_opens wsX3_opens ({ frames := 4, cells := 0, slots := 0, locals := 103 } : Room) (va_Pc [.ref (ad p0), .int p1] (qW D tc ad N m0 sz)) (va_Qi (fun (r9 : Int32) (_ : Unit) => r9 = z.1) (fun _ t => vOK N z.2 ∧ pB D (va_A (vW tc ad N m0) sz) (vW tc ad N z.2) (vT tc) t) (va_A (vW tc ad N m0) sz)) 0 0 (va_A (vW tc ad N m0) sz) := by
  refine Met.ofW (cc := cX3_opens) (maxL := 3) (ret := (some .int)) (by decide) rfl ?_
  intro p e s m args below meth c s₁ B hml hv
  obtain ⟨rfl, hsz, hP, hK, hD0, hZ⟩ := hv
  have hx := B.exec
  have hb := B.bytes
  have hr := B.returns
  have hts := atoms_spec (ws := wsX3_opens) B.pre
  have hown : s.vm.findClass RX3 = some m.cls := findClass_of_methodNamed B.named
  have hlocks := B.notSynchronized
  subst hsz
  have hD := hD0.self (sz := s.heap.size)
  generalize hAe : va_A (vW tc ad N m0) s.heap.size = A at hD ⊢
  have hA : ∀ q : Nat, s.heap.size ≤ q → A q := fun q h => by rw [← hAe]; exact Or.inr h
  have hS : va_S A s.heap s.heap [] := va_S.rf
  have hl := lv_entry ([.ref (ad p0), .int p1]) (n := 3) (Nat.le_of_ble_eq_true rfl)
  rw [lg_entry_eq]
  generalize (lg_sl ([.ref (ad p0), .int p1]) ++ List.replicate (3 - (lg_sl ([.ref (ad p0), .int p1])).length) Slot.unset).toArray = ls at hl ⊢
  have hl : lv_has ls 3 [(0, .ref (ad p0)), (1, .int p1)] := hl
  have hL : ∀ n : Nat, (∀ (m1 : vM) (r0 : Nat) (i1 : Int32) (i2 : Int32) (H : Heap) (locs : List Loc) (ls : Array Slot), vOK N m1 → r0 < N → fL_X3_opens n 52 m1 r0 i1 i2 = some z → va_P D vwCl (vW tc ad N m1) H → va_D A (vW tc ad N m1) → va_S A s.heap H locs → lv_has ls 3 [(0, .ref (ad r0)), (1, .int i1), (2, .int i2)] → W p l e (headSpec wsX3_opens ({ frames := 4, cells := 0, slots := 0, locals := 103 } : Room)).room s m ([.ref (ad p0), .int p1] : List Value).toArray below meth c H locs 0 0 (MQ below (va_Qi (fun (r9 : Int32) (_ : Unit) => r9 = z.1) (fun _ t => vOK N z.2 ∧ pB D A (vW tc ad N z.2) (vT tc) t) A) ([.ref (ad p0), .int p1] : List Value).toArray s 0 0 A) (F0 m 52 ls [])) := by
    intro n
    induction n with
    | zero => exact (fun _ _ _ _ _ _ _ _ _ h9 _ _ _ _ => by have h9 : (none : Option (Int32 × vM)) = some z := h9; cases h9)
    | succ n ih =>
      · intro m1 r0 i1 i2 H locs ls hO n_r0 h hP hD hS hl
        have h : fB_X3_opens_52 (fL_X3_opens n) m1 r0 i1 i2 = some z := h
        unfold fB_X3_opens_52 at h
        refine lv_iload_n hx hb dX3_opens_52 rfl (lv_at hl 2 rfl) ?_
        refine lv_bipush (v := 100) hx hb dX3_opens_53 (by decide) ?_
        refine lv_icmp_gt (tgt := 90) hx hb dX3_opens_55 (by decide) (fun c1 => ?_) (fun c1 => ?_)
        · rw [if_pos c1] at h
          refine lv_iconst (v := (-1)) hx hb dX3_opens_90 (by decide) ?_
          have hz := Option.some.inj h
          exact W.iret (v := (-1)) hx hb hr (fun t ht hW => ⟨⟨_, (), rfl, by rw [← hz], by rw [← hz]; exact hO, by rw [ht, ← hz]; exact hP, va_K.moved hW.alike hK, by rw [← hz]; exact hD⟩, hS.F ht⟩) hS.2.2 dX3_opens_91
        · rw [if_neg c1] at h
          refine lv_aload_n hx hb dX3_opens_58 rfl (lv_at hl 0 rfl) ?_
          obtain ⟨g2, h⟩ := vg_if h
          obtain ⟨y3, g4, h⟩ := vg_bind h
          have n_y3 := hO _ _ _ g4
          refine va_get (D := D) (ci := 3) (v := .ref (ad y3)) (C := RX3) (T := TX3) (N := 2) hx hb hts in_X3_opens_X3 hown hK hP r0 (vW_k3 n_r0 g2) rfl 1 (by decide) (hts (.fieldLink RX3 16 "VaultDoors" "trial" "LVaultDoors$Vault;") (List.mem_of_getElem? (i := 6) rfl)) (fun _ h9 => h9) (by show some (va_rf (Option.map ad (mr m1 r0 1))) = _; rw [g4]; rfl) dX3_opens_59 ?_
          obtain ⟨g5, h⟩ := vg_if h
          obtain ⟨q6, g7, h⟩ := vg_bind h
          have hFc := vm_free hD hS hA
          refine va_calli (va_runV (As := []) (rest := []) ⟨hx, hb, hml, hown, hts⟩ (cm_X1_tickOn (m0 := m1) l D tc ad hO n_y3 g7) (cwV 0 hts gX3_opens_X1_tickOn rfl rfl rfl (by decide +kernel) ⟨(Nat.le_of_ble_eq_true rfl), (Nat.le_of_ble_eq_true rfl)⟩) ⟨qW_blind, va_recv hK hP (ci := 1) (q0 := y3) rfl (vW_k1 n_y3 g5), qW_pre hP hD hK hZ⟩ rfl rfl hl.1 rfl (lv_room (Nat.le_of_ble_eq_true rfl)) dX3_opens_62 ⟨(Nat.le_of_ble_eq_true rfl), (Nat.le_of_ble_eq_true rfl)⟩) hS (fun q9 _ h9 => hFc q9 h9) hFc (fun w8 u t H1 locs ht hvm hw hB hz1 hk1 hS => ?_)
          obtain ⟨hO9, hP1, hK1, hD1⟩ := hB
          rw [ht] at hP1
          have hP := hP1
          have hD := hD1.weaken (fun _ q9 _ h9 => hFc q9.1 h9)
          generalize H1 = H at hP hS ⊢
          have hP : va_P D vwCl (vW tc ad N q6.2) H := hP
          have hD : va_D A (vW tc ad N q6.2) := hD
          clear hk1 hz1 ht hvm
          have hw : w8 = q6.1 := hw
          rw [hw]
          refine lv_pop hx hb dX3_opens_65 rfl ?_
          refine lv_aload_n hx hb dX3_opens_66 rfl (lv_at hl 0 rfl) ?_
          obtain ⟨g10, h⟩ := vg_if h
          obtain ⟨y11, g12, h⟩ := vg_bind h
          have n_y11 := hO9 _ _ _ g12
          refine va_get (D := D) (ci := 3) (v := .ref (ad y11)) (C := RX3) (T := TX3) (N := 2) hx hb hts in_X3_opens_X3 hown hK hP r0 (vW_k3 n_r0 g10) rfl 1 (by decide) (hts (.fieldLink RX3 16 "VaultDoors" "trial" "LVaultDoors$Vault;") (List.mem_of_getElem? (i := 6) rfl)) (fun _ h9 => h9) (by show some (va_rf (Option.map ad (mr q6.2 r0 1))) = _; rw [g12]; rfl) dX3_opens_67 ?_
          obtain ⟨g13, h⟩ := vg_if h
          obtain ⟨y14, g15, h⟩ := vg_bind h
          have n_y14 := hO9 _ _ _ g15
          refine va_get (D := D) (ci := 1) (v := .ref (ad y14)) (C := RX1) (T := TX1) (N := 5) hx hb hts in_X3_opens_X1 hown hK hP y11 (vW_k1 n_y11 g13) rfl 2 (by decide) (hts (.fieldLink RX3 62 "VaultDoors$Vault" "doors" "[LVaultDoors$Door;") (List.mem_of_getElem? (i := 4) rfl)) (fun _ h9 => h9) (by show some (va_rf (Option.map ad (mr q6.2 y11 2))) = _; rw [g15]; rfl) dX3_opens_70 ?_
          refine lv_iload_n hx hb dX3_opens_73 rfl (lv_at hl 1 rfl) ?_
          obtain ⟨g16, h⟩ := vg_if h
          obtain ⟨g17, h⟩ := vg_if h
          obtain ⟨y18, g19, h⟩ := vg_bind h
          have n_y18 := hO9 _ _ _ g19
          refine va_aldq (D := D) hx hb hK hP y14 1 (vW_k7 n_y14 g16) rfl (i := i1) g17 dX3_opens_74 ?_
          refine W.eq (g2 := F0 m 75 ls [.ref (ad y18)]) (by show F0 m 75 ls (va_rf (Option.map ad (mr q6.2 y14 i1.toNatClampNeg)) :: _) = _; rw [g19]; rfl) ?_
          obtain ⟨g20, h⟩ := vg_if h
          refine va_get (D := D) (ci := 0) (v := .int (mi q6.2 y18 3)) (C := RX0) (T := TX0) (N := 14) hx hb hts in_X3_opens_X0 hown hK hP y18 (vW_k0 n_y18 g20) rfl 3 (by decide) (hts (.fieldLink RX3 66 "VaultDoors$Door" "state" "I") (List.mem_of_getElem? (i := 5) rfl)) (fun _ h9 => h9) rfl dX3_opens_75 ?_
          refine lv_iconst (v := 2) hx hb dX3_opens_78 (by decide) ?_
          refine lv_icmp_ne (tgt := 84) hx hb dX3_opens_79 (by decide) (fun c21 => ?_) (fun c21 => ?_)
          · rw [if_neg c21] at h
            refine lv_iinc (v := i2 + 1) (lv' := [(2, .int (i2 + 1)), (0, .ref (ad r0)), (1, .int i1)]) hx hb dX3_opens_84 hl (k := 2) rfl rfl (by decide) rfl (fun ls hl => ?_)
            refine lv_goto (tgt := 52) hx hb dX3_opens_87 (by decide) ?_
            exact (ih) q6.2 r0 i1 (i2 + 1) _ _ _ hO9 n_r0 h hP hD hS (lv_sub hl (l' := [(0, .ref (ad r0)), (1, .int i1), (2, .int (i2 + 1))]) [1, 2, 0] rfl)
          · rw [if_pos c21] at h
            refine lv_iload_n hx hb dX3_opens_82 rfl (lv_at hl 2 rfl) ?_
            have hz := Option.some.inj h
            exact W.iret (v := i2) hx hb hr (fun t ht hW => ⟨⟨_, (), rfl, by rw [← hz], by rw [← hz]; exact hO9, by rw [ht, ← hz]; exact hP, va_K.moved hW.alike hK, by rw [← hz]; exact hD⟩, hS.F ht⟩) hS.2.2 dX3_opens_83
  unfold f_X3_opens at h
  refine lv_aload_n hx hb dX3_opens_0 rfl (lv_at hl 0 rfl) ?_
  obtain ⟨g22, h⟩ := vg_if h
  obtain ⟨y23, g24, h⟩ := vg_bind h
  have n_y23 := hO _ _ _ g24
  refine va_get (D := D) (ci := 3) (v := .ref (ad y23)) (C := RX3) (T := TX3) (N := 2) hx hb hts in_X3_opens_X3 hown hK hP p0 (vW_k3 n_p0 g22) rfl 0 (by decide) (hts (.fieldLink RX3 10 "VaultDoors" "vault" "LVaultDoors$Vault;") (List.mem_of_getElem? (i := 3) rfl)) (fun _ h9 => h9) (by show some (va_rf (Option.map ad (mr m0 p0 0))) = _; rw [g24]; rfl) dX3_opens_1 ?_
  refine lv_iload_n hx hb dX3_opens_4 rfl (lv_at hl 1 rfl) ?_
  obtain ⟨g25, h⟩ := vg_if h
  obtain ⟨q26, g27, h⟩ := vg_bind h
  refine va_calli (va_runV (As := [.int p1]) (rest := []) ⟨hx, hb, hml, hown, hts⟩ (cm_X1_isDoor (m0 := m0) l D tc ad hO n_y23 g27) (cwV 1 hts gX3_opens_X1_isDoor rfl rfl rfl (by decide +kernel) ⟨(Nat.le_of_ble_eq_true rfl), (Nat.le_of_ble_eq_true rfl)⟩) ⟨qR_blind, va_recv hK hP (ci := 1) (q0 := y23) rfl (vW_k1 n_y23 g25), qR_pre hP hK hZ⟩ rfl rfl hl.1 rfl (lv_room (Nat.le_of_ble_eq_true rfl)) dX3_opens_5 ⟨(Nat.le_of_ble_eq_true rfl), (Nat.le_of_ble_eq_true rfl)⟩) hS (fun q9 _ h9 => h9.elim) (fun q9 h9 => h9.elim) (fun w28 u t H1 locs ht hvm hw hB hz1 hk1 hS => ?_)
  have hP := hP.kept (fun k9 q9 hk9 => hk1 q9.1 (hP k9 q9 hk9).lt (fun h9 => h9))
  generalize H1 = H at hP hS ⊢
  clear hk1 hz1 ht hvm
  have hw : w28 = q26 := hw
  rw [hw]
  refine lv_if_ne (tgt := 21) hx hb dX3_opens_8 (by decide) (fun c29 => ?_) (fun c29 => ?_)
  · rw [if_neg c29] at h
    refine lv_aload_n hx hb dX3_opens_21 rfl (lv_at hl 0 rfl) ?_
    obtain ⟨y30, g31, h⟩ := vg_bind h
    have n_y30 := hO _ _ _ g31
    refine va_get (D := D) (ci := 3) (v := .ref (ad y30)) (C := RX3) (T := TX3) (N := 2) hx hb hts in_X3_opens_X3 hown hK hP p0 (vW_k3 n_p0 g22) rfl 0 (by decide) (hts (.fieldLink RX3 10 "VaultDoors" "vault" "LVaultDoors$Vault;") (List.mem_of_getElem? (i := 3) rfl)) (fun _ h9 => h9) (by show some (va_rf (Option.map ad (mr m0 p0 0))) = _; rw [g31]; rfl) dX3_opens_22 ?_
    obtain ⟨g32, h⟩ := vg_if h
    obtain ⟨y33, g34, h⟩ := vg_bind h
    have n_y33 := hO _ _ _ g34
    refine va_get (D := D) (ci := 1) (v := .ref (ad y33)) (C := RX1) (T := TX1) (N := 5) hx hb hts in_X3_opens_X1 hown hK hP y30 (vW_k1 n_y30 g32) rfl 2 (by decide) (hts (.fieldLink RX3 62 "VaultDoors$Vault" "doors" "[LVaultDoors$Door;") (List.mem_of_getElem? (i := 4) rfl)) (fun _ h9 => h9) (by show some (va_rf (Option.map ad (mr m0 y30 2))) = _; rw [g34]; rfl) dX3_opens_25 ?_
    refine lv_iload_n hx hb dX3_opens_28 rfl (lv_at hl 1 rfl) ?_
    obtain ⟨g35, h⟩ := vg_if h
    obtain ⟨g36, h⟩ := vg_if h
    obtain ⟨y37, g38, h⟩ := vg_bind h
    have n_y37 := hO _ _ _ g38
    refine va_aldq (D := D) hx hb hK hP y33 1 (vW_k7 n_y33 g35) rfl (i := p1) g36 dX3_opens_29 ?_
    refine W.eq (g2 := F0 m 30 ls [.ref (ad y37)]) (by show F0 m 30 ls (va_rf (Option.map ad (mr m0 y33 p1.toNatClampNeg)) :: _) = _; rw [g38]; rfl) ?_
    obtain ⟨g39, h⟩ := vg_if h
    refine va_get (D := D) (ci := 0) (v := .int (mi m0 y37 3)) (C := RX0) (T := TX0) (N := 14) hx hb hts in_X3_opens_X0 hown hK hP y37 (vW_k0 n_y37 g39) rfl 3 (by decide) (hts (.fieldLink RX3 66 "VaultDoors$Door" "state" "I") (List.mem_of_getElem? (i := 5) rfl)) (fun _ h9 => h9) rfl dX3_opens_30 ?_
    refine lv_iconst (v := 2) hx hb dX3_opens_33 (by decide) ?_
    refine lv_icmp_ne (tgt := 39) hx hb dX3_opens_34 (by decide) (fun c40 => ?_) (fun c40 => ?_)
    · rw [if_neg c40] at h
      refine lv_aload_n hx hb dX3_opens_39 rfl (lv_at hl 0 rfl) ?_
      obtain ⟨y41, g42, h⟩ := vg_bind h
      have n_y41 := hO _ _ _ g42
      refine va_get (D := D) (ci := 3) (v := .ref (ad y41)) (C := RX3) (T := TX3) (N := 2) hx hb hts in_X3_opens_X3 hown hK hP p0 (vW_k3 n_p0 g22) rfl 1 (by decide) (hts (.fieldLink RX3 16 "VaultDoors" "trial" "LVaultDoors$Vault;") (List.mem_of_getElem? (i := 6) rfl)) (fun _ h9 => h9) (by show some (va_rf (Option.map ad (mr m0 p0 1))) = _; rw [g42]; rfl) dX3_opens_40 ?_
      refine lv_aload_n hx hb dX3_opens_43 rfl (lv_at hl 0 rfl) ?_
      obtain ⟨y43, g44, h⟩ := vg_bind h
      have n_y43 := hO _ _ _ g44
      refine va_get (D := D) (ci := 3) (v := .ref (ad y43)) (C := RX3) (T := TX3) (N := 2) hx hb hts in_X3_opens_X3 hown hK hP p0 (vW_k3 n_p0 g22) rfl 0 (by decide) (hts (.fieldLink RX3 10 "VaultDoors" "vault" "LVaultDoors$Vault;") (List.mem_of_getElem? (i := 3) rfl)) (fun _ h9 => h9) (by show some (va_rf (Option.map ad (mr m0 p0 0))) = _; rw [g44]; rfl) dX3_opens_44 ?_
      obtain ⟨g45, h⟩ := vg_if h
      obtain ⟨q46, g47, h⟩ := vg_bind h
      have hFc := vm_free hD hS hA
      refine va_callv (va_runV (As := [.ref (ad y43)]) (rest := []) ⟨hx, hb, hml, hown, hts⟩ (cm_X1_copyFrom (m0 := m0) l D tc ad hO n_y41 n_y43 g47) (cwV 1 hts gX3_opens_X1_copyFrom rfl rfl rfl (by decide +kernel) ⟨(Nat.le_of_ble_eq_true rfl), (Nat.le_of_ble_eq_true rfl)⟩) ⟨qW_blind, va_recv hK hP (ci := 1) (q0 := y41) rfl (vW_k1 n_y41 g45), qW_pre hP hD hK hZ⟩ rfl rfl hl.1 rfl (lv_room (Nat.le_of_ble_eq_true rfl)) dX3_opens_47 ⟨(Nat.le_of_ble_eq_true rfl), (Nat.le_of_ble_eq_true rfl)⟩) hS (fun q9 _ h9 => hFc q9 h9) hFc (fun u t H1 locs ht hvm hw hB hz1 hk1 hS => ?_)
      obtain ⟨hO49, hP1, hK1, hD1⟩ := hB
      rw [ht] at hP1
      have hP := hP1
      have hD := hD1.weaken (fun _ q9 _ h9 => hFc q9.1 h9)
      generalize H1 = H at hP hS ⊢
      have hP : va_P D vwCl (vW tc ad N q46) H := hP
      have hD : va_D A (vW tc ad N q46) := hD
      clear hk1 hz1 ht hvm
      refine lv_iconst (v := 1) hx hb dX3_opens_50 (by decide) ?_
      refine lv_istore_n (lv' := [(2, .int 1), (0, .ref (ad p0)), (1, .int p1)]) hx hb dX3_opens_51 rfl hl (by decide) rfl (fun ls hl => ?_)
      exact ((hL vF)) q46 p0 p1 (1 : Int32) _ _ _ hO49 n_p0 h hP hD hS (lv_sub hl (l' := [(0, .ref (ad p0)), (1, .int p1), (2, .int 1)]) [1, 2, 0] rfl)
    · rw [if_pos c40] at h
      refine lv_iconst (v := 0) hx hb dX3_opens_37 (by decide) ?_
      have hz := Option.some.inj h
      exact W.iret (v := 0) hx hb hr (fun t ht hW => ⟨⟨_, (), rfl, by rw [← hz], by rw [← hz]; exact hO, by rw [ht, ← hz]; exact hP, va_K.moved hW.alike hK, by rw [← hz]; exact hD⟩, hS.F ht⟩) hS.2.2 dX3_opens_38
  · rw [if_pos c29] at h
    exact absurd h (by simp)

noncomputable def fB_X3_openedByWhisper_37 (rec : Nat → vM → Nat → Int32 → Int32 → Int32 → Int32 → Option (Int32 × vM)) (m : vM) (r0 : Nat) (i1 : Int32) (i2 : Int32) (i3 : Int32) (i4 : Int32) : Option (Int32 × vM) :=
  if i2 ≤ i4 then (
    some (i3, m)
  ) else (
    if mk m r0 = 3 then
    Option.bind (mr m r0 1) fun y3 =>
    if mk m y3 = 1 then
    Option.bind (f_X1_tickOn m y3) fun q6 =>
    if mk q6.2 r0 = 3 then
    Option.bind (mr q6.2 r0 1) fun y11 =>
    if mk q6.2 y11 = 1 then
    Option.bind (f_X1_openDoors q6.2 y11) fun q14 =>
    rec 37 q6.2 r0 i1 i2 (i3 ||| q14) (i4 + 1)
    else none
    else none
    else none
    else none
  )
noncomputable def fL_X3_openedByWhisper (n : Nat) : Nat → vM → Nat → Int32 → Int32 → Int32 → Int32 → Option (Int32 × vM) := Nat.rec (fun _ _ _ _ _ _ _ => none) (fun _ rec pc m r0 i1 i2 i3 i4 => if pc = 37 then fB_X3_openedByWhisper_37 rec m r0 i1 i2 i3 i4 else none) n
noncomputable def f_X3_openedByWhisper (m : vM) (p0 : Nat) (p1 : Int32) (p2 : Int32) : Option (Int32 × vM) :=
  if mk m p0 = 3 then
  Option.bind (mr m p0 1) fun y2 =>
  Option.bind (mr m p0 0) fun y4 =>
  if mk m y2 = 1 then
  Option.bind (f_X1_copyFrom m y2 y4) fun q7 =>
  if mk q7 p0 = 3 then
  Option.bind (mr q7 p0 1) fun y12 =>
  Option.bind (mr q7 p0 1) fun y14 =>
  if mk q7 y14 = 1 then
  Option.bind (mr q7 y14 2) fun y17 =>
  if mk q7 y17 = 7 then
  if vin p1 (ml q7 y17) then
  Option.bind (mr q7 y17 p1.toNatClampNeg) fun y21 =>
  if mk q7 y21 = 0 then
  if mk q7 y12 = 1 then
  Option.bind (f_X1_hearToken q7 y12 p1 ((mi q7 y21 0))) fun q25 =>
  fL_X3_openedByWhisper vF 37 q25.2 p0 p1 p2 (0 : Int32) (0 : Int32)
  else none
  else none
  else none
  else none
  else none
  else none
  else none
  else none
theorem in_X3_openedByWhisper_X0 : ∀ w ∈ wsX00, w ∈ wsX3_openedByWhisper := by decide +kernel
theorem in_X3_openedByWhisper_X1 : ∀ w ∈ wsX10, w ∈ wsX3_openedByWhisper := by decide +kernel
theorem in_X3_openedByWhisper_X3 : ∀ w ∈ wsX30, w ∈ wsX3_openedByWhisper := by decide +kernel
set_option maxHeartbeats 1000000 in
set_option maxRecDepth 100000 in
theorem cm_X3_openedByWhisper (l : Launch) (D : va_G) (tc : Nat → ClassId) (ad : Nat → Nat) {N : Nat} {m0 : vM} {sz : Nat} {p0 : Nat} {p1 : Int32} {p2 : Int32} (hO : vOK N m0) (n_p0 : p0 < N) {z : Int32 × vM} (h : f_X3_openedByWhisper m0 p0 p1 p2 = some z) : Met l yX3_openedByWhisper wsX3_openedByWhisper ({ frames := 4, cells := 0, slots := 0, locals := 103 } : Room) (va_Pc [.ref (ad p0), .int p1, .int p2] (qW D tc ad N m0 sz)) (va_Qi (fun (r9 : Int32) (_ : Unit) => r9 = z.1) (fun _ t => vOK N z.2 ∧ pB D (va_A (vW tc ad N m0) sz) (vW tc ad N z.2) (vT tc) t) (va_A (vW tc ad N m0) sz)) 0 0 (va_A (vW tc ad N m0) sz) := by
  refine Met.ofW (cc := cX3_openedByWhisper) (maxL := 5) (ret := (some .int)) (by decide) rfl ?_
  intro p e s m args below meth c s₁ B hml hv
  obtain ⟨rfl, hsz, hP, hK, hD0, hZ⟩ := hv
  have hx := B.exec
  have hb := B.bytes
  have hr := B.returns
  have hts := atoms_spec (ws := wsX3_openedByWhisper) B.pre
  have hown : s.vm.findClass RX3 = some m.cls := findClass_of_methodNamed B.named
  have hlocks := B.notSynchronized
  subst hsz
  have hD := hD0.self (sz := s.heap.size)
  generalize hAe : va_A (vW tc ad N m0) s.heap.size = A at hD ⊢
  have hA : ∀ q : Nat, s.heap.size ≤ q → A q := fun q h => by rw [← hAe]; exact Or.inr h
  have hS : va_S A s.heap s.heap [] := va_S.rf
  have hl := lv_entry ([.ref (ad p0), .int p1, .int p2]) (n := 5) (Nat.le_of_ble_eq_true rfl)
  rw [lg_entry_eq]
  generalize (lg_sl ([.ref (ad p0), .int p1, .int p2]) ++ List.replicate (5 - (lg_sl ([.ref (ad p0), .int p1, .int p2])).length) Slot.unset).toArray = ls at hl ⊢
  have hl : lv_has ls 5 [(0, .ref (ad p0)), (1, .int p1), (2, .int p2)] := hl
  have hL : ∀ n : Nat, (∀ (m1 : vM) (r0 : Nat) (i1 : Int32) (i2 : Int32) (i3 : Int32) (i4 : Int32) (H : Heap) (locs : List Loc) (ls : Array Slot), vOK N m1 → r0 < N → fL_X3_openedByWhisper n 37 m1 r0 i1 i2 i3 i4 = some z → va_P D vwCl (vW tc ad N m1) H → va_D A (vW tc ad N m1) → va_S A s.heap H locs → lv_has ls 5 [(0, .ref (ad r0)), (1, .int i1), (2, .int i2), (3, .int i3), (4, .int i4)] → W p l e (headSpec wsX3_openedByWhisper ({ frames := 4, cells := 0, slots := 0, locals := 103 } : Room)).room s m ([.ref (ad p0), .int p1, .int p2] : List Value).toArray below meth c H locs 0 0 (MQ below (va_Qi (fun (r9 : Int32) (_ : Unit) => r9 = z.1) (fun _ t => vOK N z.2 ∧ pB D A (vW tc ad N z.2) (vT tc) t) A) ([.ref (ad p0), .int p1, .int p2] : List Value).toArray s 0 0 A) (F0 m 37 ls [])) := by
    intro n
    induction n with
    | zero => exact (fun _ _ _ _ _ _ _ _ _ _ _ h9 _ _ _ _ => by have h9 : (none : Option (Int32 × vM)) = some z := h9; cases h9)
    | succ n ih =>
      · intro m1 r0 i1 i2 i3 i4 H locs ls hO n_r0 h hP hD hS hl
        have h : fB_X3_openedByWhisper_37 (fL_X3_openedByWhisper n) m1 r0 i1 i2 i3 i4 = some z := h
        unfold fB_X3_openedByWhisper_37 at h
        refine lv_iload hx hb dX3_openedByWhisper_37 (lv_at hl 4 rfl) ?_
        refine lv_iload_n hx hb dX3_openedByWhisper_39 rfl (lv_at hl 2 rfl) ?_
        refine lv_icmp_ge (tgt := 67) hx hb dX3_openedByWhisper_40 (by decide) (fun c1 => ?_) (fun c1 => ?_)
        · rw [if_pos c1] at h
          refine lv_iload_n hx hb dX3_openedByWhisper_67 rfl (lv_at hl 3 rfl) ?_
          have hz := Option.some.inj h
          exact W.iret (v := i3) hx hb hr (fun t ht hW => ⟨⟨_, (), rfl, by rw [← hz], by rw [← hz]; exact hO, by rw [ht, ← hz]; exact hP, va_K.moved hW.alike hK, by rw [← hz]; exact hD⟩, hS.F ht⟩) hS.2.2 dX3_openedByWhisper_68
        · rw [if_neg c1] at h
          refine lv_aload_n hx hb dX3_openedByWhisper_43 rfl (lv_at hl 0 rfl) ?_
          obtain ⟨g2, h⟩ := vg_if h
          obtain ⟨y3, g4, h⟩ := vg_bind h
          have n_y3 := hO _ _ _ g4
          refine va_get (D := D) (ci := 3) (v := .ref (ad y3)) (C := RX3) (T := TX3) (N := 2) hx hb hts in_X3_openedByWhisper_X3 hown hK hP r0 (vW_k3 n_r0 g2) rfl 1 (by decide) (hts (.fieldLink RX3 16 "VaultDoors" "trial" "LVaultDoors$Vault;") (List.mem_of_getElem? (i := 1) rfl)) (fun _ h9 => h9) (by show some (va_rf (Option.map ad (mr m1 r0 1))) = _; rw [g4]; rfl) dX3_openedByWhisper_44 ?_
          obtain ⟨g5, h⟩ := vg_if h
          obtain ⟨q6, g7, h⟩ := vg_bind h
          have hFc := vm_free hD hS hA
          refine va_calli (va_runV (As := []) (rest := []) ⟨hx, hb, hml, hown, hts⟩ (cm_X1_tickOn (m0 := m1) l D tc ad hO n_y3 g7) (cwV 0 hts gX3_openedByWhisper_X1_tickOn rfl rfl rfl (by decide +kernel) ⟨(Nat.le_of_ble_eq_true rfl), (Nat.le_of_ble_eq_true rfl)⟩) ⟨qW_blind, va_recv hK hP (ci := 1) (q0 := y3) rfl (vW_k1 n_y3 g5), qW_pre hP hD hK hZ⟩ rfl rfl hl.1 rfl (lv_room (Nat.le_of_ble_eq_true rfl)) dX3_openedByWhisper_47 ⟨(Nat.le_of_ble_eq_true rfl), (Nat.le_of_ble_eq_true rfl)⟩) hS (fun q9 _ h9 => hFc q9 h9) hFc (fun w8 u t H1 locs ht hvm hw hB hz1 hk1 hS => ?_)
          obtain ⟨hO9, hP1, hK1, hD1⟩ := hB
          rw [ht] at hP1
          have hP := hP1
          have hD := hD1.weaken (fun _ q9 _ h9 => hFc q9.1 h9)
          generalize H1 = H at hP hS ⊢
          have hP : va_P D vwCl (vW tc ad N q6.2) H := hP
          have hD : va_D A (vW tc ad N q6.2) := hD
          clear hk1 hz1 ht hvm
          have hw : w8 = q6.1 := hw
          rw [hw]
          refine lv_pop hx hb dX3_openedByWhisper_50 rfl ?_
          refine lv_iload_n hx hb dX3_openedByWhisper_51 rfl (lv_at hl 3 rfl) ?_
          refine lv_aload_n hx hb dX3_openedByWhisper_52 rfl (lv_at hl 0 rfl) ?_
          obtain ⟨g10, h⟩ := vg_if h
          obtain ⟨y11, g12, h⟩ := vg_bind h
          have n_y11 := hO9 _ _ _ g12
          refine va_get (D := D) (ci := 3) (v := .ref (ad y11)) (C := RX3) (T := TX3) (N := 2) hx hb hts in_X3_openedByWhisper_X3 hown hK hP r0 (vW_k3 n_r0 g10) rfl 1 (by decide) (hts (.fieldLink RX3 16 "VaultDoors" "trial" "LVaultDoors$Vault;") (List.mem_of_getElem? (i := 1) rfl)) (fun _ h9 => h9) (by show some (va_rf (Option.map ad (mr q6.2 r0 1))) = _; rw [g12]; rfl) dX3_openedByWhisper_53 ?_
          obtain ⟨g13, h⟩ := vg_if h
          obtain ⟨q14, g15, h⟩ := vg_bind h
          refine va_calli (va_runV (As := []) (rest := [.int i3]) ⟨hx, hb, hml, hown, hts⟩ (cm_X1_openDoors (m0 := q6.2) l D tc ad hO9 n_y11 g15) (cwV 0 hts gX3_openedByWhisper_X1_openDoors rfl rfl rfl (by decide +kernel) ⟨(Nat.le_of_ble_eq_true rfl), (Nat.le_of_ble_eq_true rfl)⟩) ⟨qR_blind, va_recv hK hP (ci := 1) (q0 := y11) rfl (vW_k1 n_y11 g13), qR_pre hP hK hZ⟩ rfl rfl hl.1 rfl (lv_room (Nat.le_of_ble_eq_true rfl)) dX3_openedByWhisper_56 ⟨(Nat.le_of_ble_eq_true rfl), (Nat.le_of_ble_eq_true rfl)⟩) hS (fun q9 _ h9 => h9.elim) (fun q9 h9 => h9.elim) (fun w16 u t H1 locs ht hvm hw hB hz1 hk1 hS => ?_)
          have hP := hP.kept (fun k9 q9 hk9 => hk1 q9.1 (hP k9 q9 hk9).lt (fun h9 => h9))
          generalize H1 = H at hP hS ⊢
          clear hk1 hz1 ht hvm
          have hw : w16 = q14 := hw
          rw [hw]
          refine lv_ior hx hb dX3_openedByWhisper_59 ?_
          refine lv_istore_n (lv' := [(3, .int (i3 ||| q14)), (0, .ref (ad r0)), (1, .int i1), (2, .int i2), (4, .int i4)]) hx hb dX3_openedByWhisper_60 rfl hl (by decide) rfl (fun ls hl => ?_)
          refine lv_iinc (v := i4 + 1) (lv' := [(4, .int (i4 + 1)), (3, .int (i3 ||| q14)), (0, .ref (ad r0)), (1, .int i1), (2, .int i2)]) hx hb dX3_openedByWhisper_61 hl (k := 4) rfl rfl (by decide) rfl (fun ls hl => ?_)
          refine lv_goto (tgt := 37) hx hb dX3_openedByWhisper_64 (by decide) ?_
          exact (ih) q6.2 r0 i1 i2 (i3 ||| q14) (i4 + 1) _ _ _ hO9 n_r0 h hP hD hS (lv_sub hl (l' := [(0, .ref (ad r0)), (1, .int i1), (2, .int i2), (3, .int (i3 ||| q14)), (4, .int (i4 + 1))]) [2, 3, 4, 1, 0] rfl)
  unfold f_X3_openedByWhisper at h
  refine lv_aload_n hx hb dX3_openedByWhisper_0 rfl (lv_at hl 0 rfl) ?_
  obtain ⟨g17, h⟩ := vg_if h
  obtain ⟨y18, g19, h⟩ := vg_bind h
  have n_y18 := hO _ _ _ g19
  refine va_get (D := D) (ci := 3) (v := .ref (ad y18)) (C := RX3) (T := TX3) (N := 2) hx hb hts in_X3_openedByWhisper_X3 hown hK hP p0 (vW_k3 n_p0 g17) rfl 1 (by decide) (hts (.fieldLink RX3 16 "VaultDoors" "trial" "LVaultDoors$Vault;") (List.mem_of_getElem? (i := 1) rfl)) (fun _ h9 => h9) (by show some (va_rf (Option.map ad (mr m0 p0 1))) = _; rw [g19]; rfl) dX3_openedByWhisper_1 ?_
  refine lv_aload_n hx hb dX3_openedByWhisper_4 rfl (lv_at hl 0 rfl) ?_
  obtain ⟨y20, g21, h⟩ := vg_bind h
  have n_y20 := hO _ _ _ g21
  refine va_get (D := D) (ci := 3) (v := .ref (ad y20)) (C := RX3) (T := TX3) (N := 2) hx hb hts in_X3_openedByWhisper_X3 hown hK hP p0 (vW_k3 n_p0 g17) rfl 0 (by decide) (hts (.fieldLink RX3 10 "VaultDoors" "vault" "LVaultDoors$Vault;") (List.mem_of_getElem? (i := 2) rfl)) (fun _ h9 => h9) (by show some (va_rf (Option.map ad (mr m0 p0 0))) = _; rw [g21]; rfl) dX3_openedByWhisper_5 ?_
  obtain ⟨g22, h⟩ := vg_if h
  obtain ⟨q23, g24, h⟩ := vg_bind h
  have hFc := vm_free hD hS hA
  refine va_callv (va_runV (As := [.ref (ad y20)]) (rest := []) ⟨hx, hb, hml, hown, hts⟩ (cm_X1_copyFrom (m0 := m0) l D tc ad hO n_y18 n_y20 g24) (cwV 1 hts gX3_openedByWhisper_X1_copyFrom rfl rfl rfl (by decide +kernel) ⟨(Nat.le_of_ble_eq_true rfl), (Nat.le_of_ble_eq_true rfl)⟩) ⟨qW_blind, va_recv hK hP (ci := 1) (q0 := y18) rfl (vW_k1 n_y18 g22), qW_pre hP hD hK hZ⟩ rfl rfl hl.1 rfl (lv_room (Nat.le_of_ble_eq_true rfl)) dX3_openedByWhisper_8 ⟨(Nat.le_of_ble_eq_true rfl), (Nat.le_of_ble_eq_true rfl)⟩) hS (fun q9 _ h9 => hFc q9 h9) hFc (fun u t H1 locs ht hvm hw hB hz1 hk1 hS => ?_)
  obtain ⟨hO26, hP1, hK1, hD1⟩ := hB
  rw [ht] at hP1
  have hP := hP1
  have hD := hD1.weaken (fun _ q9 _ h9 => hFc q9.1 h9)
  generalize H1 = H at hP hS ⊢
  have hP : va_P D vwCl (vW tc ad N q23) H := hP
  have hD : va_D A (vW tc ad N q23) := hD
  clear hk1 hz1 ht hvm
  refine lv_aload_n hx hb dX3_openedByWhisper_11 rfl (lv_at hl 0 rfl) ?_
  obtain ⟨g27, h⟩ := vg_if h
  obtain ⟨y28, g29, h⟩ := vg_bind h
  have n_y28 := hO26 _ _ _ g29
  refine va_get (D := D) (ci := 3) (v := .ref (ad y28)) (C := RX3) (T := TX3) (N := 2) hx hb hts in_X3_openedByWhisper_X3 hown hK hP p0 (vW_k3 n_p0 g27) rfl 1 (by decide) (hts (.fieldLink RX3 16 "VaultDoors" "trial" "LVaultDoors$Vault;") (List.mem_of_getElem? (i := 1) rfl)) (fun _ h9 => h9) (by show some (va_rf (Option.map ad (mr q23 p0 1))) = _; rw [g29]; rfl) dX3_openedByWhisper_12 ?_
  refine lv_iload_n hx hb dX3_openedByWhisper_15 rfl (lv_at hl 1 rfl) ?_
  refine lv_aload_n hx hb dX3_openedByWhisper_16 rfl (lv_at hl 0 rfl) ?_
  obtain ⟨y30, g31, h⟩ := vg_bind h
  have n_y30 := hO26 _ _ _ g31
  refine va_get (D := D) (ci := 3) (v := .ref (ad y30)) (C := RX3) (T := TX3) (N := 2) hx hb hts in_X3_openedByWhisper_X3 hown hK hP p0 (vW_k3 n_p0 g27) rfl 1 (by decide) (hts (.fieldLink RX3 16 "VaultDoors" "trial" "LVaultDoors$Vault;") (List.mem_of_getElem? (i := 1) rfl)) (fun _ h9 => h9) (by show some (va_rf (Option.map ad (mr q23 p0 1))) = _; rw [g31]; rfl) dX3_openedByWhisper_17 ?_
  obtain ⟨g32, h⟩ := vg_if h
  obtain ⟨y33, g34, h⟩ := vg_bind h
  have n_y33 := hO26 _ _ _ g34
  refine va_get (D := D) (ci := 1) (v := .ref (ad y33)) (C := RX1) (T := TX1) (N := 5) hx hb hts in_X3_openedByWhisper_X1 hown hK hP y30 (vW_k1 n_y30 g32) rfl 2 (by decide) (hts (.fieldLink RX3 62 "VaultDoors$Vault" "doors" "[LVaultDoors$Door;") (List.mem_of_getElem? (i := 3) rfl)) (fun _ h9 => h9) (by show some (va_rf (Option.map ad (mr q23 y30 2))) = _; rw [g34]; rfl) dX3_openedByWhisper_20 ?_
  refine lv_iload_n hx hb dX3_openedByWhisper_23 rfl (lv_at hl 1 rfl) ?_
  obtain ⟨g35, h⟩ := vg_if h
  obtain ⟨g36, h⟩ := vg_if h
  obtain ⟨y37, g38, h⟩ := vg_bind h
  have n_y37 := hO26 _ _ _ g38
  refine va_aldq (D := D) hx hb hK hP y33 1 (vW_k7 n_y33 g35) rfl (i := p1) g36 dX3_openedByWhisper_24 ?_
  refine W.eq (g2 := F0 m 25 ls [.ref (ad y37), .int p1, .ref (ad y28)]) (by show F0 m 25 ls (va_rf (Option.map ad (mr q23 y33 p1.toNatClampNeg)) :: _) = _; rw [g38]; rfl) ?_
  obtain ⟨g39, h⟩ := vg_if h
  refine va_get (D := D) (ci := 0) (v := .int (mi q23 y37 0)) (C := RX0) (T := TX0) (N := 14) hx hb hts in_X3_openedByWhisper_X0 hown hK hP y37 (vW_k0 n_y37 g39) rfl 0 (by decide) (hts (.fieldLink RX3 166 "VaultDoors$Door" "secret" "I") (List.mem_of_getElem? (i := 4) rfl)) (fun _ h9 => h9) rfl dX3_openedByWhisper_25 ?_
  obtain ⟨g40, h⟩ := vg_if h
  obtain ⟨q41, g42, h⟩ := vg_bind h
  have hFc := vm_free hD hS hA
  refine va_calli (va_runV (As := [.int p1, .int (mi q23 y37 0)]) (rest := []) ⟨hx, hb, hml, hown, hts⟩ (cm_X1_hearToken (m0 := q23) l D tc ad hO26 n_y28 g42) (cwV 2 hts gX3_openedByWhisper_X1_hearToken rfl rfl rfl (by decide +kernel) ⟨(Nat.le_of_ble_eq_true rfl), (Nat.le_of_ble_eq_true rfl)⟩) ⟨qW_blind, va_recv hK hP (ci := 1) (q0 := y28) rfl (vW_k1 n_y28 g40), qW_pre hP hD hK hZ⟩ rfl rfl hl.1 rfl (lv_room (Nat.le_of_ble_eq_true rfl)) dX3_openedByWhisper_28 ⟨(Nat.le_of_ble_eq_true rfl), (Nat.le_of_ble_eq_true rfl)⟩) hS (fun q9 _ h9 => hFc q9 h9) hFc (fun w43 u t H1 locs ht hvm hw hB hz1 hk1 hS => ?_)
  obtain ⟨hO44, hP1, hK1, hD1⟩ := hB
  rw [ht] at hP1
  have hP := hP1
  have hD := hD1.weaken (fun _ q9 _ h9 => hFc q9.1 h9)
  generalize H1 = H at hP hS ⊢
  have hP : va_P D vwCl (vW tc ad N q41.2) H := hP
  have hD : va_D A (vW tc ad N q41.2) := hD
  clear hk1 hz1 ht hvm
  have hw : w43 = q41.1 := hw
  rw [hw]
  refine lv_pop hx hb dX3_openedByWhisper_31 rfl ?_
  refine lv_iconst (v := 0) hx hb dX3_openedByWhisper_32 (by decide) ?_
  refine lv_istore_n (lv' := [(3, .int 0), (0, .ref (ad p0)), (1, .int p1), (2, .int p2)]) hx hb dX3_openedByWhisper_33 rfl hl (by decide) rfl (fun ls hl => ?_)
  refine lv_iconst (v := 0) hx hb dX3_openedByWhisper_34 (by decide) ?_
  refine lv_istore (lv' := [(4, .int 0), (3, .int 0), (0, .ref (ad p0)), (1, .int p1), (2, .int p2)]) hx hb dX3_openedByWhisper_35 hl (by decide) rfl (fun ls hl => ?_)
  exact ((hL vF)) q41.2 p0 p1 p2 (0 : Int32) (0 : Int32) _ _ _ hO44 n_p0 h hP hD hS (lv_sub hl (l' := [(0, .ref (ad p0)), (1, .int p1), (2, .int p2), (3, .int 0), (4, .int 0)]) [2, 3, 4, 1, 0] rfl)

noncomputable def f_X3_would (m : vM) (p0 : Nat) (p1 : Int32) (p2 : Int32) : Option (Int32 × vM) :=
  if mk m p0 = 3 then
  Option.bind (mr m p0 0) fun y2 =>
  if mk m y2 = 1 then
  Option.bind (f_X1_isDoor m y2 p1) fun q5 =>
  if q5 = 0 then (
    none
  ) else (
    Option.bind (f_X3_isIn m p2 ((1 : Int32)) ((100 : Int32))) fun q9 =>
    if q9 = 0 then (
      none
    ) else (
      Option.bind (f_X3_openedByWhisper m p0 p1 p2) fun q13 =>
      some (q13.1, q13.2)
    )
  )
  else none
  else none
theorem in_X3_would_X3 : ∀ w ∈ wsX30, w ∈ wsX3_would := by decide +kernel
set_option maxHeartbeats 1000000 in
set_option maxRecDepth 100000 in
theorem cm_X3_would (l : Launch) (D : va_G) (tc : Nat → ClassId) (ad : Nat → Nat) {N : Nat} {m0 : vM} {sz : Nat} {p0 : Nat} {p1 : Int32} {p2 : Int32} (hO : vOK N m0) (n_p0 : p0 < N) {z : Int32 × vM} (h : f_X3_would m0 p0 p1 p2 = some z) : Met l yX3_would wsX3_would ({ frames := 5, cells := 0, slots := 0, locals := 127 } : Room) (va_Pc [.ref (ad p0), .int p1, .int p2] (qW D tc ad N m0 sz)) (va_Qi (fun (r9 : Int32) (_ : Unit) => r9 = z.1) (fun _ t => vOK N z.2 ∧ pB D (va_A (vW tc ad N m0) sz) (vW tc ad N z.2) (vT tc) t) (va_A (vW tc ad N m0) sz)) 0 0 (va_A (vW tc ad N m0) sz) := by
  refine Met.ofW (cc := cX3_would) (maxL := 3) (ret := (some .int)) (by decide) rfl ?_
  intro p e s m args below meth c s₁ B hml hv
  obtain ⟨rfl, hsz, hP, hK, hD0, hZ⟩ := hv
  have hx := B.exec
  have hb := B.bytes
  have hr := B.returns
  have hts := atoms_spec (ws := wsX3_would) B.pre
  have hown : s.vm.findClass RX3 = some m.cls := findClass_of_methodNamed B.named
  have hlocks := B.notSynchronized
  subst hsz
  have hD := hD0.self (sz := s.heap.size)
  generalize hAe : va_A (vW tc ad N m0) s.heap.size = A at hD ⊢
  have hA : ∀ q : Nat, s.heap.size ≤ q → A q := fun q h => by rw [← hAe]; exact Or.inr h
  have hS : va_S A s.heap s.heap [] := va_S.rf
  have hl := lv_entry ([.ref (ad p0), .int p1, .int p2]) (n := 3) (Nat.le_of_ble_eq_true rfl)
  rw [lg_entry_eq]
  generalize (lg_sl ([.ref (ad p0), .int p1, .int p2]) ++ List.replicate (3 - (lg_sl ([.ref (ad p0), .int p1, .int p2])).length) Slot.unset).toArray = ls at hl ⊢
  have hl : lv_has ls 3 [(0, .ref (ad p0)), (1, .int p1), (2, .int p2)] := hl
  unfold f_X3_would at h
  refine lv_aload_n hx hb dX3_would_0 rfl (lv_at hl 0 rfl) ?_
  obtain ⟨g1, h⟩ := vg_if h
  obtain ⟨y2, g3, h⟩ := vg_bind h
  have n_y2 := hO _ _ _ g3
  refine va_get (D := D) (ci := 3) (v := .ref (ad y2)) (C := RX3) (T := TX3) (N := 2) hx hb hts in_X3_would_X3 hown hK hP p0 (vW_k3 n_p0 g1) rfl 0 (by decide) (hts (.fieldLink RX3 10 "VaultDoors" "vault" "LVaultDoors$Vault;") (List.mem_of_getElem? (i := 5) rfl)) (fun _ h9 => h9) (by show some (va_rf (Option.map ad (mr m0 p0 0))) = _; rw [g3]; rfl) dX3_would_1 ?_
  refine lv_iload_n hx hb dX3_would_4 rfl (lv_at hl 1 rfl) ?_
  obtain ⟨g4, h⟩ := vg_if h
  obtain ⟨q5, g6, h⟩ := vg_bind h
  refine va_calli (va_runV (As := [.int p1]) (rest := []) ⟨hx, hb, hml, hown, hts⟩ (cm_X1_isDoor (m0 := m0) l D tc ad hO n_y2 g6) (cwV 1 hts gX3_would_X1_isDoor rfl rfl rfl (by decide +kernel) ⟨(Nat.le_of_ble_eq_true rfl), (Nat.le_of_ble_eq_true rfl)⟩) ⟨qR_blind, va_recv hK hP (ci := 1) (q0 := y2) rfl (vW_k1 n_y2 g4), qR_pre hP hK hZ⟩ rfl rfl hl.1 rfl (lv_room (Nat.le_of_ble_eq_true rfl)) dX3_would_5 ⟨(Nat.le_of_ble_eq_true rfl), (Nat.le_of_ble_eq_true rfl)⟩) hS (fun q9 _ h9 => h9.elim) (fun q9 h9 => h9.elim) (fun w7 u t H1 locs ht hvm hw hB hz1 hk1 hS => ?_)
  have hP := hP.kept (fun k9 q9 hk9 => hk1 q9.1 (hP k9 q9 hk9).lt (fun h9 => h9))
  generalize H1 = H at hP hS ⊢
  clear hk1 hz1 ht hvm
  have hw : w7 = q5 := hw
  rw [hw]
  refine lv_if_ne (tgt := 21) hx hb dX3_would_8 (by decide) (fun c8 => ?_) (fun c8 => ?_)
  · rw [if_neg c8] at h
    refine lv_iload_n hx hb dX3_would_21 rfl (lv_at hl 2 rfl) ?_
    refine lv_iconst (v := 1) hx hb dX3_would_22 (by decide) ?_
    refine lv_bipush (v := 100) hx hb dX3_would_23 (by decide) ?_
    obtain ⟨q9, g10, h⟩ := vg_bind h
    refine va_calli (va_runS (As := [.int p2, .int 1, .int 100]) (rest := []) ⟨hx, hb, hml, hown, hts⟩ (cm_X3_isIn (m0 := m0) l D tc ad hO g10) (va_cwS 3 hts gX3_would_X3_isIn rfl rfl rfl (by decide +kernel) ⟨(Nat.le_of_ble_eq_true rfl), (Nat.le_of_ble_eq_true rfl)⟩) ⟨qR_blind, qR_pre hP hK hZ⟩ rfl rfl hl.1 rfl (lv_room (Nat.le_of_ble_eq_true rfl)) dX3_would_25 ⟨(Nat.le_of_ble_eq_true rfl), (Nat.le_of_ble_eq_true rfl)⟩) hS (fun q9 _ h9 => h9.elim) (fun q9 h9 => h9.elim) (fun w11 u t H1 locs ht hvm hw hB hz1 hk1 hS => ?_)
    have hP := hP.kept (fun k9 q9 hk9 => hk1 q9.1 (hP k9 q9 hk9).lt (fun h9 => h9))
    generalize H1 = H at hP hS ⊢
    clear hk1 hz1 ht hvm
    have hw : w11 = q9 := hw
    rw [hw]
    refine lv_if_ne (tgt := 41) hx hb dX3_would_28 (by decide) (fun c12 => ?_) (fun c12 => ?_)
    · rw [if_neg c12] at h
      refine lv_aload_n hx hb dX3_would_41 rfl (lv_at hl 0 rfl) ?_
      refine lv_iload_n hx hb dX3_would_42 rfl (lv_at hl 1 rfl) ?_
      refine lv_iload_n hx hb dX3_would_43 rfl (lv_at hl 2 rfl) ?_
      obtain ⟨q13, g14, h⟩ := vg_bind h
      have hFc := vm_free hD hS hA
      refine va_calli (va_runV (As := [.int p1, .int p2]) (rest := []) ⟨hx, hb, hml, hown, hts⟩ (cm_X3_openedByWhisper (m0 := m0) l D tc ad hO n_p0 g14) (cwV 2 hts gX3_would_X3_openedByWhisper rfl rfl rfl (by decide +kernel) ⟨(Nat.le_of_ble_eq_true rfl), (Nat.le_of_ble_eq_true rfl)⟩) ⟨qW_blind, va_recv hK hP (ci := 3) (q0 := p0) rfl (vW_k3 n_p0 g1), qW_pre hP hD hK hZ⟩ rfl rfl hl.1 rfl (lv_room (Nat.le_of_ble_eq_true rfl)) dX3_would_44 ⟨(Nat.le_of_ble_eq_true rfl), (Nat.le_of_ble_eq_true rfl)⟩) hS (fun q9 _ h9 => hFc q9 h9) hFc (fun w15 u t H1 locs ht hvm hw hB hz1 hk1 hS => ?_)
      obtain ⟨hO16, hP1, hK1, hD1⟩ := hB
      rw [ht] at hP1
      have hP := hP1
      have hD := hD1.weaken (fun _ q9 _ h9 => hFc q9.1 h9)
      generalize H1 = H at hP hS ⊢
      have hP : va_P D vwCl (vW tc ad N q13.2) H := hP
      have hD : va_D A (vW tc ad N q13.2) := hD
      clear hk1 hz1 ht hvm
      have hw : w15 = q13.1 := hw
      rw [hw]
      have hz := Option.some.inj h
      exact W.iret (v := q13.1) hx hb hr (fun t ht hW => ⟨⟨_, (), rfl, by rw [← hz], by rw [← hz]; exact hO16, by rw [ht, ← hz]; exact hP, va_K.moved hW.alike hK, by rw [← hz]; exact hD⟩, hS.F ht⟩) hS.2.2 dX3_would_47
    · rw [if_pos c12] at h
      exact absurd h (by simp)
  · rw [if_pos c8] at h
    exact absurd h (by simp)
