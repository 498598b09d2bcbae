noncomputable def fB_X5_pass_13 (rec : Nat → Nat → vM → Nat → Nat → Nat → Int32 → Nat → Int32 → Nat → Int32 → Nat → Int32 → Nat → Int32 → Int32 → Nat → Int32 → Int32 → Option (Int32 × Nat × vM)) (N : Nat) (m : vM) (kc ks : Nat) (r0 : Nat) (i1 : Int32) (r2 : Nat) (i3 : Int32) (r3 : Nat) (i4 : Int32) (r4 : Nat) (i5 : Int32) (r5 : Nat) (i6 : Int32) (i7 : Int32) (r8 : Nat) (i9 : Int32) (i10 : Int32) : Option (Int32 × Nat × vM) :=
  if i3 ≤ i4 then (
    if (kc + 1) ≤ 2000 then
    if (ks + 0) ≤ 70000 then
    if ((kc + 1) + 1) ≤ 2000 then
    if ((ks + 0) + 0) ≤ 70000 then
    if mk ((mN ((mN m N 8 0)) ((N + 1)) 8 0)) r0 = 5 then
    Option.bind (mr ((mN ((mN m N 8 0)) ((N + 1)) 8 0)) r0 1) fun y22 =>
    if mk ((mN ((mN m N 8 0)) ((N + 1)) 8 0)) y22 = 8 then
    rec 92 (((N + 1) + 1)) ((mN ((mN m N 8 0)) ((N + 1)) 8 0)) (((kc + 1) + 1)) (((ks + 0) + 0)) r0 i1 N 0 ((N + 1)) 0 y22 (Int32.ofNat (ml ((mN ((mN m N 8 0)) ((N + 1)) 8 0)) y22)) 0 (0 : Int32) 0 0 0 0
    else none
    else none
    else none
    else none
    else none
    else none
  ) else (
    if mk m r2 = 9 then
    if vin i4 (ml m r2) then
    Option.bind (mr m r2 i4.toNatClampNeg) fun y27 =>
    if mk m y27 = 4 then
    if 2 ≤ (mi m y27 3) then (
      if (mi ((mI m y27 4 ((mi m y27 4) - 1))) y27 4) = 0 then (
        rec 13 N ((mI ((mI m y27 4 ((mi m y27 4) - 1))) y27 3 0)) kc ks r0 i1 r2 i3 0 (i4 + 1) 0 0 0 0 0 0 0 0
      ) else (
        rec 13 N ((mI m y27 4 ((mi m y27 4) - 1))) kc ks r0 i1 r2 i3 0 (i4 + 1) 0 0 0 0 0 0 0 0
      )
    ) else (
      rec 13 N m kc ks r0 i1 r2 i3 0 (i4 + 1) 0 0 0 0 0 0 0 0
    )
    else none
    else none
    else none
  )
noncomputable def fB_X5_pass_92 (rec : Nat → Nat → vM → Nat → Nat → Nat → Int32 → Nat → Int32 → Nat → Int32 → Nat → Int32 → Nat → Int32 → Int32 → Nat → Int32 → Int32 → Option (Int32 × Nat × vM)) (N : Nat) (m : vM) (kc ks : Nat) (r0 : Nat) (i1 : Int32) (r2 : Nat) (i3 : Int32) (r3 : Nat) (i4 : Int32) (r4 : Nat) (i5 : Int32) (r5 : Nat) (i6 : Int32) (i7 : Int32) (r8 : Nat) (i9 : Int32) (i10 : Int32) : Option (Int32 × Nat × vM) :=
  if i5 ≤ i6 then (
    if mk m r0 = 5 then
    if mk ((mR m r0 1 (some r3))) r2 = 8 then
    rec 160 N ((mR m r0 1 (some r3))) kc ks r0 i1 r2 0 r3 0 r2 (Int32.ofNat (ml ((mR m r0 1 (some r3))) r2)) 0 (0 : Int32) 0 0 0 0
    else none
    else none
  ) else (
    if mk m r4 = 8 then
    if vin i6 (ml m r4) then
    Option.bind (mr m r4 i6.toNatClampNeg) fun y7 =>
    if mk m y7 = 6 then
    if vin (3 : Int32) (ml m y7) then
    if vin (3 : Int32) (ml m y7) then
    if vin (3 : Int32) (ml ((mI m y7 3 ((mi m y7 3) - 1))) y7) then
    if (mi ((mI m y7 3 ((mi m y7 3) - 1))) y7 3) = 0 then (
      Option.bind (f_X5_more N ((mI m y7 3 ((mi m y7 3) - 1))) r2 y7) fun q15 =>
      if (kc + 1) ≤ 2000 then
      if (ks + 66) ≤ 70000 then
      rec 92 q15.2.1 q15.2.2 ((kc + 1)) ((ks + 66)) r0 i1 q15.1 0 r3 0 r4 i5 0 (i6 + 1) 0 0 0 0
      else none
      else none
    ) else (
      Option.bind (f_X5_more N ((mI m y7 3 ((mi m y7 3) - 1))) r3 y7) fun q32 =>
      if (kc + 1) ≤ 2000 then
      if (ks + 66) ≤ 70000 then
      rec 92 q32.2.1 q32.2.2 ((kc + 1)) ((ks + 66)) r0 i1 r2 0 q32.1 0 r4 i5 0 (i6 + 1) 0 0 0 0
      else none
      else none
    )
    else none
    else none
    else none
    else none
    else none
    else none
  )
noncomputable def fB_X5_pass_160 (rec : Nat → Nat → vM → Nat → Nat → Nat → Int32 → Nat → Int32 → Nat → Int32 → Nat → Int32 → Nat → Int32 → Int32 → Nat → Int32 → Int32 → Option (Int32 × Nat × vM)) (N : Nat) (m : vM) (kc ks : Nat) (r0 : Nat) (i1 : Int32) (r2 : Nat) (i3 : Int32) (r3 : Nat) (i4 : Int32) (r4 : Nat) (i5 : Int32) (r5 : Nat) (i6 : Int32) (i7 : Int32) (r8 : Nat) (i9 : Int32) (i10 : Int32) : Option (Int32 × Nat × vM) :=
  if i5 ≤ i6 then (
    rec 189 N m kc ks r0 i1 r2 0 r3 (0 : Int32) 0 0 0 i6 0 0 0 0
  ) else (
    if mk m r4 = 8 then
    if vin i6 (ml m r4) then
    Option.bind (mr m r4 i6.toNatClampNeg) fun y4 =>
    if mk m r0 = 5 then
    Option.bind (f_X5_hear N m r0 y4) fun q7 =>
    if (kc + 11) ≤ 2000 then
    if (ks + 352) ≤ 70000 then
    rec 160 q7.1 q7.2 ((kc + 11)) ((ks + 352)) r0 i1 r2 0 r3 0 r4 i5 0 (i6 + 1) 0 0 0 0
    else none
    else none
    else none
    else none
    else none
  )
noncomputable def fB_X5_pass_189 (rec : Nat → Nat → vM → Nat → Nat → Nat → Int32 → Nat → Int32 → Nat → Int32 → Nat → Int32 → Nat → Int32 → Int32 → Nat → Int32 → Int32 → Option (Int32 × Nat × vM)) (N : Nat) (m : vM) (kc ks : Nat) (r0 : Nat) (i1 : Int32) (r2 : Nat) (i3 : Int32) (r3 : Nat) (i4 : Int32) (r4 : Nat) (i5 : Int32) (r5 : Nat) (i6 : Int32) (i7 : Int32) (r8 : Nat) (i9 : Int32) (i10 : Int32) : Option (Int32 × Nat × vM) :=
  if mk m r0 = 5 then
  Option.bind (mr m r0 0) fun y2 =>
  if mk m y2 = 9 then
  if (Int32.ofNat (ml m y2)) ≤ i4 then (
    some (i1, N, (mI m r0 2 ((mi m r0 2) + 1)))
  ) else (
    Option.bind (mr m r0 0) fun y7 =>
    if mk m y7 = 9 then
    if vin i4 (ml m y7) then
    Option.bind (mr m y7 i4.toNatClampNeg) fun y11 =>
    if mk m y11 = 4 then
    if (mi m y11 3) = 1 then (
      if (mi ((mI m y11 4 ((mi m y11 4) - 1))) y11 4) ≤ 0 then (
        Option.bind (f_X4_answers ((mI m y11 4 ((mi m y11 4) - 1))) y11 ((1 : Int32))) fun q17 =>
        if (mi ((mI m y11 4 ((mi m y11 4) - 1))) y11 2) = 0 then (
          Option.bind (mr ((mI m y11 4 ((mi m y11 4) - 1))) y11 5) fun y21 =>
          if mk ((mI m y11 4 ((mi m y11 4) - 1))) y21 = 8 then
          if q17 = (Int32.ofNat (ml ((mI m y11 4 ((mi m y11 4) - 1))) y21)) then (
            rec 357 N ((mI m y11 4 ((mi m y11 4) - 1))) kc ks r0 i1 r2 0 r3 i4 0 0 y11 q17 (1 : Int32) 0 0 0
          ) else (
            rec 357 N ((mI m y11 4 ((mi m y11 4) - 1))) kc ks r0 i1 r2 0 r3 i4 0 0 y11 q17 (0 : Int32) 0 0 0
          )
          else none
        ) else (
          if (mi ((mI m y11 4 ((mi m y11 4) - 1))) y11 2) = 1 then (
            if q17 ≤ 0 then (
              rec 357 N ((mI m y11 4 ((mi m y11 4) - 1))) kc ks r0 i1 r2 0 r3 i4 0 0 y11 q17 (0 : Int32) 0 0 0
            ) else (
              rec 357 N ((mI m y11 4 ((mi m y11 4) - 1))) kc ks r0 i1 r2 0 r3 i4 0 0 y11 q17 (1 : Int32) 0 0 0
            )
          ) else (
            if (mi ((mI m y11 4 ((mi m y11 4) - 1))) y11 2) = 2 then (
              Option.bind (mr ((mI m y11 4 ((mi m y11 4) - 1))) y11 5) fun y28 =>
              if mk ((mI m y11 4 ((mi m y11 4) - 1))) y28 = 8 then
              if (q17 + q17) ≤ (Int32.ofNat (ml ((mI m y11 4 ((mi m y11 4) - 1))) y28)) then (
                rec 357 N ((mI m y11 4 ((mi m y11 4) - 1))) kc ks r0 i1 r2 0 r3 i4 0 0 y11 q17 (0 : Int32) 0 0 0
              ) else (
                rec 357 N ((mI m y11 4 ((mi m y11 4) - 1))) kc ks r0 i1 r2 0 r3 i4 0 0 y11 q17 (1 : Int32) 0 0 0
              )
              else none
            ) else (
              if q17 = 0 then (
                rec 357 N ((mI m y11 4 ((mi m y11 4) - 1))) kc ks r0 i1 r2 0 r3 i4 0 0 y11 q17 (1 : Int32) 0 0 0
              ) else (
                rec 357 N ((mI m y11 4 ((mi m y11 4) - 1))) kc ks r0 i1 r2 0 r3 i4 0 0 y11 q17 (0 : Int32) 0 0 0
              )
            )
          )
        )
      ) else (
        Option.bind (f_X4_answers ((mI m y11 4 ((mi m y11 4) - 1))) y11 ((-1 : Int32))) fun q33 =>
        Option.bind (mr ((mI m y11 4 ((mi m y11 4) - 1))) y11 5) fun y36 =>
        if mk ((mI m y11 4 ((mi m y11 4) - 1))) y36 = 8 then
        if (Int32.ofNat (ml ((mI m y11 4 ((mi m y11 4) - 1))) y36)) ≤ q33 then (
          Option.bind (f_X4_answers ((mI m y11 4 ((mi m y11 4) - 1))) y11 ((1 : Int32))) fun q40 =>
          if (mi ((mI m y11 4 ((mi m y11 4) - 1))) y11 2) = 0 then (
            Option.bind (mr ((mI m y11 4 ((mi m y11 4) - 1))) y11 5) fun y44 =>
            if mk ((mI m y11 4 ((mi m y11 4) - 1))) y44 = 8 then
            if q40 = (Int32.ofNat (ml ((mI m y11 4 ((mi m y11 4) - 1))) y44)) then (
              rec 357 N ((mI m y11 4 ((mi m y11 4) - 1))) kc ks r0 i1 r2 0 r3 i4 0 0 y11 q40 (1 : Int32) 0 0 0
            ) else (
              rec 357 N ((mI m y11 4 ((mi m y11 4) - 1))) kc ks r0 i1 r2 0 r3 i4 0 0 y11 q40 (0 : Int32) 0 0 0
            )
            else none
          ) else (
            if (mi ((mI m y11 4 ((mi m y11 4) - 1))) y11 2) = 1 then (
              if q40 ≤ 0 then (
                rec 357 N ((mI m y11 4 ((mi m y11 4) - 1))) kc ks r0 i1 r2 0 r3 i4 0 0 y11 q40 (0 : Int32) 0 0 0
              ) else (
                rec 357 N ((mI m y11 4 ((mi m y11 4) - 1))) kc ks r0 i1 r2 0 r3 i4 0 0 y11 q40 (1 : Int32) 0 0 0
              )
            ) else (
              if (mi ((mI m y11 4 ((mi m y11 4) - 1))) y11 2) = 2 then (
                Option.bind (mr ((mI m y11 4 ((mi m y11 4) - 1))) y11 5) fun y51 =>
                if mk ((mI m y11 4 ((mi m y11 4) - 1))) y51 = 8 then
                if (q40 + q40) ≤ (Int32.ofNat (ml ((mI m y11 4 ((mi m y11 4) - 1))) y51)) then (
                  rec 357 N ((mI m y11 4 ((mi m y11 4) - 1))) kc ks r0 i1 r2 0 r3 i4 0 0 y11 q40 (0 : Int32) 0 0 0
                ) else (
                  rec 357 N ((mI m y11 4 ((mi m y11 4) - 1))) kc ks r0 i1 r2 0 r3 i4 0 0 y11 q40 (1 : Int32) 0 0 0
                )
                else none
              ) else (
                if q40 = 0 then (
                  rec 357 N ((mI m y11 4 ((mi m y11 4) - 1))) kc ks r0 i1 r2 0 r3 i4 0 0 y11 q40 (1 : Int32) 0 0 0
                ) else (
                  rec 357 N ((mI m y11 4 ((mi m y11 4) - 1))) kc ks r0 i1 r2 0 r3 i4 0 0 y11 q40 (0 : Int32) 0 0 0
                )
              )
            )
          )
        ) else (
          rec 189 N ((mI m y11 4 ((mi m y11 4) - 1))) kc ks r0 i1 r2 0 r3 (i4 + 1) 0 0 0 i6 0 0 0 0
        )
        else none
      )
    ) else (
      rec 189 N m kc ks r0 i1 r2 0 r3 (i4 + 1) 0 0 0 i6 0 0 0 0
    )
    else none
    else none
    else none
  )
  else none
  else none
noncomputable def fB_X5_pass_357 (rec : Nat → Nat → vM → Nat → Nat → Nat → Int32 → Nat → Int32 → Nat → Int32 → Nat → Int32 → Nat → Int32 → Int32 → Nat → Int32 → Int32 → Option (Int32 × Nat × vM)) (N : Nat) (m : vM) (kc ks : Nat) (r0 : Nat) (i1 : Int32) (r2 : Nat) (i3 : Int32) (r3 : Nat) (i4 : Int32) (r4 : Nat) (i5 : Int32) (r5 : Nat) (i6 : Int32) (i7 : Int32) (r8 : Nat) (i9 : Int32) (i10 : Int32) : Option (Int32 × Nat × vM) :=
  if mk m r0 = 5 then
  Option.bind (f_X5_turn m r0 r5 i7) fun q2 =>
  if mk q2 r5 = 4 then
  Option.bind (mr q2 r5 6) fun y7 =>
  if mk q2 y7 = 8 then
  rec 380 N q2 kc ks r0 i1 r2 0 r3 i4 0 0 r5 i6 i7 y7 (Int32.ofNat (ml q2 y7)) (0 : Int32)
  else none
  else none
  else none
noncomputable def fB_X5_pass_380 (rec : Nat → Nat → vM → Nat → Nat → Nat → Int32 → Nat → Int32 → Nat → Int32 → Nat → Int32 → Nat → Int32 → Int32 → Nat → Int32 → Int32 → Option (Int32 × Nat × vM)) (N : Nat) (m : vM) (kc ks : Nat) (r0 : Nat) (i1 : Int32) (r2 : Nat) (i3 : Int32) (r3 : Nat) (i4 : Int32) (r4 : Nat) (i5 : Int32) (r5 : Nat) (i6 : Int32) (i7 : Int32) (r8 : Nat) (i9 : Int32) (i10 : Int32) : Option (Int32 × Nat × vM) :=
  if i9 ≤ i10 then (
    if (kc + 1) ≤ 2000 then
    if (ks + 0) ≤ 70000 then
    if mk ((mN m N 8 0)) r5 = 4 then
    if i7 = 0 then (
      rec 189 ((N + 1)) ((mR ((mN m N 8 0)) r5 6 (some N))) ((kc + 1)) ((ks + 0)) r0 (i1 + 0) r2 0 r3 (i4 + 1) 0 0 0 i6 0 0 0 0
    ) else (
      rec 189 ((N + 1)) ((mR ((mN m N 8 0)) r5 6 (some N))) ((kc + 1)) ((ks + 0)) r0 (i1 + 1) r2 0 r3 (i4 + 1) 0 0 0 i6 0 0 0 0
    )
    else none
    else none
    else none
  ) else (
    if mk m r8 = 8 then
    if vin i10 (ml m r8) then
    Option.bind (mr m r8 i10.toNatClampNeg) fun y19 =>
    if mk m y19 = 6 then
    if vin (0 : Int32) (ml m y19) then
    if i7 = 0 then (
      if vin (1 : Int32) (ml m y19) then
      if mk m r0 = 5 then
      Option.bind (f_X5_send N m r0 i4 ((mi m y19 0)) ((1 : Int32)) ((mi m y19 1))) fun q26 =>
      if (kc + 2) ≤ 2000 then
      if (ks + 71) ≤ 70000 then
      rec 380 q26.1 q26.2 ((kc + 2)) ((ks + 71)) r0 i1 r2 0 r3 i4 0 0 r5 i6 i7 r8 i9 (i10 + 1)
      else none
      else none
      else none
      else none
    ) else (
      if vin (1 : Int32) (ml m y19) then
      if mk m r0 = 5 then
      Option.bind (f_X5_send N m r0 i4 ((mi m y19 0)) ((2 : Int32)) ((mi m y19 1))) fun q45 =>
      if (kc + 2) ≤ 2000 then
      if (ks + 71) ≤ 70000 then
      rec 380 q45.1 q45.2 ((kc + 2)) ((ks + 71)) r0 i1 r2 0 r3 i4 0 0 r5 i6 i7 r8 i9 (i10 + 1)
      else none
      else none
      else none
      else none
    )
    else none
    else none
    else none
    else none
  )
noncomputable def fL_X5_pass (n : Nat) : Nat → Nat → vM → Nat → Nat → Nat → Int32 → Nat → Int32 → Nat → Int32 → Nat → Int32 → Nat → Int32 → Int32 → Nat → Int32 → Int32 → Option (Int32 × Nat × vM) := Nat.rec (fun _ _ _ _ _ _ _ _ _ _ _ _ _ _ _ _ _ _ _ => none) (fun _ rec pc N m kc ks r0 i1 r2 i3 r3 i4 r4 i5 r5 i6 i7 r8 i9 i10 => if pc = 13 then fB_X5_pass_13 rec N m kc ks r0 i1 r2 i3 r3 i4 r4 i5 r5 i6 i7 r8 i9 i10 else if pc = 92 then fB_X5_pass_92 rec N m kc ks r0 i1 r2 i3 r3 i4 r4 i5 r5 i6 i7 r8 i9 i10 else if pc = 160 then fB_X5_pass_160 rec N m kc ks r0 i1 r2 i3 r3 i4 r4 i5 r5 i6 i7 r8 i9 i10 else if pc = 189 then fB_X5_pass_189 rec N m kc ks r0 i1 r2 i3 r3 i4 r4 i5 r5 i6 i7 r8 i9 i10 else if pc = 357 then fB_X5_pass_357 rec N m kc ks r0 i1 r2 i3 r3 i4 r4 i5 r5 i6 i7 r8 i9 i10 else if pc = 380 then fB_X5_pass_380 rec N m kc ks r0 i1 r2 i3 r3 i4 r4 i5 r5 i6 i7 r8 i9 i10 else none) n
noncomputable def f_X5_pass (N : Nat) (m : vM) (p0 : Nat) : Option (Int32 × Nat × vM) :=
  if mk m p0 = 5 then
  Option.bind (mr m p0 0) fun y2 =>
  if mk m y2 = 9 then
  fL_X5_pass vF 13 N m 0 0 p0 (0 : Int32) y2 (Int32.ofNat (ml m y2)) 0 (0 : Int32) 0 0 0 0 0 0 0 0
  else none
  else none
theorem in_X5_pass_X4 : ∀ w ∈ wsX40, w ∈ wsX5_pass := by decide +kernel
theorem in_X5_pass_X5 : ∀ w ∈ wsX50, w ∈ wsX5_pass := by decide +kernel
set_option maxHeartbeats 1000000 in
set_option maxRecDepth 100000 in
theorem cm_X5_pass (l : Launch) (D : va_G) (tc : Nat → ClassId) (ad : Nat → Nat) {N : Nat} {m0 : vM} {sz : Nat} {p0 : Nat} (hO : vOK N m0) (n_p0 : p0 < N) {z : Int32 × Nat × vM} (h : f_X5_pass N m0 p0 = some z) : Met l yX5_pass wsX5_pass ({ frames := 4, cells := 2000, slots := 70000, locals := 99 } : Room) (va_Pc [.ref (ad p0)] (qW D tc ad N m0 sz)) (va_Qi (fun (r9 : Int32) (_ : Unit) => r9 = z.1) (fun _ t => vX D (va_A (vW tc ad N m0) sz) tc ad N z.2.1 z.2.2 t) (va_A (vW tc ad N m0) sz)) 2000 70000 (va_A (vW tc ad N m0) sz) := by
  refine Met.ofW (cc := cX5_pass) (maxL := 12) (ret := (some .int)) (by decide) rfl ?_
  intro p e s m args below meth c s₁ B hml hv
  obtain ⟨rfl, hsz, hP, hK, hD0, hZ⟩ := hv
  have hx := B.exec
  have hb := B.bytes
  have hr := B.returns
  have hts := atoms_spec (ws := wsX5_pass) B.pre
  have hown : s.vm.findClass RX5 = some m.cls := findClass_of_methodNamed B.named
  have hlocks := B.notSynchronized
  subst hsz
  have hD := hD0.self (sz := s.heap.size)
  generalize hAe : va_A (vW tc ad N m0) s.heap.size = A at hD ⊢
  have hA : ∀ q : Nat, s.heap.size ≤ q → A q := fun q h => by rw [← hAe]; exact Or.inr h
  have hS : va_S A s.heap s.heap [] := va_S.rf
  have hl := lv_entry ([.ref (ad p0)]) (n := 12) (Nat.le_of_ble_eq_true rfl)
  rw [lg_entry_eq]
  generalize (lg_sl ([.ref (ad p0)]) ++ List.replicate (12 - (lg_sl ([.ref (ad p0)])).length) Slot.unset).toArray = ls at hl ⊢
  have hl : lv_has ls 12 [(0, .ref (ad p0))] := hl
  have hL : ∀ n : Nat, (∀ (NL : Nat) (adL : Nat → Nat) (m1 : vM) (kc ks : Nat) (r0 : Nat) (i1 : Int32) (r2 : Nat) (i3 : Int32) (i4 : Int32) (H : Heap) (locs : List Loc) (ls : Array Slot), N ≤ NL → (∀ k, k < N → adL k = ad k) → kc ≤ 2000 → ks ≤ 70000 → vOK NL m1 → r0 < NL → r2 < NL → fL_X5_pass n 13 NL m1 kc ks r0 i1 r2 i3 0 i4 0 0 0 0 0 0 0 0 = some z → va_P D vwCl (vW tc adL NL m1) H → va_D A (vW tc adL NL m1) → va_S A s.heap H locs → lv_has ls 12 [(0, .ref (adL r0)), (1, .int i1), (2, .ref (adL r2)), (3, .int i3), (4, .int i4)] → W p l e (headSpec wsX5_pass ({ frames := 4, cells := 2000, slots := 70000, locals := 99 } : Room)).room s m ([.ref (ad p0)] : List Value).toArray below meth c H locs kc ks (MQ below (va_Qi (fun (r9 : Int32) (_ : Unit) => r9 = z.1) (fun _ t => vX D A tc ad N z.2.1 z.2.2 t) A) ([.ref (ad p0)] : List Value).toArray s 2000 70000 A) (F0 m 13 ls [])) ∧ (∀ (NL : Nat) (adL : Nat → Nat) (m1 : vM) (kc ks : Nat) (r0 : Nat) (i1 : Int32) (r2 : Nat) (r3 : Nat) (r4 : Nat) (i5 : Int32) (i6 : Int32) (H : Heap) (locs : List Loc) (ls : Array Slot), N ≤ NL → (∀ k, k < N → adL k = ad k) → kc ≤ 2000 → ks ≤ 70000 → vOK NL m1 → r0 < NL → r2 < NL → r3 < NL → r4 < NL → fL_X5_pass n 92 NL m1 kc ks r0 i1 r2 0 r3 0 r4 i5 0 i6 0 0 0 0 = some z → va_P D vwCl (vW tc adL NL m1) H → va_D A (vW tc adL NL m1) → va_S A s.heap H locs → lv_has ls 12 [(0, .ref (adL r0)), (1, .int i1), (2, .ref (adL r2)), (3, .ref (adL r3)), (4, .ref (adL r4)), (5, .int i5), (6, .int i6)] → W p l e (headSpec wsX5_pass ({ frames := 4, cells := 2000, slots := 70000, locals := 99 } : Room)).room s m ([.ref (ad p0)] : List Value).toArray below meth c H locs kc ks (MQ below (va_Qi (fun (r9 : Int32) (_ : Unit) => r9 = z.1) (fun _ t => vX D A tc ad N z.2.1 z.2.2 t) A) ([.ref (ad p0)] : List Value).toArray s 2000 70000 A) (F0 m 92 ls [])) ∧ (∀ (NL : Nat) (adL : Nat → Nat) (m1 : vM) (kc ks : Nat) (r0 : Nat) (i1 : Int32) (r2 : Nat) (r3 : Nat) (r4 : Nat) (i5 : Int32) (i6 : Int32) (H : Heap) (locs : List Loc) (ls : Array Slot), N ≤ NL → (∀ k, k < N → adL k = ad k) → kc ≤ 2000 → ks ≤ 70000 → vOK NL m1 → r0 < NL → r2 < NL → r3 < NL → r4 < NL → fL_X5_pass n 160 NL m1 kc ks r0 i1 r2 0 r3 0 r4 i5 0 i6 0 0 0 0 = some z → va_P D vwCl (vW tc adL NL m1) H → va_D A (vW tc adL NL m1) → va_S A s.heap H locs → lv_has ls 12 [(0, .ref (adL r0)), (1, .int i1), (2, .ref (adL r2)), (3, .ref (adL r3)), (4, .ref (adL r4)), (5, .int i5), (6, .int i6)] → W p l e (headSpec wsX5_pass ({ frames := 4, cells := 2000, slots := 70000, locals := 99 } : Room)).room s m ([.ref (ad p0)] : List Value).toArray below meth c H locs kc ks (MQ below (va_Qi (fun (r9 : Int32) (_ : Unit) => r9 = z.1) (fun _ t => vX D A tc ad N z.2.1 z.2.2 t) A) ([.ref (ad p0)] : List Value).toArray s 2000 70000 A) (F0 m 160 ls [])) ∧ (∀ (NL : Nat) (adL : Nat → Nat) (m1 : vM) (kc ks : Nat) (r0 : Nat) (i1 : Int32) (r2 : Nat) (r3 : Nat) (i4 : Int32) (i6 : Int32) (H : Heap) (locs : List Loc) (ls : Array Slot), N ≤ NL → (∀ k, k < N → adL k = ad k) → kc ≤ 2000 → ks ≤ 70000 → vOK NL m1 → r0 < NL → r2 < NL → r3 < NL → fL_X5_pass n 189 NL m1 kc ks r0 i1 r2 0 r3 i4 0 0 0 i6 0 0 0 0 = some z → va_P D vwCl (vW tc adL NL m1) H → va_D A (vW tc adL NL m1) → va_S A s.heap H locs → lv_has ls 12 [(0, .ref (adL r0)), (1, .int i1), (2, .ref (adL r2)), (3, .ref (adL r3)), (4, .int i4), (6, .int i6)] → W p l e (headSpec wsX5_pass ({ frames := 4, cells := 2000, slots := 70000, locals := 99 } : Room)).room s m ([.ref (ad p0)] : List Value).toArray below meth c H locs kc ks (MQ below (va_Qi (fun (r9 : Int32) (_ : Unit) => r9 = z.1) (fun _ t => vX D A tc ad N z.2.1 z.2.2 t) A) ([.ref (ad p0)] : List Value).toArray s 2000 70000 A) (F0 m 189 ls [])) ∧ (∀ (NL : Nat) (adL : Nat → Nat) (m1 : vM) (kc ks : Nat) (r0 : Nat) (i1 : Int32) (r2 : Nat) (r3 : Nat) (i4 : Int32) (r5 : Nat) (i6 : Int32) (i7 : Int32) (H : Heap) (locs : List Loc) (ls : Array Slot), N ≤ NL → (∀ k, k < N → adL k = ad k) → kc ≤ 2000 → ks ≤ 70000 → vOK NL m1 → r0 < NL → r2 < NL → r3 < NL → r5 < NL → fL_X5_pass n 357 NL m1 kc ks r0 i1 r2 0 r3 i4 0 0 r5 i6 i7 0 0 0 = some z → va_P D vwCl (vW tc adL NL m1) H → va_D A (vW tc adL NL m1) → va_S A s.heap H locs → lv_has ls 12 [(0, .ref (adL r0)), (1, .int i1), (2, .ref (adL r2)), (3, .ref (adL r3)), (4, .int i4), (5, .ref (adL r5)), (6, .int i6), (7, .int i7)] → W p l e (headSpec wsX5_pass ({ frames := 4, cells := 2000, slots := 70000, locals := 99 } : Room)).room s m ([.ref (ad p0)] : List Value).toArray below meth c H locs kc ks (MQ below (va_Qi (fun (r9 : Int32) (_ : Unit) => r9 = z.1) (fun _ t => vX D A tc ad N z.2.1 z.2.2 t) A) ([.ref (ad p0)] : List Value).toArray s 2000 70000 A) (F0 m 357 ls [])) ∧ (∀ (NL : Nat) (adL : Nat → Nat) (m1 : vM) (kc ks : Nat) (r0 : Nat) (i1 : Int32) (r2 : Nat) (r3 : Nat) (i4 : Int32) (r5 : Nat) (i6 : Int32) (i7 : Int32) (r8 : Nat) (i9 : Int32) (i10 : Int32) (H : Heap) (locs : List Loc) (ls : Array Slot), N ≤ NL → (∀ k, k < N → adL k = ad k) → kc ≤ 2000 → ks ≤ 70000 → vOK NL m1 → r0 < NL → r2 < NL → r3 < NL → r5 < NL → r8 < NL → fL_X5_pass n 380 NL m1 kc ks r0 i1 r2 0 r3 i4 0 0 r5 i6 i7 r8 i9 i10 = some z → va_P D vwCl (vW tc adL NL m1) H → va_D A (vW tc adL NL m1) → va_S A s.heap H locs → lv_has ls 12 [(0, .ref (adL r0)), (1, .int i1), (2, .ref (adL r2)), (3, .ref (adL r3)), (4, .int i4), (5, .ref (adL r5)), (6, .int i6), (7, .int i7), (8, .ref (adL r8)), (9, .int i9), (10, .int i10)] → W p l e (headSpec wsX5_pass ({ frames := 4, cells := 2000, slots := 70000, locals := 99 } : Room)).room s m ([.ref (ad p0)] : List Value).toArray below meth c H locs kc ks (MQ below (va_Qi (fun (r9 : Int32) (_ : Unit) => r9 = z.1) (fun _ t => vX D A tc ad N z.2.1 z.2.2 t) A) ([.ref (ad p0)] : List Value).toArray s 2000 70000 A) (F0 m 380 ls [])) := by
    intro n
    induction n with
    | zero => exact ⟨(fun _ _ _ _ _ _ _ _ _ _ _ _ _ _ _ _ _ _ _ _ h9 _ _ _ _ => by have h9 : (none : Option (Int32 × Nat × vM)) = some z := h9; cases h9), (fun _ _ _ _ _ _ _ _ _ _ _ _ _ _ _ _ _ _ _ _ _ _ _ _ h9 _ _ _ _ => by have h9 : (none : Option (Int32 × Nat × vM)) = some z := h9; cases h9), (fun _ _ _ _ _ _ _ _ _ _ _ _ _ _ _ _ _ _ _ _ _ _ _ _ h9 _ _ _ _ => by have h9 : (none : Option (Int32 × Nat × vM)) = some z := h9; cases h9), (fun _ _ _ _ _ _ _ _ _ _ _ _ _ _ _ _ _ _ _ _ _ _ h9 _ _ _ _ => by have h9 : (none : Option (Int32 × Nat × vM)) = some z := h9; cases h9), (fun _ _ _ _ _ _ _ _ _ _ _ _ _ _ _ _ _ _ _ _ _ _ _ _ _ h9 _ _ _ _ => by have h9 : (none : Option (Int32 × Nat × vM)) = some z := h9; cases h9), (fun _ _ _ _ _ _ _ _ _ _ _ _ _ _ _ _ _ _ _ _ _ _ _ _ _ _ _ _ _ h9 _ _ _ _ => by have h9 : (none : Option (Int32 × Nat × vM)) = some z := h9; cases h9)⟩
    | succ n ih =>
      refine ⟨?_, ?_, ?_, ?_, ?_, ?_⟩
      · intro NL adL m1 kc ks r0 i1 r2 i3 i4 H locs ls hNN hE hc hs hO n_r0 n_r2 h hP hD hS hl
        have h : fB_X5_pass_13 (fL_X5_pass n) NL m1 kc ks r0 i1 r2 i3 0 i4 0 0 0 0 0 0 0 0 = some z := h
        unfold fB_X5_pass_13 at h
        refine lv_iload hx hb dX5_pass_13 (lv_at hl 4 rfl) ?_
        refine lv_iload_n hx hb dX5_pass_15 rfl (lv_at hl 3 rfl) ?_
        refine lv_icmp_ge (tgt := 68) hx hb dX5_pass_16 (by decide) (fun c1 => ?_) (fun c1 => ?_)
        · rw [if_pos c1] at h
          refine lv_iconst (v := 0) hx hb dX5_pass_68 (by decide) ?_
          obtain ⟨g2, h⟩ := vg_if h
          obtain ⟨g3, h⟩ := vg_if h
          refine wm_new8 (n := 0) (n' := 0) hx hb hown (hts (.classLink RX5 15 "[I") (List.mem_of_getElem? (i := 4) rfl)) hZ.2.1 hO hK hP hD hS hA (by decide) (by decide) (Nat.le_of_ble_eq_true rfl) g2 g3 dX5_pass_69 (fun ad4 H e5 hP hD hS => ?_)
          have hl : lv_has ls 12 [(0, .ref (ad4 r0)), (1, .int i1), (2, .ref (ad4 r2)), (3, .int i3), (4, .int i4)] := by rw [e5 r0 n_r0, e5 r2 n_r2]; exact hl
          have e6 : ∀ k, k < N → ad4 k = ad k := fun k hk => (e5 k (Nat.lt_of_lt_of_le hk hNN)).trans (hE k hk)
          have e7 : N ≤ (NL + 1) := Nat.le_trans hNN (Nat.le_succ _)
          have hO8 := vOK.N (k := 8) (n := 0) hO
          have n9 : r0 < (NL + 1) := Nat.lt_of_lt_of_le n_r0 (Nat.le_succ _)
          have n10 : r2 < (NL + 1) := Nat.lt_of_lt_of_le n_r2 (Nat.le_succ _)
          have hP : va_P D vwCl (vW tc ad4 ((NL + 1)) ((mN m1 NL 8 0))) H := hP
          have hD : va_D A (vW tc ad4 ((NL + 1)) ((mN m1 NL 8 0))) := hD
          refine lv_astore_n (lv' := [(2, .ref (ad4 NL)), (0, .ref (ad4 r0)), (1, .int i1), (3, .int i3), (4, .int i4)]) hx hb dX5_pass_72 rfl hl (by decide) rfl (fun ls hl => ?_)
          refine lv_iconst (v := 0) hx hb dX5_pass_73 (by decide) ?_
          obtain ⟨g11, h⟩ := vg_if h
          obtain ⟨g12, h⟩ := vg_if h
          refine wm_new8 (n := 0) (n' := 0) hx hb hown (hts (.classLink RX5 15 "[I") (List.mem_of_getElem? (i := 4) rfl)) hZ.2.1 hO8 hK hP hD hS hA (by decide) (by decide) (Nat.le_of_ble_eq_true rfl) g11 g12 dX5_pass_74 (fun ad13 H e14 hP hD hS => ?_)
          have hl : lv_has ls 12 [(2, .ref (ad13 NL)), (0, .ref (ad13 r0)), (1, .int i1), (3, .int i3), (4, .int i4)] := by rw [e14 NL (Nat.lt_succ_self _), e14 r0 n9]; exact hl
          have e15 : ∀ k, k < N → ad13 k = ad k := fun k hk => (e14 k (Nat.lt_of_lt_of_le hk e7)).trans (e6 k hk)
          have e16 : N ≤ ((NL + 1) + 1) := Nat.le_trans e7 (Nat.le_succ _)
          have hO17 := vOK.N (k := 8) (n := 0) hO8
          have n18 : r0 < ((NL + 1) + 1) := Nat.lt_of_lt_of_le n9 (Nat.le_succ _)
          have n19 : r2 < ((NL + 1) + 1) := Nat.lt_of_lt_of_le n10 (Nat.le_succ _)
          have n20 : NL < ((NL + 1) + 1) := Nat.lt_of_lt_of_le (Nat.lt_succ_self _) (Nat.le_succ _)
          have hP : va_P D vwCl (vW tc ad13 (((NL + 1) + 1)) ((mN ((mN m1 NL 8 0)) ((NL + 1)) 8 0))) H := hP
          have hD : va_D A (vW tc ad13 (((NL + 1) + 1)) ((mN ((mN m1 NL 8 0)) ((NL + 1)) 8 0))) := hD
          refine lv_astore_n (lv' := [(3, .ref (ad13 ((NL + 1)))), (2, .ref (ad13 NL)), (0, .ref (ad13 r0)), (1, .int i1), (4, .int i4)]) hx hb dX5_pass_77 rfl hl (by decide) rfl (fun ls hl => ?_)
          refine lv_aload_n hx hb dX5_pass_78 rfl (lv_at hl 2 rfl) ?_
          obtain ⟨g21, h⟩ := vg_if h
          obtain ⟨y22, g23, h⟩ := vg_bind h
          have n_y22 := hO17 _ _ _ g23
          refine va_get (D := D) (ci := 5) (v := .ref (ad13 y22)) (C := RX5) (T := TX5) (N := 4) hx hb hts in_X5_pass_X5 hown hK hP r0 (vW_k5 n18 g21) rfl 1 (by decide) (hts (.fieldLink RX5 17 "VaultDoorsLaw$Sim" "voices" "[[I") (List.mem_of_getElem? (i := 5) rfl)) (fun _ h9 => h9) (by show some (va_rf (Option.map ad13 (mr ((mN ((mN m1 NL 8 0)) ((NL + 1)) 8 0)) r0 1))) = _; rw [g23]; rfl) dX5_pass_79 ?_
          refine lv_astore (lv' := [(4, .ref (ad13 y22)), (3, .ref (ad13 ((NL + 1)))), (2, .ref (ad13 NL)), (0, .ref (ad13 r0)), (1, .int i1)]) hx hb dX5_pass_82 hl (by decide) rfl (fun ls hl => ?_)
          refine lv_aload hx hb dX5_pass_84 (lv_at hl 0 rfl) ?_
          obtain ⟨g24, h⟩ := vg_if h
          refine va_alen (D := D) hx hb hK hP y22 2 (vW_k8 n_y22 g24) rfl rfl dX5_pass_86 ?_
          refine lv_istore (lv' := [(5, .int (Int32.ofNat (ml ((mN ((mN m1 NL 8 0)) ((NL + 1)) 8 0)) y22))), (4, .ref (ad13 y22)), (3, .ref (ad13 ((NL + 1)))), (2, .ref (ad13 NL)), (0, .ref (ad13 r0)), (1, .int i1)]) hx hb dX5_pass_87 hl (by decide) rfl (fun ls hl => ?_)
          refine lv_iconst (v := 0) hx hb dX5_pass_89 (by decide) ?_
          refine lv_istore (lv' := [(6, .int 0), (5, .int (Int32.ofNat (ml ((mN ((mN m1 NL 8 0)) ((NL + 1)) 8 0)) y22))), (4, .ref (ad13 y22)), (3, .ref (ad13 ((NL + 1)))), (2, .ref (ad13 NL)), (0, .ref (ad13 r0)), (1, .int i1)]) hx hb dX5_pass_90 hl (by decide) rfl (fun ls hl => ?_)
          exact (ih.2.1) (((NL + 1) + 1)) ad13 ((mN ((mN m1 NL 8 0)) ((NL + 1)) 8 0)) (((kc + 1) + 1)) (((ks + 0) + 0)) r0 i1 NL ((NL + 1)) y22 (Int32.ofNat (ml ((mN ((mN m1 NL 8 0)) ((NL + 1)) 8 0)) y22)) (0 : Int32) _ _ _ e16 e15 g11 g12 hO17 n18 n20 (Nat.lt_succ_self _) n_y22 h hP hD hS (lv_sub hl (l' := [(0, .ref (ad13 r0)), (1, .int i1), (2, .ref (ad13 NL)), (3, .ref (ad13 ((NL + 1)))), (4, .ref (ad13 y22)), (5, .int (Int32.ofNat (ml ((mN ((mN m1 NL 8 0)) ((NL + 1)) 8 0)) y22))), (6, .int 0)]) [5, 6, 4, 3, 2, 1, 0] rfl)
        · rw [if_neg c1] at h
          refine lv_aload_n hx hb dX5_pass_19 rfl (lv_at hl 2 rfl) ?_
          refine lv_iload hx hb dX5_pass_20 (lv_at hl 4 rfl) ?_
          obtain ⟨g25, h⟩ := vg_if h
          obtain ⟨g26, h⟩ := vg_if h
          obtain ⟨y27, g28, h⟩ := vg_bind h
          have n_y27 := hO _ _ _ g28
          refine va_aldq (D := D) hx hb hK hP r2 3 (vW_k9 n_r2 g25) rfl (i := i4) g26 dX5_pass_22 ?_
          refine W.eq (g2 := F0 m 23 ls [.ref (adL y27)]) (by show F0 m 23 ls (va_rf (Option.map adL (mr m1 r2 i4.toNatClampNeg)) :: _) = _; rw [g28]; rfl) ?_
          refine lv_astore (lv' := [(5, .ref (adL y27)), (0, .ref (adL r0)), (1, .int i1), (2, .ref (adL r2)), (3, .int i3), (4, .int i4)]) hx hb dX5_pass_23 hl (by decide) rfl (fun ls hl => ?_)
          refine lv_aload hx hb dX5_pass_25 (lv_at hl 0 rfl) ?_
          obtain ⟨g29, h⟩ := vg_if h
          refine va_get (D := D) (ci := 4) (v := .int (mi m1 y27 3)) (C := RX4) (T := TX4) (N := 9) hx hb hts in_X5_pass_X4 hown hK hP y27 (vW_k4 n_y27 g29) rfl 3 (by decide) (hts (.fieldLink RX5 48 "VaultDoorsLaw$Door" "state" "I") (List.mem_of_getElem? (i := 2) rfl)) (fun _ h9 => h9) rfl dX5_pass_27 ?_
          refine lv_iconst (v := 2) hx hb dX5_pass_30 (by decide) ?_
          refine lv_icmp_ge (tgt := 37) hx hb dX5_pass_31 (by decide) (fun c30 => ?_) (fun c30 => ?_)
          · rw [if_pos c30] at h
            refine lv_aload hx hb dX5_pass_37 (lv_at hl 0 rfl) ?_
            refine lv_dup hx hb dX5_pass_39 rfl ?_
            refine va_get (D := D) (ci := 4) (v := .int (mi m1 y27 4)) (C := RX4) (T := TX4) (N := 9) hx hb hts in_X5_pass_X4 hown hK hP y27 (vW_k4 n_y27 g29) rfl 4 (by decide) (hts (.fieldLink RX5 51 "VaultDoorsLaw$Door" "left" "I") (List.mem_of_getElem? (i := 3) rfl)) (fun _ h9 => h9) rfl dX5_pass_40 ?_
            refine lv_iconst (v := 1) hx hb dX5_pass_43 (by decide) ?_
            refine lv_isub hx hb dX5_pass_44 ?_
            refine va_put (D := D) (ci := 4) (v := .int ((mi m1 y27 4) - 1)) (ty := .int) (C := RX4) (T := TX4) (N := 9) hx hb hts in_X5_pass_X4 tyX4 tyX4_ok nmX4 hown hK hP hD hS y27 (vW_k4 n_y27 g29) rfl 4 (by decide) (hts (.fieldLink RX5 51 "VaultDoorsLaw$Door" "left" "I") (List.mem_of_getElem? (i := 3) rfl)) (fun _ h9 => h9) rfl (by decide +kernel) rfl rfl (Nat.le_of_ble_eq_true rfl) dX5_pass_45 (fun H locs hP hD hS => ?_)
            have hO31 := vOK.I (a := y27) (j := 4) (v := ((mi m1 y27 4) - 1)) hO
            rw [vW_p4_4 (m := m1) n_y27 g29] at hP hD
            have hP : va_P D vwCl (vW tc adL NL ((mI m1 y27 4 ((mi m1 y27 4) - 1)))) H := hP
            have hD : va_D A (vW tc adL NL ((mI m1 y27 4 ((mi m1 y27 4) - 1)))) := hD
            refine lv_aload hx hb dX5_pass_48 (lv_at hl 0 rfl) ?_
            refine va_get (D := D) (ci := 4) (v := .int (mi ((mI m1 y27 4 ((mi m1 y27 4) - 1))) y27 4)) (C := RX4) (T := TX4) (N := 9) hx hb hts in_X5_pass_X4 hown hK hP y27 (vW_k4 n_y27 g29) rfl 4 (by decide) (hts (.fieldLink RX5 51 "VaultDoorsLaw$Door" "left" "I") (List.mem_of_getElem? (i := 3) rfl)) (fun _ h9 => h9) rfl dX5_pass_50 ?_
            refine lv_if_ne (tgt := 62) hx hb dX5_pass_53 (by decide) (fun c32 => ?_) (fun c32 => ?_)
            · rw [if_neg c32] at h
              refine lv_iinc (v := i4 + 1) (lv' := [(4, .int (i4 + 1)), (5, .ref (adL y27)), (0, .ref (adL r0)), (1, .int i1), (2, .ref (adL r2)), (3, .int i3)]) hx hb dX5_pass_62 hl (k := 5) rfl rfl (by decide) rfl (fun ls hl => ?_)
              refine lv_goto (tgt := 13) hx hb dX5_pass_65 (by decide) ?_
              exact (ih.1) NL adL ((mI m1 y27 4 ((mi m1 y27 4) - 1))) kc ks r0 i1 r2 i3 (i4 + 1) _ _ _ hNN hE hc hs hO31 n_r0 n_r2 h hP hD hS (lv_sub hl (l' := [(0, .ref (adL r0)), (1, .int i1), (2, .ref (adL r2)), (3, .int i3), (4, .int (i4 + 1))]) [2, 3, 4, 5, 0] rfl)
            · rw [if_pos c32] at h
              refine lv_aload hx hb dX5_pass_56 (lv_at hl 0 rfl) ?_
              refine lv_iconst (v := 0) hx hb dX5_pass_58 (by decide) ?_
              refine va_put (D := D) (ci := 4) (v := .int 0) (ty := .int) (C := RX4) (T := TX4) (N := 9) hx hb hts in_X5_pass_X4 tyX4 tyX4_ok nmX4 hown hK hP hD hS y27 (vW_k4 n_y27 g29) rfl 3 (by decide) (hts (.fieldLink RX5 48 "VaultDoorsLaw$Door" "state" "I") (List.mem_of_getElem? (i := 2) rfl)) (fun _ h9 => h9) rfl (by decide +kernel) rfl rfl (Nat.le_of_ble_eq_true rfl) dX5_pass_59 (fun H locs hP hD hS => ?_)
              have hO33 := vOK.I (a := y27) (j := 3) (v := 0) hO31
              rw [vW_p4_3 (m := ((mI m1 y27 4 ((mi m1 y27 4) - 1)))) n_y27 g29] at hP hD
              have hP : va_P D vwCl (vW tc adL NL ((mI ((mI m1 y27 4 ((mi m1 y27 4) - 1))) y27 3 0))) H := hP
              have hD : va_D A (vW tc adL NL ((mI ((mI m1 y27 4 ((mi m1 y27 4) - 1))) y27 3 0))) := hD
              refine lv_iinc (v := i4 + 1) (lv' := [(4, .int (i4 + 1)), (5, .ref (adL y27)), (0, .ref (adL r0)), (1, .int i1), (2, .ref (adL r2)), (3, .int i3)]) hx hb dX5_pass_62 hl (k := 5) rfl rfl (by decide) rfl (fun ls hl => ?_)
              refine lv_goto (tgt := 13) hx hb dX5_pass_65 (by decide) ?_
              exact (ih.1) NL adL ((mI ((mI m1 y27 4 ((mi m1 y27 4) - 1))) y27 3 0)) kc ks r0 i1 r2 i3 (i4 + 1) _ _ _ hNN hE hc hs hO33 n_r0 n_r2 h hP hD hS (lv_sub hl (l' := [(0, .ref (adL r0)), (1, .int i1), (2, .ref (adL r2)), (3, .int i3), (4, .int (i4 + 1))]) [2, 3, 4, 5, 0] rfl)
          · rw [if_neg c30] at h
            refine lv_goto (tgt := 62) hx hb dX5_pass_34 (by decide) ?_
            refine lv_iinc (v := i4 + 1) (lv' := [(4, .int (i4 + 1)), (5, .ref (adL y27)), (0, .ref (adL r0)), (1, .int i1), (2, .ref (adL r2)), (3, .int i3)]) hx hb dX5_pass_62 hl (k := 5) rfl rfl (by decide) rfl (fun ls hl => ?_)
            refine lv_goto (tgt := 13) hx hb dX5_pass_65 (by decide) ?_
            exact (ih.1) NL adL m1 kc ks r0 i1 r2 i3 (i4 + 1) _ _ _ hNN hE hc hs hO n_r0 n_r2 h hP hD hS (lv_sub hl (l' := [(0, .ref (adL r0)), (1, .int i1), (2, .ref (adL r2)), (3, .int i3), (4, .int (i4 + 1))]) [2, 3, 4, 5, 0] rfl)
      · intro NL adL m1 kc ks r0 i1 r2 r3 r4 i5 i6 H locs ls hNN hE hc hs hO n_r0 n_r2 n_r3 n_r4 h hP hD hS hl
        have h : fB_X5_pass_92 (fL_X5_pass n) NL m1 kc ks r0 i1 r2 0 r3 0 r4 i5 0 i6 0 0 0 0 = some z := h
        unfold fB_X5_pass_92 at h
        refine lv_iload hx hb dX5_pass_92 (lv_at hl 6 rfl) ?_
        refine lv_iload hx hb dX5_pass_94 (lv_at hl 5 rfl) ?_
        refine lv_icmp_ge (tgt := 144) hx hb dX5_pass_96 (by decide) (fun c34 => ?_) (fun c34 => ?_)
        · rw [if_pos c34] at h
          refine lv_aload_n hx hb dX5_pass_144 rfl (lv_at hl 0 rfl) ?_
          refine lv_aload_n hx hb dX5_pass_145 rfl (lv_at hl 3 rfl) ?_
          obtain ⟨g35, h⟩ := vg_if h
          refine va_put (D := D) (ci := 5) (v := .ref (adL r3)) (ty := .array (.array .int)) (C := RX5) (T := TX5) (N := 4) hx hb hts in_X5_pass_X5 tyX5 tyX5_ok nmX5 hown hK hP hD hS r0 (vW_k5 n_r0 g35) rfl 1 (by decide) (hts (.fieldLink RX5 17 "VaultDoorsLaw$Sim" "voices" "[[I") (List.mem_of_getElem? (i := 5) rfl)) (fun _ h9 => h9) rfl (by decide +kernel) rfl rfl (Nat.le_of_ble_eq_true rfl) dX5_pass_146 (fun H locs hP hD hS => ?_)
          rw [vW_p5_1 (m := m1) n_r0 g35] at hP hD
          have hO36 := vOK.R (a := r0) (j := 1) hO n_r3
          have hP : va_P D vwCl (vW tc adL NL ((mR m1 r0 1 (some r3)))) H := hP
          have hD : va_D A (vW tc adL NL ((mR m1 r0 1 (some r3)))) := hD
          refine lv_aload_n hx hb dX5_pass_149 rfl (lv_at hl 2 rfl) ?_
          refine lv_astore (lv' := [(4, .ref (adL r2)), (0, .ref (adL r0)), (1, .int i1), (2, .ref (adL r2)), (3, .ref (adL r3)), (5, .int i5), (6, .int i6)]) hx hb dX5_pass_150 hl (by decide) rfl (fun ls hl => ?_)
          refine lv_aload hx hb dX5_pass_152 (lv_at hl 0 rfl) ?_
          obtain ⟨g37, h⟩ := vg_if h
          refine va_alen (D := D) hx hb hK hP r2 2 (vW_k8 n_r2 g37) rfl rfl dX5_pass_154 ?_
          refine lv_istore (lv' := [(5, .int (Int32.ofNat (ml ((mR m1 r0 1 (some r3))) r2))), (4, .ref (adL r2)), (0, .ref (adL r0)), (1, .int i1), (2, .ref (adL r2)), (3, .ref (adL r3)), (6, .int i6)]) hx hb dX5_pass_155 hl (by decide) rfl (fun ls hl => ?_)
          refine lv_iconst (v := 0) hx hb dX5_pass_157 (by decide) ?_
          refine lv_istore (lv' := [(6, .int 0), (5, .int (Int32.ofNat (ml ((mR m1 r0 1 (some r3))) r2))), (4, .ref (adL r2)), (0, .ref (adL r0)), (1, .int i1), (2, .ref (adL r2)), (3, .ref (adL r3))]) hx hb dX5_pass_158 hl (by decide) rfl (fun ls hl => ?_)
          exact (ih.2.2.1) NL adL ((mR m1 r0 1 (some r3))) kc ks r0 i1 r2 r3 r2 (Int32.ofNat (ml ((mR m1 r0 1 (some r3))) r2)) (0 : Int32) _ _ _ hNN hE hc hs hO36 n_r0 n_r2 n_r3 n_r2 h hP hD hS (lv_sub hl (l' := [(0, .ref (adL r0)), (1, .int i1), (2, .ref (adL r2)), (3, .ref (adL r3)), (4, .ref (adL r2)), (5, .int (Int32.ofNat (ml ((mR m1 r0 1 (some r3))) r2))), (6, .int 0)]) [3, 4, 5, 6, 2, 1, 0] rfl)
        · rw [if_neg c34] at h
          refine lv_aload hx hb dX5_pass_99 (lv_at hl 4 rfl) ?_
          refine lv_iload hx hb dX5_pass_101 (lv_at hl 6 rfl) ?_
          obtain ⟨g38, h⟩ := vg_if h
          obtain ⟨g39, h⟩ := vg_if h
          obtain ⟨y40, g41, h⟩ := vg_bind h
          have n_y40 := hO _ _ _ g41
          refine wm_aald8 hx hb hK hP n_r4 g38 (i := i6) g39 dX5_pass_103 ?_
          refine W.eq (g2 := F0 m 104 ls [.ref (adL y40)]) (by show F0 m 104 ls (va_rf (Option.map adL (mr m1 r4 i6.toNatClampNeg)) :: _) = _; rw [g41]; rfl) ?_
          refine lv_astore (lv' := [(7, .ref (adL y40)), (0, .ref (adL r0)), (1, .int i1), (2, .ref (adL r2)), (3, .ref (adL r3)), (4, .ref (adL r4)), (5, .int i5), (6, .int i6)]) hx hb dX5_pass_104 hl (by decide) rfl (fun ls hl => ?_)
          refine lv_aload hx hb dX5_pass_106 (lv_at hl 0 rfl) ?_
          refine lv_iconst (v := 3) hx hb dX5_pass_108 (by decide) ?_
          refine lv_dup2_11 hx hb dX5_pass_109 rfl rfl ?_
          obtain ⟨g42, h⟩ := vg_if h
          obtain ⟨g43, h⟩ := vg_if h
          refine va_iald (D := D) hx hb hK hP y40 0 (vW_k6 n_y40 g42) rfl (i := 3) g43 dX5_pass_110 ?_
          refine W.eq (g2 := F0 m 111 ls [.int (mi m1 y40 3), .int 3, .ref (adL y40)]) rfl ?_
          refine lv_iconst (v := 1) hx hb dX5_pass_111 (by decide) ?_
          refine lv_isub hx hb dX5_pass_112 ?_
          obtain ⟨g44, h⟩ := vg_if h
          refine va_iast (D := D) hx hb hK hP hD hS y40 0 (vW_k6 n_y40 g42) rfl (i := 3) (x := (mi m1 y40 3) - 1) g44 dX5_pass_113 (fun H locs hP hD hS => ?_)
          rw [vW_p6 (m := m1) n_y40 g42] at hP hD
          have hO45 := vOK.I (a := y40) (j := 3) (v := ((mi m1 y40 3) - 1)) hO
          have hP : va_P D vwCl (vW tc adL NL ((mI m1 y40 3 ((mi m1 y40 3) - 1)))) H := hP
          have hD : va_D A (vW tc adL NL ((mI m1 y40 3 ((mi m1 y40 3) - 1)))) := hD
          refine lv_aload hx hb dX5_pass_114 (lv_at hl 0 rfl) ?_
          refine lv_iconst (v := 3) hx hb dX5_pass_116 (by decide) ?_
          obtain ⟨g46, h⟩ := vg_if h
          refine va_iald (D := D) hx hb hK hP y40 0 (vW_k6 n_y40 g42) rfl (i := 3) g46 dX5_pass_117 ?_
          refine W.eq (g2 := F0 m 118 ls [.int (mi ((mI m1 y40 3 ((mi m1 y40 3) - 1))) y40 3)]) rfl ?_
          refine lv_if_ne (tgt := 131) hx hb dX5_pass_118 (by decide) (fun c47 => ?_) (fun c47 => ?_)
          · rw [if_neg c47] at h
            refine lv_aload_n hx hb dX5_pass_131 rfl (lv_at hl 4 rfl) ?_
            refine lv_aload hx hb dX5_pass_132 (lv_at hl 0 rfl) ?_
            obtain ⟨q48, g49, h⟩ := vg_bind h
            obtain ⟨g50, h⟩ := vg_if h
            obtain ⟨g51, h⟩ := vg_if h
            have hFc := vm_free hD hS hA
            refine va_callr (va_runS (As := [.ref (adL r3), .ref (adL y40)]) (rest := []) ⟨hx, hb, hml, hown, hts⟩ (cm_X5_more (m0 := (mI m1 y40 3 ((mi m1 y40 3) - 1))) l D tc adL hO45 n_r3 n_y40 g49) (va_cwS 2 hts gX5_pass_X5_more rfl rfl rfl (by decide +kernel) ⟨(Nat.le_of_ble_eq_true rfl), (Nat.le_of_ble_eq_true rfl)⟩) ⟨qW_blind, qW_pre hP hD hK hZ⟩ rfl rfl hl.1 rfl (lv_room (Nat.le_of_ble_eq_true rfl)) dX5_pass_134 ⟨g50, g51⟩) hS (fun q9 _ h9 => hFc q9 h9) hFc (fun u ra t H1 locs ht hvm hw hB hz1 hk1 hS => ?_)
            obtain ⟨ad53, e54, e55, hO56, hP1, hK1, hD1, hr1, hr2⟩ := hB
            rw [ht] at hP1
            have hP := hP1
            have hD := hD1.weaken (fun _ q9 _ h9 => hFc q9.1 h9)
            generalize H1 = H at hP hS ⊢
            clear hk1 hz1 ht hvm
            rw [hr1]
            have hl : lv_has ls 12 [(7, .ref (ad53 y40)), (0, .ref (ad53 r0)), (1, .int i1), (2, .ref (ad53 r2)), (3, .ref (ad53 r3)), (4, .ref (ad53 r4)), (5, .int i5), (6, .int i6)] := by rw [e54 y40 n_y40, e54 r0 n_r0, e54 r2 n_r2, e54 r3 n_r3, e54 r4 n_r4]; exact hl
            have e57 : ∀ k, k < N → ad53 k = ad k := fun k hk => (e54 k (Nat.lt_of_lt_of_le hk hNN)).trans (hE k hk)
            have e58 : N ≤ q48.2.1 := Nat.le_trans hNN e55
            have n59 : r0 < q48.2.1 := Nat.lt_of_lt_of_le n_r0 e55
            have n60 : r2 < q48.2.1 := Nat.lt_of_lt_of_le n_r2 e55
            have n61 : r3 < q48.2.1 := Nat.lt_of_lt_of_le n_r3 e55
            have n62 : r4 < q48.2.1 := Nat.lt_of_lt_of_le n_r4 e55
            have n63 : y40 < q48.2.1 := Nat.lt_of_lt_of_le n_y40 e55
            have n64 : q48.1 < q48.2.1 := hr2
            have hP : va_P D vwCl (vW tc ad53 q48.2.1 q48.2.2) H := hP
            have hD : va_D A (vW tc ad53 q48.2.1 q48.2.2) := hD
            refine lv_astore_n (lv' := [(3, .ref (ad53 q48.1)), (7, .ref (ad53 y40)), (0, .ref (ad53 r0)), (1, .int i1), (2, .ref (ad53 r2)), (4, .ref (ad53 r4)), (5, .int i5), (6, .int i6)]) hx hb dX5_pass_137 rfl hl (by decide) rfl (fun ls hl => ?_)
            refine lv_iinc (v := i6 + 1) (lv' := [(6, .int (i6 + 1)), (3, .ref (ad53 q48.1)), (7, .ref (ad53 y40)), (0, .ref (ad53 r0)), (1, .int i1), (2, .ref (ad53 r2)), (4, .ref (ad53 r4)), (5, .int i5)]) hx hb dX5_pass_138 hl (k := 7) rfl rfl (by decide) rfl (fun ls hl => ?_)
            refine lv_goto (tgt := 92) hx hb dX5_pass_141 (by decide) ?_
            exact (ih.2.1) q48.2.1 ad53 q48.2.2 ((kc + 1)) ((ks + 66)) r0 i1 r2 q48.1 r4 i5 (i6 + 1) _ _ _ e58 e57 g50 g51 hO56 n59 n60 n64 n62 h hP hD hS (lv_sub hl (l' := [(0, .ref (ad53 r0)), (1, .int i1), (2, .ref (ad53 r2)), (3, .ref (ad53 q48.1)), (4, .ref (ad53 r4)), (5, .int i5), (6, .int (i6 + 1))]) [3, 4, 5, 1, 6, 7, 0] rfl)
          · rw [if_pos c47] at h
            refine lv_aload_n hx hb dX5_pass_121 rfl (lv_at hl 3 rfl) ?_
            refine lv_aload hx hb dX5_pass_122 (lv_at hl 0 rfl) ?_
            obtain ⟨q65, g66, h⟩ := vg_bind h
            obtain ⟨g67, h⟩ := vg_if h
            obtain ⟨g68, h⟩ := vg_if h
            have hFc := vm_free hD hS hA
            refine va_callr (va_runS (As := [.ref (adL r2), .ref (adL y40)]) (rest := []) ⟨hx, hb, hml, hown, hts⟩ (cm_X5_more (m0 := (mI m1 y40 3 ((mi m1 y40 3) - 1))) l D tc adL hO45 n_r2 n_y40 g66) (va_cwS 2 hts gX5_pass_X5_more rfl rfl rfl (by decide +kernel) ⟨(Nat.le_of_ble_eq_true rfl), (Nat.le_of_ble_eq_true rfl)⟩) ⟨qW_blind, qW_pre hP hD hK hZ⟩ rfl rfl hl.1 rfl (lv_room (Nat.le_of_ble_eq_true rfl)) dX5_pass_124 ⟨g67, g68⟩) hS (fun q9 _ h9 => hFc q9 h9) hFc (fun u ra t H1 locs ht hvm hw hB hz1 hk1 hS => ?_)
            obtain ⟨ad70, e71, e72, hO73, hP1, hK1, hD1, hr1, hr2⟩ := hB
            rw [ht] at hP1
            have hP := hP1
            have hD := hD1.weaken (fun _ q9 _ h9 => hFc q9.1 h9)
            generalize H1 = H at hP hS ⊢
            clear hk1 hz1 ht hvm
            rw [hr1]
            have hl : lv_has ls 12 [(7, .ref (ad70 y40)), (0, .ref (ad70 r0)), (1, .int i1), (2, .ref (ad70 r2)), (3, .ref (ad70 r3)), (4, .ref (ad70 r4)), (5, .int i5), (6, .int i6)] := by rw [e71 y40 n_y40, e71 r0 n_r0, e71 r2 n_r2, e71 r3 n_r3, e71 r4 n_r4]; exact hl
            have e74 : ∀ k, k < N → ad70 k = ad k := fun k hk => (e71 k (Nat.lt_of_lt_of_le hk hNN)).trans (hE k hk)
            have e75 : N ≤ q65.2.1 := Nat.le_trans hNN e72
            have n76 : r0 < q65.2.1 := Nat.lt_of_lt_of_le n_r0 e72
            have n77 : r2 < q65.2.1 := Nat.lt_of_lt_of_le n_r2 e72
            have n78 : r3 < q65.2.1 := Nat.lt_of_lt_of_le n_r3 e72
            have n79 : r4 < q65.2.1 := Nat.lt_of_lt_of_le n_r4 e72
            have n80 : y40 < q65.2.1 := Nat.lt_of_lt_of_le n_y40 e72
            have n81 : q65.1 < q65.2.1 := hr2
            have hP : va_P D vwCl (vW tc ad70 q65.2.1 q65.2.2) H := hP
            have hD : va_D A (vW tc ad70 q65.2.1 q65.2.2) := hD
            refine lv_astore_n (lv' := [(2, .ref (ad70 q65.1)), (7, .ref (ad70 y40)), (0, .ref (ad70 r0)), (1, .int i1), (3, .ref (ad70 r3)), (4, .ref (ad70 r4)), (5, .int i5), (6, .int i6)]) hx hb dX5_pass_127 rfl hl (by decide) rfl (fun ls hl => ?_)
            refine lv_goto (tgt := 138) hx hb dX5_pass_128 (by decide) ?_
            refine lv_iinc (v := i6 + 1) (lv' := [(6, .int (i6 + 1)), (2, .ref (ad70 q65.1)), (7, .ref (ad70 y40)), (0, .ref (ad70 r0)), (1, .int i1), (3, .ref (ad70 r3)), (4, .ref (ad70 r4)), (5, .int i5)]) hx hb dX5_pass_138 hl (k := 7) rfl rfl (by decide) rfl (fun ls hl => ?_)
            refine lv_goto (tgt := 92) hx hb dX5_pass_141 (by decide) ?_
            exact (ih.2.1) q65.2.1 ad70 q65.2.2 ((kc + 1)) ((ks + 66)) r0 i1 q65.1 r3 r4 i5 (i6 + 1) _ _ _ e75 e74 g67 g68 hO73 n76 n81 n78 n79 h hP hD hS (lv_sub hl (l' := [(0, .ref (ad70 r0)), (1, .int i1), (2, .ref (ad70 q65.1)), (3, .ref (ad70 r3)), (4, .ref (ad70 r4)), (5, .int i5), (6, .int (i6 + 1))]) [3, 4, 1, 5, 6, 7, 0] rfl)
      · intro NL adL m1 kc ks r0 i1 r2 r3 r4 i5 i6 H locs ls hNN hE hc hs hO n_r0 n_r2 n_r3 n_r4 h hP hD hS hl
        have h : fB_X5_pass_160 (fL_X5_pass n) NL m1 kc ks r0 i1 r2 0 r3 0 r4 i5 0 i6 0 0 0 0 = some z := h
        unfold fB_X5_pass_160 at h
        refine lv_iload hx hb dX5_pass_160 (lv_at hl 6 rfl) ?_
        refine lv_iload hx hb dX5_pass_162 (lv_at hl 5 rfl) ?_
        refine lv_icmp_ge (tgt := 186) hx hb dX5_pass_164 (by decide) (fun c82 => ?_) (fun c82 => ?_)
        · rw [if_pos c82] at h
          refine lv_iconst (v := 0) hx hb dX5_pass_186 (by decide) ?_
          refine lv_istore (lv' := [(4, .int 0), (0, .ref (adL r0)), (1, .int i1), (2, .ref (adL r2)), (3, .ref (adL r3)), (5, .int i5), (6, .int i6)]) hx hb dX5_pass_187 hl (by decide) rfl (fun ls hl => ?_)
          exact (ih.2.2.2.1) NL adL m1 kc ks r0 i1 r2 r3 (0 : Int32) i6 _ _ _ hNN hE hc hs hO n_r0 n_r2 n_r3 h hP hD hS (lv_sub hl (l' := [(0, .ref (adL r0)), (1, .int i1), (2, .ref (adL r2)), (3, .ref (adL r3)), (4, .int 0), (6, .int i6)]) [1, 2, 3, 4, 0, 6] rfl)
        · rw [if_neg c82] at h
          refine lv_aload hx hb dX5_pass_167 (lv_at hl 4 rfl) ?_
          refine lv_iload hx hb dX5_pass_169 (lv_at hl 6 rfl) ?_
          obtain ⟨g83, h⟩ := vg_if h
          obtain ⟨g84, h⟩ := vg_if h
          obtain ⟨y85, g86, h⟩ := vg_bind h
          have n_y85 := hO _ _ _ g86
          refine wm_aald8 hx hb hK hP n_r4 g83 (i := i6) g84 dX5_pass_171 ?_
          refine W.eq (g2 := F0 m 172 ls [.ref (adL y85)]) (by show F0 m 172 ls (va_rf (Option.map adL (mr m1 r4 i6.toNatClampNeg)) :: _) = _; rw [g86]; rfl) ?_
          refine lv_astore (lv' := [(7, .ref (adL y85)), (0, .ref (adL r0)), (1, .int i1), (2, .ref (adL r2)), (3, .ref (adL r3)), (4, .ref (adL r4)), (5, .int i5), (6, .int i6)]) hx hb dX5_pass_172 hl (by decide) rfl (fun ls hl => ?_)
          refine lv_aload_n hx hb dX5_pass_174 rfl (lv_at hl 1 rfl) ?_
          refine lv_aload hx hb dX5_pass_175 (lv_at hl 0 rfl) ?_
          obtain ⟨g87, h⟩ := vg_if h
          obtain ⟨q88, g89, h⟩ := vg_bind h
          obtain ⟨g90, h⟩ := vg_if h
          obtain ⟨g91, h⟩ := vg_if h
          have hFc := vm_free hD hS hA
          refine va_callv (va_runV (As := [.ref (adL y85)]) (rest := []) ⟨hx, hb, hml, hown, hts⟩ (cm_X5_hear (m0 := m1) l D tc adL hO n_r0 n_y85 g89) (cwV 1 hts gX5_pass_X5_hear rfl rfl rfl (by decide +kernel) ⟨(Nat.le_of_ble_eq_true rfl), (Nat.le_of_ble_eq_true rfl)⟩) ⟨qW_blind, va_recv hK hP (ci := 5) (q0 := r0) rfl (vW_k5 n_r0 g87), qW_pre hP hD hK hZ⟩ rfl rfl hl.1 rfl (lv_room (Nat.le_of_ble_eq_true rfl)) dX5_pass_177 ⟨g90, g91⟩) hS (fun q9 _ h9 => hFc q9 h9) hFc (fun u t H1 locs ht hvm hw hB hz1 hk1 hS => ?_)
          obtain ⟨ad93, e94, e95, hO96, hP1, hK1, hD1⟩ := hB
          rw [ht] at hP1
          have hP := hP1
          have hD := hD1.weaken (fun _ q9 _ h9 => hFc q9.1 h9)
          generalize H1 = H at hP hS ⊢
          clear hk1 hz1 ht hvm
          have hl : lv_has ls 12 [(7, .ref (ad93 y85)), (0, .ref (ad93 r0)), (1, .int i1), (2, .ref (ad93 r2)), (3, .ref (ad93 r3)), (4, .ref (ad93 r4)), (5, .int i5), (6, .int i6)] := by rw [e94 y85 n_y85, e94 r0 n_r0, e94 r2 n_r2, e94 r3 n_r3, e94 r4 n_r4]; exact hl
          have e97 : ∀ k, k < N → ad93 k = ad k := fun k hk => (e94 k (Nat.lt_of_lt_of_le hk hNN)).trans (hE k hk)
          have e98 : N ≤ q88.1 := Nat.le_trans hNN e95
          have n99 : r0 < q88.1 := Nat.lt_of_lt_of_le n_r0 e95
          have n100 : r2 < q88.1 := Nat.lt_of_lt_of_le n_r2 e95
          have n101 : r3 < q88.1 := Nat.lt_of_lt_of_le n_r3 e95
          have n102 : r4 < q88.1 := Nat.lt_of_lt_of_le n_r4 e95
          have n103 : y85 < q88.1 := Nat.lt_of_lt_of_le n_y85 e95
          have hP : va_P D vwCl (vW tc ad93 q88.1 q88.2) H := hP
          have hD : va_D A (vW tc ad93 q88.1 q88.2) := hD
          refine lv_iinc (v := i6 + 1) (lv' := [(6, .int (i6 + 1)), (7, .ref (ad93 y85)), (0, .ref (ad93 r0)), (1, .int i1), (2, .ref (ad93 r2)), (3, .ref (ad93 r3)), (4, .ref (ad93 r4)), (5, .int i5)]) hx hb dX5_pass_180 hl (k := 7) rfl rfl (by decide) rfl (fun ls hl => ?_)
          refine lv_goto (tgt := 160) hx hb dX5_pass_183 (by decide) ?_
          exact (ih.2.2.1) q88.1 ad93 q88.2 ((kc + 11)) ((ks + 352)) r0 i1 r2 r3 r4 i5 (i6 + 1) _ _ _ e98 e97 g90 g91 hO96 n99 n100 n101 n102 h hP hD hS (lv_sub hl (l' := [(0, .ref (ad93 r0)), (1, .int i1), (2, .ref (ad93 r2)), (3, .ref (ad93 r3)), (4, .ref (ad93 r4)), (5, .int i5), (6, .int (i6 + 1))]) [2, 3, 4, 5, 6, 7, 0] rfl)
      · intro NL adL m1 kc ks r0 i1 r2 r3 i4 i6 H locs ls hNN hE hc hs hO n_r0 n_r2 n_r3 h hP hD hS hl
        have h : fB_X5_pass_189 (fL_X5_pass n) NL m1 kc ks r0 i1 r2 0 r3 i4 0 0 0 i6 0 0 0 0 = some z := h
        unfold fB_X5_pass_189 at h
        refine lv_iload hx hb dX5_pass_189 (lv_at hl 4 rfl) ?_
        refine lv_aload_n hx hb dX5_pass_191 rfl (lv_at hl 0 rfl) ?_
        obtain ⟨g104, h⟩ := vg_if h
        obtain ⟨y105, g106, h⟩ := vg_bind h
        have n_y105 := hO _ _ _ g106
        refine va_get (D := D) (ci := 5) (v := .ref (adL y105)) (C := RX5) (T := TX5) (N := 4) hx hb hts in_X5_pass_X5 hown hK hP r0 (vW_k5 n_r0 g104) rfl 0 (by decide) (hts (.fieldLink RX5 9 "VaultDoorsLaw$Sim" "doors" "[LVaultDoorsLaw$Door;") (List.mem_of_getElem? (i := 1) rfl)) (fun _ h9 => h9) (by show some (va_rf (Option.map adL (mr m1 r0 0))) = _; rw [g106]; rfl) dX5_pass_192 ?_
        obtain ⟨g107, h⟩ := vg_if h
        refine va_alen (D := D) hx hb hK hP y105 3 (vW_k9 n_y105 g107) rfl rfl dX5_pass_195 ?_
        refine lv_icmp_ge (tgt := 452) hx hb dX5_pass_196 (by decide) (fun c108 => ?_) (fun c108 => ?_)
        · rw [if_pos c108] at h
          refine lv_aload_n hx hb dX5_pass_452 rfl (lv_at hl 0 rfl) ?_
          refine lv_dup hx hb dX5_pass_453 rfl ?_
          refine va_get (D := D) (ci := 5) (v := .int (mi m1 r0 2)) (C := RX5) (T := TX5) (N := 4) hx hb hts in_X5_pass_X5 hown hK hP r0 (vW_k5 n_r0 g104) rfl 2 (by decide) (hts (.fieldLink RX5 86 "VaultDoorsLaw$Sim" "tick" "I") (List.mem_of_getElem? (i := 9) rfl)) (fun _ h9 => h9) rfl dX5_pass_454 ?_
          refine lv_iconst (v := 1) hx hb dX5_pass_457 (by decide) ?_
          refine lv_iadd hx hb dX5_pass_458 ?_
          refine va_put (D := D) (ci := 5) (v := .int ((mi m1 r0 2) + 1)) (ty := .int) (C := RX5) (T := TX5) (N := 4) hx hb hts in_X5_pass_X5 tyX5 tyX5_ok nmX5 hown hK hP hD hS r0 (vW_k5 n_r0 g104) rfl 2 (by decide) (hts (.fieldLink RX5 86 "VaultDoorsLaw$Sim" "tick" "I") (List.mem_of_getElem? (i := 9) rfl)) (fun _ h9 => h9) rfl (by decide +kernel) rfl rfl (Nat.le_of_ble_eq_true rfl) dX5_pass_459 (fun H locs hP hD hS => ?_)
          have hO109 := vOK.I (a := r0) (j := 2) (v := ((mi m1 r0 2) + 1)) hO
          rw [vW_p5_2 (m := m1) n_r0 g104] at hP hD
          have hP : va_P D vwCl (vW tc adL NL ((mI m1 r0 2 ((mi m1 r0 2) + 1)))) H := hP
          have hD : va_D A (vW tc adL NL ((mI m1 r0 2 ((mi m1 r0 2) + 1)))) := hD
          refine lv_iload_n hx hb dX5_pass_462 rfl (lv_at hl 1 rfl) ?_
          have hz := Option.some.inj h
          refine W.widen (k := 2000) (n := 70000) hc hs ?_
          exact W.iret (v := i1) hx hb hr (fun t ht hW => ⟨⟨_, (), rfl, by rw [← hz], by rw [← hz]; exact ⟨adL, hE, hNN, hO109, by rw [ht]; exact hP, va_K.moved hW.alike hK, hD⟩⟩, hS.F ht⟩) hS.2.2 dX5_pass_463
        · rw [if_neg c108] at h
          refine lv_aload_n hx hb dX5_pass_199 rfl (lv_at hl 0 rfl) ?_
          obtain ⟨y110, g111, h⟩ := vg_bind h
          have n_y110 := hO _ _ _ g111
          refine va_get (D := D) (ci := 5) (v := .ref (adL y110)) (C := RX5) (T := TX5) (N := 4) hx hb hts in_X5_pass_X5 hown hK hP r0 (vW_k5 n_r0 g104) rfl 0 (by decide) (hts (.fieldLink RX5 9 "VaultDoorsLaw$Sim" "doors" "[LVaultDoorsLaw$Door;") (List.mem_of_getElem? (i := 1) rfl)) (fun _ h9 => h9) (by show some (va_rf (Option.map adL (mr m1 r0 0))) = _; rw [g111]; rfl) dX5_pass_200 ?_
          refine lv_iload hx hb dX5_pass_203 (lv_at hl 4 rfl) ?_
          obtain ⟨g112, h⟩ := vg_if h
          obtain ⟨g113, h⟩ := vg_if h
          obtain ⟨y114, g115, h⟩ := vg_bind h
          have n_y114 := hO _ _ _ g115
          refine va_aldq (D := D) hx hb hK hP y110 3 (vW_k9 n_y110 g112) rfl (i := i4) g113 dX5_pass_205 ?_
          refine W.eq (g2 := F0 m 206 ls [.ref (adL y114)]) (by show F0 m 206 ls (va_rf (Option.map adL (mr m1 y110 i4.toNatClampNeg)) :: _) = _; rw [g115]; rfl) ?_
          refine lv_astore (lv' := [(5, .ref (adL y114)), (0, .ref (adL r0)), (1, .int i1), (2, .ref (adL r2)), (3, .ref (adL r3)), (4, .int i4), (6, .int i6)]) hx hb dX5_pass_206 hl (by decide) rfl (fun ls hl => ?_)
          refine lv_aload hx hb dX5_pass_208 (lv_at hl 0 rfl) ?_
          obtain ⟨g116, h⟩ := vg_if h
          refine va_get (D := D) (ci := 4) (v := .int (mi m1 y114 3)) (C := RX4) (T := TX4) (N := 9) hx hb hts in_X5_pass_X4 hown hK hP y114 (vW_k4 n_y114 g116) rfl 3 (by decide) (hts (.fieldLink RX5 48 "VaultDoorsLaw$Door" "state" "I") (List.mem_of_getElem? (i := 2) rfl)) (fun _ h9 => h9) rfl dX5_pass_210 ?_
          refine lv_iconst (v := 1) hx hb dX5_pass_213 (by decide) ?_
          refine lv_icmp_eq (tgt := 220) hx hb dX5_pass_214 (by decide) (fun c117 => ?_) (fun c117 => ?_)
          · rw [if_pos c117] at h
            refine lv_aload hx hb dX5_pass_220 (lv_at hl 0 rfl) ?_
            refine lv_dup hx hb dX5_pass_222 rfl ?_
            refine va_get (D := D) (ci := 4) (v := .int (mi m1 y114 4)) (C := RX4) (T := TX4) (N := 9) hx hb hts in_X5_pass_X4 hown hK hP y114 (vW_k4 n_y114 g116) rfl 4 (by decide) (hts (.fieldLink RX5 51 "VaultDoorsLaw$Door" "left" "I") (List.mem_of_getElem? (i := 3) rfl)) (fun _ h9 => h9) rfl dX5_pass_223 ?_
            refine lv_iconst (v := 1) hx hb dX5_pass_226 (by decide) ?_
            refine lv_isub hx hb dX5_pass_227 ?_
            refine va_put (D := D) (ci := 4) (v := .int ((mi m1 y114 4) - 1)) (ty := .int) (C := RX4) (T := TX4) (N := 9) hx hb hts in_X5_pass_X4 tyX4 tyX4_ok nmX4 hown hK hP hD hS y114 (vW_k4 n_y114 g116) rfl 4 (by decide) (hts (.fieldLink RX5 51 "VaultDoorsLaw$Door" "left" "I") (List.mem_of_getElem? (i := 3) rfl)) (fun _ h9 => h9) rfl (by decide +kernel) rfl rfl (Nat.le_of_ble_eq_true rfl) dX5_pass_228 (fun H locs hP hD hS => ?_)
            have hO118 := vOK.I (a := y114) (j := 4) (v := ((mi m1 y114 4) - 1)) hO
            rw [vW_p4_4 (m := m1) n_y114 g116] at hP hD
            have hP : va_P D vwCl (vW tc adL NL ((mI m1 y114 4 ((mi m1 y114 4) - 1)))) H := hP
            have hD : va_D A (vW tc adL NL ((mI m1 y114 4 ((mi m1 y114 4) - 1)))) := hD
            refine lv_aload hx hb dX5_pass_231 (lv_at hl 0 rfl) ?_
            refine va_get (D := D) (ci := 4) (v := .int (mi ((mI m1 y114 4 ((mi m1 y114 4) - 1))) y114 4)) (C := RX4) (T := TX4) (N := 9) hx hb hts in_X5_pass_X4 hown hK hP y114 (vW_k4 n_y114 g116) rfl 4 (by decide) (hts (.fieldLink RX5 51 "VaultDoorsLaw$Door" "left" "I") (List.mem_of_getElem? (i := 3) rfl)) (fun _ h9 => h9) rfl dX5_pass_233 ?_
            refine lv_if_le (tgt := 257) hx hb dX5_pass_236 (by decide) (fun c119 => ?_) (fun c119 => ?_)
            · rw [if_pos c119] at h
              refine lv_aload hx hb dX5_pass_257 (lv_at hl 0 rfl) ?_
              refine lv_iconst (v := 1) hx hb dX5_pass_259 (by decide) ?_
              obtain ⟨q120, g121, h⟩ := vg_bind h
              refine va_calli (va_runV (As := [.int 1]) (rest := []) ⟨hx, hb, hml, hown, hts⟩ (cm_X4_answers (m0 := (mI m1 y114 4 ((mi m1 y114 4) - 1))) l D tc adL hO118 n_y114 g121) (cwV 1 hts gX5_pass_X4_answers rfl rfl rfl (by decide +kernel) ⟨(Nat.le_of_ble_eq_true rfl), (Nat.le_of_ble_eq_true rfl)⟩) ⟨qR_blind, va_recv hK hP (ci := 4) (q0 := y114) rfl (vW_k4 n_y114 g116), qR_pre hP hK hZ⟩ rfl rfl hl.1 rfl (lv_room (Nat.le_of_ble_eq_true rfl)) dX5_pass_260 ⟨hc, hs⟩) hS (fun q9 _ h9 => h9.elim) (fun q9 h9 => h9.elim) (fun w122 u t H1 locs ht hvm hw hB hz1 hk1 hS => ?_)
              have hP := hP.kept (fun k9 q9 hk9 => hk1 q9.1 (hP k9 q9 hk9).lt (fun h9 => h9))
              generalize H1 = H at hP hS ⊢
              clear hk1 hz1 ht hvm
              have hw : w122 = q120 := hw
              rw [hw]
              refine lv_istore (lv' := [(6, .int q120), (5, .ref (adL y114)), (0, .ref (adL r0)), (1, .int i1), (2, .ref (adL r2)), (3, .ref (adL r3)), (4, .int i4)]) hx hb dX5_pass_263 hl (by decide) rfl (fun ls hl => ?_)
              refine lv_aload hx hb dX5_pass_265 (lv_at hl 1 rfl) ?_
              refine va_get (D := D) (ci := 4) (v := .int (mi ((mI m1 y114 4 ((mi m1 y114 4) - 1))) y114 2)) (C := RX4) (T := TX4) (N := 9) hx hb hts in_X5_pass_X4 hown hK hP y114 (vW_k4 n_y114 g116) rfl 2 (by decide) (hts (.fieldLink RX5 38 "VaultDoorsLaw$Door" "rule" "I") (List.mem_of_getElem? (i := 7) rfl)) (fun _ h9 => h9) rfl dX5_pass_267 ?_
              refine lv_if_ne (tgt := 292) hx hb dX5_pass_270 (by decide) (fun c123 => ?_) (fun c123 => ?_)
              · rw [if_neg c123] at h
                refine lv_aload hx hb dX5_pass_292 (lv_at hl 1 rfl) ?_
                refine va_get (D := D) (ci := 4) (v := .int (mi ((mI m1 y114 4 ((mi m1 y114 4) - 1))) y114 2)) (C := RX4) (T := TX4) (N := 9) hx hb hts in_X5_pass_X4 hown hK hP y114 (vW_k4 n_y114 g116) rfl 2 (by decide) (hts (.fieldLink RX5 38 "VaultDoorsLaw$Door" "rule" "I") (List.mem_of_getElem? (i := 7) rfl)) (fun _ h9 => h9) rfl dX5_pass_294 ?_
                refine lv_iconst (v := 1) hx hb dX5_pass_297 (by decide) ?_
                refine lv_icmp_ne (tgt := 314) hx hb dX5_pass_298 (by decide) (fun c124 => ?_) (fun c124 => ?_)
                · rw [if_neg c124] at h
                  refine lv_aload hx hb dX5_pass_314 (lv_at hl 1 rfl) ?_
                  refine va_get (D := D) (ci := 4) (v := .int (mi ((mI m1 y114 4 ((mi m1 y114 4) - 1))) y114 2)) (C := RX4) (T := TX4) (N := 9) hx hb hts in_X5_pass_X4 hown hK hP y114 (vW_k4 n_y114 g116) rfl 2 (by decide) (hts (.fieldLink RX5 38 "VaultDoorsLaw$Door" "rule" "I") (List.mem_of_getElem? (i := 7) rfl)) (fun _ h9 => h9) rfl dX5_pass_316 ?_
                  refine lv_iconst (v := 2) hx hb dX5_pass_319 (by decide) ?_
                  refine lv_icmp_ne (tgt := 345) hx hb dX5_pass_320 (by decide) (fun c125 => ?_) (fun c125 => ?_)
                  · rw [if_neg c125] at h
                    refine lv_iload hx hb dX5_pass_345 (lv_at hl 0 rfl) ?_
                    refine lv_if_ne (tgt := 354) hx hb dX5_pass_347 (by decide) (fun c126 => ?_) (fun c126 => ?_)
                    · rw [if_neg c126] at h
                      refine lv_iconst (v := 0) hx hb dX5_pass_354 (by decide) ?_
                      refine lv_istore (lv' := [(7, .int 0), (6, .int q120), (5, .ref (adL y114)), (0, .ref (adL r0)), (1, .int i1), (2, .ref (adL r2)), (3, .ref (adL r3)), (4, .int i4)]) hx hb dX5_pass_355 hl (by decide) rfl (fun ls hl => ?_)
                      exact (ih.2.2.2.2.1) NL adL ((mI m1 y114 4 ((mi m1 y114 4) - 1))) kc ks r0 i1 r2 r3 i4 y114 q120 (0 : Int32) _ _ _ hNN hE hc hs hO118 n_r0 n_r2 n_r3 n_y114 h hP hD hS (lv_sub hl (l' := [(0, .ref (adL r0)), (1, .int i1), (2, .ref (adL r2)), (3, .ref (adL r3)), (4, .int i4), (5, .ref (adL y114)), (6, .int q120), (7, .int 0)]) [3, 4, 5, 6, 7, 2, 1, 0] rfl)
                    · rw [if_pos c126] at h
                      refine lv_iconst (v := 1) hx hb dX5_pass_350 (by decide) ?_
                      refine lv_goto (tgt := 355) hx hb dX5_pass_351 (by decide) ?_
                      refine lv_istore (lv' := [(7, .int 1), (6, .int q120), (5, .ref (adL y114)), (0, .ref (adL r0)), (1, .int i1), (2, .ref (adL r2)), (3, .ref (adL r3)), (4, .int i4)]) hx hb dX5_pass_355 hl (by decide) rfl (fun ls hl => ?_)
                      exact (ih.2.2.2.2.1) NL adL ((mI m1 y114 4 ((mi m1 y114 4) - 1))) kc ks r0 i1 r2 r3 i4 y114 q120 (1 : Int32) _ _ _ hNN hE hc hs hO118 n_r0 n_r2 n_r3 n_y114 h hP hD hS (lv_sub hl (l' := [(0, .ref (adL r0)), (1, .int i1), (2, .ref (adL r2)), (3, .ref (adL r3)), (4, .int i4), (5, .ref (adL y114)), (6, .int q120), (7, .int 1)]) [3, 4, 5, 6, 7, 2, 1, 0] rfl)
                  · rw [if_pos c125] at h
                    refine lv_iload hx hb dX5_pass_323 (lv_at hl 0 rfl) ?_
                    refine lv_iload hx hb dX5_pass_325 (lv_at hl 0 rfl) ?_
                    refine lv_iadd hx hb dX5_pass_327 ?_
                    refine lv_aload hx hb dX5_pass_328 (lv_at hl 1 rfl) ?_
                    obtain ⟨y127, g128, h⟩ := vg_bind h
                    have n_y127 := hO118 _ _ _ g128
                    refine va_get (D := D) (ci := 4) (v := .ref (adL y127)) (C := RX4) (T := TX4) (N := 9) hx hb hts in_X5_pass_X4 hown hK hP y114 (vW_k4 n_y114 g116) rfl 5 (by decide) (hts (.fieldLink RX5 57 "VaultDoorsLaw$Door" "asks" "[[I") (List.mem_of_getElem? (i := 6) rfl)) (fun _ h9 => h9) (by show some (va_rf (Option.map adL (mr ((mI m1 y114 4 ((mi m1 y114 4) - 1))) y114 5))) = _; rw [g128]; rfl) dX5_pass_330 ?_
                    obtain ⟨g129, h⟩ := vg_if h
                    refine va_alen (D := D) hx hb hK hP y127 2 (vW_k8 n_y127 g129) rfl rfl dX5_pass_333 ?_
                    refine lv_icmp_le (tgt := 341) hx hb dX5_pass_334 (by decide) (fun c130 => ?_) (fun c130 => ?_)
                    · rw [if_pos c130] at h
                      refine lv_iconst (v := 0) hx hb dX5_pass_341 (by decide) ?_
                      refine lv_goto (tgt := 355) hx hb dX5_pass_342 (by decide) ?_
                      refine lv_istore (lv' := [(7, .int 0), (6, .int q120), (5, .ref (adL y114)), (0, .ref (adL r0)), (1, .int i1), (2, .ref (adL r2)), (3, .ref (adL r3)), (4, .int i4)]) hx hb dX5_pass_355 hl (by decide) rfl (fun ls hl => ?_)
                      exact (ih.2.2.2.2.1) NL adL ((mI m1 y114 4 ((mi m1 y114 4) - 1))) kc ks r0 i1 r2 r3 i4 y114 q120 (0 : Int32) _ _ _ hNN hE hc hs hO118 n_r0 n_r2 n_r3 n_y114 h hP hD hS (lv_sub hl (l' := [(0, .ref (adL r0)), (1, .int i1), (2, .ref (adL r2)), (3, .ref (adL r3)), (4, .int i4), (5, .ref (adL y114)), (6, .int q120), (7, .int 0)]) [3, 4, 5, 6, 7, 2, 1, 0] rfl)
                    · rw [if_neg c130] at h
                      refine lv_iconst (v := 1) hx hb dX5_pass_337 (by decide) ?_
                      refine lv_goto (tgt := 355) hx hb dX5_pass_338 (by decide) ?_
                      refine lv_istore (lv' := [(7, .int 1), (6, .int q120), (5, .ref (adL y114)), (0, .ref (adL r0)), (1, .int i1), (2, .ref (adL r2)), (3, .ref (adL r3)), (4, .int i4)]) hx hb dX5_pass_355 hl (by decide) rfl (fun ls hl => ?_)
                      exact (ih.2.2.2.2.1) NL adL ((mI m1 y114 4 ((mi m1 y114 4) - 1))) kc ks r0 i1 r2 r3 i4 y114 q120 (1 : Int32) _ _ _ hNN hE hc hs hO118 n_r0 n_r2 n_r3 n_y114 h hP hD hS (lv_sub hl (l' := [(0, .ref (adL r0)), (1, .int i1), (2, .ref (adL r2)), (3, .ref (adL r3)), (4, .int i4), (5, .ref (adL y114)), (6, .int q120), (7, .int 1)]) [3, 4, 5, 6, 7, 2, 1, 0] rfl)
                · rw [if_pos c124] at h
                  refine lv_iload hx hb dX5_pass_301 (lv_at hl 0 rfl) ?_
                  refine lv_if_le (tgt := 310) hx hb dX5_pass_303 (by decide) (fun c131 => ?_) (fun c131 => ?_)
                  · rw [if_pos c131] at h
                    refine lv_iconst (v := 0) hx hb dX5_pass_310 (by decide) ?_
                    refine lv_goto (tgt := 355) hx hb dX5_pass_311 (by decide) ?_
                    refine lv_istore (lv' := [(7, .int 0), (6, .int q120), (5, .ref (adL y114)), (0, .ref (adL r0)), (1, .int i1), (2, .ref (adL r2)), (3, .ref (adL r3)), (4, .int i4)]) hx hb dX5_pass_355 hl (by decide) rfl (fun ls hl => ?_)
                    exact (ih.2.2.2.2.1) NL adL ((mI m1 y114 4 ((mi m1 y114 4) - 1))) kc ks r0 i1 r2 r3 i4 y114 q120 (0 : Int32) _ _ _ hNN hE hc hs hO118 n_r0 n_r2 n_r3 n_y114 h hP hD hS (lv_sub hl (l' := [(0, .ref (adL r0)), (1, .int i1), (2, .ref (adL r2)), (3, .ref (adL r3)), (4, .int i4), (5, .ref (adL y114)), (6, .int q120), (7, .int 0)]) [3, 4, 5, 6, 7, 2, 1, 0] rfl)
                  · rw [if_neg c131] at h
                    refine lv_iconst (v := 1) hx hb dX5_pass_306 (by decide) ?_
                    refine lv_goto (tgt := 355) hx hb dX5_pass_307 (by decide) ?_
                    refine lv_istore (lv' := [(7, .int 1), (6, .int q120), (5, .ref (adL y114)), (0, .ref (adL r0)), (1, .int i1), (2, .ref (adL r2)), (3, .ref (adL r3)), (4, .int i4)]) hx hb dX5_pass_355 hl (by decide) rfl (fun ls hl => ?_)
                    exact (ih.2.2.2.2.1) NL adL ((mI m1 y114 4 ((mi m1 y114 4) - 1))) kc ks r0 i1 r2 r3 i4 y114 q120 (1 : Int32) _ _ _ hNN hE hc hs hO118 n_r0 n_r2 n_r3 n_y114 h hP hD hS (lv_sub hl (l' := [(0, .ref (adL r0)), (1, .int i1), (2, .ref (adL r2)), (3, .ref (adL r3)), (4, .int i4), (5, .ref (adL y114)), (6, .int q120), (7, .int 1)]) [3, 4, 5, 6, 7, 2, 1, 0] rfl)
              · rw [if_pos c123] at h
                refine lv_iload hx hb dX5_pass_273 (lv_at hl 0 rfl) ?_
                refine lv_aload hx hb dX5_pass_275 (lv_at hl 1 rfl) ?_
                obtain ⟨y132, g133, h⟩ := vg_bind h
                have n_y132 := hO118 _ _ _ g133
                refine va_get (D := D) (ci := 4) (v := .ref (adL y132)) (C := RX4) (T := TX4) (N := 9) hx hb hts in_X5_pass_X4 hown hK hP y114 (vW_k4 n_y114 g116) rfl 5 (by decide) (hts (.fieldLink RX5 57 "VaultDoorsLaw$Door" "asks" "[[I") (List.mem_of_getElem? (i := 6) rfl)) (fun _ h9 => h9) (by show some (va_rf (Option.map adL (mr ((mI m1 y114 4 ((mi m1 y114 4) - 1))) y114 5))) = _; rw [g133]; rfl) dX5_pass_277 ?_
                obtain ⟨g134, h⟩ := vg_if h
                refine va_alen (D := D) hx hb hK hP y132 2 (vW_k8 n_y132 g134) rfl rfl dX5_pass_280 ?_
                refine lv_icmp_ne (tgt := 288) hx hb dX5_pass_281 (by decide) (fun c135 => ?_) (fun c135 => ?_)
                · rw [if_neg c135] at h
                  refine lv_iconst (v := 0) hx hb dX5_pass_288 (by decide) ?_
                  refine lv_goto (tgt := 355) hx hb dX5_pass_289 (by decide) ?_
                  refine lv_istore (lv' := [(7, .int 0), (6, .int q120), (5, .ref (adL y114)), (0, .ref (adL r0)), (1, .int i1), (2, .ref (adL r2)), (3, .ref (adL r3)), (4, .int i4)]) hx hb dX5_pass_355 hl (by decide) rfl (fun ls hl => ?_)
                  exact (ih.2.2.2.2.1) NL adL ((mI m1 y114 4 ((mi m1 y114 4) - 1))) kc ks r0 i1 r2 r3 i4 y114 q120 (0 : Int32) _ _ _ hNN hE hc hs hO118 n_r0 n_r2 n_r3 n_y114 h hP hD hS (lv_sub hl (l' := [(0, .ref (adL r0)), (1, .int i1), (2, .ref (adL r2)), (3, .ref (adL r3)), (4, .int i4), (5, .ref (adL y114)), (6, .int q120), (7, .int 0)]) [3, 4, 5, 6, 7, 2, 1, 0] rfl)
                · rw [if_pos c135] at h
                  refine lv_iconst (v := 1) hx hb dX5_pass_284 (by decide) ?_
                  refine lv_goto (tgt := 355) hx hb dX5_pass_285 (by decide) ?_
                  refine lv_istore (lv' := [(7, .int 1), (6, .int q120), (5, .ref (adL y114)), (0, .ref (adL r0)), (1, .int i1), (2, .ref (adL r2)), (3, .ref (adL r3)), (4, .int i4)]) hx hb dX5_pass_355 hl (by decide) rfl (fun ls hl => ?_)
                  exact (ih.2.2.2.2.1) NL adL ((mI m1 y114 4 ((mi m1 y114 4) - 1))) kc ks r0 i1 r2 r3 i4 y114 q120 (1 : Int32) _ _ _ hNN hE hc hs hO118 n_r0 n_r2 n_r3 n_y114 h hP hD hS (lv_sub hl (l' := [(0, .ref (adL r0)), (1, .int i1), (2, .ref (adL r2)), (3, .ref (adL r3)), (4, .int i4), (5, .ref (adL y114)), (6, .int q120), (7, .int 1)]) [3, 4, 5, 6, 7, 2, 1, 0] rfl)
            · rw [if_neg c119] at h
              refine lv_aload hx hb dX5_pass_239 (lv_at hl 0 rfl) ?_
              refine lv_iconst (v := (-1)) hx hb dX5_pass_241 (by decide) ?_
              obtain ⟨q136, g137, h⟩ := vg_bind h
              refine va_calli (va_runV (As := [.int ((-1))]) (rest := []) ⟨hx, hb, hml, hown, hts⟩ (cm_X4_answers (m0 := (mI m1 y114 4 ((mi m1 y114 4) - 1))) l D tc adL hO118 n_y114 g137) (cwV 1 hts gX5_pass_X4_answers rfl rfl rfl (by decide +kernel) ⟨(Nat.le_of_ble_eq_true rfl), (Nat.le_of_ble_eq_true rfl)⟩) ⟨qR_blind, va_recv hK hP (ci := 4) (q0 := y114) rfl (vW_k4 n_y114 g116), qR_pre hP hK hZ⟩ rfl rfl hl.1 rfl (lv_room (Nat.le_of_ble_eq_true rfl)) dX5_pass_242 ⟨hc, hs⟩) hS (fun q9 _ h9 => h9.elim) (fun q9 h9 => h9.elim) (fun w138 u t H1 locs ht hvm hw hB hz1 hk1 hS => ?_)
              have hP := hP.kept (fun k9 q9 hk9 => hk1 q9.1 (hP k9 q9 hk9).lt (fun h9 => h9))
              generalize H1 = H at hP hS ⊢
              clear hk1 hz1 ht hvm
              have hw : w138 = q136 := hw
              rw [hw]
              refine lv_aload hx hb dX5_pass_245 (lv_at hl 0 rfl) ?_
              obtain ⟨y139, g140, h⟩ := vg_bind h
              have n_y139 := hO118 _ _ _ g140
              refine va_get (D := D) (ci := 4) (v := .ref (adL y139)) (C := RX4) (T := TX4) (N := 9) hx hb hts in_X5_pass_X4 hown hK hP y114 (vW_k4 n_y114 g116) rfl 5 (by decide) (hts (.fieldLink RX5 57 "VaultDoorsLaw$Door" "asks" "[[I") (List.mem_of_getElem? (i := 6) rfl)) (fun _ h9 => h9) (by show some (va_rf (Option.map adL (mr ((mI m1 y114 4 ((mi m1 y114 4) - 1))) y114 5))) = _; rw [g140]; rfl) dX5_pass_247 ?_
              obtain ⟨g141, h⟩ := vg_if h
              refine va_alen (D := D) hx hb hK hP y139 2 (vW_k8 n_y139 g141) rfl rfl dX5_pass_250 ?_
              refine lv_icmp_ge (tgt := 257) hx hb dX5_pass_251 (by decide) (fun c142 => ?_) (fun c142 => ?_)
              · rw [if_pos c142] at h
                refine lv_aload hx hb dX5_pass_257 (lv_at hl 0 rfl) ?_
                refine lv_iconst (v := 1) hx hb dX5_pass_259 (by decide) ?_
                obtain ⟨q143, g144, h⟩ := vg_bind h
                refine va_calli (va_runV (As := [.int 1]) (rest := []) ⟨hx, hb, hml, hown, hts⟩ (cm_X4_answers (m0 := (mI m1 y114 4 ((mi m1 y114 4) - 1))) l D tc adL hO118 n_y114 g144) (cwV 1 hts gX5_pass_X4_answers rfl rfl rfl (by decide +kernel) ⟨(Nat.le_of_ble_eq_true rfl), (Nat.le_of_ble_eq_true rfl)⟩) ⟨qR_blind, va_recv hK hP (ci := 4) (q0 := y114) rfl (vW_k4 n_y114 g116), qR_pre hP hK hZ⟩ rfl rfl hl.1 rfl (lv_room (Nat.le_of_ble_eq_true rfl)) dX5_pass_260 ⟨hc, hs⟩) hS (fun q9 _ h9 => h9.elim) (fun q9 h9 => h9.elim) (fun w145 u t H1 locs ht hvm hw hB hz1 hk1 hS => ?_)
                have hP := hP.kept (fun k9 q9 hk9 => hk1 q9.1 (hP k9 q9 hk9).lt (fun h9 => h9))
                generalize H1 = H at hP hS ⊢
                clear hk1 hz1 ht hvm
                have hw : w145 = q143 := hw
                rw [hw]
                refine lv_istore (lv' := [(6, .int q143), (5, .ref (adL y114)), (0, .ref (adL r0)), (1, .int i1), (2, .ref (adL r2)), (3, .ref (adL r3)), (4, .int i4)]) hx hb dX5_pass_263 hl (by decide) rfl (fun ls hl => ?_)
                refine lv_aload hx hb dX5_pass_265 (lv_at hl 1 rfl) ?_
                refine va_get (D := D) (ci := 4) (v := .int (mi ((mI m1 y114 4 ((mi m1 y114 4) - 1))) y114 2)) (C := RX4) (T := TX4) (N := 9) hx hb hts in_X5_pass_X4 hown hK hP y114 (vW_k4 n_y114 g116) rfl 2 (by decide) (hts (.fieldLink RX5 38 "VaultDoorsLaw$Door" "rule" "I") (List.mem_of_getElem? (i := 7) rfl)) (fun _ h9 => h9) rfl dX5_pass_267 ?_
                refine lv_if_ne (tgt := 292) hx hb dX5_pass_270 (by decide) (fun c146 => ?_) (fun c146 => ?_)
                · rw [if_neg c146] at h
                  refine lv_aload hx hb dX5_pass_292 (lv_at hl 1 rfl) ?_
                  refine va_get (D := D) (ci := 4) (v := .int (mi ((mI m1 y114 4 ((mi m1 y114 4) - 1))) y114 2)) (C := RX4) (T := TX4) (N := 9) hx hb hts in_X5_pass_X4 hown hK hP y114 (vW_k4 n_y114 g116) rfl 2 (by decide) (hts (.fieldLink RX5 38 "VaultDoorsLaw$Door" "rule" "I") (List.mem_of_getElem? (i := 7) rfl)) (fun _ h9 => h9) rfl dX5_pass_294 ?_
                  refine lv_iconst (v := 1) hx hb dX5_pass_297 (by decide) ?_
                  refine lv_icmp_ne (tgt := 314) hx hb dX5_pass_298 (by decide) (fun c147 => ?_) (fun c147 => ?_)
                  · rw [if_neg c147] at h
                    refine lv_aload hx hb dX5_pass_314 (lv_at hl 1 rfl) ?_
                    refine va_get (D := D) (ci := 4) (v := .int (mi ((mI m1 y114 4 ((mi m1 y114 4) - 1))) y114 2)) (C := RX4) (T := TX4) (N := 9) hx hb hts in_X5_pass_X4 hown hK hP y114 (vW_k4 n_y114 g116) rfl 2 (by decide) (hts (.fieldLink RX5 38 "VaultDoorsLaw$Door" "rule" "I") (List.mem_of_getElem? (i := 7) rfl)) (fun _ h9 => h9) rfl dX5_pass_316 ?_
                    refine lv_iconst (v := 2) hx hb dX5_pass_319 (by decide) ?_
                    refine lv_icmp_ne (tgt := 345) hx hb dX5_pass_320 (by decide) (fun c148 => ?_) (fun c148 => ?_)
                    · rw [if_neg c148] at h
                      refine lv_iload hx hb dX5_pass_345 (lv_at hl 0 rfl) ?_
                      refine lv_if_ne (tgt := 354) hx hb dX5_pass_347 (by decide) (fun c149 => ?_) (fun c149 => ?_)
                      · rw [if_neg c149] at h
                        refine lv_iconst (v := 0) hx hb dX5_pass_354 (by decide) ?_
                        refine lv_istore (lv' := [(7, .int 0), (6, .int q143), (5, .ref (adL y114)), (0, .ref (adL r0)), (1, .int i1), (2, .ref (adL r2)), (3, .ref (adL r3)), (4, .int i4)]) hx hb dX5_pass_355 hl (by decide) rfl (fun ls hl => ?_)
                        exact (ih.2.2.2.2.1) NL adL ((mI m1 y114 4 ((mi m1 y114 4) - 1))) kc ks r0 i1 r2 r3 i4 y114 q143 (0 : Int32) _ _ _ hNN hE hc hs hO118 n_r0 n_r2 n_r3 n_y114 h hP hD hS (lv_sub hl (l' := [(0, .ref (adL r0)), (1, .int i1), (2, .ref (adL r2)), (3, .ref (adL r3)), (4, .int i4), (5, .ref (adL y114)), (6, .int q143), (7, .int 0)]) [3, 4, 5, 6, 7, 2, 1, 0] rfl)
                      · rw [if_pos c149] at h
                        refine lv_iconst (v := 1) hx hb dX5_pass_350 (by decide) ?_
                        refine lv_goto (tgt := 355) hx hb dX5_pass_351 (by decide) ?_
                        refine lv_istore (lv' := [(7, .int 1), (6, .int q143), (5, .ref (adL y114)), (0, .ref (adL r0)), (1, .int i1), (2, .ref (adL r2)), (3, .ref (adL r3)), (4, .int i4)]) hx hb dX5_pass_355 hl (by decide) rfl (fun ls hl => ?_)
                        exact (ih.2.2.2.2.1) NL adL ((mI m1 y114 4 ((mi m1 y114 4) - 1))) kc ks r0 i1 r2 r3 i4 y114 q143 (1 : Int32) _ _ _ hNN hE hc hs hO118 n_r0 n_r2 n_r3 n_y114 h hP hD hS (lv_sub hl (l' := [(0, .ref (adL r0)), (1, .int i1), (2, .ref (adL r2)), (3, .ref (adL r3)), (4, .int i4), (5, .ref (adL y114)), (6, .int q143), (7, .int 1)]) [3, 4, 5, 6, 7, 2, 1, 0] rfl)
                    · rw [if_pos c148] at h
                      refine lv_iload hx hb dX5_pass_323 (lv_at hl 0 rfl) ?_
                      refine lv_iload hx hb dX5_pass_325 (lv_at hl 0 rfl) ?_
                      refine lv_iadd hx hb dX5_pass_327 ?_
                      refine lv_aload hx hb dX5_pass_328 (lv_at hl 1 rfl) ?_
                      obtain ⟨y150, g151, h⟩ := vg_bind h
                      have n_y150 := hO118 _ _ _ g151
                      refine va_get (D := D) (ci := 4) (v := .ref (adL y150)) (C := RX4) (T := TX4) (N := 9) hx hb hts in_X5_pass_X4 hown hK hP y114 (vW_k4 n_y114 g116) rfl 5 (by decide) (hts (.fieldLink RX5 57 "VaultDoorsLaw$Door" "asks" "[[I") (List.mem_of_getElem? (i := 6) rfl)) (fun _ h9 => h9) (by show some (va_rf (Option.map adL (mr ((mI m1 y114 4 ((mi m1 y114 4) - 1))) y114 5))) = _; rw [g151]; rfl) dX5_pass_330 ?_
                      obtain ⟨g152, h⟩ := vg_if h
                      refine va_alen (D := D) hx hb hK hP y150 2 (vW_k8 n_y150 g152) rfl rfl dX5_pass_333 ?_
                      refine lv_icmp_le (tgt := 341) hx hb dX5_pass_334 (by decide) (fun c153 => ?_) (fun c153 => ?_)
                      · rw [if_pos c153] at h
                        refine lv_iconst (v := 0) hx hb dX5_pass_341 (by decide) ?_
                        refine lv_goto (tgt := 355) hx hb dX5_pass_342 (by decide) ?_
                        refine lv_istore (lv' := [(7, .int 0), (6, .int q143), (5, .ref (adL y114)), (0, .ref (adL r0)), (1, .int i1), (2, .ref (adL r2)), (3, .ref (adL r3)), (4, .int i4)]) hx hb dX5_pass_355 hl (by decide) rfl (fun ls hl => ?_)
                        exact (ih.2.2.2.2.1) NL adL ((mI m1 y114 4 ((mi m1 y114 4) - 1))) kc ks r0 i1 r2 r3 i4 y114 q143 (0 : Int32) _ _ _ hNN hE hc hs hO118 n_r0 n_r2 n_r3 n_y114 h hP hD hS (lv_sub hl (l' := [(0, .ref (adL r0)), (1, .int i1), (2, .ref (adL r2)), (3, .ref (adL r3)), (4, .int i4), (5, .ref (adL y114)), (6, .int q143), (7, .int 0)]) [3, 4, 5, 6, 7, 2, 1, 0] rfl)
                      · rw [if_neg c153] at h
                        refine lv_iconst (v := 1) hx hb dX5_pass_337 (by decide) ?_
                        refine lv_goto (tgt := 355) hx hb dX5_pass_338 (by decide) ?_
                        refine lv_istore (lv' := [(7, .int 1), (6, .int q143), (5, .ref (adL y114)), (0, .ref (adL r0)), (1, .int i1), (2, .ref (adL r2)), (3, .ref (adL r3)), (4, .int i4)]) hx hb dX5_pass_355 hl (by decide) rfl (fun ls hl => ?_)
                        exact (ih.2.2.2.2.1) NL adL ((mI m1 y114 4 ((mi m1 y114 4) - 1))) kc ks r0 i1 r2 r3 i4 y114 q143 (1 : Int32) _ _ _ hNN hE hc hs hO118 n_r0 n_r2 n_r3 n_y114 h hP hD hS (lv_sub hl (l' := [(0, .ref (adL r0)), (1, .int i1), (2, .ref (adL r2)), (3, .ref (adL r3)), (4, .int i4), (5, .ref (adL y114)), (6, .int q143), (7, .int 1)]) [3, 4, 5, 6, 7, 2, 1, 0] rfl)
                  · rw [if_pos c147] at h
                    refine lv_iload hx hb dX5_pass_301 (lv_at hl 0 rfl) ?_
                    refine lv_if_le (tgt := 310) hx hb dX5_pass_303 (by decide) (fun c154 => ?_) (fun c154 => ?_)
                    · rw [if_pos c154] at h
                      refine lv_iconst (v := 0) hx hb dX5_pass_310 (by decide) ?_
                      refine lv_goto (tgt := 355) hx hb dX5_pass_311 (by decide) ?_
                      refine lv_istore (lv' := [(7, .int 0), (6, .int q143), (5, .ref (adL y114)), (0, .ref (adL r0)), (1, .int i1), (2, .ref (adL r2)), (3, .ref (adL r3)), (4, .int i4)]) hx hb dX5_pass_355 hl (by decide) rfl (fun ls hl => ?_)
                      exact (ih.2.2.2.2.1) NL adL ((mI m1 y114 4 ((mi m1 y114 4) - 1))) kc ks r0 i1 r2 r3 i4 y114 q143 (0 : Int32) _ _ _ hNN hE hc hs hO118 n_r0 n_r2 n_r3 n_y114 h hP hD hS (lv_sub hl (l' := [(0, .ref (adL r0)), (1, .int i1), (2, .ref (adL r2)), (3, .ref (adL r3)), (4, .int i4), (5, .ref (adL y114)), (6, .int q143), (7, .int 0)]) [3, 4, 5, 6, 7, 2, 1, 0] rfl)
                    · rw [if_neg c154] at h
                      refine lv_iconst (v := 1) hx hb dX5_pass_306 (by decide) ?_
                      refine lv_goto (tgt := 355) hx hb dX5_pass_307 (by decide) ?_
                      refine lv_istore (lv' := [(7, .int 1), (6, .int q143), (5, .ref (adL y114)), (0, .ref (adL r0)), (1, .int i1), (2, .ref (adL r2)), (3, .ref (adL r3)), (4, .int i4)]) hx hb dX5_pass_355 hl (by decide) rfl (fun ls hl => ?_)
                      exact (ih.2.2.2.2.1) NL adL ((mI m1 y114 4 ((mi m1 y114 4) - 1))) kc ks r0 i1 r2 r3 i4 y114 q143 (1 : Int32) _ _ _ hNN hE hc hs hO118 n_r0 n_r2 n_r3 n_y114 h hP hD hS (lv_sub hl (l' := [(0, .ref (adL r0)), (1, .int i1), (2, .ref (adL r2)), (3, .ref (adL r3)), (4, .int i4), (5, .ref (adL y114)), (6, .int q143), (7, .int 1)]) [3, 4, 5, 6, 7, 2, 1, 0] rfl)
                · rw [if_pos c146] at h
                  refine lv_iload hx hb dX5_pass_273 (lv_at hl 0 rfl) ?_
                  refine lv_aload hx hb dX5_pass_275 (lv_at hl 1 rfl) ?_
                  obtain ⟨y155, g156, h⟩ := vg_bind h
                  have n_y155 := hO118 _ _ _ g156
                  refine va_get (D := D) (ci := 4) (v := .ref (adL y155)) (C := RX4) (T := TX4) (N := 9) hx hb hts in_X5_pass_X4 hown hK hP y114 (vW_k4 n_y114 g116) rfl 5 (by decide) (hts (.fieldLink RX5 57 "VaultDoorsLaw$Door" "asks" "[[I") (List.mem_of_getElem? (i := 6) rfl)) (fun _ h9 => h9) (by show some (va_rf (Option.map adL (mr ((mI m1 y114 4 ((mi m1 y114 4) - 1))) y114 5))) = _; rw [g156]; rfl) dX5_pass_277 ?_
                  obtain ⟨g157, h⟩ := vg_if h
                  refine va_alen (D := D) hx hb hK hP y155 2 (vW_k8 n_y155 g157) rfl rfl dX5_pass_280 ?_
                  refine lv_icmp_ne (tgt := 288) hx hb dX5_pass_281 (by decide) (fun c158 => ?_) (fun c158 => ?_)
                  · rw [if_neg c158] at h
                    refine lv_iconst (v := 0) hx hb dX5_pass_288 (by decide) ?_
                    refine lv_goto (tgt := 355) hx hb dX5_pass_289 (by decide) ?_
                    refine lv_istore (lv' := [(7, .int 0), (6, .int q143), (5, .ref (adL y114)), (0, .ref (adL r0)), (1, .int i1), (2, .ref (adL r2)), (3, .ref (adL r3)), (4, .int i4)]) hx hb dX5_pass_355 hl (by decide) rfl (fun ls hl => ?_)
                    exact (ih.2.2.2.2.1) NL adL ((mI m1 y114 4 ((mi m1 y114 4) - 1))) kc ks r0 i1 r2 r3 i4 y114 q143 (0 : Int32) _ _ _ hNN hE hc hs hO118 n_r0 n_r2 n_r3 n_y114 h hP hD hS (lv_sub hl (l' := [(0, .ref (adL r0)), (1, .int i1), (2, .ref (adL r2)), (3, .ref (adL r3)), (4, .int i4), (5, .ref (adL y114)), (6, .int q143), (7, .int 0)]) [3, 4, 5, 6, 7, 2, 1, 0] rfl)
                  · rw [if_pos c158] at h
                    refine lv_iconst (v := 1) hx hb dX5_pass_284 (by decide) ?_
                    refine lv_goto (tgt := 355) hx hb dX5_pass_285 (by decide) ?_
                    refine lv_istore (lv' := [(7, .int 1), (6, .int q143), (5, .ref (adL y114)), (0, .ref (adL r0)), (1, .int i1), (2, .ref (adL r2)), (3, .ref (adL r3)), (4, .int i4)]) hx hb dX5_pass_355 hl (by decide) rfl (fun ls hl => ?_)
                    exact (ih.2.2.2.2.1) NL adL ((mI m1 y114 4 ((mi m1 y114 4) - 1))) kc ks r0 i1 r2 r3 i4 y114 q143 (1 : Int32) _ _ _ hNN hE hc hs hO118 n_r0 n_r2 n_r3 n_y114 h hP hD hS (lv_sub hl (l' := [(0, .ref (adL r0)), (1, .int i1), (2, .ref (adL r2)), (3, .ref (adL r3)), (4, .int i4), (5, .ref (adL y114)), (6, .int q143), (7, .int 1)]) [3, 4, 5, 6, 7, 2, 1, 0] rfl)
              · rw [if_neg c142] at h
                refine lv_goto (tgt := 446) hx hb dX5_pass_254 (by decide) ?_
                refine lv_iinc (v := i4 + 1) (lv' := [(4, .int (i4 + 1)), (5, .ref (adL y114)), (0, .ref (adL r0)), (1, .int i1), (2, .ref (adL r2)), (3, .ref (adL r3)), (6, .int i6)]) hx hb dX5_pass_446 hl (k := 5) rfl rfl (by decide) rfl (fun ls hl => ?_)
                refine lv_goto (tgt := 189) hx hb dX5_pass_449 (by decide) ?_
                exact (ih.2.2.2.1) NL adL ((mI m1 y114 4 ((mi m1 y114 4) - 1))) kc ks r0 i1 r2 r3 (i4 + 1) i6 _ _ _ hNN hE hc hs hO118 n_r0 n_r2 n_r3 h hP hD hS (lv_sub hl (l' := [(0, .ref (adL r0)), (1, .int i1), (2, .ref (adL r2)), (3, .ref (adL r3)), (4, .int (i4 + 1)), (6, .int i6)]) [2, 3, 4, 5, 0, 6] rfl)
          · rw [if_neg c117] at h
            refine lv_goto (tgt := 446) hx hb dX5_pass_217 (by decide) ?_
            refine lv_iinc (v := i4 + 1) (lv' := [(4, .int (i4 + 1)), (5, .ref (adL y114)), (0, .ref (adL r0)), (1, .int i1), (2, .ref (adL r2)), (3, .ref (adL r3)), (6, .int i6)]) hx hb dX5_pass_446 hl (k := 5) rfl rfl (by decide) rfl (fun ls hl => ?_)
            refine lv_goto (tgt := 189) hx hb dX5_pass_449 (by decide) ?_
            exact (ih.2.2.2.1) NL adL m1 kc ks r0 i1 r2 r3 (i4 + 1) i6 _ _ _ hNN hE hc hs hO n_r0 n_r2 n_r3 h hP hD hS (lv_sub hl (l' := [(0, .ref (adL r0)), (1, .int i1), (2, .ref (adL r2)), (3, .ref (adL r3)), (4, .int (i4 + 1)), (6, .int i6)]) [2, 3, 4, 5, 0, 6] rfl)
      · intro NL adL m1 kc ks r0 i1 r2 r3 i4 r5 i6 i7 H locs ls hNN hE hc hs hO n_r0 n_r2 n_r3 n_r5 h hP hD hS hl
        have h : fB_X5_pass_357 (fL_X5_pass n) NL m1 kc ks r0 i1 r2 0 r3 i4 0 0 r5 i6 i7 0 0 0 = some z := h
        unfold fB_X5_pass_357 at h
        refine lv_aload_n hx hb dX5_pass_357 rfl (lv_at hl 0 rfl) ?_
        refine lv_aload hx hb dX5_pass_358 (lv_at hl 5 rfl) ?_
        refine lv_iload hx hb dX5_pass_360 (lv_at hl 7 rfl) ?_
        obtain ⟨g159, h⟩ := vg_if h
        obtain ⟨q160, g161, h⟩ := vg_bind h
        have hFc := vm_free hD hS hA
        refine va_callv (va_runV (As := [.ref (adL r5), .int i7]) (rest := []) ⟨hx, hb, hml, hown, hts⟩ (cm_X5_turn (m0 := m1) l D tc adL hO n_r0 n_r5 g161) (cwV 2 hts gX5_pass_X5_turn rfl rfl rfl (by decide +kernel) ⟨(Nat.le_of_ble_eq_true rfl), (Nat.le_of_ble_eq_true rfl)⟩) ⟨qW_blind, va_recv hK hP (ci := 5) (q0 := r0) rfl (vW_k5 n_r0 g159), qW_pre hP hD hK hZ⟩ rfl rfl hl.1 rfl (lv_room (Nat.le_of_ble_eq_true rfl)) dX5_pass_362 ⟨hc, hs⟩) hS (fun q9 _ h9 => hFc q9 h9) hFc (fun u t H1 locs ht hvm hw hB hz1 hk1 hS => ?_)
        obtain ⟨hO163, hP1, hK1, hD1⟩ := hB
        rw [ht] at hP1
        have hP := hP1
        have hD := hD1.weaken (fun _ q9 _ h9 => hFc q9.1 h9)
        generalize H1 = H at hP hS ⊢
        have hP : va_P D vwCl (vW tc adL NL q160) H := hP
        have hD : va_D A (vW tc adL NL q160) := hD
        clear hk1 hz1 ht hvm
        refine lv_aload hx hb dX5_pass_365 (lv_at hl 5 rfl) ?_
        obtain ⟨g164, h⟩ := vg_if h
        obtain ⟨y165, g166, h⟩ := vg_bind h
        have n_y165 := hO163 _ _ _ g166
        refine va_get (D := D) (ci := 4) (v := .ref (adL y165)) (C := RX4) (T := TX4) (N := 9) hx hb hts in_X5_pass_X4 hown hK hP r5 (vW_k4 n_r5 g164) rfl 6 (by decide) (hts (.fieldLink RX5 54 "VaultDoorsLaw$Door" "kept" "[[I") (List.mem_of_getElem? (i := 8) rfl)) (fun _ h9 => h9) (by show some (va_rf (Option.map adL (mr q160 r5 6))) = _; rw [g166]; rfl) dX5_pass_367 ?_
        refine lv_astore (lv' := [(8, .ref (adL y165)), (0, .ref (adL r0)), (1, .int i1), (2, .ref (adL r2)), (3, .ref (adL r3)), (4, .int i4), (5, .ref (adL r5)), (6, .int i6), (7, .int i7)]) hx hb dX5_pass_370 hl (by decide) rfl (fun ls hl => ?_)
        refine lv_aload hx hb dX5_pass_372 (lv_at hl 0 rfl) ?_
        obtain ⟨g167, h⟩ := vg_if h
        refine va_alen (D := D) hx hb hK hP y165 2 (vW_k8 n_y165 g167) rfl rfl dX5_pass_374 ?_
        refine lv_istore (lv' := [(9, .int (Int32.ofNat (ml q160 y165))), (8, .ref (adL y165)), (0, .ref (adL r0)), (1, .int i1), (2, .ref (adL r2)), (3, .ref (adL r3)), (4, .int i4), (5, .ref (adL r5)), (6, .int i6), (7, .int i7)]) hx hb dX5_pass_375 hl (by decide) rfl (fun ls hl => ?_)
        refine lv_iconst (v := 0) hx hb dX5_pass_377 (by decide) ?_
        refine lv_istore (lv' := [(10, .int 0), (9, .int (Int32.ofNat (ml q160 y165))), (8, .ref (adL y165)), (0, .ref (adL r0)), (1, .int i1), (2, .ref (adL r2)), (3, .ref (adL r3)), (4, .int i4), (5, .ref (adL r5)), (6, .int i6), (7, .int i7)]) hx hb dX5_pass_378 hl (by decide) rfl (fun ls hl => ?_)
        exact (ih.2.2.2.2.2) NL adL q160 kc ks r0 i1 r2 r3 i4 r5 i6 i7 y165 (Int32.ofNat (ml q160 y165)) (0 : Int32) _ _ _ hNN hE hc hs hO163 n_r0 n_r2 n_r3 n_r5 n_y165 h hP hD hS (lv_sub hl (l' := [(0, .ref (adL r0)), (1, .int i1), (2, .ref (adL r2)), (3, .ref (adL r3)), (4, .int i4), (5, .ref (adL r5)), (6, .int i6), (7, .int i7), (8, .ref (adL y165)), (9, .int (Int32.ofNat (ml q160 y165))), (10, .int 0)]) [3, 4, 5, 6, 7, 8, 9, 10, 2, 1, 0] rfl)
      · intro NL adL m1 kc ks r0 i1 r2 r3 i4 r5 i6 i7 r8 i9 i10 H locs ls hNN hE hc hs hO n_r0 n_r2 n_r3 n_r5 n_r8 h hP hD hS hl
        have h : fB_X5_pass_380 (fL_X5_pass n) NL m1 kc ks r0 i1 r2 0 r3 i4 0 0 r5 i6 i7 r8 i9 i10 = some z := h
        unfold fB_X5_pass_380 at h
        refine lv_iload hx hb dX5_pass_380 (lv_at hl 10 rfl) ?_
        refine lv_iload hx hb dX5_pass_382 (lv_at hl 9 rfl) ?_
        refine lv_icmp_ge (tgt := 424) hx hb dX5_pass_384 (by decide) (fun c168 => ?_) (fun c168 => ?_)
        · rw [if_pos c168] at h
          refine lv_aload hx hb dX5_pass_424 (lv_at hl 5 rfl) ?_
          refine lv_iconst (v := 0) hx hb dX5_pass_426 (by decide) ?_
          obtain ⟨g169, h⟩ := vg_if h
          obtain ⟨g170, h⟩ := vg_if h
          refine wm_new8 (n := 0) (n' := 0) hx hb hown (hts (.classLink RX5 15 "[I") (List.mem_of_getElem? (i := 4) rfl)) hZ.2.1 hO hK hP hD hS hA (by decide) (by decide) (Nat.le_of_ble_eq_true rfl) g169 g170 dX5_pass_427 (fun ad171 H e172 hP hD hS => ?_)
          have hl : lv_has ls 12 [(0, .ref (ad171 r0)), (1, .int i1), (2, .ref (ad171 r2)), (3, .ref (ad171 r3)), (4, .int i4), (5, .ref (ad171 r5)), (6, .int i6), (7, .int i7), (8, .ref (ad171 r8)), (9, .int i9), (10, .int i10)] := by rw [e172 r0 n_r0, e172 r2 n_r2, e172 r3 n_r3, e172 r5 n_r5, e172 r8 n_r8]; exact hl
          have e173 : ∀ k, k < N → ad171 k = ad k := fun k hk => (e172 k (Nat.lt_of_lt_of_le hk hNN)).trans (hE k hk)
          have e174 : N ≤ (NL + 1) := Nat.le_trans hNN (Nat.le_succ _)
          have hO175 := vOK.N (k := 8) (n := 0) hO
          have n176 : r0 < (NL + 1) := Nat.lt_of_lt_of_le n_r0 (Nat.le_succ _)
          have n177 : r2 < (NL + 1) := Nat.lt_of_lt_of_le n_r2 (Nat.le_succ _)
          have n178 : r3 < (NL + 1) := Nat.lt_of_lt_of_le n_r3 (Nat.le_succ _)
          have n179 : r5 < (NL + 1) := Nat.lt_of_lt_of_le n_r5 (Nat.le_succ _)
          have n180 : r8 < (NL + 1) := Nat.lt_of_lt_of_le n_r8 (Nat.le_succ _)
          refine W.eq (g2 := F0 m 430 ls [.ref (ad171 NL), .ref (ad171 r5)]) (by rw [e172 r5 n_r5]) ?_
          have hP : va_P D vwCl (vW tc ad171 ((NL + 1)) ((mN m1 NL 8 0))) H := hP
          have hD : va_D A (vW tc ad171 ((NL + 1)) ((mN m1 NL 8 0))) := hD
          obtain ⟨g181, h⟩ := vg_if h
          refine va_put (D := D) (ci := 4) (v := .ref (ad171 NL)) (ty := .array (.array .int)) (C := RX4) (T := TX4) (N := 9) hx hb hts in_X5_pass_X4 tyX4 tyX4_ok nmX4 hown hK hP hD hS r5 (vW_k4 n179 g181) rfl 6 (by decide) (hts (.fieldLink RX5 54 "VaultDoorsLaw$Door" "kept" "[[I") (List.mem_of_getElem? (i := 8) rfl)) (fun _ h9 => h9) rfl (by decide +kernel) rfl rfl (Nat.le_of_ble_eq_true rfl) dX5_pass_430 (fun H locs hP hD hS => ?_)
          rw [vW_p4_6 (m := ((mN m1 NL 8 0))) n179 g181] at hP hD
          have hO182 := vOK.R (a := r5) (j := 6) hO175 (Nat.lt_succ_self _)
          have hP : va_P D vwCl (vW tc ad171 ((NL + 1)) ((mR ((mN m1 NL 8 0)) r5 6 (some NL)))) H := hP
          have hD : va_D A (vW tc ad171 ((NL + 1)) ((mR ((mN m1 NL 8 0)) r5 6 (some NL)))) := hD
          refine lv_iload_n hx hb dX5_pass_433 rfl (lv_at hl 1 rfl) ?_
          refine lv_iload hx hb dX5_pass_434 (lv_at hl 7 rfl) ?_
          refine lv_if_eq (tgt := 443) hx hb dX5_pass_436 (by decide) (fun c183 => ?_) (fun c183 => ?_)
          · rw [if_pos c183] at h
            refine lv_iconst (v := 0) hx hb dX5_pass_443 (by decide) ?_
            refine lv_iadd hx hb dX5_pass_444 ?_
            refine lv_istore_n (lv' := [(1, .int (i1 + 0)), (0, .ref (ad171 r0)), (2, .ref (ad171 r2)), (3, .ref (ad171 r3)), (4, .int i4), (5, .ref (ad171 r5)), (6, .int i6), (7, .int i7), (8, .ref (ad171 r8)), (9, .int i9), (10, .int i10)]) hx hb dX5_pass_445 rfl hl (by decide) rfl (fun ls hl => ?_)
            refine lv_iinc (v := i4 + 1) (lv' := [(4, .int (i4 + 1)), (1, .int (i1 + 0)), (0, .ref (ad171 r0)), (2, .ref (ad171 r2)), (3, .ref (ad171 r3)), (5, .ref (ad171 r5)), (6, .int i6), (7, .int i7), (8, .ref (ad171 r8)), (9, .int i9), (10, .int i10)]) hx hb dX5_pass_446 hl (k := 4) rfl rfl (by decide) rfl (fun ls hl => ?_)
            refine lv_goto (tgt := 189) hx hb dX5_pass_449 (by decide) ?_
            exact (ih.2.2.2.1) ((NL + 1)) ad171 ((mR ((mN m1 NL 8 0)) r5 6 (some NL))) ((kc + 1)) ((ks + 0)) r0 (i1 + 0) r2 r3 (i4 + 1) i6 _ _ _ e174 e173 g169 g170 hO182 n176 n177 n178 h hP hD hS (lv_sub hl (l' := [(0, .ref (ad171 r0)), (1, .int (i1 + 0)), (2, .ref (ad171 r2)), (3, .ref (ad171 r3)), (4, .int (i4 + 1)), (6, .int i6)]) [2, 1, 3, 4, 0, 6] rfl)
          · rw [if_neg c183] at h
            refine lv_iconst (v := 1) hx hb dX5_pass_439 (by decide) ?_
            refine lv_goto (tgt := 444) hx hb dX5_pass_440 (by decide) ?_
            refine lv_iadd hx hb dX5_pass_444 ?_
            refine lv_istore_n (lv' := [(1, .int (i1 + 1)), (0, .ref (ad171 r0)), (2, .ref (ad171 r2)), (3, .ref (ad171 r3)), (4, .int i4), (5, .ref (ad171 r5)), (6, .int i6), (7, .int i7), (8, .ref (ad171 r8)), (9, .int i9), (10, .int i10)]) hx hb dX5_pass_445 rfl hl (by decide) rfl (fun ls hl => ?_)
            refine lv_iinc (v := i4 + 1) (lv' := [(4, .int (i4 + 1)), (1, .int (i1 + 1)), (0, .ref (ad171 r0)), (2, .ref (ad171 r2)), (3, .ref (ad171 r3)), (5, .ref (ad171 r5)), (6, .int i6), (7, .int i7), (8, .ref (ad171 r8)), (9, .int i9), (10, .int i10)]) hx hb dX5_pass_446 hl (k := 4) rfl rfl (by decide) rfl (fun ls hl => ?_)
            refine lv_goto (tgt := 189) hx hb dX5_pass_449 (by decide) ?_
            exact (ih.2.2.2.1) ((NL + 1)) ad171 ((mR ((mN m1 NL 8 0)) r5 6 (some NL))) ((kc + 1)) ((ks + 0)) r0 (i1 + 1) r2 r3 (i4 + 1) i6 _ _ _ e174 e173 g169 g170 hO182 n176 n177 n178 h hP hD hS (lv_sub hl (l' := [(0, .ref (ad171 r0)), (1, .int (i1 + 1)), (2, .ref (ad171 r2)), (3, .ref (ad171 r3)), (4, .int (i4 + 1)), (6, .int i6)]) [2, 1, 3, 4, 0, 6] rfl)
        · rw [if_neg c168] at h
          refine lv_aload hx hb dX5_pass_387 (lv_at hl 8 rfl) ?_
          refine lv_iload hx hb dX5_pass_389 (lv_at hl 10 rfl) ?_
          obtain ⟨g184, h⟩ := vg_if h
          obtain ⟨g185, h⟩ := vg_if h
          obtain ⟨y186, g187, h⟩ := vg_bind h
          have n_y186 := hO _ _ _ g187
          refine wm_aald8 hx hb hK hP n_r8 g184 (i := i10) g185 dX5_pass_391 ?_
          refine W.eq (g2 := F0 m 392 ls [.ref (adL y186)]) (by show F0 m 392 ls (va_rf (Option.map adL (mr m1 r8 i10.toNatClampNeg)) :: _) = _; rw [g187]; rfl) ?_
          refine lv_astore (lv' := [(11, .ref (adL y186)), (0, .ref (adL r0)), (1, .int i1), (2, .ref (adL r2)), (3, .ref (adL r3)), (4, .int i4), (5, .ref (adL r5)), (6, .int i6), (7, .int i7), (8, .ref (adL r8)), (9, .int i9), (10, .int i10)]) hx hb dX5_pass_392 hl (by decide) rfl (fun ls hl => ?_)
          refine lv_aload_n hx hb dX5_pass_394 rfl (lv_at hl 1 rfl) ?_
          refine lv_iload hx hb dX5_pass_395 (lv_at hl 5 rfl) ?_
          refine lv_aload hx hb dX5_pass_397 (lv_at hl 0 rfl) ?_
          refine lv_iconst (v := 0) hx hb dX5_pass_399 (by decide) ?_
          obtain ⟨g188, h⟩ := vg_if h
          obtain ⟨g189, h⟩ := vg_if h
          refine va_iald (D := D) hx hb hK hP y186 0 (vW_k6 n_y186 g188) rfl (i := 0) g189 dX5_pass_400 ?_
          refine W.eq (g2 := F0 m 401 ls [.int (mi m1 y186 0), .int i4, .ref (adL r0)]) rfl ?_
          refine lv_iload hx hb dX5_pass_401 (lv_at hl 8 rfl) ?_
          refine lv_if_eq (tgt := 410) hx hb dX5_pass_403 (by decide) (fun c190 => ?_) (fun c190 => ?_)
          · rw [if_pos c190] at h
            refine lv_iconst (v := 1) hx hb dX5_pass_410 (by decide) ?_
            refine lv_aload hx hb dX5_pass_411 (lv_at hl 0 rfl) ?_
            refine lv_iconst (v := 1) hx hb dX5_pass_413 (by decide) ?_
            obtain ⟨g191, h⟩ := vg_if h
            refine va_iald (D := D) hx hb hK hP y186 0 (vW_k6 n_y186 g188) rfl (i := 1) g191 dX5_pass_414 ?_
            refine W.eq (g2 := F0 m 415 ls [.int (mi m1 y186 1), .int 1, .int (mi m1 y186 0), .int i4, .ref (adL r0)]) rfl ?_
            obtain ⟨g192, h⟩ := vg_if h
            obtain ⟨q193, g194, h⟩ := vg_bind h
            obtain ⟨g195, h⟩ := vg_if h
            obtain ⟨g196, h⟩ := vg_if h
            have hFc := vm_free hD hS hA
            refine va_callv (va_runV (As := [.int i4, .int (mi m1 y186 0), .int 1, .int (mi m1 y186 1)]) (rest := []) ⟨hx, hb, hml, hown, hts⟩ (cm_X5_send (m0 := m1) l D tc adL hO n_r0 g194) (cwV 4 hts gX5_pass_X5_send rfl rfl rfl (by decide +kernel) ⟨(Nat.le_of_ble_eq_true rfl), (Nat.le_of_ble_eq_true rfl)⟩) ⟨qW_blind, va_recv hK hP (ci := 5) (q0 := r0) rfl (vW_k5 n_r0 g192), qW_pre hP hD hK hZ⟩ rfl rfl hl.1 rfl (lv_room (Nat.le_of_ble_eq_true rfl)) dX5_pass_415 ⟨g195, g196⟩) hS (fun q9 _ h9 => hFc q9 h9) hFc (fun u t H1 locs ht hvm hw hB hz1 hk1 hS => ?_)
            obtain ⟨ad198, e199, e200, hO201, hP1, hK1, hD1⟩ := hB
            rw [ht] at hP1
            have hP := hP1
            have hD := hD1.weaken (fun _ q9 _ h9 => hFc q9.1 h9)
            generalize H1 = H at hP hS ⊢
            clear hk1 hz1 ht hvm
            have hl : lv_has ls 12 [(11, .ref (ad198 y186)), (0, .ref (ad198 r0)), (1, .int i1), (2, .ref (ad198 r2)), (3, .ref (ad198 r3)), (4, .int i4), (5, .ref (ad198 r5)), (6, .int i6), (7, .int i7), (8, .ref (ad198 r8)), (9, .int i9), (10, .int i10)] := by rw [e199 y186 n_y186, e199 r0 n_r0, e199 r2 n_r2, e199 r3 n_r3, e199 r5 n_r5, e199 r8 n_r8]; exact hl
            have e202 : ∀ k, k < N → ad198 k = ad k := fun k hk => (e199 k (Nat.lt_of_lt_of_le hk hNN)).trans (hE k hk)
            have e203 : N ≤ q193.1 := Nat.le_trans hNN e200
            have n204 : r0 < q193.1 := Nat.lt_of_lt_of_le n_r0 e200
            have n205 : r2 < q193.1 := Nat.lt_of_lt_of_le n_r2 e200
            have n206 : r3 < q193.1 := Nat.lt_of_lt_of_le n_r3 e200
            have n207 : r5 < q193.1 := Nat.lt_of_lt_of_le n_r5 e200
            have n208 : r8 < q193.1 := Nat.lt_of_lt_of_le n_r8 e200
            have n209 : y186 < q193.1 := Nat.lt_of_lt_of_le n_y186 e200
            have hP : va_P D vwCl (vW tc ad198 q193.1 q193.2) H := hP
            have hD : va_D A (vW tc ad198 q193.1 q193.2) := hD
            refine lv_iinc (v := i10 + 1) (lv' := [(10, .int (i10 + 1)), (11, .ref (ad198 y186)), (0, .ref (ad198 r0)), (1, .int i1), (2, .ref (ad198 r2)), (3, .ref (ad198 r3)), (4, .int i4), (5, .ref (ad198 r5)), (6, .int i6), (7, .int i7), (8, .ref (ad198 r8)), (9, .int i9)]) hx hb dX5_pass_418 hl (k := 11) rfl rfl (by decide) rfl (fun ls hl => ?_)
            refine lv_goto (tgt := 380) hx hb dX5_pass_421 (by decide) ?_
            exact (ih.2.2.2.2.2) q193.1 ad198 q193.2 ((kc + 2)) ((ks + 71)) r0 i1 r2 r3 i4 r5 i6 i7 r8 i9 (i10 + 1) _ _ _ e203 e202 g195 g196 hO201 n204 n205 n206 n207 n208 h hP hD hS (lv_sub hl (l' := [(0, .ref (ad198 r0)), (1, .int i1), (2, .ref (ad198 r2)), (3, .ref (ad198 r3)), (4, .int i4), (5, .ref (ad198 r5)), (6, .int i6), (7, .int i7), (8, .ref (ad198 r8)), (9, .int i9), (10, .int (i10 + 1))]) [2, 3, 4, 5, 6, 7, 8, 9, 10, 11, 0] rfl)
          · rw [if_neg c190] at h
            refine lv_iconst (v := 2) hx hb dX5_pass_406 (by decide) ?_
            refine lv_goto (tgt := 411) hx hb dX5_pass_407 (by decide) ?_
            refine lv_aload hx hb dX5_pass_411 (lv_at hl 0 rfl) ?_
            refine lv_iconst (v := 1) hx hb dX5_pass_413 (by decide) ?_
            obtain ⟨g210, h⟩ := vg_if h
            refine va_iald (D := D) hx hb hK hP y186 0 (vW_k6 n_y186 g188) rfl (i := 1) g210 dX5_pass_414 ?_
            refine W.eq (g2 := F0 m 415 ls [.int (mi m1 y186 1), .int 2, .int (mi m1 y186 0), .int i4, .ref (adL r0)]) rfl ?_
            obtain ⟨g211, h⟩ := vg_if h
            obtain ⟨q212, g213, h⟩ := vg_bind h
            obtain ⟨g214, h⟩ := vg_if h
            obtain ⟨g215, h⟩ := vg_if h
            have hFc := vm_free hD hS hA
            refine va_callv (va_runV (As := [.int i4, .int (mi m1 y186 0), .int 2, .int (mi m1 y186 1)]) (rest := []) ⟨hx, hb, hml, hown, hts⟩ (cm_X5_send (m0 := m1) l D tc adL hO n_r0 g213) (cwV 4 hts gX5_pass_X5_send rfl rfl rfl (by decide +kernel) ⟨(Nat.le_of_ble_eq_true rfl), (Nat.le_of_ble_eq_true rfl)⟩) ⟨qW_blind, va_recv hK hP (ci := 5) (q0 := r0) rfl (vW_k5 n_r0 g211), qW_pre hP hD hK hZ⟩ rfl rfl hl.1 rfl (lv_room (Nat.le_of_ble_eq_true rfl)) dX5_pass_415 ⟨g214, g215⟩) hS (fun q9 _ h9 => hFc q9 h9) hFc (fun u t H1 locs ht hvm hw hB hz1 hk1 hS => ?_)
            obtain ⟨ad217, e218, e219, hO220, hP1, hK1, hD1⟩ := hB
            rw [ht] at hP1
            have hP := hP1
            have hD := hD1.weaken (fun _ q9 _ h9 => hFc q9.1 h9)
            generalize H1 = H at hP hS ⊢
            clear hk1 hz1 ht hvm
            have hl : lv_has ls 12 [(11, .ref (ad217 y186)), (0, .ref (ad217 r0)), (1, .int i1), (2, .ref (ad217 r2)), (3, .ref (ad217 r3)), (4, .int i4), (5, .ref (ad217 r5)), (6, .int i6), (7, .int i7), (8, .ref (ad217 r8)), (9, .int i9), (10, .int i10)] := by rw [e218 y186 n_y186, e218 r0 n_r0, e218 r2 n_r2, e218 r3 n_r3, e218 r5 n_r5, e218 r8 n_r8]; exact hl
            have e221 : ∀ k, k < N → ad217 k = ad k := fun k hk => (e218 k (Nat.lt_of_lt_of_le hk hNN)).trans (hE k hk)
            have e222 : N ≤ q212.1 := Nat.le_trans hNN e219
            have n223 : r0 < q212.1 := Nat.lt_of_lt_of_le n_r0 e219
            have n224 : r2 < q212.1 := Nat.lt_of_lt_of_le n_r2 e219
            have n225 : r3 < q212.1 := Nat.lt_of_lt_of_le n_r3 e219
            have n226 : r5 < q212.1 := Nat.lt_of_lt_of_le n_r5 e219
            have n227 : r8 < q212.1 := Nat.lt_of_lt_of_le n_r8 e219
            have n228 : y186 < q212.1 := Nat.lt_of_lt_of_le n_y186 e219
            have hP : va_P D vwCl (vW tc ad217 q212.1 q212.2) H := hP
            have hD : va_D A (vW tc ad217 q212.1 q212.2) := hD
            refine lv_iinc (v := i10 + 1) (lv' := [(10, .int (i10 + 1)), (11, .ref (ad217 y186)), (0, .ref (ad217 r0)), (1, .int i1), (2, .ref (ad217 r2)), (3, .ref (ad217 r3)), (4, .int i4), (5, .ref (ad217 r5)), (6, .int i6), (7, .int i7), (8, .ref (ad217 r8)), (9, .int i9)]) hx hb dX5_pass_418 hl (k := 11) rfl rfl (by decide) rfl (fun ls hl => ?_)
            refine lv_goto (tgt := 380) hx hb dX5_pass_421 (by decide) ?_
            exact (ih.2.2.2.2.2) q212.1 ad217 q212.2 ((kc + 2)) ((ks + 71)) r0 i1 r2 r3 i4 r5 i6 i7 r8 i9 (i10 + 1) _ _ _ e222 e221 g214 g215 hO220 n223 n224 n225 n226 n227 h hP hD hS (lv_sub hl (l' := [(0, .ref (ad217 r0)), (1, .int i1), (2, .ref (ad217 r2)), (3, .ref (ad217 r3)), (4, .int i4), (5, .ref (ad217 r5)), (6, .int i6), (7, .int i7), (8, .ref (ad217 r8)), (9, .int i9), (10, .int (i10 + 1))]) [2, 3, 4, 5, 6, 7, 8, 9, 10, 11, 0] rfl)
  unfold f_X5_pass at h
  refine lv_iconst (v := 0) hx hb dX5_pass_0 (by decide) ?_
  refine lv_istore_n (lv' := [(1, .int 0), (0, .ref (ad p0))]) hx hb dX5_pass_1 rfl hl (by decide) rfl (fun ls hl => ?_)
  refine lv_aload_n hx hb dX5_pass_2 rfl (lv_at hl 1 rfl) ?_
  obtain ⟨g229, h⟩ := vg_if h
  obtain ⟨y230, g231, h⟩ := vg_bind h
  have n_y230 := hO _ _ _ g231
  refine va_get (D := D) (ci := 5) (v := .ref (ad y230)) (C := RX5) (T := TX5) (N := 4) hx hb hts in_X5_pass_X5 hown hK hP p0 (vW_k5 n_p0 g229) rfl 0 (by decide) (hts (.fieldLink RX5 9 "VaultDoorsLaw$Sim" "doors" "[LVaultDoorsLaw$Door;") (List.mem_of_getElem? (i := 1) rfl)) (fun _ h9 => h9) (by show some (va_rf (Option.map ad (mr m0 p0 0))) = _; rw [g231]; rfl) dX5_pass_3 ?_
  refine lv_astore_n (lv' := [(2, .ref (ad y230)), (1, .int 0), (0, .ref (ad p0))]) hx hb dX5_pass_6 rfl hl (by decide) rfl (fun ls hl => ?_)
  refine lv_aload_n hx hb dX5_pass_7 rfl (lv_at hl 0 rfl) ?_
  obtain ⟨g232, h⟩ := vg_if h
  refine va_alen (D := D) hx hb hK hP y230 3 (vW_k9 n_y230 g232) rfl rfl dX5_pass_8 ?_
  refine lv_istore_n (lv' := [(3, .int (Int32.ofNat (ml m0 y230))), (2, .ref (ad y230)), (1, .int 0), (0, .ref (ad p0))]) hx hb dX5_pass_9 rfl hl (by decide) rfl (fun ls hl => ?_)
  refine lv_iconst (v := 0) hx hb dX5_pass_10 (by decide) ?_
  refine lv_istore (lv' := [(4, .int 0), (3, .int (Int32.ofNat (ml m0 y230))), (2, .ref (ad y230)), (1, .int 0), (0, .ref (ad p0))]) hx hb dX5_pass_11 hl (by decide) rfl (fun ls hl => ?_)
  exact ((hL vF).1) N ad m0 0 0 p0 (0 : Int32) y230 (Int32.ofNat (ml m0 y230)) (0 : Int32) _ _ _ (Nat.le_refl _) (fun _ _ => rfl) (Nat.le_of_ble_eq_true rfl) (Nat.le_of_ble_eq_true rfl) hO n_p0 n_y230 h hP hD hS (lv_sub hl (l' := [(0, .ref (ad p0)), (1, .int 0), (2, .ref (ad y230)), (3, .int (Int32.ofNat (ml m0 y230))), (4, .int 0)]) [4, 3, 2, 1, 0] rfl)
