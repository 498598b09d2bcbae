noncomputable def fB_L_law_29 (L : Nat) (xs : Nat → Int32) (rec : Nat → Nat → vM → Nat → Nat → Nat → Nat → Int32 → Int32 → Int32 → Int32 → Int32 → Int32 → Nat → Int32 → Int32 → Int32 → Int32 → Nat → Int32 → Int32 → Int32 → Int32 → Int32 → Int32 → Int32 → Int32 → Int32 → Int32 → Int32 → Int32 → Option (Int32 × Nat × vM)) (N : Nat) (m : vM) (kc ks : Nat) (r1 : Nat) (r2 : Nat) (i3 : Int32) (i4 : Int32) (i5 : Int32) (i6 : Int32) (i7 : Int32) (i8 : Int32) (r9 : Nat) (i10 : Int32) (i11 : Int32) (i12 : Int32) (i13 : Int32) (r14 : Nat) (i15 : Int32) (i16 : Int32) (i17 : Int32) (i18 : Int32) (i19 : Int32) (i20 : Int32) (i21 : Int32) (i22 : Int32) (i23 : Int32) (i24 : Int32) (i25 : Int32) (i26 : Int32) : Option (Int32 × Nat × vM) :=
  if 50 ≤ i4 then (
    if mk m r2 = 5 then
    Option.bind (f_X5_isSame N m r2 r1) fun q3 =>
    if (kc + 11) ≤ 796163 then
    if (ks + 99) ≤ 6712978 then
    if q3.1 = 0 ∨ q3.1 = 1 then
    some (q3.1, q3.2.1, q3.2.2)
    else none
    else none
    else none
    else none
  ) else (
    if ¬ (16 : Int32) = 0 then
    Option.bind (f_L_cell L xs m ((i4 - i4 / 16 * 16))) fun q18 =>
    if ¬ (16 : Int32) = 0 then
    Option.bind (f_L_below m (((q18 >>> (((i4 / 16) * 3) &&& 31)) + (89 * i4))) i3) fun q22 =>
    Option.bind (f_L_below m ((((q18 >>> (((i4 / 16) * 3) &&& 31)) + (89 * i4)) >>> (8 &&& 31))) ((6 : Int32))) fun q25 =>
    if 3 ≤ q25 then (
      rec 90 N m kc ks r1 r2 i3 i4 ((q18 >>> (((i4 / 16) * 3) &&& 31)) + (89 * i4)) q22 (0 : Int32) 0 0 0 0 0 0 0 0 0 0 0 0 0 0 0 0 0 0 0
    ) else (
      rec 90 N m kc ks r1 r2 i3 i4 ((q18 >>> (((i4 / 16) * 3) &&& 31)) + (89 * i4)) q22 (1 : Int32) 0 0 0 0 0 0 0 0 0 0 0 0 0 0 0 0 0 0 0
    )
    else none
    else none
  )
noncomputable def fB_L_law_90 (L : Nat) (xs : Nat → Int32) (rec : Nat → Nat → vM → Nat → Nat → Nat → Nat → Int32 → Int32 → Int32 → Int32 → Int32 → Int32 → Nat → Int32 → Int32 → Int32 → Int32 → Nat → Int32 → Int32 → Int32 → Int32 → Int32 → Int32 → Int32 → Int32 → Int32 → Int32 → Int32 → Int32 → Option (Int32 × Nat × vM)) (N : Nat) (m : vM) (kc ks : Nat) (r1 : Nat) (r2 : Nat) (i3 : Int32) (i4 : Int32) (i5 : Int32) (i6 : Int32) (i7 : Int32) (i8 : Int32) (r9 : Nat) (i10 : Int32) (i11 : Int32) (i12 : Int32) (i13 : Int32) (r14 : Nat) (i15 : Int32) (i16 : Int32) (i17 : Int32) (i18 : Int32) (i19 : Int32) (i20 : Int32) (i21 : Int32) (i22 : Int32) (i23 : Int32) (i24 : Int32) (i25 : Int32) (i26 : Int32) : Option (Int32 × Nat × vM) :=
  if mk m r1 = 3 then
  Option.bind (f_X3_would m r1 i6 ((1 : Int32))) fun q2 =>
  Option.bind (f_L_act N q2.2 r1 r2 i5) fun q6 =>
  if (kc + 9) ≤ 796163 then
  if (ks + 284) ≤ 6712978 then
  if q6.1 = 0 then (
    some ((0 : Int32), q6.2.1, q6.2.2)
  ) else (
    if ¬ i3 < 0 then
    if i3.toNatClampNeg ≤ 1000 then
    if ((kc + 9) + (1 + i3.toNatClampNeg)) ≤ 796163 then
    if ((ks + 284) + (i3.toNatClampNeg + i3.toNatClampNeg * 9)) ≤ 6712978 then
    rec 123 ((q6.2.1 + (1 + i3.toNatClampNeg))) ((mQ q6.2.2 q6.2.1 i3.toNatClampNeg)) (((kc + 9) + (1 + i3.toNatClampNeg))) (((ks + 284) + (i3.toNatClampNeg + i3.toNatClampNeg * 9))) r1 r2 i3 i4 i5 i6 i7 q2.1 q6.2.1 (0 : Int32) 0 0 0 0 0 0 0 0 0 0 0 0 0 0 0 0
    else none
    else none
    else none
    else none
  )
  else none
  else none
  else none
noncomputable def fB_L_law_123 (L : Nat) (xs : Nat → Int32) (rec : Nat → Nat → vM → Nat → Nat → Nat → Nat → Int32 → Int32 → Int32 → Int32 → Int32 → Int32 → Nat → Int32 → Int32 → Int32 → Int32 → Nat → Int32 → Int32 → Int32 → Int32 → Int32 → Int32 → Int32 → Int32 → Int32 → Int32 → Int32 → Int32 → Option (Int32 × Nat × vM)) (N : Nat) (m : vM) (kc ks : Nat) (r1 : Nat) (r2 : Nat) (i3 : Int32) (i4 : Int32) (i5 : Int32) (i6 : Int32) (i7 : Int32) (i8 : Int32) (r9 : Nat) (i10 : Int32) (i11 : Int32) (i12 : Int32) (i13 : Int32) (r14 : Nat) (i15 : Int32) (i16 : Int32) (i17 : Int32) (i18 : Int32) (i19 : Int32) (i20 : Int32) (i21 : Int32) (i22 : Int32) (i23 : Int32) (i24 : Int32) (i25 : Int32) (i26 : Int32) : Option (Int32 × Nat × vM) :=
  if i3 ≤ i10 then (
    if mk m r1 = 3 then
    Option.bind (f_X3_count m r1 ((7 : Int32))) fun q3 =>
    Option.bind (f_X3_opens m r1 i6) fun q6 =>
    if mk q6.2 r1 = 3 then
    Option.bind (f_X3_pass q6.2 r1 ((1 : Int32))) fun q11 =>
    if mk q11.2 r2 = 5 then
    Option.bind (f_X5_pass N q11.2 r2) fun q16 =>
    if (kc + 2000) ≤ 796163 then
    if (ks + 70000) ≤ 6712978 then
    if i7 = 0 then (
      if q6.1 ≤ 1 then (
        if q6.1 = 1 then (
          if mk q16.2.2 r1 = 3 then
          Option.bind (f_X3_door q16.2.2 r1 i6 ((0 : Int32))) fun q34 =>
          if q34 = 2 then (
            Option.bind (f_X3_count q16.2.2 r1 ((7 : Int32))) fun q38 =>
            if q38 < q3 then (
              some ((0 : Int32), q16.2.1, q16.2.2)
            ) else (
              Option.bind (f_X3_count q16.2.2 r1 ((0 : Int32))) fun q42 =>
              if q42 = (i4 + 1) then (
                rec 272 q16.2.1 q16.2.2 ((kc + 2000)) ((ks + 70000)) r1 r2 i3 i4 i5 i6 i7 i8 r9 q3 q6.1 q11.1 0 0 0 0 0 0 0 0 0 0 0 0 0 0
              ) else (
                some ((0 : Int32), q16.2.1, q16.2.2)
              )
            )
          ) else (
            some ((0 : Int32), q16.2.1, q16.2.2)
          )
          else none
        ) else (
          if mk q16.2.2 r1 = 3 then
          Option.bind (f_X3_count q16.2.2 r1 ((7 : Int32))) fun q47 =>
          if q47 < q3 then (
            some ((0 : Int32), q16.2.1, q16.2.2)
          ) else (
            Option.bind (f_X3_count q16.2.2 r1 ((0 : Int32))) fun q51 =>
            if q51 = (i4 + 1) then (
              rec 272 q16.2.1 q16.2.2 ((kc + 2000)) ((ks + 70000)) r1 r2 i3 i4 i5 i6 i7 i8 r9 q3 q6.1 q11.1 0 0 0 0 0 0 0 0 0 0 0 0 0 0
            ) else (
              some ((0 : Int32), q16.2.1, q16.2.2)
            )
          )
          else none
        )
      ) else (
        if mk q16.2.2 r1 = 3 then
        Option.bind (f_X3_opens q16.2.2 r1 i6) fun q56 =>
        if q56.1 = (q6.1 - 1) then (
          if q6.1 = 1 then (
            if mk q56.2 r1 = 3 then
            Option.bind (f_X3_door q56.2 r1 i6 ((0 : Int32))) fun q63 =>
            if q63 = 2 then (
              Option.bind (f_X3_count q56.2 r1 ((7 : Int32))) fun q67 =>
              if q67 < q3 then (
                some ((0 : Int32), q16.2.1, q56.2)
              ) else (
                Option.bind (f_X3_count q56.2 r1 ((0 : Int32))) fun q71 =>
                if q71 = (i4 + 1) then (
                  rec 272 q16.2.1 q56.2 ((kc + 2000)) ((ks + 70000)) r1 r2 i3 i4 i5 i6 i7 i8 r9 q3 q6.1 q11.1 0 0 0 0 0 0 0 0 0 0 0 0 0 0
                ) else (
                  some ((0 : Int32), q16.2.1, q56.2)
                )
              )
            ) else (
              some ((0 : Int32), q16.2.1, q56.2)
            )
            else none
          ) else (
            if mk q56.2 r1 = 3 then
            Option.bind (f_X3_count q56.2 r1 ((7 : Int32))) fun q76 =>
            if q76 < q3 then (
              some ((0 : Int32), q16.2.1, q56.2)
            ) else (
              Option.bind (f_X3_count q56.2 r1 ((0 : Int32))) fun q80 =>
              if q80 = (i4 + 1) then (
                rec 272 q16.2.1 q56.2 ((kc + 2000)) ((ks + 70000)) r1 r2 i3 i4 i5 i6 i7 i8 r9 q3 q6.1 q11.1 0 0 0 0 0 0 0 0 0 0 0 0 0 0
              ) else (
                some ((0 : Int32), q16.2.1, q56.2)
              )
            )
            else none
          )
        ) else (
          some ((0 : Int32), q16.2.1, q56.2)
        )
        else none
      )
    ) else (
      if mk q16.2.2 r1 = 3 then
      Option.bind (f_X3_count q16.2.2 r1 ((8 : Int32))) fun q85 =>
      if q85 = i8 then (
        if q6.1 ≤ 1 then (
          if q6.1 = 1 then (
            Option.bind (f_X3_door q16.2.2 r1 i6 ((0 : Int32))) fun q91 =>
            if q91 = 2 then (
              Option.bind (f_X3_count q16.2.2 r1 ((7 : Int32))) fun q95 =>
              if q95 < q3 then (
                some ((0 : Int32), q16.2.1, q16.2.2)
              ) else (
                Option.bind (f_X3_count q16.2.2 r1 ((0 : Int32))) fun q99 =>
                if q99 = (i4 + 1) then (
                  rec 272 q16.2.1 q16.2.2 ((kc + 2000)) ((ks + 70000)) r1 r2 i3 i4 i5 i6 i7 i8 r9 q3 q6.1 q11.1 0 0 0 0 0 0 0 0 0 0 0 0 0 0
                ) else (
                  some ((0 : Int32), q16.2.1, q16.2.2)
                )
              )
            ) else (
              some ((0 : Int32), q16.2.1, q16.2.2)
            )
          ) else (
            Option.bind (f_X3_count q16.2.2 r1 ((7 : Int32))) fun q103 =>
            if q103 < q3 then (
              some ((0 : Int32), q16.2.1, q16.2.2)
            ) else (
              Option.bind (f_X3_count q16.2.2 r1 ((0 : Int32))) fun q107 =>
              if q107 = (i4 + 1) then (
                rec 272 q16.2.1 q16.2.2 ((kc + 2000)) ((ks + 70000)) r1 r2 i3 i4 i5 i6 i7 i8 r9 q3 q6.1 q11.1 0 0 0 0 0 0 0 0 0 0 0 0 0 0
              ) else (
                some ((0 : Int32), q16.2.1, q16.2.2)
              )
            )
          )
        ) else (
          Option.bind (f_X3_opens q16.2.2 r1 i6) fun q111 =>
          if q111.1 = (q6.1 - 1) then (
            if q6.1 = 1 then (
              if mk q111.2 r1 = 3 then
              Option.bind (f_X3_door q111.2 r1 i6 ((0 : Int32))) fun q118 =>
              if q118 = 2 then (
                Option.bind (f_X3_count q111.2 r1 ((7 : Int32))) fun q122 =>
                if q122 < q3 then (
                  some ((0 : Int32), q16.2.1, q111.2)
                ) else (
                  Option.bind (f_X3_count q111.2 r1 ((0 : Int32))) fun q126 =>
                  if q126 = (i4 + 1) then (
                    rec 272 q16.2.1 q111.2 ((kc + 2000)) ((ks + 70000)) r1 r2 i3 i4 i5 i6 i7 i8 r9 q3 q6.1 q11.1 0 0 0 0 0 0 0 0 0 0 0 0 0 0
                  ) else (
                    some ((0 : Int32), q16.2.1, q111.2)
                  )
                )
              ) else (
                some ((0 : Int32), q16.2.1, q111.2)
              )
              else none
            ) else (
              if mk q111.2 r1 = 3 then
              Option.bind (f_X3_count q111.2 r1 ((7 : Int32))) fun q131 =>
              if q131 < q3 then (
                some ((0 : Int32), q16.2.1, q111.2)
              ) else (
                Option.bind (f_X3_count q111.2 r1 ((0 : Int32))) fun q135 =>
                if q135 = (i4 + 1) then (
                  rec 272 q16.2.1 q111.2 ((kc + 2000)) ((ks + 70000)) r1 r2 i3 i4 i5 i6 i7 i8 r9 q3 q6.1 q11.1 0 0 0 0 0 0 0 0 0 0 0 0 0 0
                ) else (
                  some ((0 : Int32), q16.2.1, q111.2)
                )
              )
              else none
            )
          ) else (
            some ((0 : Int32), q16.2.1, q111.2)
          )
        )
      ) else (
        some ((0 : Int32), q16.2.1, q16.2.2)
      )
      else none
    )
    else none
    else none
    else none
    else none
    else none
  ) else (
    rec 132 N m kc ks r1 r2 i3 i4 i5 i6 i7 i8 r9 i10 (0 : Int32) 0 0 0 0 0 0 0 0 0 0 0 0 0 0 0
  )
noncomputable def fB_L_law_132 (L : Nat) (xs : Nat → Int32) (rec : Nat → Nat → vM → Nat → Nat → Nat → Nat → Int32 → Int32 → Int32 → Int32 → Int32 → Int32 → Nat → Int32 → Int32 → Int32 → Int32 → Nat → Int32 → Int32 → Int32 → Int32 → Int32 → Int32 → Int32 → Int32 → Int32 → Int32 → Int32 → Int32 → Option (Int32 × Nat × vM)) (N : Nat) (m : vM) (kc ks : Nat) (r1 : Nat) (r2 : Nat) (i3 : Int32) (i4 : Int32) (i5 : Int32) (i6 : Int32) (i7 : Int32) (i8 : Int32) (r9 : Nat) (i10 : Int32) (i11 : Int32) (i12 : Int32) (i13 : Int32) (r14 : Nat) (i15 : Int32) (i16 : Int32) (i17 : Int32) (i18 : Int32) (i19 : Int32) (i20 : Int32) (i21 : Int32) (i22 : Int32) (i23 : Int32) (i24 : Int32) (i25 : Int32) (i26 : Int32) : Option (Int32 × Nat × vM) :=
  if 9 ≤ i11 then (
    rec 123 N m kc ks r1 r2 i3 i4 i5 i6 i7 i8 r9 (i10 + 1) 0 0 0 0 0 0 0 0 0 0 0 0 0 0 0 0
  ) else (
    if mk m r9 = 8 then
    if vin i10 (ml m r9) then
    Option.bind (mr m r9 i10.toNatClampNeg) fun y4 =>
    if mk m r1 = 3 then
    Option.bind (f_X3_door m r1 i10 i11) fun q7 =>
    if mk m y4 = 6 then
    if vin i11 (ml m y4) then
    rec 132 N ((mI m y4 i11.toNatClampNeg q7)) kc ks r1 r2 i3 i4 i5 i6 i7 i8 r9 i10 (i11 + 1) 0 0 0 0 0 0 0 0 0 0 0 0 0 0 0
    else none
    else none
    else none
    else none
    else none
  )
noncomputable def fB_L_law_272 (L : Nat) (xs : Nat → Int32) (rec : Nat → Nat → vM → Nat → Nat → Nat → Nat → Int32 → Int32 → Int32 → Int32 → Int32 → Int32 → Nat → Int32 → Int32 → Int32 → Int32 → Nat → Int32 → Int32 → Int32 → Int32 → Int32 → Int32 → Int32 → Int32 → Int32 → Int32 → Int32 → Int32 → Option (Int32 × Nat × vM)) (N : Nat) (m : vM) (kc ks : Nat) (r1 : Nat) (r2 : Nat) (i3 : Int32) (i4 : Int32) (i5 : Int32) (i6 : Int32) (i7 : Int32) (i8 : Int32) (r9 : Nat) (i10 : Int32) (i11 : Int32) (i12 : Int32) (i13 : Int32) (r14 : Nat) (i15 : Int32) (i16 : Int32) (i17 : Int32) (i18 : Int32) (i19 : Int32) (i20 : Int32) (i21 : Int32) (i22 : Int32) (i23 : Int32) (i24 : Int32) (i25 : Int32) (i26 : Int32) : Option (Int32 × Nat × vM) :=
  if (kc + 1) ≤ 796163 then
  if (ks + 4) ≤ 6712978 then
  rec 286 ((N + 1)) ((mN m N 6 4)) ((kc + 1)) ((ks + 4)) r1 r2 i3 i4 i5 i6 i7 i8 r9 i10 i11 i12 (0 : Int32) N (0 : Int32) (0 : Int32) 0 0 0 0 0 0 0 0 0 0
  else none
  else none
noncomputable def fB_L_law_286 (L : Nat) (xs : Nat → Int32) (rec : Nat → Nat → vM → Nat → Nat → Nat → Nat → Int32 → Int32 → Int32 → Int32 → Int32 → Int32 → Nat → Int32 → Int32 → Int32 → Int32 → Nat → Int32 → Int32 → Int32 → Int32 → Int32 → Int32 → Int32 → Int32 → Int32 → Int32 → Int32 → Int32 → Option (Int32 × Nat × vM)) (N : Nat) (m : vM) (kc ks : Nat) (r1 : Nat) (r2 : Nat) (i3 : Int32) (i4 : Int32) (i5 : Int32) (i6 : Int32) (i7 : Int32) (i8 : Int32) (r9 : Nat) (i10 : Int32) (i11 : Int32) (i12 : Int32) (i13 : Int32) (r14 : Nat) (i15 : Int32) (i16 : Int32) (i17 : Int32) (i18 : Int32) (i19 : Int32) (i20 : Int32) (i21 : Int32) (i22 : Int32) (i23 : Int32) (i24 : Int32) (i25 : Int32) (i26 : Int32) : Option (Int32 × Nat × vM) :=
  if i3 ≤ i16 then (
    if i13 = i12 then (
      if mk m r1 = 3 then
      Option.bind (f_X3_count m r1 ((8 : Int32))) fun q4 =>
      if q4 = i15 then (
        Option.bind (f_X3_count m r1 ((6 : Int32))) fun q8 =>
        if q8 ≤ 60 then (
          rec 847 N m kc ks r1 r2 i3 i4 i5 i6 i7 i8 r9 i10 i11 i12 i13 r14 i15 i16 0 0 0 0 0 0 0 0 0 0
        ) else (
          some ((0 : Int32), N, m)
        )
      ) else (
        some ((0 : Int32), N, m)
      )
      else none
    ) else (
      some ((0 : Int32), N, m)
    )
  ) else (
    if mk m r1 = 3 then
    Option.bind (f_X3_door m r1 i16 ((0 : Int32))) fun q13 =>
    Option.bind (f_X3_door m r1 i16 ((1 : Int32))) fun q16 =>
    if mk m r9 = 8 then
    if vin i16 (ml m r9) then
    Option.bind (mr m r9 i16.toNatClampNeg) fun y21 =>
    if mk m y21 = 6 then
    if vin (0 : Int32) (ml m y21) then
    Option.bind (f_X3_door m r1 i16 ((7 : Int32))) fun q25 =>
    if vin i16 (ml m r9) then
    Option.bind (mr m r9 i16.toNatClampNeg) fun y29 =>
    if mk m y29 = 6 then
    if vin (7 : Int32) (ml m y29) then
    Option.bind (f_X3_door m r1 i16 ((8 : Int32))) fun q33 =>
    if vin i16 (ml m r9) then
    Option.bind (mr m r9 i16.toNatClampNeg) fun y37 =>
    if mk m y37 = 6 then
    if vin (8 : Int32) (ml m y37) then
    if mk m r14 = 6 then
    if vin q13 (ml m r14) then
    if vin q13 (ml m r14) then
    if q13 = 2 then (
      rec 392 N ((mI m r14 q13.toNatClampNeg ((mi m r14 q13.toNatClampNeg) + 1))) kc ks r1 r2 i3 i4 i5 i6 i7 i8 r9 i10 i11 i12 (i13 + (q25 - (mi m y29 7))) r14 (i15 + (1 <<< (i16 &&& 31))) i16 q13 q16 (mi m y21 0) (q25 - (mi m y29 7)) (q33 - (mi m y37 8)) 0 0 0 0 0
    ) else (
      rec 392 N ((mI m r14 q13.toNatClampNeg ((mi m r14 q13.toNatClampNeg) + 1))) kc ks r1 r2 i3 i4 i5 i6 i7 i8 r9 i10 i11 i12 (i13 + (q25 - (mi m y29 7))) r14 (i15 + 0) i16 q13 q16 (mi m y21 0) (q25 - (mi m y29 7)) (q33 - (mi m y37 8)) 0 0 0 0 0
    )
    else none
    else none
    else none
    else none
    else none
    else none
    else none
    else none
    else none
    else none
    else none
    else none
    else none
    else none
  )
noncomputable def fB_L_law_392 (L : Nat) (xs : Nat → Int32) (rec : Nat → Nat → vM → Nat → Nat → Nat → Nat → Int32 → Int32 → Int32 → Int32 → Int32 → Int32 → Nat → Int32 → Int32 → Int32 → Int32 → Nat → Int32 → Int32 → Int32 → Int32 → Int32 → Int32 → Int32 → Int32 → Int32 → Int32 → Int32 → Int32 → Option (Int32 × Nat × vM)) (N : Nat) (m : vM) (kc ks : Nat) (r1 : Nat) (r2 : Nat) (i3 : Int32) (i4 : Int32) (i5 : Int32) (i6 : Int32) (i7 : Int32) (i8 : Int32) (r9 : Nat) (i10 : Int32) (i11 : Int32) (i12 : Int32) (i13 : Int32) (r14 : Nat) (i15 : Int32) (i16 : Int32) (i17 : Int32) (i18 : Int32) (i19 : Int32) (i20 : Int32) (i21 : Int32) (i22 : Int32) (i23 : Int32) (i24 : Int32) (i25 : Int32) (i26 : Int32) : Option (Int32 × Nat × vM) :=
  if i20 < 0 then (
    some ((0 : Int32), N, m)
  ) else (
    if i21 < 0 then (
      some ((0 : Int32), N, m)
    ) else (
      if 1 < (i20 + i21) then (
        some ((0 : Int32), N, m)
      ) else (
        if i20 = 1 then (
          if i17 = 2 then (
            if i18 = 12 then (
              if i21 = 1 then (
                if i17 = 3 then (
                  if i18 = 4 then (
                    if i17 = 0 then (
                      if i18 = 0 then (
                        rec 473 N m kc ks r1 r2 i3 i4 i5 i6 i7 i8 r9 i10 i11 i12 i13 r14 i15 i16 i17 i18 i19 i20 i21 0 0 0 0 0
                      ) else (
                        some ((0 : Int32), N, m)
                      )
                    ) else (
                      if i18 = 0 then (
                        some ((0 : Int32), N, m)
                      ) else (
                        rec 473 N m kc ks r1 r2 i3 i4 i5 i6 i7 i8 r9 i10 i11 i12 i13 r14 i15 i16 i17 i18 i19 i20 i21 0 0 0 0 0
                      )
                    )
                  ) else (
                    some ((0 : Int32), N, m)
                  )
                ) else (
                  some ((0 : Int32), N, m)
                )
              ) else (
                if i17 = 0 then (
                  if i18 = 0 then (
                    rec 473 N m kc ks r1 r2 i3 i4 i5 i6 i7 i8 r9 i10 i11 i12 i13 r14 i15 i16 i17 i18 i19 i20 i21 0 0 0 0 0
                  ) else (
                    some ((0 : Int32), N, m)
                  )
                ) else (
                  if i18 = 0 then (
                    some ((0 : Int32), N, m)
                  ) else (
                    rec 473 N m kc ks r1 r2 i3 i4 i5 i6 i7 i8 r9 i10 i11 i12 i13 r14 i15 i16 i17 i18 i19 i20 i21 0 0 0 0 0
                  )
                )
              )
            ) else (
              some ((0 : Int32), N, m)
            )
          ) else (
            some ((0 : Int32), N, m)
          )
        ) else (
          if i21 = 1 then (
            if i17 = 3 then (
              if i18 = 4 then (
                if i17 = 0 then (
                  if i18 = 0 then (
                    rec 473 N m kc ks r1 r2 i3 i4 i5 i6 i7 i8 r9 i10 i11 i12 i13 r14 i15 i16 i17 i18 i19 i20 i21 0 0 0 0 0
                  ) else (
                    some ((0 : Int32), N, m)
                  )
                ) else (
                  if i18 = 0 then (
                    some ((0 : Int32), N, m)
                  ) else (
                    rec 473 N m kc ks r1 r2 i3 i4 i5 i6 i7 i8 r9 i10 i11 i12 i13 r14 i15 i16 i17 i18 i19 i20 i21 0 0 0 0 0
                  )
                )
              ) else (
                some ((0 : Int32), N, m)
              )
            ) else (
              some ((0 : Int32), N, m)
            )
          ) else (
            if i17 = 0 then (
              if i18 = 0 then (
                rec 473 N m kc ks r1 r2 i3 i4 i5 i6 i7 i8 r9 i10 i11 i12 i13 r14 i15 i16 i17 i18 i19 i20 i21 0 0 0 0 0
              ) else (
                some ((0 : Int32), N, m)
              )
            ) else (
              if i18 = 0 then (
                some ((0 : Int32), N, m)
              ) else (
                rec 473 N m kc ks r1 r2 i3 i4 i5 i6 i7 i8 r9 i10 i11 i12 i13 r14 i15 i16 i17 i18 i19 i20 i21 0 0 0 0 0
              )
            )
          )
        )
      )
    )
  )
noncomputable def fB_L_law_473 (L : Nat) (xs : Nat → Int32) (rec : Nat → Nat → vM → Nat → Nat → Nat → Nat → Int32 → Int32 → Int32 → Int32 → Int32 → Int32 → Nat → Int32 → Int32 → Int32 → Int32 → Nat → Int32 → Int32 → Int32 → Int32 → Int32 → Int32 → Int32 → Int32 → Int32 → Int32 → Int32 → Int32 → Option (Int32 × Nat × vM)) (N : Nat) (m : vM) (kc ks : Nat) (r1 : Nat) (r2 : Nat) (i3 : Int32) (i4 : Int32) (i5 : Int32) (i6 : Int32) (i7 : Int32) (i8 : Int32) (r9 : Nat) (i10 : Int32) (i11 : Int32) (i12 : Int32) (i13 : Int32) (r14 : Nat) (i15 : Int32) (i16 : Int32) (i17 : Int32) (i18 : Int32) (i19 : Int32) (i20 : Int32) (i21 : Int32) (i22 : Int32) (i23 : Int32) (i24 : Int32) (i25 : Int32) (i26 : Int32) : Option (Int32 × Nat × vM) :=
  if i19 ≤ 1 then (
    rec 513 N m kc ks r1 r2 i3 i4 i5 i6 i7 i8 r9 i10 i11 i12 i13 r14 i15 i16 i17 i18 i19 i20 i21 0 0 0 0 0
  ) else (
    if mk m r9 = 8 then
    if vin i16 (ml m r9) then
    Option.bind (mr m r9 i16.toNatClampNeg) fun y4 =>
    if mk m y4 = 6 then
    if vin (1 : Int32) (ml m y4) then
    if (mi m y4 1) ≤ 1 then (
      rec 513 N m kc ks r1 r2 i3 i4 i5 i6 i7 i8 r9 i10 i11 i12 i13 r14 i15 i16 i17 i18 i19 i20 i21 0 0 0 0 0
    ) else (
      if i17 = i19 then (
        if vin i16 (ml m r9) then
        Option.bind (mr m r9 i16.toNatClampNeg) fun y11 =>
        if mk m y11 = 6 then
        if vin (1 : Int32) (ml m y11) then
        if i18 = ((mi m y11 1) - 1) then (
          rec 513 N m kc ks r1 r2 i3 i4 i5 i6 i7 i8 r9 i10 i11 i12 i13 r14 i15 i16 i17 i18 i19 i20 i21 0 0 0 0 0
        ) else (
          some ((0 : Int32), N, m)
        )
        else none
        else none
        else none
      ) else (
        some ((0 : Int32), N, m)
      )
    )
    else none
    else none
    else none
    else none
  )
noncomputable def fB_L_law_513 (L : Nat) (xs : Nat → Int32) (rec : Nat → Nat → vM → Nat → Nat → Nat → Nat → Int32 → Int32 → Int32 → Int32 → Int32 → Int32 → Nat → Int32 → Int32 → Int32 → Int32 → Nat → Int32 → Int32 → Int32 → Int32 → Int32 → Int32 → Int32 → Int32 → Int32 → Int32 → Int32 → Int32 → Option (Int32 × Nat × vM)) (N : Nat) (m : vM) (kc ks : Nat) (r1 : Nat) (r2 : Nat) (i3 : Int32) (i4 : Int32) (i5 : Int32) (i6 : Int32) (i7 : Int32) (i8 : Int32) (r9 : Nat) (i10 : Int32) (i11 : Int32) (i12 : Int32) (i13 : Int32) (r14 : Nat) (i15 : Int32) (i16 : Int32) (i17 : Int32) (i18 : Int32) (i19 : Int32) (i20 : Int32) (i21 : Int32) (i22 : Int32) (i23 : Int32) (i24 : Int32) (i25 : Int32) (i26 : Int32) : Option (Int32 × Nat × vM) :=
  if i19 = 1 then (
    if i17 = 0 then (
      some ((0 : Int32), N, m)
    ) else (
      if i17 = 1 then (
        if mk m r9 = 8 then
        if vin i16 (ml m r9) then
        Option.bind (mr m r9 i16.toNatClampNeg) fun y6 =>
        if mk m y6 = 6 then
        if vin (1 : Int32) (ml m y6) then
        if i18 = ((mi m y6 1) - 1) then (
          if i17 ≤ 1 then (
            rec 561 N m kc ks r1 r2 i3 i4 i5 i6 i7 i8 r9 i10 i11 i12 i13 r14 i15 i16 i17 i18 i19 i20 i21 0 0 0 0 0
          ) else (
            if (i20 + i21) = 1 then (
              rec 561 N m kc ks r1 r2 i3 i4 i5 i6 i7 i8 r9 i10 i11 i12 i13 r14 i15 i16 i17 i18 i19 i20 i21 0 0 0 0 0
            ) else (
              some ((0 : Int32), N, m)
            )
          )
        ) else (
          some ((0 : Int32), N, m)
        )
        else none
        else none
        else none
        else none
      ) else (
        if i17 ≤ 1 then (
          rec 561 N m kc ks r1 r2 i3 i4 i5 i6 i7 i8 r9 i10 i11 i12 i13 r14 i15 i16 i17 i18 i19 i20 i21 0 0 0 0 0
        ) else (
          if (i20 + i21) = 1 then (
            rec 561 N m kc ks r1 r2 i3 i4 i5 i6 i7 i8 r9 i10 i11 i12 i13 r14 i15 i16 i17 i18 i19 i20 i21 0 0 0 0 0
          ) else (
            some ((0 : Int32), N, m)
          )
        )
      )
    )
  ) else (
    rec 561 N m kc ks r1 r2 i3 i4 i5 i6 i7 i8 r9 i10 i11 i12 i13 r14 i15 i16 i17 i18 i19 i20 i21 0 0 0 0 0
  )
noncomputable def fB_L_law_561 (L : Nat) (xs : Nat → Int32) (rec : Nat → Nat → vM → Nat → Nat → Nat → Nat → Int32 → Int32 → Int32 → Int32 → Int32 → Int32 → Nat → Int32 → Int32 → Int32 → Int32 → Nat → Int32 → Int32 → Int32 → Int32 → Int32 → Int32 → Int32 → Int32 → Int32 → Int32 → Int32 → Int32 → Option (Int32 × Nat × vM)) (N : Nat) (m : vM) (kc ks : Nat) (r1 : Nat) (r2 : Nat) (i3 : Int32) (i4 : Int32) (i5 : Int32) (i6 : Int32) (i7 : Int32) (i8 : Int32) (r9 : Nat) (i10 : Int32) (i11 : Int32) (i12 : Int32) (i13 : Int32) (r14 : Nat) (i15 : Int32) (i16 : Int32) (i17 : Int32) (i18 : Int32) (i19 : Int32) (i20 : Int32) (i21 : Int32) (i22 : Int32) (i23 : Int32) (i24 : Int32) (i25 : Int32) (i26 : Int32) : Option (Int32 × Nat × vM) :=
  if i19 = 0 then (
    if i17 ≤ 1 then (
      rec 583 N m kc ks r1 r2 i3 i4 i5 i6 i7 i8 r9 i10 i11 i12 i13 r14 i15 i16 i17 i18 i19 i20 i21 0 0 0 0 0
    ) else (
      if (i20 + i21) = 1 then (
        rec 583 N m kc ks r1 r2 i3 i4 i5 i6 i7 i8 r9 i10 i11 i12 i13 r14 i15 i16 i17 i18 i19 i20 i21 0 0 0 0 0
      ) else (
        some ((0 : Int32), N, m)
      )
    )
  ) else (
    rec 583 N m kc ks r1 r2 i3 i4 i5 i6 i7 i8 r9 i10 i11 i12 i13 r14 i15 i16 i17 i18 i19 i20 i21 0 0 0 0 0
  )
noncomputable def fB_L_law_583 (L : Nat) (xs : Nat → Int32) (rec : Nat → Nat → vM → Nat → Nat → Nat → Nat → Int32 → Int32 → Int32 → Int32 → Int32 → Int32 → Nat → Int32 → Int32 → Int32 → Int32 → Nat → Int32 → Int32 → Int32 → Int32 → Int32 → Int32 → Int32 → Int32 → Int32 → Int32 → Int32 → Int32 → Option (Int32 × Nat × vM)) (N : Nat) (m : vM) (kc ks : Nat) (r1 : Nat) (r2 : Nat) (i3 : Int32) (i4 : Int32) (i5 : Int32) (i6 : Int32) (i7 : Int32) (i8 : Int32) (r9 : Nat) (i10 : Int32) (i11 : Int32) (i12 : Int32) (i13 : Int32) (r14 : Nat) (i15 : Int32) (i16 : Int32) (i17 : Int32) (i18 : Int32) (i19 : Int32) (i20 : Int32) (i21 : Int32) (i22 : Int32) (i23 : Int32) (i24 : Int32) (i25 : Int32) (i26 : Int32) : Option (Int32 × Nat × vM) :=
  if i19 = 1 then (
    if mk m r9 = 8 then
    if vin i16 (ml m r9) then
    Option.bind (mr m r9 i16.toNatClampNeg) fun y4 =>
    if mk m y4 = 6 then
    if vin (1 : Int32) (ml m y4) then
    if (mi m y4 1) = 1 then (
      if i17 = 1 then (
        some ((0 : Int32), N, m)
      ) else (
        rec 608 N m kc ks r1 r2 i3 i4 i5 i6 i7 i8 r9 i10 i11 i12 i13 r14 i15 i16 i17 i18 i19 i20 i21 0 0 0 0 0
      )
    ) else (
      rec 608 N m kc ks r1 r2 i3 i4 i5 i6 i7 i8 r9 i10 i11 i12 i13 r14 i15 i16 i17 i18 i19 i20 i21 0 0 0 0 0
    )
    else none
    else none
    else none
    else none
  ) else (
    rec 608 N m kc ks r1 r2 i3 i4 i5 i6 i7 i8 r9 i10 i11 i12 i13 r14 i15 i16 i17 i18 i19 i20 i21 0 0 0 0 0
  )
noncomputable def fB_L_law_608 (L : Nat) (xs : Nat → Int32) (rec : Nat → Nat → vM → Nat → Nat → Nat → Nat → Int32 → Int32 → Int32 → Int32 → Int32 → Int32 → Nat → Int32 → Int32 → Int32 → Int32 → Nat → Int32 → Int32 → Int32 → Int32 → Int32 → Int32 → Int32 → Int32 → Int32 → Int32 → Int32 → Int32 → Option (Int32 × Nat × vM)) (N : Nat) (m : vM) (kc ks : Nat) (r1 : Nat) (r2 : Nat) (i3 : Int32) (i4 : Int32) (i5 : Int32) (i6 : Int32) (i7 : Int32) (i8 : Int32) (r9 : Nat) (i10 : Int32) (i11 : Int32) (i12 : Int32) (i13 : Int32) (r14 : Nat) (i15 : Int32) (i16 : Int32) (i17 : Int32) (i18 : Int32) (i19 : Int32) (i20 : Int32) (i21 : Int32) (i22 : Int32) (i23 : Int32) (i24 : Int32) (i25 : Int32) (i26 : Int32) : Option (Int32 × Nat × vM) :=
  if mk m r1 = 3 then
  Option.bind (f_X3_door m r1 i16 ((3 : Int32))) fun q2 =>
  Option.bind (f_X3_door m r1 i16 ((4 : Int32))) fun q5 =>
  Option.bind (f_X3_door m r1 i16 ((5 : Int32))) fun q8 =>
  if q5 < 0 then (
    some ((0 : Int32), N, m)
  ) else (
    if q2 < q5 then (
      some ((0 : Int32), N, m)
    ) else (
      if q8 < 0 then (
        some ((0 : Int32), N, m)
      ) else (
        if q5 < q8 then (
          some ((0 : Int32), N, m)
        ) else (
          if i17 = 1 then (
            if i17 = 1 then (
              if q5 = q2 then (
                some ((0 : Int32), N, m)
              ) else (
                rec 696 N m kc ks r1 r2 i3 i4 i5 i6 i7 i8 r9 i10 i11 i12 i13 r14 i15 i16 i17 i18 i19 i20 i21 q2 q5 q8 0 0
              )
            ) else (
              rec 696 N m kc ks r1 r2 i3 i4 i5 i6 i7 i8 r9 i10 i11 i12 i13 r14 i15 i16 i17 i18 i19 i20 i21 q2 q5 q8 0 0
            )
          ) else (
            if q5 = 0 then (
              Option.bind (f_X3_door m r1 i16 ((6 : Int32))) fun q19 =>
              if q19 = 0 then (
                if i17 = 1 then (
                  if q5 = q2 then (
                    some ((0 : Int32), N, m)
                  ) else (
                    rec 696 N m kc ks r1 r2 i3 i4 i5 i6 i7 i8 r9 i10 i11 i12 i13 r14 i15 i16 i17 i18 i19 i20 i21 q2 q5 q8 0 0
                  )
                ) else (
                  rec 696 N m kc ks r1 r2 i3 i4 i5 i6 i7 i8 r9 i10 i11 i12 i13 r14 i15 i16 i17 i18 i19 i20 i21 q2 q5 q8 0 0
                )
              ) else (
                some ((0 : Int32), N, m)
              )
            ) else (
              some ((0 : Int32), N, m)
            )
          )
        )
      )
    )
  )
  else none
noncomputable def fB_L_law_696 (L : Nat) (xs : Nat → Int32) (rec : Nat → Nat → vM → Nat → Nat → Nat → Nat → Int32 → Int32 → Int32 → Int32 → Int32 → Int32 → Nat → Int32 → Int32 → Int32 → Int32 → Nat → Int32 → Int32 → Int32 → Int32 → Int32 → Int32 → Int32 → Int32 → Int32 → Int32 → Int32 → Int32 → Option (Int32 × Nat × vM)) (N : Nat) (m : vM) (kc ks : Nat) (r1 : Nat) (r2 : Nat) (i3 : Int32) (i4 : Int32) (i5 : Int32) (i6 : Int32) (i7 : Int32) (i8 : Int32) (r9 : Nat) (i10 : Int32) (i11 : Int32) (i12 : Int32) (i13 : Int32) (r14 : Nat) (i15 : Int32) (i16 : Int32) (i17 : Int32) (i18 : Int32) (i19 : Int32) (i20 : Int32) (i21 : Int32) (i22 : Int32) (i23 : Int32) (i24 : Int32) (i25 : Int32) (i26 : Int32) : Option (Int32 × Nat × vM) :=
  rec 702 N m kc ks r1 r2 i3 i4 i5 i6 i7 i8 r9 i10 i11 i12 i13 r14 i15 i16 i17 i18 i19 i20 i21 i22 i23 i24 (0 : Int32) (0 : Int32)
noncomputable def fB_L_law_702 (L : Nat) (xs : Nat → Int32) (rec : Nat → Nat → vM → Nat → Nat → Nat → Nat → Int32 → Int32 → Int32 → Int32 → Int32 → Int32 → Nat → Int32 → Int32 → Int32 → Int32 → Nat → Int32 → Int32 → Int32 → Int32 → Int32 → Int32 → Int32 → Int32 → Int32 → Int32 → Int32 → Int32 → Option (Int32 × Nat × vM)) (N : Nat) (m : vM) (kc ks : Nat) (r1 : Nat) (r2 : Nat) (i3 : Int32) (i4 : Int32) (i5 : Int32) (i6 : Int32) (i7 : Int32) (i8 : Int32) (r9 : Nat) (i10 : Int32) (i11 : Int32) (i12 : Int32) (i13 : Int32) (r14 : Nat) (i15 : Int32) (i16 : Int32) (i17 : Int32) (i18 : Int32) (i19 : Int32) (i20 : Int32) (i21 : Int32) (i22 : Int32) (i23 : Int32) (i24 : Int32) (i25 : Int32) (i26 : Int32) : Option (Int32 × Nat × vM) :=
  if i22 ≤ i26 then (
    if i25 = i23 then (
      rec 749 N m kc ks r1 r2 i3 i4 i5 i6 i7 i8 r9 i10 i11 i12 i13 r14 i15 i16 i17 i18 i19 i20 i21 i22 i23 i24 i25 (0 : Int32)
    ) else (
      some ((0 : Int32), N, m)
    )
  ) else (
    if mk m r1 = 3 then
    Option.bind (f_X3_asks m r1 i16 i26 ((2 : Int32))) fun q4 =>
    if q4 < 0 then (
      rec 702 N m kc ks r1 r2 i3 i4 i5 i6 i7 i8 r9 i10 i11 i12 i13 r14 i15 i16 i17 i18 i19 i20 i21 i22 i23 i24 (i25 + 0) (i26 + 1)
    ) else (
      rec 702 N m kc ks r1 r2 i3 i4 i5 i6 i7 i8 r9 i10 i11 i12 i13 r14 i15 i16 i17 i18 i19 i20 i21 i22 i23 i24 (i25 + 1) (i26 + 1)
    )
    else none
  )
noncomputable def fB_L_law_749 (L : Nat) (xs : Nat → Int32) (rec : Nat → Nat → vM → Nat → Nat → Nat → Nat → Int32 → Int32 → Int32 → Int32 → Int32 → Int32 → Nat → Int32 → Int32 → Int32 → Int32 → Nat → Int32 → Int32 → Int32 → Int32 → Int32 → Int32 → Int32 → Int32 → Int32 → Int32 → Int32 → Int32 → Option (Int32 × Nat × vM)) (N : Nat) (m : vM) (kc ks : Nat) (r1 : Nat) (r2 : Nat) (i3 : Int32) (i4 : Int32) (i5 : Int32) (i6 : Int32) (i7 : Int32) (i8 : Int32) (r9 : Nat) (i10 : Int32) (i11 : Int32) (i12 : Int32) (i13 : Int32) (r14 : Nat) (i15 : Int32) (i16 : Int32) (i17 : Int32) (i18 : Int32) (i19 : Int32) (i20 : Int32) (i21 : Int32) (i22 : Int32) (i23 : Int32) (i24 : Int32) (i25 : Int32) (i26 : Int32) : Option (Int32 × Nat × vM) :=
  if i22 ≤ i26 then (
    rec 286 N m kc ks r1 r2 i3 i4 i5 i6 i7 i8 r9 i10 i11 i12 i13 r14 i15 (i16 + 1) 0 0 0 0 0 0 0 0 0 0
  ) else (
    if mk m r1 = 3 then
    Option.bind (f_X3_reach m r1 i16) fun q3 =>
    Option.bind (f_X3_asks m r1 i16 i26 ((0 : Int32))) fun q6 =>
    if ((q3 >>> (q6 &&& 31)) &&& 1) = 0 then (
      some ((0 : Int32), N, m)
    ) else (
      Option.bind (f_X3_asks m r1 i16 i26 ((0 : Int32))) fun q10 =>
      Option.bind (f_X3_reach m r1 q10) fun q13 =>
      Option.bind (f_X3_reach m r1 i16) fun q16 =>
      if (q13 &&& (q16 ^^^ ((-1)))) = 0 then (
        rec 749 N m kc ks r1 r2 i3 i4 i5 i6 i7 i8 r9 i10 i11 i12 i13 r14 i15 i16 i17 i18 i19 i20 i21 i22 i23 i24 i25 (i26 + 1)
      ) else (
        some ((0 : Int32), N, m)
      )
    )
    else none
  )
noncomputable def fB_L_law_847 (L : Nat) (xs : Nat → Int32) (rec : Nat → Nat → vM → Nat → Nat → Nat → Nat → Int32 → Int32 → Int32 → Int32 → Int32 → Int32 → Nat → Int32 → Int32 → Int32 → Int32 → Nat → Int32 → Int32 → Int32 → Int32 → Int32 → Int32 → Int32 → Int32 → Int32 → Int32 → Int32 → Int32 → Option (Int32 × Nat × vM)) (N : Nat) (m : vM) (kc ks : Nat) (r1 : Nat) (r2 : Nat) (i3 : Int32) (i4 : Int32) (i5 : Int32) (i6 : Int32) (i7 : Int32) (i8 : Int32) (r9 : Nat) (i10 : Int32) (i11 : Int32) (i12 : Int32) (i13 : Int32) (r14 : Nat) (i15 : Int32) (i16 : Int32) (i17 : Int32) (i18 : Int32) (i19 : Int32) (i20 : Int32) (i21 : Int32) (i22 : Int32) (i23 : Int32) (i24 : Int32) (i25 : Int32) (i26 : Int32) : Option (Int32 × Nat × vM) :=
  rec 850 N m kc ks r1 r2 i3 i4 i5 i6 i7 i8 r9 i10 i11 i12 i13 r14 i15 (0 : Int32) 0 0 0 0 0 0 0 0 0 0
noncomputable def fB_L_law_850 (L : Nat) (xs : Nat → Int32) (rec : Nat → Nat → vM → Nat → Nat → Nat → Nat → Int32 → Int32 → Int32 → Int32 → Int32 → Int32 → Nat → Int32 → Int32 → Int32 → Int32 → Nat → Int32 → Int32 → Int32 → Int32 → Int32 → Int32 → Int32 → Int32 → Int32 → Int32 → Int32 → Int32 → Option (Int32 × Nat × vM)) (N : Nat) (m : vM) (kc ks : Nat) (r1 : Nat) (r2 : Nat) (i3 : Int32) (i4 : Int32) (i5 : Int32) (i6 : Int32) (i7 : Int32) (i8 : Int32) (r9 : Nat) (i10 : Int32) (i11 : Int32) (i12 : Int32) (i13 : Int32) (r14 : Nat) (i15 : Int32) (i16 : Int32) (i17 : Int32) (i18 : Int32) (i19 : Int32) (i20 : Int32) (i21 : Int32) (i22 : Int32) (i23 : Int32) (i24 : Int32) (i25 : Int32) (i26 : Int32) : Option (Int32 × Nat × vM) :=
  if 4 ≤ i16 then (
    rec 883 N m kc ks r1 r2 i3 i4 i5 i6 i7 i8 r9 i10 i11 i12 i13 r14 i15 (0 : Int32) 0 0 0 0 0 0 0 0 0 0
  ) else (
    if mk m r1 = 3 then
    Option.bind (f_X3_count m r1 ((2 + i16))) fun q3 =>
    if mk m r14 = 6 then
    if vin i16 (ml m r14) then
    if q3 = (mi m r14 i16.toNatClampNeg) then (
      rec 850 N m kc ks r1 r2 i3 i4 i5 i6 i7 i8 r9 i10 i11 i12 i13 r14 i15 (i16 + 1) 0 0 0 0 0 0 0 0 0 0
    ) else (
      some ((0 : Int32), N, m)
    )
    else none
    else none
    else none
  )
noncomputable def fB_L_law_883 (L : Nat) (xs : Nat → Int32) (rec : Nat → Nat → vM → Nat → Nat → Nat → Nat → Int32 → Int32 → Int32 → Int32 → Int32 → Int32 → Nat → Int32 → Int32 → Int32 → Int32 → Nat → Int32 → Int32 → Int32 → Int32 → Int32 → Int32 → Int32 → Int32 → Int32 → Int32 → Int32 → Int32 → Option (Int32 × Nat × vM)) (N : Nat) (m : vM) (kc ks : Nat) (r1 : Nat) (r2 : Nat) (i3 : Int32) (i4 : Int32) (i5 : Int32) (i6 : Int32) (i7 : Int32) (i8 : Int32) (r9 : Nat) (i10 : Int32) (i11 : Int32) (i12 : Int32) (i13 : Int32) (r14 : Nat) (i15 : Int32) (i16 : Int32) (i17 : Int32) (i18 : Int32) (i19 : Int32) (i20 : Int32) (i21 : Int32) (i22 : Int32) (i23 : Int32) (i24 : Int32) (i25 : Int32) (i26 : Int32) : Option (Int32 × Nat × vM) :=
  if mk m r1 = 3 then
  Option.bind (f_X3_count m r1 ((6 : Int32))) fun q2 =>
  if q2 ≤ i16 then (
    rec 29 N m kc ks r1 r2 i3 (i4 + 1) 0 0 0 0 0 0 0 0 0 0 0 0 0 0 0 0 0 0 0 0 0 0
  ) else (
    Option.bind (f_X3_voice m r1 i16 ((0 : Int32))) fun q6 =>
    Option.bind (f_X3_voice m r1 i16 ((1 : Int32))) fun q9 =>
    Option.bind (f_X3_voice m r1 i16 ((2 : Int32))) fun q12 =>
    if q12 = 0 then (
      rec 929 N m kc ks r1 r2 i3 i4 i5 i6 i7 i8 r9 i10 i11 i12 i13 r14 i15 i16 q6 q9 (1 : Int32) 0 0 0 0 0 0 0
    ) else (
      rec 929 N m kc ks r1 r2 i3 i4 i5 i6 i7 i8 r9 i10 i11 i12 i13 r14 i15 i16 q6 q9 (0 : Int32) 0 0 0 0 0 0 0
    )
  )
  else none
noncomputable def fB_L_law_929 (L : Nat) (xs : Nat → Int32) (rec : Nat → Nat → vM → Nat → Nat → Nat → Nat → Int32 → Int32 → Int32 → Int32 → Int32 → Int32 → Nat → Int32 → Int32 → Int32 → Int32 → Nat → Int32 → Int32 → Int32 → Int32 → Int32 → Int32 → Int32 → Int32 → Int32 → Int32 → Int32 → Int32 → Option (Int32 × Nat × vM)) (N : Nat) (m : vM) (kc ks : Nat) (r1 : Nat) (r2 : Nat) (i3 : Int32) (i4 : Int32) (i5 : Int32) (i6 : Int32) (i7 : Int32) (i8 : Int32) (r9 : Nat) (i10 : Int32) (i11 : Int32) (i12 : Int32) (i13 : Int32) (r14 : Nat) (i15 : Int32) (i16 : Int32) (i17 : Int32) (i18 : Int32) (i19 : Int32) (i20 : Int32) (i21 : Int32) (i22 : Int32) (i23 : Int32) (i24 : Int32) (i25 : Int32) (i26 : Int32) : Option (Int32 × Nat × vM) :=
  if i19 = 0 then (
    rec 943 N m kc ks r1 r2 i3 i4 i5 i6 i7 i8 r9 i10 i11 i12 i13 r14 i15 i16 i17 i18 i19 i18 0 0 0 0 0 0
  ) else (
    rec 943 N m kc ks r1 r2 i3 i4 i5 i6 i7 i8 r9 i10 i11 i12 i13 r14 i15 i16 i17 i18 i19 i17 0 0 0 0 0 0
  )
noncomputable def fB_L_law_943 (L : Nat) (xs : Nat → Int32) (rec : Nat → Nat → vM → Nat → Nat → Nat → Nat → Int32 → Int32 → Int32 → Int32 → Int32 → Int32 → Nat → Int32 → Int32 → Int32 → Int32 → Nat → Int32 → Int32 → Int32 → Int32 → Int32 → Int32 → Int32 → Int32 → Int32 → Int32 → Int32 → Int32 → Option (Int32 × Nat × vM)) (N : Nat) (m : vM) (kc ks : Nat) (r1 : Nat) (r2 : Nat) (i3 : Int32) (i4 : Int32) (i5 : Int32) (i6 : Int32) (i7 : Int32) (i8 : Int32) (r9 : Nat) (i10 : Int32) (i11 : Int32) (i12 : Int32) (i13 : Int32) (r14 : Nat) (i15 : Int32) (i16 : Int32) (i17 : Int32) (i18 : Int32) (i19 : Int32) (i20 : Int32) (i21 : Int32) (i22 : Int32) (i23 : Int32) (i24 : Int32) (i25 : Int32) (i26 : Int32) : Option (Int32 × Nat × vM) :=
  if i19 = 0 then (
    rec 957 N m kc ks r1 r2 i3 i4 i5 i6 i7 i8 r9 i10 i11 i12 i13 r14 i15 i16 i17 i18 i19 i20 i17 0 0 0 0 0
  ) else (
    rec 957 N m kc ks r1 r2 i3 i4 i5 i6 i7 i8 r9 i10 i11 i12 i13 r14 i15 i16 i17 i18 i19 i20 i18 0 0 0 0 0
  )
noncomputable def fB_L_law_957 (L : Nat) (xs : Nat → Int32) (rec : Nat → Nat → vM → Nat → Nat → Nat → Nat → Int32 → Int32 → Int32 → Int32 → Int32 → Int32 → Nat → Int32 → Int32 → Int32 → Int32 → Nat → Int32 → Int32 → Int32 → Int32 → Int32 → Int32 → Int32 → Int32 → Int32 → Int32 → Int32 → Int32 → Option (Int32 × Nat × vM)) (N : Nat) (m : vM) (kc ks : Nat) (r1 : Nat) (r2 : Nat) (i3 : Int32) (i4 : Int32) (i5 : Int32) (i6 : Int32) (i7 : Int32) (i8 : Int32) (r9 : Nat) (i10 : Int32) (i11 : Int32) (i12 : Int32) (i13 : Int32) (r14 : Nat) (i15 : Int32) (i16 : Int32) (i17 : Int32) (i18 : Int32) (i19 : Int32) (i20 : Int32) (i21 : Int32) (i22 : Int32) (i23 : Int32) (i24 : Int32) (i25 : Int32) (i26 : Int32) : Option (Int32 × Nat × vM) :=
  rec 963 N m kc ks r1 r2 i3 i4 i5 i6 i7 i8 r9 i10 i11 i12 i13 r14 i15 i16 i17 i18 i19 i20 i21 (0 : Int32) (0 : Int32) 0 0 0
noncomputable def fB_L_law_963 (L : Nat) (xs : Nat → Int32) (rec : Nat → Nat → vM → Nat → Nat → Nat → Nat → Int32 → Int32 → Int32 → Int32 → Int32 → Int32 → Nat → Int32 → Int32 → Int32 → Int32 → Nat → Int32 → Int32 → Int32 → Int32 → Int32 → Int32 → Int32 → Int32 → Int32 → Int32 → Int32 → Int32 → Option (Int32 × Nat × vM)) (N : Nat) (m : vM) (kc ks : Nat) (r1 : Nat) (r2 : Nat) (i3 : Int32) (i4 : Int32) (i5 : Int32) (i6 : Int32) (i7 : Int32) (i8 : Int32) (r9 : Nat) (i10 : Int32) (i11 : Int32) (i12 : Int32) (i13 : Int32) (r14 : Nat) (i15 : Int32) (i16 : Int32) (i17 : Int32) (i18 : Int32) (i19 : Int32) (i20 : Int32) (i21 : Int32) (i22 : Int32) (i23 : Int32) (i24 : Int32) (i25 : Int32) (i26 : Int32) : Option (Int32 × Nat × vM) :=
  if mk m r1 = 3 then
  Option.bind (f_X3_door m r1 i20 ((3 : Int32))) fun q2 =>
  if q2 ≤ i23 then (
    if i22 = 0 then (
      some ((0 : Int32), N, m)
    ) else (
      rec 883 N m kc ks r1 r2 i3 i4 i5 i6 i7 i8 r9 i10 i11 i12 i13 r14 i15 (i16 + 1) 0 0 0 0 0 0 0 0 0 0
    )
  ) else (
    if i22 = 0 then (
      Option.bind (f_X3_asks m r1 i20 i23 ((0 : Int32))) fun q8 =>
      if q8 = i21 then (
        Option.bind (f_X3_voice m r1 i16 ((3 : Int32))) fun q12 =>
        if q12 < 1 then (
          rec 1031 N m kc ks r1 r2 i3 i4 i5 i6 i7 i8 r9 i10 i11 i12 i13 r14 i15 i16 i17 i18 i19 i20 i21 (0 : Int32) i23 0 0 0
        ) else (
          Option.bind (f_X3_voice m r1 i16 ((3 : Int32))) fun q16 =>
          Option.bind (f_X3_asks m r1 i20 i23 ((1 : Int32))) fun q19 =>
          if q19 < q16 then (
            rec 1031 N m kc ks r1 r2 i3 i4 i5 i6 i7 i8 r9 i10 i11 i12 i13 r14 i15 i16 i17 i18 i19 i20 i21 (0 : Int32) i23 0 0 0
          ) else (
            rec 1031 N m kc ks r1 r2 i3 i4 i5 i6 i7 i8 r9 i10 i11 i12 i13 r14 i15 i16 i17 i18 i19 i20 i21 (1 : Int32) i23 0 0 0
          )
        )
      ) else (
        rec 1031 N m kc ks r1 r2 i3 i4 i5 i6 i7 i8 r9 i10 i11 i12 i13 r14 i15 i16 i17 i18 i19 i20 i21 (0 : Int32) i23 0 0 0
      )
    ) else (
      rec 1031 N m kc ks r1 r2 i3 i4 i5 i6 i7 i8 r9 i10 i11 i12 i13 r14 i15 i16 i17 i18 i19 i20 i21 (1 : Int32) i23 0 0 0
    )
  )
  else none
noncomputable def fB_L_law_1031 (L : Nat) (xs : Nat → Int32) (rec : Nat → Nat → vM → Nat → Nat → Nat → Nat → Int32 → Int32 → Int32 → Int32 → Int32 → Int32 → Nat → Int32 → Int32 → Int32 → Int32 → Nat → Int32 → Int32 → Int32 → Int32 → Int32 → Int32 → Int32 → Int32 → Int32 → Int32 → Int32 → Int32 → Option (Int32 × Nat × vM)) (N : Nat) (m : vM) (kc ks : Nat) (r1 : Nat) (r2 : Nat) (i3 : Int32) (i4 : Int32) (i5 : Int32) (i6 : Int32) (i7 : Int32) (i8 : Int32) (r9 : Nat) (i10 : Int32) (i11 : Int32) (i12 : Int32) (i13 : Int32) (r14 : Nat) (i15 : Int32) (i16 : Int32) (i17 : Int32) (i18 : Int32) (i19 : Int32) (i20 : Int32) (i21 : Int32) (i22 : Int32) (i23 : Int32) (i24 : Int32) (i25 : Int32) (i26 : Int32) : Option (Int32 × Nat × vM) :=
  rec 963 N m kc ks r1 r2 i3 i4 i5 i6 i7 i8 r9 i10 i11 i12 i13 r14 i15 i16 i17 i18 i19 i20 i21 i22 (i23 + 1) 0 0 0
noncomputable def fL_L_law (L : Nat) (xs : Nat → Int32) (n : Nat) : Nat → Nat → vM → Nat → Nat → Nat → Nat → Int32 → Int32 → Int32 → Int32 → Int32 → Int32 → Nat → Int32 → Int32 → Int32 → Int32 → Nat → Int32 → Int32 → Int32 → Int32 → Int32 → Int32 → Int32 → Int32 → Int32 → Int32 → Int32 → Int32 → Option (Int32 × Nat × vM) := Nat.rec (fun _ _ _ _ _ _ _ _ _ _ _ _ _ _ _ _ _ _ _ _ _ _ _ _ _ _ _ _ _ _ _ => none) (fun _ rec pc N m kc ks r1 r2 i3 i4 i5 i6 i7 i8 r9 i10 i11 i12 i13 r14 i15 i16 i17 i18 i19 i20 i21 i22 i23 i24 i25 i26 => if pc = 29 then fB_L_law_29 L xs rec N m kc ks r1 r2 i3 i4 i5 i6 i7 i8 r9 i10 i11 i12 i13 r14 i15 i16 i17 i18 i19 i20 i21 i22 i23 i24 i25 i26 else if pc = 90 then fB_L_law_90 L xs rec N m kc ks r1 r2 i3 i4 i5 i6 i7 i8 r9 i10 i11 i12 i13 r14 i15 i16 i17 i18 i19 i20 i21 i22 i23 i24 i25 i26 else if pc = 123 then fB_L_law_123 L xs rec N m kc ks r1 r2 i3 i4 i5 i6 i7 i8 r9 i10 i11 i12 i13 r14 i15 i16 i17 i18 i19 i20 i21 i22 i23 i24 i25 i26 else if pc = 132 then fB_L_law_132 L xs rec N m kc ks r1 r2 i3 i4 i5 i6 i7 i8 r9 i10 i11 i12 i13 r14 i15 i16 i17 i18 i19 i20 i21 i22 i23 i24 i25 i26 else if pc = 272 then fB_L_law_272 L xs rec N m kc ks r1 r2 i3 i4 i5 i6 i7 i8 r9 i10 i11 i12 i13 r14 i15 i16 i17 i18 i19 i20 i21 i22 i23 i24 i25 i26 else if pc = 286 then fB_L_law_286 L xs rec N m kc ks r1 r2 i3 i4 i5 i6 i7 i8 r9 i10 i11 i12 i13 r14 i15 i16 i17 i18 i19 i20 i21 i22 i23 i24 i25 i26 else if pc = 392 then fB_L_law_392 L xs rec N m kc ks r1 r2 i3 i4 i5 i6 i7 i8 r9 i10 i11 i12 i13 r14 i15 i16 i17 i18 i19 i20 i21 i22 i23 i24 i25 i26 else if pc = 473 then fB_L_law_473 L xs rec N m kc ks r1 r2 i3 i4 i5 i6 i7 i8 r9 i10 i11 i12 i13 r14 i15 i16 i17 i18 i19 i20 i21 i22 i23 i24 i25 i26 else if pc = 513 then fB_L_law_513 L xs rec N m kc ks r1 r2 i3 i4 i5 i6 i7 i8 r9 i10 i11 i12 i13 r14 i15 i16 i17 i18 i19 i20 i21 i22 i23 i24 i25 i26 else if pc = 561 then fB_L_law_561 L xs rec N m kc ks r1 r2 i3 i4 i5 i6 i7 i8 r9 i10 i11 i12 i13 r14 i15 i16 i17 i18 i19 i20 i21 i22 i23 i24 i25 i26 else if pc = 583 then fB_L_law_583 L xs rec N m kc ks r1 r2 i3 i4 i5 i6 i7 i8 r9 i10 i11 i12 i13 r14 i15 i16 i17 i18 i19 i20 i21 i22 i23 i24 i25 i26 else if pc = 608 then fB_L_law_608 L xs rec N m kc ks r1 r2 i3 i4 i5 i6 i7 i8 r9 i10 i11 i12 i13 r14 i15 i16 i17 i18 i19 i20 i21 i22 i23 i24 i25 i26 else if pc = 696 then fB_L_law_696 L xs rec N m kc ks r1 r2 i3 i4 i5 i6 i7 i8 r9 i10 i11 i12 i13 r14 i15 i16 i17 i18 i19 i20 i21 i22 i23 i24 i25 i26 else if pc = 702 then fB_L_law_702 L xs rec N m kc ks r1 r2 i3 i4 i5 i6 i7 i8 r9 i10 i11 i12 i13 r14 i15 i16 i17 i18 i19 i20 i21 i22 i23 i24 i25 i26 else if pc = 749 then fB_L_law_749 L xs rec N m kc ks r1 r2 i3 i4 i5 i6 i7 i8 r9 i10 i11 i12 i13 r14 i15 i16 i17 i18 i19 i20 i21 i22 i23 i24 i25 i26 else if pc = 847 then fB_L_law_847 L xs rec N m kc ks r1 r2 i3 i4 i5 i6 i7 i8 r9 i10 i11 i12 i13 r14 i15 i16 i17 i18 i19 i20 i21 i22 i23 i24 i25 i26 else if pc = 850 then fB_L_law_850 L xs rec N m kc ks r1 r2 i3 i4 i5 i6 i7 i8 r9 i10 i11 i12 i13 r14 i15 i16 i17 i18 i19 i20 i21 i22 i23 i24 i25 i26 else if pc = 883 then fB_L_law_883 L xs rec N m kc ks r1 r2 i3 i4 i5 i6 i7 i8 r9 i10 i11 i12 i13 r14 i15 i16 i17 i18 i19 i20 i21 i22 i23 i24 i25 i26 else if pc = 929 then fB_L_law_929 L xs rec N m kc ks r1 r2 i3 i4 i5 i6 i7 i8 r9 i10 i11 i12 i13 r14 i15 i16 i17 i18 i19 i20 i21 i22 i23 i24 i25 i26 else if pc = 943 then fB_L_law_943 L xs rec N m kc ks r1 r2 i3 i4 i5 i6 i7 i8 r9 i10 i11 i12 i13 r14 i15 i16 i17 i18 i19 i20 i21 i22 i23 i24 i25 i26 else if pc = 957 then fB_L_law_957 L xs rec N m kc ks r1 r2 i3 i4 i5 i6 i7 i8 r9 i10 i11 i12 i13 r14 i15 i16 i17 i18 i19 i20 i21 i22 i23 i24 i25 i26 else if pc = 963 then fB_L_law_963 L xs rec N m kc ks r1 r2 i3 i4 i5 i6 i7 i8 r9 i10 i11 i12 i13 r14 i15 i16 i17 i18 i19 i20 i21 i22 i23 i24 i25 i26 else if pc = 1031 then fB_L_law_1031 L xs rec N m kc ks r1 r2 i3 i4 i5 i6 i7 i8 r9 i10 i11 i12 i13 r14 i15 i16 i17 i18 i19 i20 i21 i22 i23 i24 i25 i26 else none) n
noncomputable def f_L_law (L : Nat) (xs : Nat → Int32) (N : Nat) (m : vM)  : Option (Int32 × Nat × vM) :=
  Option.bind (f_X3_init ((N + 1)) ((mN m N 3 0)) N) fun q6 =>
  Option.bind (f_L_build L xs q6.1 q6.2 N) fun q16 =>
  if q16.1 = none then (
    some ((0 : Int32), q16.2.1, q16.2.2)
  ) else Option.bind (q16.1) fun y27 => (
    if mk q16.2.2 y27 = 5 then
    Option.bind (mr q16.2.2 y27 0) fun y30 =>
    if mk q16.2.2 y30 = 9 then
    fL_L_law L xs vF 29 q16.2.1 q16.2.2 ((((0 + 1) + 148) + 91)) ((((0 + 2) + 4178) + 1860)) N y27 (Int32.ofNat (ml q16.2.2 y30)) (0 : Int32) 0 0 0 0 0 0 0 0 0 0 0 0 0 0 0 0 0 0 0 0 0 0
    else none
    else none
  )
set_option maxHeartbeats 1000000 in
set_option maxRecDepth 100000 in
theorem law_run {p : Program} {e : Env} {s : State} {m : MethodId} {below : List Frame} {meth : Method} {c : Code} (l : Launch) (D : va_G) (tc : Nat → ClassId) (ad : Nat → Nat) {N : Nat} {m0 : vM} {b L : Nat} {xs : Nat → Int32} {A : Nat → Prop} {Qf : State → Prop} {ls : Array Slot} (hx : p.tables.exec = Jvm.exec) (hb : c.code = code) (hml : c.maxLocals = 27) (hown : s.vm.findClass RL = some m.cls) (hts : ∀ w ∈ wsL_law, w.before #[Value.ref b] s = true) (hX : va_X b L xs s s.heap) (hbl : b < s.heap.size) (hbA : ¬ A b) (hA : ∀ q : Nat, s.heap.size ≤ q → A q) (hK : va_K D vwCl (vT tc) s) (hZ : vZ tc s) (hO : vOK N m0) (hP : va_P D vwCl (vW tc ad N m0) s.heap) (hD : va_D A (vW tc ad N m0)) (hl : lv_has ls 27 [(0, .ref b)]) (hend : ∀ (H : Heap) (locs : List Loc) (ls : Array Slot), va_S A s.heap H locs → W p l e room_1 s m #[Value.ref b] below meth c H locs 796163 6712978 Qf (F0 m 1061 ls [.int 1])) {z : Int32 × Nat × vM} (h : f_L_law L xs N m0 = some z) (hz1 : z.1 = 1) : W p l e room_1 s m #[Value.ref b] below meth c s.heap [] 0 0 Qf (F0 m 0 ls []) := by
  have hS : va_S A s.heap s.heap [] := va_S.rf
  have hl : lv_has ls 27 [(0, .ref b)] := hl
  have hL : ∀ n : Nat, (∀ (NL : Nat) (adL : Nat → Nat) (m1 : vM) (kc ks : Nat) (r1 : Nat) (r2 : Nat) (i3 : Int32) (i4 : Int32) (H : Heap) (locs : List Loc) (ls : Array Slot), N ≤ NL → (∀ k, k < N → adL k = ad k) → kc ≤ 796163 → ks ≤ 6712978 → vOK NL m1 → r1 < NL → r2 < NL → fL_L_law L xs n 29 NL m1 kc ks r1 r2 i3 i4 0 0 0 0 0 0 0 0 0 0 0 0 0 0 0 0 0 0 0 0 0 0 = some z → va_P D vwCl (vW tc adL NL m1) H → va_D A (vW tc adL NL m1) → va_S A s.heap H locs → lv_has ls 27 [(1, .ref (adL r1)), (2, .ref (adL r2)), (3, .int i3), (4, .int i4), (0, .ref b)] → W p l e room_1 s m #[Value.ref b] below meth c H locs kc ks Qf (F0 m 29 ls [])) ∧ (∀ (NL : Nat) (adL : Nat → Nat) (m1 : vM) (kc ks : Nat) (r1 : Nat) (r2 : Nat) (i3 : Int32) (i4 : Int32) (i5 : Int32) (i6 : Int32) (i7 : Int32) (H : Heap) (locs : List Loc) (ls : Array Slot), N ≤ NL → (∀ k, k < N → adL k = ad k) → kc ≤ 796163 → ks ≤ 6712978 → vOK NL m1 → r1 < NL → r2 < NL → fL_L_law L xs n 90 NL m1 kc ks r1 r2 i3 i4 i5 i6 i7 0 0 0 0 0 0 0 0 0 0 0 0 0 0 0 0 0 0 0 = some z → va_P D vwCl (vW tc adL NL m1) H → va_D A (vW tc adL NL m1) → va_S A s.heap H locs → lv_has ls 27 [(1, .ref (adL r1)), (2, .ref (adL r2)), (3, .int i3), (4, .int i4), (5, .int i5), (6, .int i6), (7, .int i7), (0, .ref b)] → W p l e room_1 s m #[Value.ref b] below meth c H locs kc ks Qf (F0 m 90 ls [])) ∧ (∀ (NL : Nat) (adL : Nat → Nat) (m1 : vM) (kc ks : Nat) (r1 : Nat) (r2 : Nat) (i3 : Int32) (i4 : Int32) (i5 : Int32) (i6 : Int32) (i7 : Int32) (i8 : Int32) (r9 : Nat) (i10 : Int32) (H : Heap) (locs : List Loc) (ls : Array Slot), N ≤ NL → (∀ k, k < N → adL k = ad k) → kc ≤ 796163 → ks ≤ 6712978 → vOK NL m1 → r1 < NL → r2 < NL → r9 < NL → fL_L_law L xs n 123 NL m1 kc ks r1 r2 i3 i4 i5 i6 i7 i8 r9 i10 0 0 0 0 0 0 0 0 0 0 0 0 0 0 0 0 = some z → va_P D vwCl (vW tc adL NL m1) H → va_D A (vW tc adL NL m1) → va_S A s.heap H locs → lv_has ls 27 [(1, .ref (adL r1)), (2, .ref (adL r2)), (3, .int i3), (4, .int i4), (5, .int i5), (6, .int i6), (7, .int i7), (8, .int i8), (9, .ref (adL r9)), (10, .int i10), (0, .ref b)] → W p l e room_1 s m #[Value.ref b] below meth c H locs kc ks Qf (F0 m 123 ls [])) ∧ (∀ (NL : Nat) (adL : Nat → Nat) (m1 : vM) (kc ks : Nat) (r1 : Nat) (r2 : Nat) (i3 : Int32) (i4 : Int32) (i5 : Int32) (i6 : Int32) (i7 : Int32) (i8 : Int32) (r9 : Nat) (i10 : Int32) (i11 : Int32) (H : Heap) (locs : List Loc) (ls : Array Slot), N ≤ NL → (∀ k, k < N → adL k = ad k) → kc ≤ 796163 → ks ≤ 6712978 → vOK NL m1 → r1 < NL → r2 < NL → r9 < NL → fL_L_law L xs n 132 NL m1 kc ks r1 r2 i3 i4 i5 i6 i7 i8 r9 i10 i11 0 0 0 0 0 0 0 0 0 0 0 0 0 0 0 = some z → va_P D vwCl (vW tc adL NL m1) H → va_D A (vW tc adL NL m1) → va_S A s.heap H locs → lv_has ls 27 [(1, .ref (adL r1)), (2, .ref (adL r2)), (3, .int i3), (4, .int i4), (5, .int i5), (6, .int i6), (7, .int i7), (8, .int i8), (9, .ref (adL r9)), (10, .int i10), (11, .int i11), (0, .ref b)] → W p l e room_1 s m #[Value.ref b] below meth c H locs kc ks Qf (F0 m 132 ls [])) ∧ (∀ (NL : Nat) (adL : Nat → Nat) (m1 : vM) (kc ks : Nat) (r1 : Nat) (r2 : Nat) (i3 : Int32) (i4 : Int32) (i5 : Int32) (i6 : Int32) (i7 : Int32) (i8 : Int32) (r9 : Nat) (i10 : Int32) (i11 : Int32) (i12 : Int32) (H : Heap) (locs : List Loc) (ls : Array Slot), N ≤ NL → (∀ k, k < N → adL k = ad k) → kc ≤ 796163 → ks ≤ 6712978 → vOK NL m1 → r1 < NL → r2 < NL → r9 < NL → fL_L_law L xs n 272 NL m1 kc ks r1 r2 i3 i4 i5 i6 i7 i8 r9 i10 i11 i12 0 0 0 0 0 0 0 0 0 0 0 0 0 0 = some z → va_P D vwCl (vW tc adL NL m1) H → va_D A (vW tc adL NL m1) → va_S A s.heap H locs → lv_has ls 27 [(1, .ref (adL r1)), (2, .ref (adL r2)), (3, .int i3), (4, .int i4), (5, .int i5), (6, .int i6), (7, .int i7), (8, .int i8), (9, .ref (adL r9)), (10, .int i10), (11, .int i11), (12, .int i12), (0, .ref b)] → W p l e room_1 s m #[Value.ref b] below meth c H locs kc ks Qf (F0 m 272 ls [])) ∧ (∀ (NL : Nat) (adL : Nat → Nat) (m1 : vM) (kc ks : Nat) (r1 : Nat) (r2 : Nat) (i3 : Int32) (i4 : Int32) (i5 : Int32) (i6 : Int32) (i7 : Int32) (i8 : Int32) (r9 : Nat) (i10 : Int32) (i11 : Int32) (i12 : Int32) (i13 : Int32) (r14 : Nat) (i15 : Int32) (i16 : Int32) (H : Heap) (locs : List Loc) (ls : Array Slot), N ≤ NL → (∀ k, k < N → adL k = ad k) → kc ≤ 796163 → ks ≤ 6712978 → vOK NL m1 → r1 < NL → r2 < NL → r9 < NL → r14 < NL → fL_L_law L xs n 286 NL m1 kc ks r1 r2 i3 i4 i5 i6 i7 i8 r9 i10 i11 i12 i13 r14 i15 i16 0 0 0 0 0 0 0 0 0 0 = some z → va_P D vwCl (vW tc adL NL m1) H → va_D A (vW tc adL NL m1) → va_S A s.heap H locs → lv_has ls 27 [(1, .ref (adL r1)), (2, .ref (adL r2)), (3, .int i3), (4, .int i4), (5, .int i5), (6, .int i6), (7, .int i7), (8, .int i8), (9, .ref (adL r9)), (10, .int i10), (11, .int i11), (12, .int i12), (13, .int i13), (14, .ref (adL r14)), (15, .int i15), (16, .int i16), (0, .ref b)] → W p l e room_1 s m #[Value.ref b] below meth c H locs kc ks Qf (F0 m 286 ls [])) ∧ (∀ (NL : Nat) (adL : Nat → Nat) (m1 : vM) (kc ks : Nat) (r1 : Nat) (r2 : Nat) (i3 : Int32) (i4 : Int32) (i5 : Int32) (i6 : Int32) (i7 : Int32) (i8 : Int32) (r9 : Nat) (i10 : Int32) (i11 : Int32) (i12 : Int32) (i13 : Int32) (r14 : Nat) (i15 : Int32) (i16 : Int32) (i17 : Int32) (i18 : Int32) (i19 : Int32) (i20 : Int32) (i21 : Int32) (H : Heap) (locs : List Loc) (ls : Array Slot), N ≤ NL → (∀ k, k < N → adL k = ad k) → kc ≤ 796163 → ks ≤ 6712978 → vOK NL m1 → r1 < NL → r2 < NL → r9 < NL → r14 < NL → fL_L_law L xs n 392 NL m1 kc ks r1 r2 i3 i4 i5 i6 i7 i8 r9 i10 i11 i12 i13 r14 i15 i16 i17 i18 i19 i20 i21 0 0 0 0 0 = some z → va_P D vwCl (vW tc adL NL m1) H → va_D A (vW tc adL NL m1) → va_S A s.heap H locs → lv_has ls 27 [(1, .ref (adL r1)), (2, .ref (adL r2)), (3, .int i3), (4, .int i4), (5, .int i5), (6, .int i6), (7, .int i7), (8, .int i8), (9, .ref (adL r9)), (10, .int i10), (11, .int i11), (12, .int i12), (13, .int i13), (14, .ref (adL r14)), (15, .int i15), (16, .int i16), (17, .int i17), (18, .int i18), (19, .int i19), (20, .int i20), (21, .int i21), (0, .ref b)] → W p l e room_1 s m #[Value.ref b] below meth c H locs kc ks Qf (F0 m 392 ls [])) ∧ (∀ (NL : Nat) (adL : Nat → Nat) (m1 : vM) (kc ks : Nat) (r1 : Nat) (r2 : Nat) (i3 : Int32) (i4 : Int32) (i5 : Int32) (i6 : Int32) (i7 : Int32) (i8 : Int32) (r9 : Nat) (i10 : Int32) (i11 : Int32) (i12 : Int32) (i13 : Int32) (r14 : Nat) (i15 : Int32) (i16 : Int32) (i17 : Int32) (i18 : Int32) (i19 : Int32) (i20 : Int32) (i21 : Int32) (H : Heap) (locs : List Loc) (ls : Array Slot), N ≤ NL → (∀ k, k < N → adL k = ad k) → kc ≤ 796163 → ks ≤ 6712978 → vOK NL m1 → r1 < NL → r2 < NL → r9 < NL → r14 < NL → fL_L_law L xs n 473 NL m1 kc ks r1 r2 i3 i4 i5 i6 i7 i8 r9 i10 i11 i12 i13 r14 i15 i16 i17 i18 i19 i20 i21 0 0 0 0 0 = some z → va_P D vwCl (vW tc adL NL m1) H → va_D A (vW tc adL NL m1) → va_S A s.heap H locs → lv_has ls 27 [(1, .ref (adL r1)), (2, .ref (adL r2)), (3, .int i3), (4, .int i4), (5, .int i5), (6, .int i6), (7, .int i7), (8, .int i8), (9, .ref (adL r9)), (10, .int i10), (11, .int i11), (12, .int i12), (13, .int i13), (14, .ref (adL r14)), (15, .int i15), (16, .int i16), (17, .int i17), (18, .int i18), (19, .int i19), (20, .int i20), (21, .int i21), (0, .ref b)] → W p l e room_1 s m #[Value.ref b] below meth c H locs kc ks Qf (F0 m 473 ls [])) ∧ (∀ (NL : Nat) (adL : Nat → Nat) (m1 : vM) (kc ks : Nat) (r1 : Nat) (r2 : Nat) (i3 : Int32) (i4 : Int32) (i5 : Int32) (i6 : Int32) (i7 : Int32) (i8 : Int32) (r9 : Nat) (i10 : Int32) (i11 : Int32) (i12 : Int32) (i13 : Int32) (r14 : Nat) (i15 : Int32) (i16 : Int32) (i17 : Int32) (i18 : Int32) (i19 : Int32) (i20 : Int32) (i21 : Int32) (H : Heap) (locs : List Loc) (ls : Array Slot), N ≤ NL → (∀ k, k < N → adL k = ad k) → kc ≤ 796163 → ks ≤ 6712978 → vOK NL m1 → r1 < NL → r2 < NL → r9 < NL → r14 < NL → fL_L_law L xs n 513 NL m1 kc ks r1 r2 i3 i4 i5 i6 i7 i8 r9 i10 i11 i12 i13 r14 i15 i16 i17 i18 i19 i20 i21 0 0 0 0 0 = some z → va_P D vwCl (vW tc adL NL m1) H → va_D A (vW tc adL NL m1) → va_S A s.heap H locs → lv_has ls 27 [(1, .ref (adL r1)), (2, .ref (adL r2)), (3, .int i3), (4, .int i4), (5, .int i5), (6, .int i6), (7, .int i7), (8, .int i8), (9, .ref (adL r9)), (10, .int i10), (11, .int i11), (12, .int i12), (13, .int i13), (14, .ref (adL r14)), (15, .int i15), (16, .int i16), (17, .int i17), (18, .int i18), (19, .int i19), (20, .int i20), (21, .int i21), (0, .ref b)] → W p l e room_1 s m #[Value.ref b] below meth c H locs kc ks Qf (F0 m 513 ls [])) ∧ (∀ (NL : Nat) (adL : Nat → Nat) (m1 : vM) (kc ks : Nat) (r1 : Nat) (r2 : Nat) (i3 : Int32) (i4 : Int32) (i5 : Int32) (i6 : Int32) (i7 : Int32) (i8 : Int32) (r9 : Nat) (i10 : Int32) (i11 : Int32) (i12 : Int32) (i13 : Int32) (r14 : Nat) (i15 : Int32) (i16 : Int32) (i17 : Int32) (i18 : Int32) (i19 : Int32) (i20 : Int32) (i21 : Int32) (H : Heap) (locs : List Loc) (ls : Array Slot), N ≤ NL → (∀ k, k < N → adL k = ad k) → kc ≤ 796163 → ks ≤ 6712978 → vOK NL m1 → r1 < NL → r2 < NL → r9 < NL → r14 < NL → fL_L_law L xs n 561 NL m1 kc ks r1 r2 i3 i4 i5 i6 i7 i8 r9 i10 i11 i12 i13 r14 i15 i16 i17 i18 i19 i20 i21 0 0 0 0 0 = some z → va_P D vwCl (vW tc adL NL m1) H → va_D A (vW tc adL NL m1) → va_S A s.heap H locs → lv_has ls 27 [(1, .ref (adL r1)), (2, .ref (adL r2)), (3, .int i3), (4, .int i4), (5, .int i5), (6, .int i6), (7, .int i7), (8, .int i8), (9, .ref (adL r9)), (10, .int i10), (11, .int i11), (12, .int i12), (13, .int i13), (14, .ref (adL r14)), (15, .int i15), (16, .int i16), (17, .int i17), (18, .int i18), (19, .int i19), (20, .int i20), (21, .int i21), (0, .ref b)] → W p l e room_1 s m #[Value.ref b] below meth c H locs kc ks Qf (F0 m 561 ls [])) ∧ (∀ (NL : Nat) (adL : Nat → Nat) (m1 : vM) (kc ks : Nat) (r1 : Nat) (r2 : Nat) (i3 : Int32) (i4 : Int32) (i5 : Int32) (i6 : Int32) (i7 : Int32) (i8 : Int32) (r9 : Nat) (i10 : Int32) (i11 : Int32) (i12 : Int32) (i13 : Int32) (r14 : Nat) (i15 : Int32) (i16 : Int32) (i17 : Int32) (i18 : Int32) (i19 : Int32) (i20 : Int32) (i21 : Int32) (H : Heap) (locs : List Loc) (ls : Array Slot), N ≤ NL → (∀ k, k < N → adL k = ad k) → kc ≤ 796163 → ks ≤ 6712978 → vOK NL m1 → r1 < NL → r2 < NL → r9 < NL → r14 < NL → fL_L_law L xs n 583 NL m1 kc ks r1 r2 i3 i4 i5 i6 i7 i8 r9 i10 i11 i12 i13 r14 i15 i16 i17 i18 i19 i20 i21 0 0 0 0 0 = some z → va_P D vwCl (vW tc adL NL m1) H → va_D A (vW tc adL NL m1) → va_S A s.heap H locs → lv_has ls 27 [(1, .ref (adL r1)), (2, .ref (adL r2)), (3, .int i3), (4, .int i4), (5, .int i5), (6, .int i6), (7, .int i7), (8, .int i8), (9, .ref (adL r9)), (10, .int i10), (11, .int i11), (12, .int i12), (13, .int i13), (14, .ref (adL r14)), (15, .int i15), (16, .int i16), (17, .int i17), (18, .int i18), (19, .int i19), (20, .int i20), (21, .int i21), (0, .ref b)] → W p l e room_1 s m #[Value.ref b] below meth c H locs kc ks Qf (F0 m 583 ls [])) ∧ (∀ (NL : Nat) (adL : Nat → Nat) (m1 : vM) (kc ks : Nat) (r1 : Nat) (r2 : Nat) (i3 : Int32) (i4 : Int32) (i5 : Int32) (i6 : Int32) (i7 : Int32) (i8 : Int32) (r9 : Nat) (i10 : Int32) (i11 : Int32) (i12 : Int32) (i13 : Int32) (r14 : Nat) (i15 : Int32) (i16 : Int32) (i17 : Int32) (i18 : Int32) (i19 : Int32) (i20 : Int32) (i21 : Int32) (H : Heap) (locs : List Loc) (ls : Array Slot), N ≤ NL → (∀ k, k < N → adL k = ad k) → kc ≤ 796163 → ks ≤ 6712978 → vOK NL m1 → r1 < NL → r2 < NL → r9 < NL → r14 < NL → fL_L_law L xs n 608 NL m1 kc ks r1 r2 i3 i4 i5 i6 i7 i8 r9 i10 i11 i12 i13 r14 i15 i16 i17 i18 i19 i20 i21 0 0 0 0 0 = some z → va_P D vwCl (vW tc adL NL m1) H → va_D A (vW tc adL NL m1) → va_S A s.heap H locs → lv_has ls 27 [(1, .ref (adL r1)), (2, .ref (adL r2)), (3, .int i3), (4, .int i4), (5, .int i5), (6, .int i6), (7, .int i7), (8, .int i8), (9, .ref (adL r9)), (10, .int i10), (11, .int i11), (12, .int i12), (13, .int i13), (14, .ref (adL r14)), (15, .int i15), (16, .int i16), (17, .int i17), (18, .int i18), (19, .int i19), (20, .int i20), (21, .int i21), (0, .ref b)] → W p l e room_1 s m #[Value.ref b] below meth c H locs kc ks Qf (F0 m 608 ls [])) ∧ (∀ (NL : Nat) (adL : Nat → Nat) (m1 : vM) (kc ks : Nat) (r1 : Nat) (r2 : Nat) (i3 : Int32) (i4 : Int32) (i5 : Int32) (i6 : Int32) (i7 : Int32) (i8 : Int32) (r9 : Nat) (i10 : Int32) (i11 : Int32) (i12 : Int32) (i13 : Int32) (r14 : Nat) (i15 : Int32) (i16 : Int32) (i17 : Int32) (i18 : Int32) (i19 : Int32) (i20 : Int32) (i21 : Int32) (i22 : Int32) (i23 : Int32) (i24 : Int32) (H : Heap) (locs : List Loc) (ls : Array Slot), N ≤ NL → (∀ k, k < N → adL k = ad k) → kc ≤ 796163 → ks ≤ 6712978 → vOK NL m1 → r1 < NL → r2 < NL → r9 < NL → r14 < NL → fL_L_law L xs n 696 NL m1 kc ks r1 r2 i3 i4 i5 i6 i7 i8 r9 i10 i11 i12 i13 r14 i15 i16 i17 i18 i19 i20 i21 i22 i23 i24 0 0 = some z → va_P D vwCl (vW tc adL NL m1) H → va_D A (vW tc adL NL m1) → va_S A s.heap H locs → lv_has ls 27 [(1, .ref (adL r1)), (2, .ref (adL r2)), (3, .int i3), (4, .int i4), (5, .int i5), (6, .int i6), (7, .int i7), (8, .int i8), (9, .ref (adL r9)), (10, .int i10), (11, .int i11), (12, .int i12), (13, .int i13), (14, .ref (adL r14)), (15, .int i15), (16, .int i16), (17, .int i17), (18, .int i18), (19, .int i19), (20, .int i20), (21, .int i21), (22, .int i22), (23, .int i23), (24, .int i24), (0, .ref b)] → W p l e room_1 s m #[Value.ref b] below meth c H locs kc ks Qf (F0 m 696 ls [])) ∧ (∀ (NL : Nat) (adL : Nat → Nat) (m1 : vM) (kc ks : Nat) (r1 : Nat) (r2 : Nat) (i3 : Int32) (i4 : Int32) (i5 : Int32) (i6 : Int32) (i7 : Int32) (i8 : Int32) (r9 : Nat) (i10 : Int32) (i11 : Int32) (i12 : Int32) (i13 : Int32) (r14 : Nat) (i15 : Int32) (i16 : Int32) (i17 : Int32) (i18 : Int32) (i19 : Int32) (i20 : Int32) (i21 : Int32) (i22 : Int32) (i23 : Int32) (i24 : Int32) (i25 : Int32) (i26 : Int32) (H : Heap) (locs : List Loc) (ls : Array Slot), N ≤ NL → (∀ k, k < N → adL k = ad k) → kc ≤ 796163 → ks ≤ 6712978 → vOK NL m1 → r1 < NL → r2 < NL → r9 < NL → r14 < NL → fL_L_law L xs n 702 NL m1 kc ks r1 r2 i3 i4 i5 i6 i7 i8 r9 i10 i11 i12 i13 r14 i15 i16 i17 i18 i19 i20 i21 i22 i23 i24 i25 i26 = some z → va_P D vwCl (vW tc adL NL m1) H → va_D A (vW tc adL NL m1) → va_S A s.heap H locs → lv_has ls 27 [(1, .ref (adL r1)), (2, .ref (adL r2)), (3, .int i3), (4, .int i4), (5, .int i5), (6, .int i6), (7, .int i7), (8, .int i8), (9, .ref (adL r9)), (10, .int i10), (11, .int i11), (12, .int i12), (13, .int i13), (14, .ref (adL r14)), (15, .int i15), (16, .int i16), (17, .int i17), (18, .int i18), (19, .int i19), (20, .int i20), (21, .int i21), (22, .int i22), (23, .int i23), (24, .int i24), (25, .int i25), (26, .int i26), (0, .ref b)] → W p l e room_1 s m #[Value.ref b] below meth c H locs kc ks Qf (F0 m 702 ls [])) ∧ (∀ (NL : Nat) (adL : Nat → Nat) (m1 : vM) (kc ks : Nat) (r1 : Nat) (r2 : Nat) (i3 : Int32) (i4 : Int32) (i5 : Int32) (i6 : Int32) (i7 : Int32) (i8 : Int32) (r9 : Nat) (i10 : Int32) (i11 : Int32) (i12 : Int32) (i13 : Int32) (r14 : Nat) (i15 : Int32) (i16 : Int32) (i17 : Int32) (i18 : Int32) (i19 : Int32) (i20 : Int32) (i21 : Int32) (i22 : Int32) (i23 : Int32) (i24 : Int32) (i25 : Int32) (i26 : Int32) (H : Heap) (locs : List Loc) (ls : Array Slot), N ≤ NL → (∀ k, k < N → adL k = ad k) → kc ≤ 796163 → ks ≤ 6712978 → vOK NL m1 → r1 < NL → r2 < NL → r9 < NL → r14 < NL → fL_L_law L xs n 749 NL m1 kc ks r1 r2 i3 i4 i5 i6 i7 i8 r9 i10 i11 i12 i13 r14 i15 i16 i17 i18 i19 i20 i21 i22 i23 i24 i25 i26 = some z → va_P D vwCl (vW tc adL NL m1) H → va_D A (vW tc adL NL m1) → va_S A s.heap H locs → lv_has ls 27 [(1, .ref (adL r1)), (2, .ref (adL r2)), (3, .int i3), (4, .int i4), (5, .int i5), (6, .int i6), (7, .int i7), (8, .int i8), (9, .ref (adL r9)), (10, .int i10), (11, .int i11), (12, .int i12), (13, .int i13), (14, .ref (adL r14)), (15, .int i15), (16, .int i16), (17, .int i17), (18, .int i18), (19, .int i19), (20, .int i20), (21, .int i21), (22, .int i22), (23, .int i23), (24, .int i24), (25, .int i25), (26, .int i26), (0, .ref b)] → W p l e room_1 s m #[Value.ref b] below meth c H locs kc ks Qf (F0 m 749 ls [])) ∧ (∀ (NL : Nat) (adL : Nat → Nat) (m1 : vM) (kc ks : Nat) (r1 : Nat) (r2 : Nat) (i3 : Int32) (i4 : Int32) (i5 : Int32) (i6 : Int32) (i7 : Int32) (i8 : Int32) (r9 : Nat) (i10 : Int32) (i11 : Int32) (i12 : Int32) (i13 : Int32) (r14 : Nat) (i15 : Int32) (i16 : Int32) (H : Heap) (locs : List Loc) (ls : Array Slot), N ≤ NL → (∀ k, k < N → adL k = ad k) → kc ≤ 796163 → ks ≤ 6712978 → vOK NL m1 → r1 < NL → r2 < NL → r9 < NL → r14 < NL → fL_L_law L xs n 847 NL m1 kc ks r1 r2 i3 i4 i5 i6 i7 i8 r9 i10 i11 i12 i13 r14 i15 i16 0 0 0 0 0 0 0 0 0 0 = some z → va_P D vwCl (vW tc adL NL m1) H → va_D A (vW tc adL NL m1) → va_S A s.heap H locs → lv_has ls 27 [(1, .ref (adL r1)), (2, .ref (adL r2)), (3, .int i3), (4, .int i4), (5, .int i5), (6, .int i6), (7, .int i7), (8, .int i8), (9, .ref (adL r9)), (10, .int i10), (11, .int i11), (12, .int i12), (13, .int i13), (14, .ref (adL r14)), (15, .int i15), (16, .int i16), (0, .ref b)] → W p l e room_1 s m #[Value.ref b] below meth c H locs kc ks Qf (F0 m 847 ls [])) ∧ (∀ (NL : Nat) (adL : Nat → Nat) (m1 : vM) (kc ks : Nat) (r1 : Nat) (r2 : Nat) (i3 : Int32) (i4 : Int32) (i5 : Int32) (i6 : Int32) (i7 : Int32) (i8 : Int32) (r9 : Nat) (i10 : Int32) (i11 : Int32) (i12 : Int32) (i13 : Int32) (r14 : Nat) (i15 : Int32) (i16 : Int32) (H : Heap) (locs : List Loc) (ls : Array Slot), N ≤ NL → (∀ k, k < N → adL k = ad k) → kc ≤ 796163 → ks ≤ 6712978 → vOK NL m1 → r1 < NL → r2 < NL → r9 < NL → r14 < NL → fL_L_law L xs n 850 NL m1 kc ks r1 r2 i3 i4 i5 i6 i7 i8 r9 i10 i11 i12 i13 r14 i15 i16 0 0 0 0 0 0 0 0 0 0 = some z → va_P D vwCl (vW tc adL NL m1) H → va_D A (vW tc adL NL m1) → va_S A s.heap H locs → lv_has ls 27 [(1, .ref (adL r1)), (2, .ref (adL r2)), (3, .int i3), (4, .int i4), (5, .int i5), (6, .int i6), (7, .int i7), (8, .int i8), (9, .ref (adL r9)), (10, .int i10), (11, .int i11), (12, .int i12), (13, .int i13), (14, .ref (adL r14)), (15, .int i15), (16, .int i16), (0, .ref b)] → W p l e room_1 s m #[Value.ref b] below meth c H locs kc ks Qf (F0 m 850 ls [])) ∧ (∀ (NL : Nat) (adL : Nat → Nat) (m1 : vM) (kc ks : Nat) (r1 : Nat) (r2 : Nat) (i3 : Int32) (i4 : Int32) (i5 : Int32) (i6 : Int32) (i7 : Int32) (i8 : Int32) (r9 : Nat) (i10 : Int32) (i11 : Int32) (i12 : Int32) (i13 : Int32) (r14 : Nat) (i15 : Int32) (i16 : Int32) (H : Heap) (locs : List Loc) (ls : Array Slot), N ≤ NL → (∀ k, k < N → adL k = ad k) → kc ≤ 796163 → ks ≤ 6712978 → vOK NL m1 → r1 < NL → r2 < NL → r9 < NL → r14 < NL → fL_L_law L xs n 883 NL m1 kc ks r1 r2 i3 i4 i5 i6 i7 i8 r9 i10 i11 i12 i13 r14 i15 i16 0 0 0 0 0 0 0 0 0 0 = some z → va_P D vwCl (vW tc adL NL m1) H → va_D A (vW tc adL NL m1) → va_S A s.heap H locs → lv_has ls 27 [(1, .ref (adL r1)), (2, .ref (adL r2)), (3, .int i3), (4, .int i4), (5, .int i5), (6, .int i6), (7, .int i7), (8, .int i8), (9, .ref (adL r9)), (10, .int i10), (11, .int i11), (12, .int i12), (13, .int i13), (14, .ref (adL r14)), (15, .int i15), (16, .int i16), (0, .ref b)] → W p l e room_1 s m #[Value.ref b] below meth c H locs kc ks Qf (F0 m 883 ls [])) ∧ (∀ (NL : Nat) (adL : Nat → Nat) (m1 : vM) (kc ks : Nat) (r1 : Nat) (r2 : Nat) (i3 : Int32) (i4 : Int32) (i5 : Int32) (i6 : Int32) (i7 : Int32) (i8 : Int32) (r9 : Nat) (i10 : Int32) (i11 : Int32) (i12 : Int32) (i13 : Int32) (r14 : Nat) (i15 : Int32) (i16 : Int32) (i17 : Int32) (i18 : Int32) (i19 : Int32) (H : Heap) (locs : List Loc) (ls : Array Slot), N ≤ NL → (∀ k, k < N → adL k = ad k) → kc ≤ 796163 → ks ≤ 6712978 → vOK NL m1 → r1 < NL → r2 < NL → r9 < NL → r14 < NL → fL_L_law L xs n 929 NL m1 kc ks r1 r2 i3 i4 i5 i6 i7 i8 r9 i10 i11 i12 i13 r14 i15 i16 i17 i18 i19 0 0 0 0 0 0 0 = some z → va_P D vwCl (vW tc adL NL m1) H → va_D A (vW tc adL NL m1) → va_S A s.heap H locs → lv_has ls 27 [(1, .ref (adL r1)), (2, .ref (adL r2)), (3, .int i3), (4, .int i4), (5, .int i5), (6, .int i6), (7, .int i7), (8, .int i8), (9, .ref (adL r9)), (10, .int i10), (11, .int i11), (12, .int i12), (13, .int i13), (14, .ref (adL r14)), (15, .int i15), (16, .int i16), (17, .int i17), (18, .int i18), (19, .int i19), (0, .ref b)] → W p l e room_1 s m #[Value.ref b] below meth c H locs kc ks Qf (F0 m 929 ls [])) ∧ (∀ (NL : Nat) (adL : Nat → Nat) (m1 : vM) (kc ks : Nat) (r1 : Nat) (r2 : Nat) (i3 : Int32) (i4 : Int32) (i5 : Int32) (i6 : Int32) (i7 : Int32) (i8 : Int32) (r9 : Nat) (i10 : Int32) (i11 : Int32) (i12 : Int32) (i13 : Int32) (r14 : Nat) (i15 : Int32) (i16 : Int32) (i17 : Int32) (i18 : Int32) (i19 : Int32) (i20 : Int32) (H : Heap) (locs : List Loc) (ls : Array Slot), N ≤ NL → (∀ k, k < N → adL k = ad k) → kc ≤ 796163 → ks ≤ 6712978 → vOK NL m1 → r1 < NL → r2 < NL → r9 < NL → r14 < NL → fL_L_law L xs n 943 NL m1 kc ks r1 r2 i3 i4 i5 i6 i7 i8 r9 i10 i11 i12 i13 r14 i15 i16 i17 i18 i19 i20 0 0 0 0 0 0 = some z → va_P D vwCl (vW tc adL NL m1) H → va_D A (vW tc adL NL m1) → va_S A s.heap H locs → lv_has ls 27 [(1, .ref (adL r1)), (2, .ref (adL r2)), (3, .int i3), (4, .int i4), (5, .int i5), (6, .int i6), (7, .int i7), (8, .int i8), (9, .ref (adL r9)), (10, .int i10), (11, .int i11), (12, .int i12), (13, .int i13), (14, .ref (adL r14)), (15, .int i15), (16, .int i16), (17, .int i17), (18, .int i18), (19, .int i19), (20, .int i20), (0, .ref b)] → W p l e room_1 s m #[Value.ref b] below meth c H locs kc ks Qf (F0 m 943 ls [])) ∧ (∀ (NL : Nat) (adL : Nat → Nat) (m1 : vM) (kc ks : Nat) (r1 : Nat) (r2 : Nat) (i3 : Int32) (i4 : Int32) (i5 : Int32) (i6 : Int32) (i7 : Int32) (i8 : Int32) (r9 : Nat) (i10 : Int32) (i11 : Int32) (i12 : Int32) (i13 : Int32) (r14 : Nat) (i15 : Int32) (i16 : Int32) (i17 : Int32) (i18 : Int32) (i19 : Int32) (i20 : Int32) (i21 : Int32) (H : Heap) (locs : List Loc) (ls : Array Slot), N ≤ NL → (∀ k, k < N → adL k = ad k) → kc ≤ 796163 → ks ≤ 6712978 → vOK NL m1 → r1 < NL → r2 < NL → r9 < NL → r14 < NL → fL_L_law L xs n 957 NL m1 kc ks r1 r2 i3 i4 i5 i6 i7 i8 r9 i10 i11 i12 i13 r14 i15 i16 i17 i18 i19 i20 i21 0 0 0 0 0 = some z → va_P D vwCl (vW tc adL NL m1) H → va_D A (vW tc adL NL m1) → va_S A s.heap H locs → lv_has ls 27 [(1, .ref (adL r1)), (2, .ref (adL r2)), (3, .int i3), (4, .int i4), (5, .int i5), (6, .int i6), (7, .int i7), (8, .int i8), (9, .ref (adL r9)), (10, .int i10), (11, .int i11), (12, .int i12), (13, .int i13), (14, .ref (adL r14)), (15, .int i15), (16, .int i16), (17, .int i17), (18, .int i18), (19, .int i19), (20, .int i20), (21, .int i21), (0, .ref b)] → W p l e room_1 s m #[Value.ref b] below meth c H locs kc ks Qf (F0 m 957 ls [])) ∧ (∀ (NL : Nat) (adL : Nat → Nat) (m1 : vM) (kc ks : Nat) (r1 : Nat) (r2 : Nat) (i3 : Int32) (i4 : Int32) (i5 : Int32) (i6 : Int32) (i7 : Int32) (i8 : Int32) (r9 : Nat) (i10 : Int32) (i11 : Int32) (i12 : Int32) (i13 : Int32) (r14 : Nat) (i15 : Int32) (i16 : Int32) (i17 : Int32) (i18 : Int32) (i19 : Int32) (i20 : Int32) (i21 : Int32) (i22 : Int32) (i23 : Int32) (H : Heap) (locs : List Loc) (ls : Array Slot), N ≤ NL → (∀ k, k < N → adL k = ad k) → kc ≤ 796163 → ks ≤ 6712978 → vOK NL m1 → r1 < NL → r2 < NL → r9 < NL → r14 < NL → fL_L_law L xs n 963 NL m1 kc ks r1 r2 i3 i4 i5 i6 i7 i8 r9 i10 i11 i12 i13 r14 i15 i16 i17 i18 i19 i20 i21 i22 i23 0 0 0 = some z → va_P D vwCl (vW tc adL NL m1) H → va_D A (vW tc adL NL m1) → va_S A s.heap H locs → lv_has ls 27 [(1, .ref (adL r1)), (2, .ref (adL r2)), (3, .int i3), (4, .int i4), (5, .int i5), (6, .int i6), (7, .int i7), (8, .int i8), (9, .ref (adL r9)), (10, .int i10), (11, .int i11), (12, .int i12), (13, .int i13), (14, .ref (adL r14)), (15, .int i15), (16, .int i16), (17, .int i17), (18, .int i18), (19, .int i19), (20, .int i20), (21, .int i21), (22, .int i22), (23, .int i23), (0, .ref b)] → W p l e room_1 s m #[Value.ref b] below meth c H locs kc ks Qf (F0 m 963 ls [])) ∧ (∀ (NL : Nat) (adL : Nat → Nat) (m1 : vM) (kc ks : Nat) (r1 : Nat) (r2 : Nat) (i3 : Int32) (i4 : Int32) (i5 : Int32) (i6 : Int32) (i7 : Int32) (i8 : Int32) (r9 : Nat) (i10 : Int32) (i11 : Int32) (i12 : Int32) (i13 : Int32) (r14 : Nat) (i15 : Int32) (i16 : Int32) (i17 : Int32) (i18 : Int32) (i19 : Int32) (i20 : Int32) (i21 : Int32) (i22 : Int32) (i23 : Int32) (H : Heap) (locs : List Loc) (ls : Array Slot), N ≤ NL → (∀ k, k < N → adL k = ad k) → kc ≤ 796163 → ks ≤ 6712978 → vOK NL m1 → r1 < NL → r2 < NL → r9 < NL → r14 < NL → fL_L_law L xs n 1031 NL m1 kc ks r1 r2 i3 i4 i5 i6 i7 i8 r9 i10 i11 i12 i13 r14 i15 i16 i17 i18 i19 i20 i21 i22 i23 0 0 0 = some z → va_P D vwCl (vW tc adL NL m1) H → va_D A (vW tc adL NL m1) → va_S A s.heap H locs → lv_has ls 27 [(1, .ref (adL r1)), (2, .ref (adL r2)), (3, .int i3), (4, .int i4), (5, .int i5), (6, .int i6), (7, .int i7), (8, .int i8), (9, .ref (adL r9)), (10, .int i10), (11, .int i11), (12, .int i12), (13, .int i13), (14, .ref (adL r14)), (15, .int i15), (16, .int i16), (17, .int i17), (18, .int i18), (19, .int i19), (20, .int i20), (21, .int i21), (22, .int i22), (23, .int i23), (0, .ref b)] → W p l e room_1 s m #[Value.ref b] below meth c H locs kc ks Qf (F0 m 1031 ls [])) := by
    intro n
    induction n with
    | zero => exact ⟨(fun _ _ _ _ _ _ _ _ _ _ _ _ _ _ _ _ _ _ _ h9 _ _ _ _ => by have h9 : (none : Option (Int32 × Nat × vM)) = some z := h9; cases h9), (fun _ _ _ _ _ _ _ _ _ _ _ _ _ _ _ _ _ _ _ _ _ _ h9 _ _ _ _ => by have h9 : (none : Option (Int32 × Nat × vM)) = some z := h9; cases h9), (fun _ _ _ _ _ _ _ _ _ _ _ _ _ _ _ _ _ _ _ _ _ _ _ _ _ _ h9 _ _ _ _ => by have h9 : (none : Option (Int32 × Nat × vM)) = some z := h9; cases h9), (fun _ _ _ _ _ _ _ _ _ _ _ _ _ _ _ _ _ _ _ _ _ _ _ _ _ _ _ h9 _ _ _ _ => by have h9 : (none : Option (Int32 × Nat × vM)) = some z := h9; cases h9), (fun _ _ _ _ _ _ _ _ _ _ _ _ _ _ _ _ _ _ _ _ _ _ _ _ _ _ _ _ h9 _ _ _ _ => by have h9 : (none : Option (Int32 × Nat × vM)) = some z := h9; cases h9), (fun _ _ _ _ _ _ _ _ _ _ _ _ _ _ _ _ _ _ _ _ _ _ _ _ _ _ _ _ _ _ _ _ _ h9 _ _ _ _ => by have h9 : (none : Option (Int32 × Nat × vM)) = some z := h9; cases h9), (fun _ _ _ _ _ _ _ _ _ _ _ _ _ _ _ _ _ _ _ _ _ _ _ _ _ _ _ _ _ _ _ _ _ _ _ _ _ _ h9 _ _ _ _ => by have h9 : (none : Option (Int32 × Nat × vM)) = some z := h9; cases h9), (fun _ _ _ _ _ _ _ _ _ _ _ _ _ _ _ _ _ _ _ _ _ _ _ _ _ _ _ _ _ _ _ _ _ _ _ _ _ _ h9 _ _ _ _ => by have h9 : (none : Option (Int32 × Nat × vM)) = some z := h9; cases h9), (fun _ _ _ _ _ _ _ _ _ _ _ _ _ _ _ _ _ _ _ _ _ _ _ _ _ _ _ _ _ _ _ _ _ _ _ _ _ _ h9 _ _ _ _ => by have h9 : (none : Option (Int32 × Nat × vM)) = some z := h9; cases h9), (fun _ _ _ _ _ _ _ _ _ _ _ _ _ _ _ _ _ _ _ _ _ _ _ _ _ _ _ _ _ _ _ _ _ _ _ _ _ _ h9 _ _ _ _ => by have h9 : (none : Option (Int32 × Nat × vM)) = some z := h9; cases h9), (fun _ _ _ _ _ _ _ _ _ _ _ _ _ _ _ _ _ _ _ _ _ _ _ _ _ _ _ _ _ _ _ _ _ _ _ _ _ _ h9 _ _ _ _ => by have h9 : (none : Option (Int32 × Nat × vM)) = some z := h9; cases h9), (fun _ _ _ _ _ _ _ _ _ _ _ _ _ _ _ _ _ _ _ _ _ _ _ _ _ _ _ _ _ _ _ _ _ _ _ _ _ _ h9 _ _ _ _ => by have h9 : (none : Option (Int32 × Nat × vM)) = some z := h9; cases h9), (fun _ _ _ _ _ _ _ _ _ _ _ _ _ _ _ _ _ _ _ _ _ _ _ _ _ _ _ _ _ _ _ _ _ _ _ _ _ _ _ _ _ h9 _ _ _ _ => by have h9 : (none : Option (Int32 × Nat × vM)) = some z := h9; cases h9), (fun _ _ _ _ _ _ _ _ _ _ _ _ _ _ _ _ _ _ _ _ _ _ _ _ _ _ _ _ _ _ _ _ _ _ _ _ _ _ _ _ _ _ _ h9 _ _ _ _ => by have h9 : (none : Option (Int32 × Nat × vM)) = some z := h9; cases h9), (fun _ _ _ _ _ _ _ _ _ _ _ _ _ _ _ _ _ _ _ _ _ _ _ _ _ _ _ _ _ _ _ _ _ _ _ _ _ _ _ _ _ _ _ h9 _ _ _ _ => by have h9 : (none : Option (Int32 × Nat × vM)) = some z := h9; cases h9), (fun _ _ _ _ _ _ _ _ _ _ _ _ _ _ _ _ _ _ _ _ _ _ _ _ _ _ _ _ _ _ _ _ _ h9 _ _ _ _ => by have h9 : (none : Option (Int32 × Nat × vM)) = some z := h9; cases h9), (fun _ _ _ _ _ _ _ _ _ _ _ _ _ _ _ _ _ _ _ _ _ _ _ _ _ _ _ _ _ _ _ _ _ h9 _ _ _ _ => by have h9 : (none : Option (Int32 × Nat × vM)) = some z := h9; cases h9), (fun _ _ _ _ _ _ _ _ _ _ _ _ _ _ _ _ _ _ _ _ _ _ _ _ _ _ _ _ _ _ _ _ _ h9 _ _ _ _ => by have h9 : (none : Option (Int32 × Nat × vM)) = some z := h9; cases h9), (fun _ _ _ _ _ _ _ _ _ _ _ _ _ _ _ _ _ _ _ _ _ _ _ _ _ _ _ _ _ _ _ _ _ _ _ _ h9 _ _ _ _ => by have h9 : (none : Option (Int32 × Nat × vM)) = some z := h9; cases h9), (fun _ _ _ _ _ _ _ _ _ _ _ _ _ _ _ _ _ _ _ _ _ _ _ _ _ _ _ _ _ _ _ _ _ _ _ _ _ h9 _ _ _ _ => by have h9 : (none : Option (Int32 × Nat × vM)) = some z := h9; cases h9), (fun _ _ _ _ _ _ _ _ _ _ _ _ _ _ _ _ _ _ _ _ _ _ _ _ _ _ _ _ _ _ _ _ _ _ _ _ _ _ h9 _ _ _ _ => by have h9 : (none : Option (Int32 × Nat × vM)) = some z := h9; cases h9), (fun _ _ _ _ _ _ _ _ _ _ _ _ _ _ _ _ _ _ _ _ _ _ _ _ _ _ _ _ _ _ _ _ _ _ _ _ _ _ _ _ h9 _ _ _ _ => by have h9 : (none : Option (Int32 × Nat × vM)) = some z := h9; cases h9), (fun _ _ _ _ _ _ _ _ _ _ _ _ _ _ _ _ _ _ _ _ _ _ _ _ _ _ _ _ _ _ _ _ _ _ _ _ _ _ _ _ h9 _ _ _ _ => by have h9 : (none : Option (Int32 × Nat × vM)) = some z := h9; cases h9)⟩
    | succ n ih =>
      refine ⟨?_, ?_, ?_, ?_, ?_, ?_, ?_, ?_, ?_, ?_, ?_, ?_, ?_, ?_, ?_, ?_, ?_, ?_, ?_, ?_, ?_, ?_, ?_⟩
      · intro NL adL m1 kc ks r1 r2 i3 i4 H locs ls hNN hE hc hs hO n_r1 n_r2 h hP hD hS hl
        have h : fB_L_law_29 L xs (fL_L_law L xs n) NL m1 kc ks r1 r2 i3 i4 0 0 0 0 0 0 0 0 0 0 0 0 0 0 0 0 0 0 0 0 0 0 = some z := h
        unfold fB_L_law_29 at h
        refine lv_iload hx hb dL_law_29 (lv_at hl 3 rfl) ?_
        refine lv_bipush (v := 50) hx hb dL_law_31 (by decide) ?_
        refine lv_icmp_ge (tgt := 1056) hx hb dL_law_33 (by decide) (fun c1 => ?_) (fun c1 => ?_)
        · rw [if_pos c1] at h
          refine lv_aload_n hx hb dL_law_1056 rfl (lv_at hl 1 rfl) ?_
          refine lv_aload_n hx hb dL_law_1057 rfl (lv_at hl 0 rfl) ?_
          obtain ⟨g2, h⟩ := vg_if h
          obtain ⟨q3, g4, h⟩ := vg_bind h
          obtain ⟨g5, h⟩ := vg_if h
          obtain ⟨g6, h⟩ := vg_if h
          have hFc := vm_free hD hS hA
          refine va_calli (va_runV (As := [.ref (adL r1)]) (rest := []) ⟨hx, hb, hml, hown, hts⟩ (cm_X5_isSame (m0 := m1) l D tc adL hO n_r2 n_r1 g4) (cwV 1 hts gL_law_X5_isSame rfl rfl rfl (by decide +kernel) ⟨(Nat.le_of_ble_eq_true rfl), (Nat.le_of_ble_eq_true rfl)⟩) ⟨qW_blind, va_recv hK hP (ci := 5) (q0 := r2) rfl (vW_k5 n_r2 g2), qW_pre hP hD hK hZ⟩ rfl rfl hl.1 rfl (lv_room (Nat.le_of_ble_eq_true rfl)) dL_law_1058 ⟨g5, g6⟩) hS (fun q9 _ h9 => hFc q9 h9) hFc (fun w7 u t H1 locs ht hvm hw hB hz1 hk1 hS => ?_)
          obtain ⟨ad8, e9, e10, hO11, hP1, hK1, hD1⟩ := hB
          rw [ht] at hP1
          have hP := hP1
          have hD := hD1.weaken (fun _ q9 _ h9 => hFc q9.1 h9)
          generalize H1 = H at hP hS ⊢
          clear hk1 hz1 ht hvm
          have hl : lv_has ls 27 [(1, .ref (ad8 r1)), (2, .ref (ad8 r2)), (3, .int i3), (4, .int i4), (0, .ref b)] := by rw [e9 r1 n_r1, e9 r2 n_r2]; exact hl
          have e12 : ∀ k, k < N → ad8 k = ad k := fun k hk => (e9 k (Nat.lt_of_lt_of_le hk hNN)).trans (hE k hk)
          have e13 : N ≤ q3.2.1 := Nat.le_trans hNN e10
          have n14 : r1 < q3.2.1 := Nat.lt_of_lt_of_le n_r1 e10
          have n15 : r2 < q3.2.1 := Nat.lt_of_lt_of_le n_r2 e10
          have hw : w7 = q3.1 := hw
          rw [hw]
          have hP : va_P D vwCl (vW tc ad8 q3.2.1 q3.2.2) H := hP
          have hD : va_D A (vW tc ad8 q3.2.1 q3.2.2) := hD
          obtain ⟨g16, h⟩ := vg_if h
          have hz := Option.some.inj h
          rw [← hz] at hz1
          have hz2 : q3.1 = 1 := hz1
          refine W.eq (g2 := F0 m 1061 ls [.int 1]) (by rw [hz2]) ?_
          refine W.widen (k := 796163) (n := 6712978) g5 g6 ?_
          exact hend _ _ _ hS
        · rw [if_neg c1] at h
          refine lv_aload_n hx hb dL_law_36 rfl (lv_at hl 4 rfl) ?_
          refine lv_iload hx hb dL_law_37 (lv_at hl 3 rfl) ?_
          refine lv_bipush (v := 16) hx hb dL_law_39 (by decide) ?_
          obtain ⟨g17, h⟩ := vg_if h
          refine lv_irem hx hb dL_law_41 g17 ?_
          obtain ⟨q18, g19, h⟩ := vg_bind h
          refine va_calli (va_runS (As := [.ref b, .int (i4 - i4 / 16 * 16)]) (rest := []) ⟨hx, hb, hml, hown, hts⟩ (cm_L_cell (m0 := m1) l D tc adL hO g19) (va_cwS 2 hts gL_law_L_cell rfl rfl rfl (by decide +kernel) ⟨(Nat.le_of_ble_eq_true rfl), (Nat.le_of_ble_eq_true rfl)⟩) ⟨qS_blind, qS_pre hP hK hZ hX hbl hbA hS⟩ rfl rfl hl.1 rfl (lv_room (Nat.le_of_ble_eq_true rfl)) dL_law_42 ⟨hc, hs⟩) hS (fun q9 _ h9 => h9.elim) (fun q9 h9 => h9.elim) (fun w20 u t H1 locs ht hvm hw hB hz1 hk1 hS => ?_)
          have hP := hP.kept (fun k9 q9 hk9 => hk1 q9.1 (hP k9 q9 hk9).lt (fun h9 => h9))
          generalize H1 = H at hP hS ⊢
          clear hk1 hz1 ht hvm
          have hw : w20 = q18 := hw
          rw [hw]
          refine lv_iload hx hb dL_law_45 (lv_at hl 3 rfl) ?_
          refine lv_bipush (v := 16) hx hb dL_law_47 (by decide) ?_
          obtain ⟨g21, h⟩ := vg_if h
          refine lv_idiv hx hb dL_law_49 g21 ?_
          refine lv_iconst (v := 3) hx hb dL_law_50 (by decide) ?_
          refine lv_imul hx hb dL_law_51 ?_
          refine lv_ishr hx hb dL_law_52 ?_
          refine lv_bipush (v := 89) hx hb dL_law_53 (by decide) ?_
          refine lv_iload hx hb dL_law_55 (lv_at hl 3 rfl) ?_
          refine lv_imul hx hb dL_law_57 ?_
          refine lv_iadd hx hb dL_law_58 ?_
          refine lv_istore (lv' := [(5, .int ((q18 >>> (((i4 / 16) * 3) &&& 31)) + (89 * i4))), (1, .ref (adL r1)), (2, .ref (adL r2)), (3, .int i3), (4, .int i4), (0, .ref b)]) hx hb dL_law_59 hl (by decide) rfl (fun ls hl => ?_)
          refine lv_iload hx hb dL_law_61 (lv_at hl 0 rfl) ?_
          refine lv_iload_n hx hb dL_law_63 rfl (lv_at hl 3 rfl) ?_
          obtain ⟨q22, g23, h⟩ := vg_bind h
          refine va_calli (va_runS (As := [.int ((q18 >>> (((i4 / 16) * 3) &&& 31)) + (89 * i4)), .int i3]) (rest := []) ⟨hx, hb, hml, hown, hts⟩ (cm_L_below (m0 := m1) l D tc adL hO g23) (va_cwS 2 hts gL_law_L_below rfl rfl rfl (by decide +kernel) ⟨(Nat.le_of_ble_eq_true rfl), (Nat.le_of_ble_eq_true rfl)⟩) ⟨qR_blind, qR_pre hP hK hZ⟩ rfl rfl hl.1 rfl (lv_room (Nat.le_of_ble_eq_true rfl)) dL_law_64 ⟨hc, hs⟩) hS (fun q9 _ h9 => h9.elim) (fun q9 h9 => h9.elim) (fun w24 u t H1 locs ht hvm hw hB hz1 hk1 hS => ?_)
          have hP := hP.kept (fun k9 q9 hk9 => hk1 q9.1 (hP k9 q9 hk9).lt (fun h9 => h9))
          generalize H1 = H at hP hS ⊢
          clear hk1 hz1 ht hvm
          have hw : w24 = q22 := hw
          rw [hw]
          refine lv_istore (lv' := [(6, .int q22), (5, .int ((q18 >>> (((i4 / 16) * 3) &&& 31)) + (89 * i4))), (1, .ref (adL r1)), (2, .ref (adL r2)), (3, .int i3), (4, .int i4), (0, .ref b)]) hx hb dL_law_67 hl (by decide) rfl (fun ls hl => ?_)
          refine lv_iload hx hb dL_law_69 (lv_at hl 1 rfl) ?_
          refine lv_bipush (v := 8) hx hb dL_law_71 (by decide) ?_
          refine lv_ishr hx hb dL_law_73 ?_
          refine lv_bipush (v := 6) hx hb dL_law_74 (by decide) ?_
          obtain ⟨q25, g26, h⟩ := vg_bind h
          refine va_calli (va_runS (As := [.int (((q18 >>> (((i4 / 16) * 3) &&& 31)) + (89 * i4)) >>> (8 &&& 31)), .int 6]) (rest := []) ⟨hx, hb, hml, hown, hts⟩ (cm_L_below (m0 := m1) l D tc adL hO g26) (va_cwS 2 hts gL_law_L_below rfl rfl rfl (by decide +kernel) ⟨(Nat.le_of_ble_eq_true rfl), (Nat.le_of_ble_eq_true rfl)⟩) ⟨qR_blind, qR_pre hP hK hZ⟩ rfl rfl hl.1 rfl (lv_room (Nat.le_of_ble_eq_true rfl)) dL_law_76 ⟨hc, hs⟩) hS (fun q9 _ h9 => h9.elim) (fun q9 h9 => h9.elim) (fun w27 u t H1 locs ht hvm hw hB hz1 hk1 hS => ?_)
          have hP := hP.kept (fun k9 q9 hk9 => hk1 q9.1 (hP k9 q9 hk9).lt (fun h9 => h9))
          generalize H1 = H at hP hS ⊢
          clear hk1 hz1 ht hvm
          have hw : w27 = q25 := hw
          rw [hw]
          refine lv_iconst (v := 3) hx hb dL_law_79 (by decide) ?_
          refine lv_icmp_ge (tgt := 87) hx hb dL_law_80 (by decide) (fun c28 => ?_) (fun c28 => ?_)
          · rw [if_pos c28] at h
            refine lv_iconst (v := 0) hx hb dL_law_87 (by decide) ?_
            refine lv_istore (lv' := [(7, .int 0), (6, .int q22), (5, .int ((q18 >>> (((i4 / 16) * 3) &&& 31)) + (89 * i4))), (1, .ref (adL r1)), (2, .ref (adL r2)), (3, .int i3), (4, .int i4), (0, .ref b)]) hx hb dL_law_88 hl (by decide) rfl (fun ls hl => ?_)
            exact (ih.2.1) NL adL m1 kc ks r1 r2 i3 i4 ((q18 >>> (((i4 / 16) * 3) &&& 31)) + (89 * i4)) q22 (0 : Int32) _ _ _ hNN hE hc hs hO n_r1 n_r2 h hP hD hS (lv_sub hl (l' := [(1, .ref (adL r1)), (2, .ref (adL r2)), (3, .int i3), (4, .int i4), (5, .int ((q18 >>> (((i4 / 16) * 3) &&& 31)) + (89 * i4))), (6, .int q22), (7, .int 0), (0, .ref b)]) [3, 4, 5, 6, 2, 1, 0, 7] rfl)
          · rw [if_neg c28] at h
            refine lv_iconst (v := 1) hx hb dL_law_83 (by decide) ?_
            refine lv_goto (tgt := 88) hx hb dL_law_84 (by decide) ?_
            refine lv_istore (lv' := [(7, .int 1), (6, .int q22), (5, .int ((q18 >>> (((i4 / 16) * 3) &&& 31)) + (89 * i4))), (1, .ref (adL r1)), (2, .ref (adL r2)), (3, .int i3), (4, .int i4), (0, .ref b)]) hx hb dL_law_88 hl (by decide) rfl (fun ls hl => ?_)
            exact (ih.2.1) NL adL m1 kc ks r1 r2 i3 i4 ((q18 >>> (((i4 / 16) * 3) &&& 31)) + (89 * i4)) q22 (1 : Int32) _ _ _ hNN hE hc hs hO n_r1 n_r2 h hP hD hS (lv_sub hl (l' := [(1, .ref (adL r1)), (2, .ref (adL r2)), (3, .int i3), (4, .int i4), (5, .int ((q18 >>> (((i4 / 16) * 3) &&& 31)) + (89 * i4))), (6, .int q22), (7, .int 1), (0, .ref b)]) [3, 4, 5, 6, 2, 1, 0, 7] rfl)
      · intro NL adL m1 kc ks r1 r2 i3 i4 i5 i6 i7 H locs ls hNN hE hc hs hO n_r1 n_r2 h hP hD hS hl
        have h : fB_L_law_90 L xs (fL_L_law L xs n) NL m1 kc ks r1 r2 i3 i4 i5 i6 i7 0 0 0 0 0 0 0 0 0 0 0 0 0 0 0 0 0 0 0 = some z := h
        unfold fB_L_law_90 at h
        refine lv_aload_n hx hb dL_law_90 rfl (lv_at hl 0 rfl) ?_
        refine lv_iload hx hb dL_law_91 (lv_at hl 5 rfl) ?_
        refine lv_iconst (v := 1) hx hb dL_law_93 (by decide) ?_
        obtain ⟨g29, h⟩ := vg_if h
        obtain ⟨q30, g31, h⟩ := vg_bind h
        have hFc := vm_free hD hS hA
        refine va_calli (va_runV (As := [.int i6, .int 1]) (rest := []) ⟨hx, hb, hml, hown, hts⟩ (cm_X3_would (m0 := m1) l D tc adL hO n_r1 g31) (cwV 2 hts gL_law_X3_would rfl rfl rfl (by decide +kernel) ⟨(Nat.le_of_ble_eq_true rfl), (Nat.le_of_ble_eq_true rfl)⟩) ⟨qW_blind, va_recv hK hP (ci := 3) (q0 := r1) rfl (vW_k3 n_r1 g29), qW_pre hP hD hK hZ⟩ rfl rfl hl.1 rfl (lv_room (Nat.le_of_ble_eq_true rfl)) dL_law_94 ⟨hc, hs⟩) hS (fun q9 _ h9 => hFc q9 h9) hFc (fun w32 u t H1 locs ht hvm hw hB hz1 hk1 hS => ?_)
        obtain ⟨hO33, hP1, hK1, hD1⟩ := hB
        rw [ht] at hP1
        have hP := hP1
        have hD := hD1.weaken (fun _ q9 _ h9 => hFc q9.1 h9)
        generalize H1 = H at hP hS ⊢
        have hP : va_P D vwCl (vW tc adL NL q30.2) H := hP
        have hD : va_D A (vW tc adL NL q30.2) := hD
        clear hk1 hz1 ht hvm
        have hw : w32 = q30.1 := hw
        rw [hw]
        refine lv_istore (lv' := [(8, .int q30.1), (1, .ref (adL r1)), (2, .ref (adL r2)), (3, .int i3), (4, .int i4), (5, .int i5), (6, .int i6), (7, .int i7), (0, .ref b)]) hx hb dL_law_97 hl (by decide) rfl (fun ls hl => ?_)
        refine lv_aload_n hx hb dL_law_99 rfl (lv_at hl 1 rfl) ?_
        refine lv_aload_n hx hb dL_law_100 rfl (lv_at hl 2 rfl) ?_
        refine lv_iload hx hb dL_law_101 (lv_at hl 5 rfl) ?_
        obtain ⟨q34, g35, h⟩ := vg_bind h
        obtain ⟨g36, h⟩ := vg_if h
        obtain ⟨g37, h⟩ := vg_if h
        have hFc := vm_free hD hS hA
        refine va_calli (va_runS (As := [.ref (adL r1), .ref (adL r2), .int i5]) (rest := []) ⟨hx, hb, hml, hown, hts⟩ (cm_L_act (m0 := q30.2) l D tc adL hO33 n_r1 n_r2 g35) (va_cwS 3 hts gL_law_L_act rfl rfl rfl (by decide +kernel) ⟨(Nat.le_of_ble_eq_true rfl), (Nat.le_of_ble_eq_true rfl)⟩) ⟨qW_blind, qW_pre hP hD hK hZ⟩ rfl rfl hl.1 rfl (lv_room (Nat.le_of_ble_eq_true rfl)) dL_law_103 ⟨g36, g37⟩) hS (fun q9 _ h9 => hFc q9 h9) hFc (fun w38 u t H1 locs ht hvm hw hB hz1 hk1 hS => ?_)
        obtain ⟨ad39, e40, e41, hO42, hP1, hK1, hD1⟩ := hB
        rw [ht] at hP1
        have hP := hP1
        have hD := hD1.weaken (fun _ q9 _ h9 => hFc q9.1 h9)
        generalize H1 = H at hP hS ⊢
        clear hk1 hz1 ht hvm
        have hl : lv_has ls 27 [(8, .int q30.1), (1, .ref (ad39 r1)), (2, .ref (ad39 r2)), (3, .int i3), (4, .int i4), (5, .int i5), (6, .int i6), (7, .int i7), (0, .ref b)] := by rw [e40 r1 n_r1, e40 r2 n_r2]; exact hl
        have e43 : ∀ k, k < N → ad39 k = ad k := fun k hk => (e40 k (Nat.lt_of_lt_of_le hk hNN)).trans (hE k hk)
        have e44 : N ≤ q34.2.1 := Nat.le_trans hNN e41
        have n45 : r1 < q34.2.1 := Nat.lt_of_lt_of_le n_r1 e41
        have n46 : r2 < q34.2.1 := Nat.lt_of_lt_of_le n_r2 e41
        have hw : w38 = q34.1 := hw
        rw [hw]
        have hP : va_P D vwCl (vW tc ad39 q34.2.1 q34.2.2) H := hP
        have hD : va_D A (vW tc ad39 q34.2.1 q34.2.2) := hD
        refine lv_if_ne (tgt := 111) hx hb dL_law_106 (by decide) (fun c47 => ?_) (fun c47 => ?_)
        · rw [if_neg c47] at h
          refine lv_iload_n hx hb dL_law_111 rfl (lv_at hl 3 rfl) ?_
          refine lv_bipush (v := 9) hx hb dL_law_112 (by decide) ?_
          obtain ⟨g48, h⟩ := vg_if h
          obtain ⟨g49, h⟩ := vg_if h
          obtain ⟨g50, h⟩ := vg_if h
          obtain ⟨g51, h⟩ := vg_if h
          refine wm_mna (n := i3) (n' := i3.toNatClampNeg) hx hb hown (hts (.classLink RL 84 "[[I") (List.mem_append_left _ (List.mem_append_left _ (List.mem_append_left _ (List.mem_of_getElem? (i := 4) rfl))))) hZ.2.1 (hts (.arrayClass .int) (List.mem_append_left _ (List.mem_append_left _ (List.mem_append_left _ (List.mem_of_getElem? (i := 5) rfl))))) hO42 hK hP hD hS hA g48 rfl g49 g50 g51 dL_law_114 (fun ad52 H e53 hP hD hS => ?_)
          have hl : lv_has ls 27 [(8, .int q30.1), (1, .ref (ad52 r1)), (2, .ref (ad52 r2)), (3, .int i3), (4, .int i4), (5, .int i5), (6, .int i6), (7, .int i7), (0, .ref b)] := by rw [e53 r1 n45, e53 r2 n46]; exact hl
          have e54 : ∀ k, k < N → ad52 k = ad k := fun k hk => (e53 k (Nat.lt_of_lt_of_le hk e44)).trans (e43 k hk)
          have e55 : N ≤ (q34.2.1 + (1 + i3.toNatClampNeg)) := Nat.le_trans e44 (Nat.le_add_right _ _)
          have hO56 := vOK.Q (n := i3.toNatClampNeg) hO42
          have n57 : r1 < (q34.2.1 + (1 + i3.toNatClampNeg)) := Nat.lt_of_lt_of_le n45 (Nat.le_add_right _ _)
          have n58 : r2 < (q34.2.1 + (1 + i3.toNatClampNeg)) := Nat.lt_of_lt_of_le n46 (Nat.le_add_right _ _)
          have n59 : q34.2.1 < (q34.2.1 + (1 + i3.toNatClampNeg)) := by omega
          have hP : va_P D vwCl (vW tc ad52 ((q34.2.1 + (1 + i3.toNatClampNeg))) ((mQ q34.2.2 q34.2.1 i3.toNatClampNeg))) H := hP
          have hD : va_D A (vW tc ad52 ((q34.2.1 + (1 + i3.toNatClampNeg))) ((mQ q34.2.2 q34.2.1 i3.toNatClampNeg))) := hD
          refine lv_astore (lv' := [(9, .ref (ad52 q34.2.1)), (8, .int q30.1), (1, .ref (ad52 r1)), (2, .ref (ad52 r2)), (3, .int i3), (4, .int i4), (5, .int i5), (6, .int i6), (7, .int i7), (0, .ref b)]) hx hb dL_law_118 hl (by decide) rfl (fun ls hl => ?_)
          refine lv_iconst (v := 0) hx hb dL_law_120 (by decide) ?_
          refine lv_istore (lv' := [(10, .int 0), (9, .ref (ad52 q34.2.1)), (8, .int q30.1), (1, .ref (ad52 r1)), (2, .ref (ad52 r2)), (3, .int i3), (4, .int i4), (5, .int i5), (6, .int i6), (7, .int i7), (0, .ref b)]) hx hb dL_law_121 hl (by decide) rfl (fun ls hl => ?_)
          exact (ih.2.2.1) ((q34.2.1 + (1 + i3.toNatClampNeg))) ad52 ((mQ q34.2.2 q34.2.1 i3.toNatClampNeg)) (((kc + 9) + (1 + i3.toNatClampNeg))) (((ks + 284) + (i3.toNatClampNeg + i3.toNatClampNeg * 9))) r1 r2 i3 i4 i5 i6 i7 q30.1 q34.2.1 (0 : Int32) _ _ _ e55 e54 g50 g51 hO56 n57 n58 n59 h hP hD hS (lv_sub hl (l' := [(1, .ref (ad52 r1)), (2, .ref (ad52 r2)), (3, .int i3), (4, .int i4), (5, .int i5), (6, .int i6), (7, .int i7), (8, .int q30.1), (9, .ref (ad52 q34.2.1)), (10, .int 0), (0, .ref b)]) [3, 4, 5, 6, 7, 8, 9, 2, 1, 0, 10] rfl)
        · rw [if_pos c47] at h
          refine lv_iconst (v := 0) hx hb dL_law_109 (by decide) ?_
          have hz := Option.some.inj h
          rw [← hz] at hz1
          exact absurd (show (0 : Int32) = 1 from hz1) (by decide)
      · intro NL adL m1 kc ks r1 r2 i3 i4 i5 i6 i7 i8 r9 i10 H locs ls hNN hE hc hs hO n_r1 n_r2 n_r9 h hP hD hS hl
        have h : fB_L_law_123 L xs (fL_L_law L xs n) NL m1 kc ks r1 r2 i3 i4 i5 i6 i7 i8 r9 i10 0 0 0 0 0 0 0 0 0 0 0 0 0 0 0 0 = some z := h
        unfold fB_L_law_123 at h
        refine lv_iload hx hb dL_law_123 (lv_at hl 9 rfl) ?_
        refine lv_iload_n hx hb dL_law_125 rfl (lv_at hl 2 rfl) ?_
        refine lv_icmp_ge (tgt := 167) hx hb dL_law_126 (by decide) (fun c60 => ?_) (fun c60 => ?_)
        · rw [if_pos c60] at h
          refine lv_aload_n hx hb dL_law_167 rfl (lv_at hl 0 rfl) ?_
          refine lv_bipush (v := 7) hx hb dL_law_168 (by decide) ?_
          obtain ⟨g61, h⟩ := vg_if h
          obtain ⟨q62, g63, h⟩ := vg_bind h
          refine va_calli (va_runV (As := [.int 7]) (rest := []) ⟨hx, hb, hml, hown, hts⟩ (cm_X3_count (m0 := m1) l D tc adL hO n_r1 g63) (cwV 1 hts gL_law_X3_count rfl rfl rfl (by decide +kernel) ⟨(Nat.le_of_ble_eq_true rfl), (Nat.le_of_ble_eq_true rfl)⟩) ⟨qR_blind, va_recv hK hP (ci := 3) (q0 := r1) rfl (vW_k3 n_r1 g61), qR_pre hP hK hZ⟩ rfl rfl hl.1 rfl (lv_room (Nat.le_of_ble_eq_true rfl)) dL_law_170 ⟨hc, hs⟩) hS (fun q9 _ h9 => h9.elim) (fun q9 h9 => h9.elim) (fun w64 u t H1 locs ht hvm hw hB hz1 hk1 hS => ?_)
          have hP := hP.kept (fun k9 q9 hk9 => hk1 q9.1 (hP k9 q9 hk9).lt (fun h9 => h9))
          generalize H1 = H at hP hS ⊢
          clear hk1 hz1 ht hvm
          have hw : w64 = q62 := hw
          rw [hw]
          refine lv_istore (lv' := [(10, .int q62), (1, .ref (adL r1)), (2, .ref (adL r2)), (3, .int i3), (4, .int i4), (5, .int i5), (6, .int i6), (7, .int i7), (8, .int i8), (9, .ref (adL r9)), (0, .ref b)]) hx hb dL_law_173 hl (by decide) rfl (fun ls hl => ?_)
          refine lv_aload_n hx hb dL_law_175 rfl (lv_at hl 1 rfl) ?_
          refine lv_iload hx hb dL_law_176 (lv_at hl 6 rfl) ?_
          obtain ⟨q65, g66, h⟩ := vg_bind h
          have hFc := vm_free hD hS hA
          refine va_calli (va_runV (As := [.int i6]) (rest := []) ⟨hx, hb, hml, hown, hts⟩ (cm_X3_opens (m0 := m1) l D tc adL hO n_r1 g66) (cwV 1 hts gL_law_X3_opens rfl rfl rfl (by decide +kernel) ⟨(Nat.le_of_ble_eq_true rfl), (Nat.le_of_ble_eq_true rfl)⟩) ⟨qW_blind, va_recv hK hP (ci := 3) (q0 := r1) rfl (vW_k3 n_r1 g61), qW_pre hP hD hK hZ⟩ rfl rfl hl.1 rfl (lv_room (Nat.le_of_ble_eq_true rfl)) dL_law_178 ⟨hc, hs⟩) hS (fun q9 _ h9 => hFc q9 h9) hFc (fun w67 u t H1 locs ht hvm hw hB hz1 hk1 hS => ?_)
          obtain ⟨hO68, hP1, hK1, hD1⟩ := hB
          rw [ht] at hP1
          have hP := hP1
          have hD := hD1.weaken (fun _ q9 _ h9 => hFc q9.1 h9)
          generalize H1 = H at hP hS ⊢
          have hP : va_P D vwCl (vW tc adL NL q65.2) H := hP
          have hD : va_D A (vW tc adL NL q65.2) := hD
          clear hk1 hz1 ht hvm
          have hw : w67 = q65.1 := hw
          rw [hw]
          refine lv_istore (lv' := [(11, .int q65.1), (10, .int q62), (1, .ref (adL r1)), (2, .ref (adL r2)), (3, .int i3), (4, .int i4), (5, .int i5), (6, .int i6), (7, .int i7), (8, .int i8), (9, .ref (adL r9)), (0, .ref b)]) hx hb dL_law_181 hl (by decide) rfl (fun ls hl => ?_)
          refine lv_aload_n hx hb dL_law_183 rfl (lv_at hl 2 rfl) ?_
          refine lv_iconst (v := 1) hx hb dL_law_184 (by decide) ?_
          obtain ⟨g69, h⟩ := vg_if h
          obtain ⟨q70, g71, h⟩ := vg_bind h
          have hFc := vm_free hD hS hA
          refine va_calli (va_runV (As := [.int 1]) (rest := []) ⟨hx, hb, hml, hown, hts⟩ (cm_X3_pass (m0 := q65.2) l D tc adL hO68 n_r1 g71) (cwV 1 hts gL_law_X3_pass rfl rfl rfl (by decide +kernel) ⟨(Nat.le_of_ble_eq_true rfl), (Nat.le_of_ble_eq_true rfl)⟩) ⟨qW_blind, va_recv hK hP (ci := 3) (q0 := r1) rfl (vW_k3 n_r1 g69), qW_pre hP hD hK hZ⟩ rfl rfl hl.1 rfl (lv_room (Nat.le_of_ble_eq_true rfl)) dL_law_185 ⟨hc, hs⟩) hS (fun q9 _ h9 => hFc q9 h9) hFc (fun w72 u t H1 locs ht hvm hw hB hz1 hk1 hS => ?_)
          obtain ⟨hO73, hP1, hK1, hD1⟩ := hB
          rw [ht] at hP1
          have hP := hP1
          have hD := hD1.weaken (fun _ q9 _ h9 => hFc q9.1 h9)
          generalize H1 = H at hP hS ⊢
          have hP : va_P D vwCl (vW tc adL NL q70.2) H := hP
          have hD : va_D A (vW tc adL NL q70.2) := hD
          clear hk1 hz1 ht hvm
          have hw : w72 = q70.1 := hw
          rw [hw]
          refine lv_istore (lv' := [(12, .int q70.1), (11, .int q65.1), (10, .int q62), (1, .ref (adL r1)), (2, .ref (adL r2)), (3, .int i3), (4, .int i4), (5, .int i5), (6, .int i6), (7, .int i7), (8, .int i8), (9, .ref (adL r9)), (0, .ref b)]) hx hb dL_law_188 hl (by decide) rfl (fun ls hl => ?_)
          refine lv_aload_n hx hb dL_law_190 rfl (lv_at hl 4 rfl) ?_
          obtain ⟨g74, h⟩ := vg_if h
          obtain ⟨q75, g76, h⟩ := vg_bind h
          obtain ⟨g77, h⟩ := vg_if h
          obtain ⟨g78, h⟩ := vg_if h
          have hFc := vm_free hD hS hA
          refine va_calli (va_runV (As := []) (rest := []) ⟨hx, hb, hml, hown, hts⟩ (cm_X5_pass (m0 := q70.2) l D tc adL hO73 n_r2 g76) (cwV 0 hts gL_law_X5_pass rfl rfl rfl (by decide +kernel) ⟨(Nat.le_of_ble_eq_true rfl), (Nat.le_of_ble_eq_true rfl)⟩) ⟨qW_blind, va_recv hK hP (ci := 5) (q0 := r2) rfl (vW_k5 n_r2 g74), qW_pre hP hD hK hZ⟩ rfl rfl hl.1 rfl (lv_room (Nat.le_of_ble_eq_true rfl)) dL_law_191 ⟨g77, g78⟩) hS (fun q9 _ h9 => hFc q9 h9) hFc (fun w79 u t H1 locs ht hvm hw hB hz1 hk1 hS => ?_)
          obtain ⟨ad80, e81, e82, hO83, hP1, hK1, hD1⟩ := hB
          rw [ht] at hP1
          have hP := hP1
          have hD := hD1.weaken (fun _ q9 _ h9 => hFc q9.1 h9)
          generalize H1 = H at hP hS ⊢
          clear hk1 hz1 ht hvm
          have hl : lv_has ls 27 [(12, .int q70.1), (11, .int q65.1), (10, .int q62), (1, .ref (ad80 r1)), (2, .ref (ad80 r2)), (3, .int i3), (4, .int i4), (5, .int i5), (6, .int i6), (7, .int i7), (8, .int i8), (9, .ref (ad80 r9)), (0, .ref b)] := by rw [e81 r1 n_r1, e81 r2 n_r2, e81 r9 n_r9]; exact hl
          have e84 : ∀ k, k < N → ad80 k = ad k := fun k hk => (e81 k (Nat.lt_of_lt_of_le hk hNN)).trans (hE k hk)
          have e85 : N ≤ q75.2.1 := Nat.le_trans hNN e82
          have n86 : r1 < q75.2.1 := Nat.lt_of_lt_of_le n_r1 e82
          have n87 : r2 < q75.2.1 := Nat.lt_of_lt_of_le n_r2 e82
          have n88 : r9 < q75.2.1 := Nat.lt_of_lt_of_le n_r9 e82
          have hw : w79 = q75.1 := hw
          rw [hw]
          have hP : va_P D vwCl (vW tc ad80 q75.2.1 q75.2.2) H := hP
          have hD : va_D A (vW tc ad80 q75.2.1 q75.2.2) := hD
          refine lv_pop hx hb dL_law_194 rfl ?_
          refine lv_iload hx hb dL_law_195 (lv_at hl 9 rfl) ?_
          refine lv_if_eq (tgt := 211) hx hb dL_law_197 (by decide) (fun c89 => ?_) (fun c89 => ?_)
          · rw [if_pos c89] at h
            refine lv_iload hx hb dL_law_211 (lv_at hl 1 rfl) ?_
            refine lv_iconst (v := 1) hx hb dL_law_213 (by decide) ?_
            refine lv_icmp_le (tgt := 230) hx hb dL_law_214 (by decide) (fun c90 => ?_) (fun c90 => ?_)
            · rw [if_pos c90] at h
              refine lv_iload hx hb dL_law_230 (lv_at hl 1 rfl) ?_
              refine lv_iconst (v := 1) hx hb dL_law_232 (by decide) ?_
              refine lv_icmp_ne (tgt := 247) hx hb dL_law_233 (by decide) (fun c91 => ?_) (fun c91 => ?_)
              · rw [if_neg c91] at h
                refine lv_aload_n hx hb dL_law_247 rfl (lv_at hl 3 rfl) ?_
                refine lv_bipush (v := 7) hx hb dL_law_248 (by decide) ?_
                obtain ⟨g92, h⟩ := vg_if h
                obtain ⟨q93, g94, h⟩ := vg_bind h
                refine va_calli (va_runV (As := [.int 7]) (rest := []) ⟨hx, hb, hml, hown, hts⟩ (cm_X3_count (m0 := q75.2.2) l D tc ad80 hO83 n86 g94) (cwV 1 hts gL_law_X3_count rfl rfl rfl (by decide +kernel) ⟨(Nat.le_of_ble_eq_true rfl), (Nat.le_of_ble_eq_true rfl)⟩) ⟨qR_blind, va_recv hK hP (ci := 3) (q0 := r1) rfl (vW_k3 n86 g92), qR_pre hP hK hZ⟩ rfl rfl hl.1 rfl (lv_room (Nat.le_of_ble_eq_true rfl)) dL_law_250 ⟨g77, g78⟩) hS (fun q9 _ h9 => h9.elim) (fun q9 h9 => h9.elim) (fun w95 u t H1 locs ht hvm hw hB hz1 hk1 hS => ?_)
                have hP := hP.kept (fun k9 q9 hk9 => hk1 q9.1 (hP k9 q9 hk9).lt (fun h9 => h9))
                generalize H1 = H at hP hS ⊢
                clear hk1 hz1 ht hvm
                have hw : w95 = q93 := hw
                rw [hw]
                refine lv_iload hx hb dL_law_253 (lv_at hl 2 rfl) ?_
                refine lv_icmp_lt (tgt := 270) hx hb dL_law_255 (by decide) (fun c96 => ?_) (fun c96 => ?_)
                · rw [if_pos c96] at h
                  refine lv_iconst (v := 0) hx hb dL_law_270 (by decide) ?_
                  have hz := Option.some.inj h
                  rw [← hz] at hz1
                  exact absurd (show (0 : Int32) = 1 from hz1) (by decide)
                · rw [if_neg c96] at h
                  refine lv_aload_n hx hb dL_law_258 rfl (lv_at hl 3 rfl) ?_
                  refine lv_iconst (v := 0) hx hb dL_law_259 (by decide) ?_
                  obtain ⟨q97, g98, h⟩ := vg_bind h
                  refine va_calli (va_runV (As := [.int 0]) (rest := []) ⟨hx, hb, hml, hown, hts⟩ (cm_X3_count (m0 := q75.2.2) l D tc ad80 hO83 n86 g98) (cwV 1 hts gL_law_X3_count rfl rfl rfl (by decide +kernel) ⟨(Nat.le_of_ble_eq_true rfl), (Nat.le_of_ble_eq_true rfl)⟩) ⟨qR_blind, va_recv hK hP (ci := 3) (q0 := r1) rfl (vW_k3 n86 g92), qR_pre hP hK hZ⟩ rfl rfl hl.1 rfl (lv_room (Nat.le_of_ble_eq_true rfl)) dL_law_260 ⟨g77, g78⟩) hS (fun q9 _ h9 => h9.elim) (fun q9 h9 => h9.elim) (fun w99 u t H1 locs ht hvm hw hB hz1 hk1 hS => ?_)
                  have hP := hP.kept (fun k9 q9 hk9 => hk1 q9.1 (hP k9 q9 hk9).lt (fun h9 => h9))
                  generalize H1 = H at hP hS ⊢
                  clear hk1 hz1 ht hvm
                  have hw : w99 = q97 := hw
                  rw [hw]
                  refine lv_iload hx hb dL_law_263 (lv_at hl 6 rfl) ?_
                  refine lv_iconst (v := 1) hx hb dL_law_265 (by decide) ?_
                  refine lv_iadd hx hb dL_law_266 ?_
                  refine lv_icmp_eq (tgt := 272) hx hb dL_law_267 (by decide) (fun c100 => ?_) (fun c100 => ?_)
                  · rw [if_pos c100] at h
                    exact (ih.2.2.2.2.1) q75.2.1 ad80 q75.2.2 ((kc + 2000)) ((ks + 70000)) r1 r2 i3 i4 i5 i6 i7 i8 r9 q62 q65.1 q70.1 _ _ _ e85 e84 g77 g78 hO83 n86 n87 n88 h hP hD hS (lv_sub hl (l' := [(1, .ref (ad80 r1)), (2, .ref (ad80 r2)), (3, .int i3), (4, .int i4), (5, .int i5), (6, .int i6), (7, .int i7), (8, .int i8), (9, .ref (ad80 r9)), (10, .int q62), (11, .int q65.1), (12, .int q70.1), (0, .ref b)]) [3, 4, 5, 6, 7, 8, 9, 10, 11, 2, 1, 0, 12] rfl)
                  · rw [if_neg c100] at h
                    refine lv_iconst (v := 0) hx hb dL_law_270 (by decide) ?_
                    have hz := Option.some.inj h
                    rw [← hz] at hz1
                    exact absurd (show (0 : Int32) = 1 from hz1) (by decide)
              · rw [if_pos c91] at h
                refine lv_aload_n hx hb dL_law_236 rfl (lv_at hl 3 rfl) ?_
                refine lv_iload hx hb dL_law_237 (lv_at hl 8 rfl) ?_
                refine lv_iconst (v := 0) hx hb dL_law_239 (by decide) ?_
                obtain ⟨g101, h⟩ := vg_if h
                obtain ⟨q102, g103, h⟩ := vg_bind h
                refine va_calli (va_runV (As := [.int i6, .int 0]) (rest := []) ⟨hx, hb, hml, hown, hts⟩ (cm_X3_door (m0 := q75.2.2) l D tc ad80 hO83 n86 g103) (cwV 2 hts gL_law_X3_door rfl rfl rfl (by decide +kernel) ⟨(Nat.le_of_ble_eq_true rfl), (Nat.le_of_ble_eq_true rfl)⟩) ⟨qR_blind, va_recv hK hP (ci := 3) (q0 := r1) rfl (vW_k3 n86 g101), qR_pre hP hK hZ⟩ rfl rfl hl.1 rfl (lv_room (Nat.le_of_ble_eq_true rfl)) dL_law_240 ⟨g77, g78⟩) hS (fun q9 _ h9 => h9.elim) (fun q9 h9 => h9.elim) (fun w104 u t H1 locs ht hvm hw hB hz1 hk1 hS => ?_)
                have hP := hP.kept (fun k9 q9 hk9 => hk1 q9.1 (hP k9 q9 hk9).lt (fun h9 => h9))
                generalize H1 = H at hP hS ⊢
                clear hk1 hz1 ht hvm
                have hw : w104 = q102 := hw
                rw [hw]
                refine lv_iconst (v := 2) hx hb dL_law_243 (by decide) ?_
                refine lv_icmp_ne (tgt := 270) hx hb dL_law_244 (by decide) (fun c105 => ?_) (fun c105 => ?_)
                · rw [if_neg c105] at h
                  refine lv_iconst (v := 0) hx hb dL_law_270 (by decide) ?_
                  have hz := Option.some.inj h
                  rw [← hz] at hz1
                  exact absurd (show (0 : Int32) = 1 from hz1) (by decide)
                · rw [if_pos c105] at h
                  refine lv_aload_n hx hb dL_law_247 rfl (lv_at hl 3 rfl) ?_
                  refine lv_bipush (v := 7) hx hb dL_law_248 (by decide) ?_
                  obtain ⟨q106, g107, h⟩ := vg_bind h
                  refine va_calli (va_runV (As := [.int 7]) (rest := []) ⟨hx, hb, hml, hown, hts⟩ (cm_X3_count (m0 := q75.2.2) l D tc ad80 hO83 n86 g107) (cwV 1 hts gL_law_X3_count rfl rfl rfl (by decide +kernel) ⟨(Nat.le_of_ble_eq_true rfl), (Nat.le_of_ble_eq_true rfl)⟩) ⟨qR_blind, va_recv hK hP (ci := 3) (q0 := r1) rfl (vW_k3 n86 g101), qR_pre hP hK hZ⟩ rfl rfl hl.1 rfl (lv_room (Nat.le_of_ble_eq_true rfl)) dL_law_250 ⟨g77, g78⟩) hS (fun q9 _ h9 => h9.elim) (fun q9 h9 => h9.elim) (fun w108 u t H1 locs ht hvm hw hB hz1 hk1 hS => ?_)
                  have hP := hP.kept (fun k9 q9 hk9 => hk1 q9.1 (hP k9 q9 hk9).lt (fun h9 => h9))
                  generalize H1 = H at hP hS ⊢
                  clear hk1 hz1 ht hvm
                  have hw : w108 = q106 := hw
                  rw [hw]
                  refine lv_iload hx hb dL_law_253 (lv_at hl 2 rfl) ?_
                  refine lv_icmp_lt (tgt := 270) hx hb dL_law_255 (by decide) (fun c109 => ?_) (fun c109 => ?_)
                  · rw [if_pos c109] at h
                    refine lv_iconst (v := 0) hx hb dL_law_270 (by decide) ?_
                    have hz := Option.some.inj h
                    rw [← hz] at hz1
                    exact absurd (show (0 : Int32) = 1 from hz1) (by decide)
                  · rw [if_neg c109] at h
                    refine lv_aload_n hx hb dL_law_258 rfl (lv_at hl 3 rfl) ?_
                    refine lv_iconst (v := 0) hx hb dL_law_259 (by decide) ?_
                    obtain ⟨q110, g111, h⟩ := vg_bind h
                    refine va_calli (va_runV (As := [.int 0]) (rest := []) ⟨hx, hb, hml, hown, hts⟩ (cm_X3_count (m0 := q75.2.2) l D tc ad80 hO83 n86 g111) (cwV 1 hts gL_law_X3_count rfl rfl rfl (by decide +kernel) ⟨(Nat.le_of_ble_eq_true rfl), (Nat.le_of_ble_eq_true rfl)⟩) ⟨qR_blind, va_recv hK hP (ci := 3) (q0 := r1) rfl (vW_k3 n86 g101), qR_pre hP hK hZ⟩ rfl rfl hl.1 rfl (lv_room (Nat.le_of_ble_eq_true rfl)) dL_law_260 ⟨g77, g78⟩) hS (fun q9 _ h9 => h9.elim) (fun q9 h9 => h9.elim) (fun w112 u t H1 locs ht hvm hw hB hz1 hk1 hS => ?_)
                    have hP := hP.kept (fun k9 q9 hk9 => hk1 q9.1 (hP k9 q9 hk9).lt (fun h9 => h9))
                    generalize H1 = H at hP hS ⊢
                    clear hk1 hz1 ht hvm
                    have hw : w112 = q110 := hw
                    rw [hw]
                    refine lv_iload hx hb dL_law_263 (lv_at hl 6 rfl) ?_
                    refine lv_iconst (v := 1) hx hb dL_law_265 (by decide) ?_
                    refine lv_iadd hx hb dL_law_266 ?_
                    refine lv_icmp_eq (tgt := 272) hx hb dL_law_267 (by decide) (fun c113 => ?_) (fun c113 => ?_)
                    · rw [if_pos c113] at h
                      exact (ih.2.2.2.2.1) q75.2.1 ad80 q75.2.2 ((kc + 2000)) ((ks + 70000)) r1 r2 i3 i4 i5 i6 i7 i8 r9 q62 q65.1 q70.1 _ _ _ e85 e84 g77 g78 hO83 n86 n87 n88 h hP hD hS (lv_sub hl (l' := [(1, .ref (ad80 r1)), (2, .ref (ad80 r2)), (3, .int i3), (4, .int i4), (5, .int i5), (6, .int i6), (7, .int i7), (8, .int i8), (9, .ref (ad80 r9)), (10, .int q62), (11, .int q65.1), (12, .int q70.1), (0, .ref b)]) [3, 4, 5, 6, 7, 8, 9, 10, 11, 2, 1, 0, 12] rfl)
                    · rw [if_neg c113] at h
                      refine lv_iconst (v := 0) hx hb dL_law_270 (by decide) ?_
                      have hz := Option.some.inj h
                      rw [← hz] at hz1
                      exact absurd (show (0 : Int32) = 1 from hz1) (by decide)
            · rw [if_neg c90] at h
              refine lv_aload_n hx hb dL_law_217 rfl (lv_at hl 3 rfl) ?_
              refine lv_iload hx hb dL_law_218 (lv_at hl 8 rfl) ?_
              obtain ⟨g114, h⟩ := vg_if h
              obtain ⟨q115, g116, h⟩ := vg_bind h
              have hFc := vm_free hD hS hA
              refine va_calli (va_runV (As := [.int i6]) (rest := []) ⟨hx, hb, hml, hown, hts⟩ (cm_X3_opens (m0 := q75.2.2) l D tc ad80 hO83 n86 g116) (cwV 1 hts gL_law_X3_opens rfl rfl rfl (by decide +kernel) ⟨(Nat.le_of_ble_eq_true rfl), (Nat.le_of_ble_eq_true rfl)⟩) ⟨qW_blind, va_recv hK hP (ci := 3) (q0 := r1) rfl (vW_k3 n86 g114), qW_pre hP hD hK hZ⟩ rfl rfl hl.1 rfl (lv_room (Nat.le_of_ble_eq_true rfl)) dL_law_220 ⟨g77, g78⟩) hS (fun q9 _ h9 => hFc q9 h9) hFc (fun w117 u t H1 locs ht hvm hw hB hz1 hk1 hS => ?_)
              obtain ⟨hO118, hP1, hK1, hD1⟩ := hB
              rw [ht] at hP1
              have hP := hP1
              have hD := hD1.weaken (fun _ q9 _ h9 => hFc q9.1 h9)
              generalize H1 = H at hP hS ⊢
              have hP : va_P D vwCl (vW tc ad80 q75.2.1 q115.2) H := hP
              have hD : va_D A (vW tc ad80 q75.2.1 q115.2) := hD
              clear hk1 hz1 ht hvm
              have hw : w117 = q115.1 := hw
              rw [hw]
              refine lv_iload hx hb dL_law_223 (lv_at hl 1 rfl) ?_
              refine lv_iconst (v := 1) hx hb dL_law_225 (by decide) ?_
              refine lv_isub hx hb dL_law_226 ?_
              refine lv_icmp_ne (tgt := 270) hx hb dL_law_227 (by decide) (fun c119 => ?_) (fun c119 => ?_)
              · rw [if_neg c119] at h
                refine lv_iconst (v := 0) hx hb dL_law_270 (by decide) ?_
                have hz := Option.some.inj h
                rw [← hz] at hz1
                exact absurd (show (0 : Int32) = 1 from hz1) (by decide)
              · rw [if_pos c119] at h
                refine lv_iload hx hb dL_law_230 (lv_at hl 1 rfl) ?_
                refine lv_iconst (v := 1) hx hb dL_law_232 (by decide) ?_
                refine lv_icmp_ne (tgt := 247) hx hb dL_law_233 (by decide) (fun c120 => ?_) (fun c120 => ?_)
                · rw [if_neg c120] at h
                  refine lv_aload_n hx hb dL_law_247 rfl (lv_at hl 3 rfl) ?_
                  refine lv_bipush (v := 7) hx hb dL_law_248 (by decide) ?_
                  obtain ⟨g121, h⟩ := vg_if h
                  obtain ⟨q122, g123, h⟩ := vg_bind h
                  refine va_calli (va_runV (As := [.int 7]) (rest := []) ⟨hx, hb, hml, hown, hts⟩ (cm_X3_count (m0 := q115.2) l D tc ad80 hO118 n86 g123) (cwV 1 hts gL_law_X3_count rfl rfl rfl (by decide +kernel) ⟨(Nat.le_of_ble_eq_true rfl), (Nat.le_of_ble_eq_true rfl)⟩) ⟨qR_blind, va_recv hK hP (ci := 3) (q0 := r1) rfl (vW_k3 n86 g121), qR_pre hP hK hZ⟩ rfl rfl hl.1 rfl (lv_room (Nat.le_of_ble_eq_true rfl)) dL_law_250 ⟨g77, g78⟩) hS (fun q9 _ h9 => h9.elim) (fun q9 h9 => h9.elim) (fun w124 u t H1 locs ht hvm hw hB hz1 hk1 hS => ?_)
                  have hP := hP.kept (fun k9 q9 hk9 => hk1 q9.1 (hP k9 q9 hk9).lt (fun h9 => h9))
                  generalize H1 = H at hP hS ⊢
                  clear hk1 hz1 ht hvm
                  have hw : w124 = q122 := hw
                  rw [hw]
                  refine lv_iload hx hb dL_law_253 (lv_at hl 2 rfl) ?_
                  refine lv_icmp_lt (tgt := 270) hx hb dL_law_255 (by decide) (fun c125 => ?_) (fun c125 => ?_)
                  · rw [if_pos c125] at h
                    refine lv_iconst (v := 0) hx hb dL_law_270 (by decide) ?_
                    have hz := Option.some.inj h
                    rw [← hz] at hz1
                    exact absurd (show (0 : Int32) = 1 from hz1) (by decide)
                  · rw [if_neg c125] at h
                    refine lv_aload_n hx hb dL_law_258 rfl (lv_at hl 3 rfl) ?_
                    refine lv_iconst (v := 0) hx hb dL_law_259 (by decide) ?_
                    obtain ⟨q126, g127, h⟩ := vg_bind h
                    refine va_calli (va_runV (As := [.int 0]) (rest := []) ⟨hx, hb, hml, hown, hts⟩ (cm_X3_count (m0 := q115.2) l D tc ad80 hO118 n86 g127) (cwV 1 hts gL_law_X3_count rfl rfl rfl (by decide +kernel) ⟨(Nat.le_of_ble_eq_true rfl), (Nat.le_of_ble_eq_true rfl)⟩) ⟨qR_blind, va_recv hK hP (ci := 3) (q0 := r1) rfl (vW_k3 n86 g121), qR_pre hP hK hZ⟩ rfl rfl hl.1 rfl (lv_room (Nat.le_of_ble_eq_true rfl)) dL_law_260 ⟨g77, g78⟩) hS (fun q9 _ h9 => h9.elim) (fun q9 h9 => h9.elim) (fun w128 u t H1 locs ht hvm hw hB hz1 hk1 hS => ?_)
                    have hP := hP.kept (fun k9 q9 hk9 => hk1 q9.1 (hP k9 q9 hk9).lt (fun h9 => h9))
                    generalize H1 = H at hP hS ⊢
                    clear hk1 hz1 ht hvm
                    have hw : w128 = q126 := hw
                    rw [hw]
                    refine lv_iload hx hb dL_law_263 (lv_at hl 6 rfl) ?_
                    refine lv_iconst (v := 1) hx hb dL_law_265 (by decide) ?_
                    refine lv_iadd hx hb dL_law_266 ?_
                    refine lv_icmp_eq (tgt := 272) hx hb dL_law_267 (by decide) (fun c129 => ?_) (fun c129 => ?_)
                    · rw [if_pos c129] at h
                      exact (ih.2.2.2.2.1) q75.2.1 ad80 q115.2 ((kc + 2000)) ((ks + 70000)) r1 r2 i3 i4 i5 i6 i7 i8 r9 q62 q65.1 q70.1 _ _ _ e85 e84 g77 g78 hO118 n86 n87 n88 h hP hD hS (lv_sub hl (l' := [(1, .ref (ad80 r1)), (2, .ref (ad80 r2)), (3, .int i3), (4, .int i4), (5, .int i5), (6, .int i6), (7, .int i7), (8, .int i8), (9, .ref (ad80 r9)), (10, .int q62), (11, .int q65.1), (12, .int q70.1), (0, .ref b)]) [3, 4, 5, 6, 7, 8, 9, 10, 11, 2, 1, 0, 12] rfl)
                    · rw [if_neg c129] at h
                      refine lv_iconst (v := 0) hx hb dL_law_270 (by decide) ?_
                      have hz := Option.some.inj h
                      rw [← hz] at hz1
                      exact absurd (show (0 : Int32) = 1 from hz1) (by decide)
                · rw [if_pos c120] at h
                  refine lv_aload_n hx hb dL_law_236 rfl (lv_at hl 3 rfl) ?_
                  refine lv_iload hx hb dL_law_237 (lv_at hl 8 rfl) ?_
                  refine lv_iconst (v := 0) hx hb dL_law_239 (by decide) ?_
                  obtain ⟨g130, h⟩ := vg_if h
                  obtain ⟨q131, g132, h⟩ := vg_bind h
                  refine va_calli (va_runV (As := [.int i6, .int 0]) (rest := []) ⟨hx, hb, hml, hown, hts⟩ (cm_X3_door (m0 := q115.2) l D tc ad80 hO118 n86 g132) (cwV 2 hts gL_law_X3_door rfl rfl rfl (by decide +kernel) ⟨(Nat.le_of_ble_eq_true rfl), (Nat.le_of_ble_eq_true rfl)⟩) ⟨qR_blind, va_recv hK hP (ci := 3) (q0 := r1) rfl (vW_k3 n86 g130), qR_pre hP hK hZ⟩ rfl rfl hl.1 rfl (lv_room (Nat.le_of_ble_eq_true rfl)) dL_law_240 ⟨g77, g78⟩) hS (fun q9 _ h9 => h9.elim) (fun q9 h9 => h9.elim) (fun w133 u t H1 locs ht hvm hw hB hz1 hk1 hS => ?_)
                  have hP := hP.kept (fun k9 q9 hk9 => hk1 q9.1 (hP k9 q9 hk9).lt (fun h9 => h9))
                  generalize H1 = H at hP hS ⊢
                  clear hk1 hz1 ht hvm
                  have hw : w133 = q131 := hw
                  rw [hw]
                  refine lv_iconst (v := 2) hx hb dL_law_243 (by decide) ?_
                  refine lv_icmp_ne (tgt := 270) hx hb dL_law_244 (by decide) (fun c134 => ?_) (fun c134 => ?_)
                  · rw [if_neg c134] at h
                    refine lv_iconst (v := 0) hx hb dL_law_270 (by decide) ?_
                    have hz := Option.some.inj h
                    rw [← hz] at hz1
                    exact absurd (show (0 : Int32) = 1 from hz1) (by decide)
                  · rw [if_pos c134] at h
                    refine lv_aload_n hx hb dL_law_247 rfl (lv_at hl 3 rfl) ?_
                    refine lv_bipush (v := 7) hx hb dL_law_248 (by decide) ?_
                    obtain ⟨q135, g136, h⟩ := vg_bind h
                    refine va_calli (va_runV (As := [.int 7]) (rest := []) ⟨hx, hb, hml, hown, hts⟩ (cm_X3_count (m0 := q115.2) l D tc ad80 hO118 n86 g136) (cwV 1 hts gL_law_X3_count rfl rfl rfl (by decide +kernel) ⟨(Nat.le_of_ble_eq_true rfl), (Nat.le_of_ble_eq_true rfl)⟩) ⟨qR_blind, va_recv hK hP (ci := 3) (q0 := r1) rfl (vW_k3 n86 g130), qR_pre hP hK hZ⟩ rfl rfl hl.1 rfl (lv_room (Nat.le_of_ble_eq_true rfl)) dL_law_250 ⟨g77, g78⟩) hS (fun q9 _ h9 => h9.elim) (fun q9 h9 => h9.elim) (fun w137 u t H1 locs ht hvm hw hB hz1 hk1 hS => ?_)
                    have hP := hP.kept (fun k9 q9 hk9 => hk1 q9.1 (hP k9 q9 hk9).lt (fun h9 => h9))
                    generalize H1 = H at hP hS ⊢
                    clear hk1 hz1 ht hvm
                    have hw : w137 = q135 := hw
                    rw [hw]
                    refine lv_iload hx hb dL_law_253 (lv_at hl 2 rfl) ?_
                    refine lv_icmp_lt (tgt := 270) hx hb dL_law_255 (by decide) (fun c138 => ?_) (fun c138 => ?_)
                    · rw [if_pos c138] at h
                      refine lv_iconst (v := 0) hx hb dL_law_270 (by decide) ?_
                      have hz := Option.some.inj h
                      rw [← hz] at hz1
                      exact absurd (show (0 : Int32) = 1 from hz1) (by decide)
                    · rw [if_neg c138] at h
                      refine lv_aload_n hx hb dL_law_258 rfl (lv_at hl 3 rfl) ?_
                      refine lv_iconst (v := 0) hx hb dL_law_259 (by decide) ?_
                      obtain ⟨q139, g140, h⟩ := vg_bind h
                      refine va_calli (va_runV (As := [.int 0]) (rest := []) ⟨hx, hb, hml, hown, hts⟩ (cm_X3_count (m0 := q115.2) l D tc ad80 hO118 n86 g140) (cwV 1 hts gL_law_X3_count rfl rfl rfl (by decide +kernel) ⟨(Nat.le_of_ble_eq_true rfl), (Nat.le_of_ble_eq_true rfl)⟩) ⟨qR_blind, va_recv hK hP (ci := 3) (q0 := r1) rfl (vW_k3 n86 g130), qR_pre hP hK hZ⟩ rfl rfl hl.1 rfl (lv_room (Nat.le_of_ble_eq_true rfl)) dL_law_260 ⟨g77, g78⟩) hS (fun q9 _ h9 => h9.elim) (fun q9 h9 => h9.elim) (fun w141 u t H1 locs ht hvm hw hB hz1 hk1 hS => ?_)
                      have hP := hP.kept (fun k9 q9 hk9 => hk1 q9.1 (hP k9 q9 hk9).lt (fun h9 => h9))
                      generalize H1 = H at hP hS ⊢
                      clear hk1 hz1 ht hvm
                      have hw : w141 = q139 := hw
                      rw [hw]
                      refine lv_iload hx hb dL_law_263 (lv_at hl 6 rfl) ?_
                      refine lv_iconst (v := 1) hx hb dL_law_265 (by decide) ?_
                      refine lv_iadd hx hb dL_law_266 ?_
                      refine lv_icmp_eq (tgt := 272) hx hb dL_law_267 (by decide) (fun c142 => ?_) (fun c142 => ?_)
                      · rw [if_pos c142] at h
                        exact (ih.2.2.2.2.1) q75.2.1 ad80 q115.2 ((kc + 2000)) ((ks + 70000)) r1 r2 i3 i4 i5 i6 i7 i8 r9 q62 q65.1 q70.1 _ _ _ e85 e84 g77 g78 hO118 n86 n87 n88 h hP hD hS (lv_sub hl (l' := [(1, .ref (ad80 r1)), (2, .ref (ad80 r2)), (3, .int i3), (4, .int i4), (5, .int i5), (6, .int i6), (7, .int i7), (8, .int i8), (9, .ref (ad80 r9)), (10, .int q62), (11, .int q65.1), (12, .int q70.1), (0, .ref b)]) [3, 4, 5, 6, 7, 8, 9, 10, 11, 2, 1, 0, 12] rfl)
                      · rw [if_neg c142] at h
                        refine lv_iconst (v := 0) hx hb dL_law_270 (by decide) ?_
                        have hz := Option.some.inj h
                        rw [← hz] at hz1
                        exact absurd (show (0 : Int32) = 1 from hz1) (by decide)
          · rw [if_neg c89] at h
            refine lv_aload_n hx hb dL_law_200 rfl (lv_at hl 3 rfl) ?_
            refine lv_bipush (v := 8) hx hb dL_law_201 (by decide) ?_
            obtain ⟨g143, h⟩ := vg_if h
            obtain ⟨q144, g145, h⟩ := vg_bind h
            refine va_calli (va_runV (As := [.int 8]) (rest := []) ⟨hx, hb, hml, hown, hts⟩ (cm_X3_count (m0 := q75.2.2) l D tc ad80 hO83 n86 g145) (cwV 1 hts gL_law_X3_count rfl rfl rfl (by decide +kernel) ⟨(Nat.le_of_ble_eq_true rfl), (Nat.le_of_ble_eq_true rfl)⟩) ⟨qR_blind, va_recv hK hP (ci := 3) (q0 := r1) rfl (vW_k3 n86 g143), qR_pre hP hK hZ⟩ rfl rfl hl.1 rfl (lv_room (Nat.le_of_ble_eq_true rfl)) dL_law_203 ⟨g77, g78⟩) hS (fun q9 _ h9 => h9.elim) (fun q9 h9 => h9.elim) (fun w146 u t H1 locs ht hvm hw hB hz1 hk1 hS => ?_)
            have hP := hP.kept (fun k9 q9 hk9 => hk1 q9.1 (hP k9 q9 hk9).lt (fun h9 => h9))
            generalize H1 = H at hP hS ⊢
            clear hk1 hz1 ht hvm
            have hw : w146 = q144 := hw
            rw [hw]
            refine lv_iload hx hb dL_law_206 (lv_at hl 10 rfl) ?_
            refine lv_icmp_ne (tgt := 270) hx hb dL_law_208 (by decide) (fun c147 => ?_) (fun c147 => ?_)
            · rw [if_neg c147] at h
              refine lv_iconst (v := 0) hx hb dL_law_270 (by decide) ?_
              have hz := Option.some.inj h
              rw [← hz] at hz1
              exact absurd (show (0 : Int32) = 1 from hz1) (by decide)
            · rw [if_pos c147] at h
              refine lv_iload hx hb dL_law_211 (lv_at hl 1 rfl) ?_
              refine lv_iconst (v := 1) hx hb dL_law_213 (by decide) ?_
              refine lv_icmp_le (tgt := 230) hx hb dL_law_214 (by decide) (fun c148 => ?_) (fun c148 => ?_)
              · rw [if_pos c148] at h
                refine lv_iload hx hb dL_law_230 (lv_at hl 1 rfl) ?_
                refine lv_iconst (v := 1) hx hb dL_law_232 (by decide) ?_
                refine lv_icmp_ne (tgt := 247) hx hb dL_law_233 (by decide) (fun c149 => ?_) (fun c149 => ?_)
                · rw [if_neg c149] at h
                  refine lv_aload_n hx hb dL_law_247 rfl (lv_at hl 3 rfl) ?_
                  refine lv_bipush (v := 7) hx hb dL_law_248 (by decide) ?_
                  obtain ⟨q150, g151, h⟩ := vg_bind h
                  refine va_calli (va_runV (As := [.int 7]) (rest := []) ⟨hx, hb, hml, hown, hts⟩ (cm_X3_count (m0 := q75.2.2) l D tc ad80 hO83 n86 g151) (cwV 1 hts gL_law_X3_count rfl rfl rfl (by decide +kernel) ⟨(Nat.le_of_ble_eq_true rfl), (Nat.le_of_ble_eq_true rfl)⟩) ⟨qR_blind, va_recv hK hP (ci := 3) (q0 := r1) rfl (vW_k3 n86 g143), qR_pre hP hK hZ⟩ rfl rfl hl.1 rfl (lv_room (Nat.le_of_ble_eq_true rfl)) dL_law_250 ⟨g77, g78⟩) hS (fun q9 _ h9 => h9.elim) (fun q9 h9 => h9.elim) (fun w152 u t H1 locs ht hvm hw hB hz1 hk1 hS => ?_)
                  have hP := hP.kept (fun k9 q9 hk9 => hk1 q9.1 (hP k9 q9 hk9).lt (fun h9 => h9))
                  generalize H1 = H at hP hS ⊢
                  clear hk1 hz1 ht hvm
                  have hw : w152 = q150 := hw
                  rw [hw]
                  refine lv_iload hx hb dL_law_253 (lv_at hl 2 rfl) ?_
                  refine lv_icmp_lt (tgt := 270) hx hb dL_law_255 (by decide) (fun c153 => ?_) (fun c153 => ?_)
                  · rw [if_pos c153] at h
                    refine lv_iconst (v := 0) hx hb dL_law_270 (by decide) ?_
                    have hz := Option.some.inj h
                    rw [← hz] at hz1
                    exact absurd (show (0 : Int32) = 1 from hz1) (by decide)
                  · rw [if_neg c153] at h
                    refine lv_aload_n hx hb dL_law_258 rfl (lv_at hl 3 rfl) ?_
                    refine lv_iconst (v := 0) hx hb dL_law_259 (by decide) ?_
                    obtain ⟨q154, g155, h⟩ := vg_bind h
                    refine va_calli (va_runV (As := [.int 0]) (rest := []) ⟨hx, hb, hml, hown, hts⟩ (cm_X3_count (m0 := q75.2.2) l D tc ad80 hO83 n86 g155) (cwV 1 hts gL_law_X3_count rfl rfl rfl (by decide +kernel) ⟨(Nat.le_of_ble_eq_true rfl), (Nat.le_of_ble_eq_true rfl)⟩) ⟨qR_blind, va_recv hK hP (ci := 3) (q0 := r1) rfl (vW_k3 n86 g143), qR_pre hP hK hZ⟩ rfl rfl hl.1 rfl (lv_room (Nat.le_of_ble_eq_true rfl)) dL_law_260 ⟨g77, g78⟩) hS (fun q9 _ h9 => h9.elim) (fun q9 h9 => h9.elim) (fun w156 u t H1 locs ht hvm hw hB hz1 hk1 hS => ?_)
                    have hP := hP.kept (fun k9 q9 hk9 => hk1 q9.1 (hP k9 q9 hk9).lt (fun h9 => h9))
                    generalize H1 = H at hP hS ⊢
                    clear hk1 hz1 ht hvm
                    have hw : w156 = q154 := hw
                    rw [hw]
                    refine lv_iload hx hb dL_law_263 (lv_at hl 6 rfl) ?_
                    refine lv_iconst (v := 1) hx hb dL_law_265 (by decide) ?_
                    refine lv_iadd hx hb dL_law_266 ?_
                    refine lv_icmp_eq (tgt := 272) hx hb dL_law_267 (by decide) (fun c157 => ?_) (fun c157 => ?_)
                    · rw [if_pos c157] at h
                      exact (ih.2.2.2.2.1) q75.2.1 ad80 q75.2.2 ((kc + 2000)) ((ks + 70000)) r1 r2 i3 i4 i5 i6 i7 i8 r9 q62 q65.1 q70.1 _ _ _ e85 e84 g77 g78 hO83 n86 n87 n88 h hP hD hS (lv_sub hl (l' := [(1, .ref (ad80 r1)), (2, .ref (ad80 r2)), (3, .int i3), (4, .int i4), (5, .int i5), (6, .int i6), (7, .int i7), (8, .int i8), (9, .ref (ad80 r9)), (10, .int q62), (11, .int q65.1), (12, .int q70.1), (0, .ref b)]) [3, 4, 5, 6, 7, 8, 9, 10, 11, 2, 1, 0, 12] rfl)
                    · rw [if_neg c157] at h
                      refine lv_iconst (v := 0) hx hb dL_law_270 (by decide) ?_
                      have hz := Option.some.inj h
                      rw [← hz] at hz1
                      exact absurd (show (0 : Int32) = 1 from hz1) (by decide)
                · rw [if_pos c149] at h
                  refine lv_aload_n hx hb dL_law_236 rfl (lv_at hl 3 rfl) ?_
                  refine lv_iload hx hb dL_law_237 (lv_at hl 8 rfl) ?_
                  refine lv_iconst (v := 0) hx hb dL_law_239 (by decide) ?_
                  obtain ⟨q158, g159, h⟩ := vg_bind h
                  refine va_calli (va_runV (As := [.int i6, .int 0]) (rest := []) ⟨hx, hb, hml, hown, hts⟩ (cm_X3_door (m0 := q75.2.2) l D tc ad80 hO83 n86 g159) (cwV 2 hts gL_law_X3_door rfl rfl rfl (by decide +kernel) ⟨(Nat.le_of_ble_eq_true rfl), (Nat.le_of_ble_eq_true rfl)⟩) ⟨qR_blind, va_recv hK hP (ci := 3) (q0 := r1) rfl (vW_k3 n86 g143), qR_pre hP hK hZ⟩ rfl rfl hl.1 rfl (lv_room (Nat.le_of_ble_eq_true rfl)) dL_law_240 ⟨g77, g78⟩) hS (fun q9 _ h9 => h9.elim) (fun q9 h9 => h9.elim) (fun w160 u t H1 locs ht hvm hw hB hz1 hk1 hS => ?_)
                  have hP := hP.kept (fun k9 q9 hk9 => hk1 q9.1 (hP k9 q9 hk9).lt (fun h9 => h9))
                  generalize H1 = H at hP hS ⊢
                  clear hk1 hz1 ht hvm
                  have hw : w160 = q158 := hw
                  rw [hw]
                  refine lv_iconst (v := 2) hx hb dL_law_243 (by decide) ?_
                  refine lv_icmp_ne (tgt := 270) hx hb dL_law_244 (by decide) (fun c161 => ?_) (fun c161 => ?_)
                  · rw [if_neg c161] at h
                    refine lv_iconst (v := 0) hx hb dL_law_270 (by decide) ?_
                    have hz := Option.some.inj h
                    rw [← hz] at hz1
                    exact absurd (show (0 : Int32) = 1 from hz1) (by decide)
                  · rw [if_pos c161] at h
                    refine lv_aload_n hx hb dL_law_247 rfl (lv_at hl 3 rfl) ?_
                    refine lv_bipush (v := 7) hx hb dL_law_248 (by decide) ?_
                    obtain ⟨q162, g163, h⟩ := vg_bind h
                    refine va_calli (va_runV (As := [.int 7]) (rest := []) ⟨hx, hb, hml, hown, hts⟩ (cm_X3_count (m0 := q75.2.2) l D tc ad80 hO83 n86 g163) (cwV 1 hts gL_law_X3_count rfl rfl rfl (by decide +kernel) ⟨(Nat.le_of_ble_eq_true rfl), (Nat.le_of_ble_eq_true rfl)⟩) ⟨qR_blind, va_recv hK hP (ci := 3) (q0 := r1) rfl (vW_k3 n86 g143), qR_pre hP hK hZ⟩ rfl rfl hl.1 rfl (lv_room (Nat.le_of_ble_eq_true rfl)) dL_law_250 ⟨g77, g78⟩) hS (fun q9 _ h9 => h9.elim) (fun q9 h9 => h9.elim) (fun w164 u t H1 locs ht hvm hw hB hz1 hk1 hS => ?_)
                    have hP := hP.kept (fun k9 q9 hk9 => hk1 q9.1 (hP k9 q9 hk9).lt (fun h9 => h9))
                    generalize H1 = H at hP hS ⊢
                    clear hk1 hz1 ht hvm
                    have hw : w164 = q162 := hw
                    rw [hw]
                    refine lv_iload hx hb dL_law_253 (lv_at hl 2 rfl) ?_
                    refine lv_icmp_lt (tgt := 270) hx hb dL_law_255 (by decide) (fun c165 => ?_) (fun c165 => ?_)
                    · rw [if_pos c165] at h
                      refine lv_iconst (v := 0) hx hb dL_law_270 (by decide) ?_
                      have hz := Option.some.inj h
                      rw [← hz] at hz1
                      exact absurd (show (0 : Int32) = 1 from hz1) (by decide)
                    · rw [if_neg c165] at h
                      refine lv_aload_n hx hb dL_law_258 rfl (lv_at hl 3 rfl) ?_
                      refine lv_iconst (v := 0) hx hb dL_law_259 (by decide) ?_
                      obtain ⟨q166, g167, h⟩ := vg_bind h
                      refine va_calli (va_runV (As := [.int 0]) (rest := []) ⟨hx, hb, hml, hown, hts⟩ (cm_X3_count (m0 := q75.2.2) l D tc ad80 hO83 n86 g167) (cwV 1 hts gL_law_X3_count rfl rfl rfl (by decide +kernel) ⟨(Nat.le_of_ble_eq_true rfl), (Nat.le_of_ble_eq_true rfl)⟩) ⟨qR_blind, va_recv hK hP (ci := 3) (q0 := r1) rfl (vW_k3 n86 g143), qR_pre hP hK hZ⟩ rfl rfl hl.1 rfl (lv_room (Nat.le_of_ble_eq_true rfl)) dL_law_260 ⟨g77, g78⟩) hS (fun q9 _ h9 => h9.elim) (fun q9 h9 => h9.elim) (fun w168 u t H1 locs ht hvm hw hB hz1 hk1 hS => ?_)
                      have hP := hP.kept (fun k9 q9 hk9 => hk1 q9.1 (hP k9 q9 hk9).lt (fun h9 => h9))
                      generalize H1 = H at hP hS ⊢
                      clear hk1 hz1 ht hvm
                      have hw : w168 = q166 := hw
                      rw [hw]
                      refine lv_iload hx hb dL_law_263 (lv_at hl 6 rfl) ?_
                      refine lv_iconst (v := 1) hx hb dL_law_265 (by decide) ?_
                      refine lv_iadd hx hb dL_law_266 ?_
                      refine lv_icmp_eq (tgt := 272) hx hb dL_law_267 (by decide) (fun c169 => ?_) (fun c169 => ?_)
                      · rw [if_pos c169] at h
                        exact (ih.2.2.2.2.1) q75.2.1 ad80 q75.2.2 ((kc + 2000)) ((ks + 70000)) r1 r2 i3 i4 i5 i6 i7 i8 r9 q62 q65.1 q70.1 _ _ _ e85 e84 g77 g78 hO83 n86 n87 n88 h hP hD hS (lv_sub hl (l' := [(1, .ref (ad80 r1)), (2, .ref (ad80 r2)), (3, .int i3), (4, .int i4), (5, .int i5), (6, .int i6), (7, .int i7), (8, .int i8), (9, .ref (ad80 r9)), (10, .int q62), (11, .int q65.1), (12, .int q70.1), (0, .ref b)]) [3, 4, 5, 6, 7, 8, 9, 10, 11, 2, 1, 0, 12] rfl)
                      · rw [if_neg c169] at h
                        refine lv_iconst (v := 0) hx hb dL_law_270 (by decide) ?_
                        have hz := Option.some.inj h
                        rw [← hz] at hz1
                        exact absurd (show (0 : Int32) = 1 from hz1) (by decide)
              · rw [if_neg c148] at h
                refine lv_aload_n hx hb dL_law_217 rfl (lv_at hl 3 rfl) ?_
                refine lv_iload hx hb dL_law_218 (lv_at hl 8 rfl) ?_
                obtain ⟨q170, g171, h⟩ := vg_bind h
                have hFc := vm_free hD hS hA
                refine va_calli (va_runV (As := [.int i6]) (rest := []) ⟨hx, hb, hml, hown, hts⟩ (cm_X3_opens (m0 := q75.2.2) l D tc ad80 hO83 n86 g171) (cwV 1 hts gL_law_X3_opens rfl rfl rfl (by decide +kernel) ⟨(Nat.le_of_ble_eq_true rfl), (Nat.le_of_ble_eq_true rfl)⟩) ⟨qW_blind, va_recv hK hP (ci := 3) (q0 := r1) rfl (vW_k3 n86 g143), qW_pre hP hD hK hZ⟩ rfl rfl hl.1 rfl (lv_room (Nat.le_of_ble_eq_true rfl)) dL_law_220 ⟨g77, g78⟩) hS (fun q9 _ h9 => hFc q9 h9) hFc (fun w172 u t H1 locs ht hvm hw hB hz1 hk1 hS => ?_)
                obtain ⟨hO173, hP1, hK1, hD1⟩ := hB
                rw [ht] at hP1
                have hP := hP1
                have hD := hD1.weaken (fun _ q9 _ h9 => hFc q9.1 h9)
                generalize H1 = H at hP hS ⊢
                have hP : va_P D vwCl (vW tc ad80 q75.2.1 q170.2) H := hP
                have hD : va_D A (vW tc ad80 q75.2.1 q170.2) := hD
                clear hk1 hz1 ht hvm
                have hw : w172 = q170.1 := hw
                rw [hw]
                refine lv_iload hx hb dL_law_223 (lv_at hl 1 rfl) ?_
                refine lv_iconst (v := 1) hx hb dL_law_225 (by decide) ?_
                refine lv_isub hx hb dL_law_226 ?_
                refine lv_icmp_ne (tgt := 270) hx hb dL_law_227 (by decide) (fun c174 => ?_) (fun c174 => ?_)
                · rw [if_neg c174] at h
                  refine lv_iconst (v := 0) hx hb dL_law_270 (by decide) ?_
                  have hz := Option.some.inj h
                  rw [← hz] at hz1
                  exact absurd (show (0 : Int32) = 1 from hz1) (by decide)
                · rw [if_pos c174] at h
                  refine lv_iload hx hb dL_law_230 (lv_at hl 1 rfl) ?_
                  refine lv_iconst (v := 1) hx hb dL_law_232 (by decide) ?_
                  refine lv_icmp_ne (tgt := 247) hx hb dL_law_233 (by decide) (fun c175 => ?_) (fun c175 => ?_)
                  · rw [if_neg c175] at h
                    refine lv_aload_n hx hb dL_law_247 rfl (lv_at hl 3 rfl) ?_
                    refine lv_bipush (v := 7) hx hb dL_law_248 (by decide) ?_
                    obtain ⟨g176, h⟩ := vg_if h
                    obtain ⟨q177, g178, h⟩ := vg_bind h
                    refine va_calli (va_runV (As := [.int 7]) (rest := []) ⟨hx, hb, hml, hown, hts⟩ (cm_X3_count (m0 := q170.2) l D tc ad80 hO173 n86 g178) (cwV 1 hts gL_law_X3_count rfl rfl rfl (by decide +kernel) ⟨(Nat.le_of_ble_eq_true rfl), (Nat.le_of_ble_eq_true rfl)⟩) ⟨qR_blind, va_recv hK hP (ci := 3) (q0 := r1) rfl (vW_k3 n86 g176), qR_pre hP hK hZ⟩ rfl rfl hl.1 rfl (lv_room (Nat.le_of_ble_eq_true rfl)) dL_law_250 ⟨g77, g78⟩) hS (fun q9 _ h9 => h9.elim) (fun q9 h9 => h9.elim) (fun w179 u t H1 locs ht hvm hw hB hz1 hk1 hS => ?_)
                    have hP := hP.kept (fun k9 q9 hk9 => hk1 q9.1 (hP k9 q9 hk9).lt (fun h9 => h9))
                    generalize H1 = H at hP hS ⊢
                    clear hk1 hz1 ht hvm
                    have hw : w179 = q177 := hw
                    rw [hw]
                    refine lv_iload hx hb dL_law_253 (lv_at hl 2 rfl) ?_
                    refine lv_icmp_lt (tgt := 270) hx hb dL_law_255 (by decide) (fun c180 => ?_) (fun c180 => ?_)
                    · rw [if_pos c180] at h
                      refine lv_iconst (v := 0) hx hb dL_law_270 (by decide) ?_
                      have hz := Option.some.inj h
                      rw [← hz] at hz1
                      exact absurd (show (0 : Int32) = 1 from hz1) (by decide)
                    · rw [if_neg c180] at h
                      refine lv_aload_n hx hb dL_law_258 rfl (lv_at hl 3 rfl) ?_
                      refine lv_iconst (v := 0) hx hb dL_law_259 (by decide) ?_
                      obtain ⟨q181, g182, h⟩ := vg_bind h
                      refine va_calli (va_runV (As := [.int 0]) (rest := []) ⟨hx, hb, hml, hown, hts⟩ (cm_X3_count (m0 := q170.2) l D tc ad80 hO173 n86 g182) (cwV 1 hts gL_law_X3_count rfl rfl rfl (by decide +kernel) ⟨(Nat.le_of_ble_eq_true rfl), (Nat.le_of_ble_eq_true rfl)⟩) ⟨qR_blind, va_recv hK hP (ci := 3) (q0 := r1) rfl (vW_k3 n86 g176), qR_pre hP hK hZ⟩ rfl rfl hl.1 rfl (lv_room (Nat.le_of_ble_eq_true rfl)) dL_law_260 ⟨g77, g78⟩) hS (fun q9 _ h9 => h9.elim) (fun q9 h9 => h9.elim) (fun w183 u t H1 locs ht hvm hw hB hz1 hk1 hS => ?_)
                      have hP := hP.kept (fun k9 q9 hk9 => hk1 q9.1 (hP k9 q9 hk9).lt (fun h9 => h9))
                      generalize H1 = H at hP hS ⊢
                      clear hk1 hz1 ht hvm
                      have hw : w183 = q181 := hw
                      rw [hw]
                      refine lv_iload hx hb dL_law_263 (lv_at hl 6 rfl) ?_
                      refine lv_iconst (v := 1) hx hb dL_law_265 (by decide) ?_
                      refine lv_iadd hx hb dL_law_266 ?_
                      refine lv_icmp_eq (tgt := 272) hx hb dL_law_267 (by decide) (fun c184 => ?_) (fun c184 => ?_)
                      · rw [if_pos c184] at h
                        exact (ih.2.2.2.2.1) q75.2.1 ad80 q170.2 ((kc + 2000)) ((ks + 70000)) r1 r2 i3 i4 i5 i6 i7 i8 r9 q62 q65.1 q70.1 _ _ _ e85 e84 g77 g78 hO173 n86 n87 n88 h hP hD hS (lv_sub hl (l' := [(1, .ref (ad80 r1)), (2, .ref (ad80 r2)), (3, .int i3), (4, .int i4), (5, .int i5), (6, .int i6), (7, .int i7), (8, .int i8), (9, .ref (ad80 r9)), (10, .int q62), (11, .int q65.1), (12, .int q70.1), (0, .ref b)]) [3, 4, 5, 6, 7, 8, 9, 10, 11, 2, 1, 0, 12] rfl)
                      · rw [if_neg c184] at h
                        refine lv_iconst (v := 0) hx hb dL_law_270 (by decide) ?_
                        have hz := Option.some.inj h
                        rw [← hz] at hz1
                        exact absurd (show (0 : Int32) = 1 from hz1) (by decide)
                  · rw [if_pos c175] at h
                    refine lv_aload_n hx hb dL_law_236 rfl (lv_at hl 3 rfl) ?_
                    refine lv_iload hx hb dL_law_237 (lv_at hl 8 rfl) ?_
                    refine lv_iconst (v := 0) hx hb dL_law_239 (by decide) ?_
                    obtain ⟨g185, h⟩ := vg_if h
                    obtain ⟨q186, g187, h⟩ := vg_bind h
                    refine va_calli (va_runV (As := [.int i6, .int 0]) (rest := []) ⟨hx, hb, hml, hown, hts⟩ (cm_X3_door (m0 := q170.2) l D tc ad80 hO173 n86 g187) (cwV 2 hts gL_law_X3_door rfl rfl rfl (by decide +kernel) ⟨(Nat.le_of_ble_eq_true rfl), (Nat.le_of_ble_eq_true rfl)⟩) ⟨qR_blind, va_recv hK hP (ci := 3) (q0 := r1) rfl (vW_k3 n86 g185), qR_pre hP hK hZ⟩ rfl rfl hl.1 rfl (lv_room (Nat.le_of_ble_eq_true rfl)) dL_law_240 ⟨g77, g78⟩) hS (fun q9 _ h9 => h9.elim) (fun q9 h9 => h9.elim) (fun w188 u t H1 locs ht hvm hw hB hz1 hk1 hS => ?_)
                    have hP := hP.kept (fun k9 q9 hk9 => hk1 q9.1 (hP k9 q9 hk9).lt (fun h9 => h9))
                    generalize H1 = H at hP hS ⊢
                    clear hk1 hz1 ht hvm
                    have hw : w188 = q186 := hw
                    rw [hw]
                    refine lv_iconst (v := 2) hx hb dL_law_243 (by decide) ?_
                    refine lv_icmp_ne (tgt := 270) hx hb dL_law_244 (by decide) (fun c189 => ?_) (fun c189 => ?_)
                    · rw [if_neg c189] at h
                      refine lv_iconst (v := 0) hx hb dL_law_270 (by decide) ?_
                      have hz := Option.some.inj h
                      rw [← hz] at hz1
                      exact absurd (show (0 : Int32) = 1 from hz1) (by decide)
                    · rw [if_pos c189] at h
                      refine lv_aload_n hx hb dL_law_247 rfl (lv_at hl 3 rfl) ?_
                      refine lv_bipush (v := 7) hx hb dL_law_248 (by decide) ?_
                      obtain ⟨q190, g191, h⟩ := vg_bind h
                      refine va_calli (va_runV (As := [.int 7]) (rest := []) ⟨hx, hb, hml, hown, hts⟩ (cm_X3_count (m0 := q170.2) l D tc ad80 hO173 n86 g191) (cwV 1 hts gL_law_X3_count rfl rfl rfl (by decide +kernel) ⟨(Nat.le_of_ble_eq_true rfl), (Nat.le_of_ble_eq_true rfl)⟩) ⟨qR_blind, va_recv hK hP (ci := 3) (q0 := r1) rfl (vW_k3 n86 g185), qR_pre hP hK hZ⟩ rfl rfl hl.1 rfl (lv_room (Nat.le_of_ble_eq_true rfl)) dL_law_250 ⟨g77, g78⟩) hS (fun q9 _ h9 => h9.elim) (fun q9 h9 => h9.elim) (fun w192 u t H1 locs ht hvm hw hB hz1 hk1 hS => ?_)
                      have hP := hP.kept (fun k9 q9 hk9 => hk1 q9.1 (hP k9 q9 hk9).lt (fun h9 => h9))
                      generalize H1 = H at hP hS ⊢
                      clear hk1 hz1 ht hvm
                      have hw : w192 = q190 := hw
                      rw [hw]
                      refine lv_iload hx hb dL_law_253 (lv_at hl 2 rfl) ?_
                      refine lv_icmp_lt (tgt := 270) hx hb dL_law_255 (by decide) (fun c193 => ?_) (fun c193 => ?_)
                      · rw [if_pos c193] at h
                        refine lv_iconst (v := 0) hx hb dL_law_270 (by decide) ?_
                        have hz := Option.some.inj h
                        rw [← hz] at hz1
                        exact absurd (show (0 : Int32) = 1 from hz1) (by decide)
                      · rw [if_neg c193] at h
                        refine lv_aload_n hx hb dL_law_258 rfl (lv_at hl 3 rfl) ?_
                        refine lv_iconst (v := 0) hx hb dL_law_259 (by decide) ?_
                        obtain ⟨q194, g195, h⟩ := vg_bind h
                        refine va_calli (va_runV (As := [.int 0]) (rest := []) ⟨hx, hb, hml, hown, hts⟩ (cm_X3_count (m0 := q170.2) l D tc ad80 hO173 n86 g195) (cwV 1 hts gL_law_X3_count rfl rfl rfl (by decide +kernel) ⟨(Nat.le_of_ble_eq_true rfl), (Nat.le_of_ble_eq_true rfl)⟩) ⟨qR_blind, va_recv hK hP (ci := 3) (q0 := r1) rfl (vW_k3 n86 g185), qR_pre hP hK hZ⟩ rfl rfl hl.1 rfl (lv_room (Nat.le_of_ble_eq_true rfl)) dL_law_260 ⟨g77, g78⟩) hS (fun q9 _ h9 => h9.elim) (fun q9 h9 => h9.elim) (fun w196 u t H1 locs ht hvm hw hB hz1 hk1 hS => ?_)
                        have hP := hP.kept (fun k9 q9 hk9 => hk1 q9.1 (hP k9 q9 hk9).lt (fun h9 => h9))
                        generalize H1 = H at hP hS ⊢
                        clear hk1 hz1 ht hvm
                        have hw : w196 = q194 := hw
                        rw [hw]
                        refine lv_iload hx hb dL_law_263 (lv_at hl 6 rfl) ?_
                        refine lv_iconst (v := 1) hx hb dL_law_265 (by decide) ?_
                        refine lv_iadd hx hb dL_law_266 ?_
                        refine lv_icmp_eq (tgt := 272) hx hb dL_law_267 (by decide) (fun c197 => ?_) (fun c197 => ?_)
                        · rw [if_pos c197] at h
                          exact (ih.2.2.2.2.1) q75.2.1 ad80 q170.2 ((kc + 2000)) ((ks + 70000)) r1 r2 i3 i4 i5 i6 i7 i8 r9 q62 q65.1 q70.1 _ _ _ e85 e84 g77 g78 hO173 n86 n87 n88 h hP hD hS (lv_sub hl (l' := [(1, .ref (ad80 r1)), (2, .ref (ad80 r2)), (3, .int i3), (4, .int i4), (5, .int i5), (6, .int i6), (7, .int i7), (8, .int i8), (9, .ref (ad80 r9)), (10, .int q62), (11, .int q65.1), (12, .int q70.1), (0, .ref b)]) [3, 4, 5, 6, 7, 8, 9, 10, 11, 2, 1, 0, 12] rfl)
                        · rw [if_neg c197] at h
                          refine lv_iconst (v := 0) hx hb dL_law_270 (by decide) ?_
                          have hz := Option.some.inj h
                          rw [← hz] at hz1
                          exact absurd (show (0 : Int32) = 1 from hz1) (by decide)
        · rw [if_neg c60] at h
          refine lv_iconst (v := 0) hx hb dL_law_129 (by decide) ?_
          refine lv_istore (lv' := [(11, .int 0), (1, .ref (adL r1)), (2, .ref (adL r2)), (3, .int i3), (4, .int i4), (5, .int i5), (6, .int i6), (7, .int i7), (8, .int i8), (9, .ref (adL r9)), (10, .int i10), (0, .ref b)]) hx hb dL_law_130 hl (by decide) rfl (fun ls hl => ?_)
          exact (ih.2.2.2.1) NL adL m1 kc ks r1 r2 i3 i4 i5 i6 i7 i8 r9 i10 (0 : Int32) _ _ _ hNN hE hc hs hO n_r1 n_r2 n_r9 h hP hD hS (lv_sub hl (l' := [(1, .ref (adL r1)), (2, .ref (adL r2)), (3, .int i3), (4, .int i4), (5, .int i5), (6, .int i6), (7, .int i7), (8, .int i8), (9, .ref (adL r9)), (10, .int i10), (11, .int 0), (0, .ref b)]) [1, 2, 3, 4, 5, 6, 7, 8, 9, 10, 0, 11] rfl)
      · intro NL adL m1 kc ks r1 r2 i3 i4 i5 i6 i7 i8 r9 i10 i11 H locs ls hNN hE hc hs hO n_r1 n_r2 n_r9 h hP hD hS hl
        have h : fB_L_law_132 L xs (fL_L_law L xs n) NL m1 kc ks r1 r2 i3 i4 i5 i6 i7 i8 r9 i10 i11 0 0 0 0 0 0 0 0 0 0 0 0 0 0 0 = some z := h
        unfold fB_L_law_132 at h
        refine lv_iload hx hb dL_law_132 (lv_at hl 10 rfl) ?_
        refine lv_bipush (v := 9) hx hb dL_law_134 (by decide) ?_
        refine lv_icmp_ge (tgt := 161) hx hb dL_law_136 (by decide) (fun c198 => ?_) (fun c198 => ?_)
        · rw [if_pos c198] at h
          refine lv_iinc (v := i10 + 1) (lv' := [(10, .int (i10 + 1)), (1, .ref (adL r1)), (2, .ref (adL r2)), (3, .int i3), (4, .int i4), (5, .int i5), (6, .int i6), (7, .int i7), (8, .int i8), (9, .ref (adL r9)), (11, .int i11), (0, .ref b)]) hx hb dL_law_161 hl (k := 9) rfl rfl (by decide) rfl (fun ls hl => ?_)
          refine lv_goto (tgt := 123) hx hb dL_law_164 (by decide) ?_
          exact (ih.2.2.1) NL adL m1 kc ks r1 r2 i3 i4 i5 i6 i7 i8 r9 (i10 + 1) _ _ _ hNN hE hc hs hO n_r1 n_r2 n_r9 h hP hD hS (lv_sub hl (l' := [(1, .ref (adL r1)), (2, .ref (adL r2)), (3, .int i3), (4, .int i4), (5, .int i5), (6, .int i6), (7, .int i7), (8, .int i8), (9, .ref (adL r9)), (10, .int (i10 + 1)), (0, .ref b)]) [1, 2, 3, 4, 5, 6, 7, 8, 9, 0, 11] rfl)
        · rw [if_neg c198] at h
          refine lv_aload hx hb dL_law_139 (lv_at hl 8 rfl) ?_
          refine lv_iload hx hb dL_law_141 (lv_at hl 9 rfl) ?_
          obtain ⟨g199, h⟩ := vg_if h
          obtain ⟨g200, h⟩ := vg_if h
          obtain ⟨y201, g202, h⟩ := vg_bind h
          have n_y201 := hO _ _ _ g202
          refine wm_aald8 hx hb hK hP n_r9 g199 (i := i10) g200 dL_law_143 ?_
          refine W.eq (g2 := F0 m 144 ls [.ref (adL y201)]) (by show F0 m 144 ls (va_rf (Option.map adL (mr m1 r9 i10.toNatClampNeg)) :: _) = _; rw [g202]; rfl) ?_
          refine lv_iload hx hb dL_law_144 (lv_at hl 10 rfl) ?_
          refine lv_aload_n hx hb dL_law_146 rfl (lv_at hl 0 rfl) ?_
          refine lv_iload hx hb dL_law_147 (lv_at hl 9 rfl) ?_
          refine lv_iload hx hb dL_law_149 (lv_at hl 10 rfl) ?_
          obtain ⟨g203, h⟩ := vg_if h
          obtain ⟨q204, g205, h⟩ := vg_bind h
          refine va_calli (va_runV (As := [.int i10, .int i11]) (rest := [.int i11, .ref (adL y201)]) ⟨hx, hb, hml, hown, hts⟩ (cm_X3_door (m0 := m1) l D tc adL hO n_r1 g205) (cwV 2 hts gL_law_X3_door rfl rfl rfl (by decide +kernel) ⟨(Nat.le_of_ble_eq_true rfl), (Nat.le_of_ble_eq_true rfl)⟩) ⟨qR_blind, va_recv hK hP (ci := 3) (q0 := r1) rfl (vW_k3 n_r1 g203), qR_pre hP hK hZ⟩ rfl rfl hl.1 rfl (lv_room (Nat.le_of_ble_eq_true rfl)) dL_law_151 ⟨hc, hs⟩) hS (fun q9 _ h9 => h9.elim) (fun q9 h9 => h9.elim) (fun w206 u t H1 locs ht hvm hw hB hz1 hk1 hS => ?_)
          have hP := hP.kept (fun k9 q9 hk9 => hk1 q9.1 (hP k9 q9 hk9).lt (fun h9 => h9))
          generalize H1 = H at hP hS ⊢
          clear hk1 hz1 ht hvm
          have hw : w206 = q204 := hw
          rw [hw]
          obtain ⟨g207, h⟩ := vg_if h
          obtain ⟨g208, h⟩ := vg_if h
          refine va_iast (D := D) hx hb hK hP hD hS y201 0 (vW_k6 n_y201 g207) rfl (i := i11) (x := q204) g208 dL_law_154 (fun H locs hP hD hS => ?_)
          rw [vW_p6 (m := m1) n_y201 g207] at hP hD
          have hO209 := vOK.I (a := y201) (j := i11.toNatClampNeg) (v := q204) hO
          have hP : va_P D vwCl (vW tc adL NL ((mI m1 y201 i11.toNatClampNeg q204))) H := hP
          have hD : va_D A (vW tc adL NL ((mI m1 y201 i11.toNatClampNeg q204))) := hD
          refine lv_iinc (v := i11 + 1) (lv' := [(11, .int (i11 + 1)), (1, .ref (adL r1)), (2, .ref (adL r2)), (3, .int i3), (4, .int i4), (5, .int i5), (6, .int i6), (7, .int i7), (8, .int i8), (9, .ref (adL r9)), (10, .int i10), (0, .ref b)]) hx hb dL_law_155 hl (k := 10) rfl rfl (by decide) rfl (fun ls hl => ?_)
          refine lv_goto (tgt := 132) hx hb dL_law_158 (by decide) ?_
          exact (ih.2.2.2.1) NL adL ((mI m1 y201 i11.toNatClampNeg q204)) kc ks r1 r2 i3 i4 i5 i6 i7 i8 r9 i10 (i11 + 1) _ _ _ hNN hE hc hs hO209 n_r1 n_r2 n_r9 h hP hD hS (lv_sub hl (l' := [(1, .ref (adL r1)), (2, .ref (adL r2)), (3, .int i3), (4, .int i4), (5, .int i5), (6, .int i6), (7, .int i7), (8, .int i8), (9, .ref (adL r9)), (10, .int i10), (11, .int (i11 + 1)), (0, .ref b)]) [1, 2, 3, 4, 5, 6, 7, 8, 9, 10, 0, 11] rfl)
      · intro NL adL m1 kc ks r1 r2 i3 i4 i5 i6 i7 i8 r9 i10 i11 i12 H locs ls hNN hE hc hs hO n_r1 n_r2 n_r9 h hP hD hS hl
        have h : fB_L_law_272 L xs (fL_L_law L xs n) NL m1 kc ks r1 r2 i3 i4 i5 i6 i7 i8 r9 i10 i11 i12 0 0 0 0 0 0 0 0 0 0 0 0 0 0 = some z := h
        unfold fB_L_law_272 at h
        refine lv_iconst (v := 0) hx hb dL_law_272 (by decide) ?_
        refine lv_istore (lv' := [(13, .int 0), (1, .ref (adL r1)), (2, .ref (adL r2)), (3, .int i3), (4, .int i4), (5, .int i5), (6, .int i6), (7, .int i7), (8, .int i8), (9, .ref (adL r9)), (10, .int i10), (11, .int i11), (12, .int i12), (0, .ref b)]) hx hb dL_law_273 hl (by decide) rfl (fun ls hl => ?_)
        refine lv_iconst (v := 4) hx hb dL_law_275 (by decide) ?_
        obtain ⟨g210, h⟩ := vg_if h
        obtain ⟨g211, h⟩ := vg_if h
        refine wm_new6 (n := 4) (n' := 4) hx hb (hts (.arrayClass .int) (List.mem_append_left _ (List.mem_append_left _ (List.mem_append_left _ (List.mem_of_getElem? (i := 5) rfl))))) hO hK hP hD hS hA (by decide) (by decide) (Nat.le_of_ble_eq_true rfl) g210 g211 dL_law_276 (fun ad212 H e213 hP hD hS => ?_)
        have hl : lv_has ls 27 [(13, .int 0), (1, .ref (ad212 r1)), (2, .ref (ad212 r2)), (3, .int i3), (4, .int i4), (5, .int i5), (6, .int i6), (7, .int i7), (8, .int i8), (9, .ref (ad212 r9)), (10, .int i10), (11, .int i11), (12, .int i12), (0, .ref b)] := by rw [e213 r1 n_r1, e213 r2 n_r2, e213 r9 n_r9]; exact hl
        have e214 : ∀ k, k < N → ad212 k = ad k := fun k hk => (e213 k (Nat.lt_of_lt_of_le hk hNN)).trans (hE k hk)
        have e215 : N ≤ (NL + 1) := Nat.le_trans hNN (Nat.le_succ _)
        have hO216 := vOK.N (k := 6) (n := 4) hO
        have n217 : r1 < (NL + 1) := Nat.lt_of_lt_of_le n_r1 (Nat.le_succ _)
        have n218 : r2 < (NL + 1) := Nat.lt_of_lt_of_le n_r2 (Nat.le_succ _)
        have n219 : r9 < (NL + 1) := Nat.lt_of_lt_of_le n_r9 (Nat.le_succ _)
        have hP : va_P D vwCl (vW tc ad212 ((NL + 1)) ((mN m1 NL 6 4))) H := hP
        have hD : va_D A (vW tc ad212 ((NL + 1)) ((mN m1 NL 6 4))) := hD
        refine lv_astore (lv' := [(14, .ref (ad212 NL)), (13, .int 0), (1, .ref (ad212 r1)), (2, .ref (ad212 r2)), (3, .int i3), (4, .int i4), (5, .int i5), (6, .int i6), (7, .int i7), (8, .int i8), (9, .ref (ad212 r9)), (10, .int i10), (11, .int i11), (12, .int i12), (0, .ref b)]) hx hb dL_law_278 hl (by decide) rfl (fun ls hl => ?_)
        refine lv_iconst (v := 0) hx hb dL_law_280 (by decide) ?_
        refine lv_istore (lv' := [(15, .int 0), (14, .ref (ad212 NL)), (13, .int 0), (1, .ref (ad212 r1)), (2, .ref (ad212 r2)), (3, .int i3), (4, .int i4), (5, .int i5), (6, .int i6), (7, .int i7), (8, .int i8), (9, .ref (ad212 r9)), (10, .int i10), (11, .int i11), (12, .int i12), (0, .ref b)]) hx hb dL_law_281 hl (by decide) rfl (fun ls hl => ?_)
        refine lv_iconst (v := 0) hx hb dL_law_283 (by decide) ?_
        refine lv_istore (lv' := [(16, .int 0), (15, .int 0), (14, .ref (ad212 NL)), (13, .int 0), (1, .ref (ad212 r1)), (2, .ref (ad212 r2)), (3, .int i3), (4, .int i4), (5, .int i5), (6, .int i6), (7, .int i7), (8, .int i8), (9, .ref (ad212 r9)), (10, .int i10), (11, .int i11), (12, .int i12), (0, .ref b)]) hx hb dL_law_284 hl (by decide) rfl (fun ls hl => ?_)
        exact (ih.2.2.2.2.2.1) ((NL + 1)) ad212 ((mN m1 NL 6 4)) ((kc + 1)) ((ks + 4)) r1 r2 i3 i4 i5 i6 i7 i8 r9 i10 i11 i12 (0 : Int32) NL (0 : Int32) (0 : Int32) _ _ _ e215 e214 g210 g211 hO216 n217 n218 n219 (Nat.lt_succ_self _) h hP hD hS (lv_sub hl (l' := [(1, .ref (ad212 r1)), (2, .ref (ad212 r2)), (3, .int i3), (4, .int i4), (5, .int i5), (6, .int i6), (7, .int i7), (8, .int i8), (9, .ref (ad212 r9)), (10, .int i10), (11, .int i11), (12, .int i12), (13, .int 0), (14, .ref (ad212 NL)), (15, .int 0), (16, .int 0), (0, .ref b)]) [4, 5, 6, 7, 8, 9, 10, 11, 12, 13, 14, 15, 3, 2, 1, 0, 16] rfl)
      · intro NL adL m1 kc ks r1 r2 i3 i4 i5 i6 i7 i8 r9 i10 i11 i12 i13 r14 i15 i16 H locs ls hNN hE hc hs hO n_r1 n_r2 n_r9 n_r14 h hP hD hS hl
        have h : fB_L_law_286 L xs (fL_L_law L xs n) NL m1 kc ks r1 r2 i3 i4 i5 i6 i7 i8 r9 i10 i11 i12 i13 r14 i15 i16 0 0 0 0 0 0 0 0 0 0 = some z := h
        unfold fB_L_law_286 at h
        refine lv_iload hx hb dL_law_286 (lv_at hl 15 rfl) ?_
        refine lv_iload_n hx hb dL_law_288 rfl (lv_at hl 2 rfl) ?_
        refine lv_icmp_ge (tgt := 816) hx hb dL_law_289 (by decide) (fun c220 => ?_) (fun c220 => ?_)
        · rw [if_pos c220] at h
          refine lv_iload hx hb dL_law_816 (lv_at hl 12 rfl) ?_
          refine lv_iload hx hb dL_law_818 (lv_at hl 11 rfl) ?_
          refine lv_icmp_ne (tgt := 845) hx hb dL_law_820 (by decide) (fun c221 => ?_) (fun c221 => ?_)
          · rw [if_neg c221] at h
            refine lv_iconst (v := 0) hx hb dL_law_845 (by decide) ?_
            have hz := Option.some.inj h
            rw [← hz] at hz1
            exact absurd (show (0 : Int32) = 1 from hz1) (by decide)
          · rw [if_pos c221] at h
            refine lv_aload_n hx hb dL_law_823 rfl (lv_at hl 0 rfl) ?_
            refine lv_bipush (v := 8) hx hb dL_law_824 (by decide) ?_
            obtain ⟨g222, h⟩ := vg_if h
            obtain ⟨q223, g224, h⟩ := vg_bind h
            refine va_calli (va_runV (As := [.int 8]) (rest := []) ⟨hx, hb, hml, hown, hts⟩ (cm_X3_count (m0 := m1) l D tc adL hO n_r1 g224) (cwV 1 hts gL_law_X3_count rfl rfl rfl (by decide +kernel) ⟨(Nat.le_of_ble_eq_true rfl), (Nat.le_of_ble_eq_true rfl)⟩) ⟨qR_blind, va_recv hK hP (ci := 3) (q0 := r1) rfl (vW_k3 n_r1 g222), qR_pre hP hK hZ⟩ rfl rfl hl.1 rfl (lv_room (Nat.le_of_ble_eq_true rfl)) dL_law_826 ⟨hc, hs⟩) hS (fun q9 _ h9 => h9.elim) (fun q9 h9 => h9.elim) (fun w225 u t H1 locs ht hvm hw hB hz1 hk1 hS => ?_)
            have hP := hP.kept (fun k9 q9 hk9 => hk1 q9.1 (hP k9 q9 hk9).lt (fun h9 => h9))
            generalize H1 = H at hP hS ⊢
            clear hk1 hz1 ht hvm
            have hw : w225 = q223 := hw
            rw [hw]
            refine lv_iload hx hb dL_law_829 (lv_at hl 14 rfl) ?_
            refine lv_icmp_ne (tgt := 845) hx hb dL_law_831 (by decide) (fun c226 => ?_) (fun c226 => ?_)
            · rw [if_neg c226] at h
              refine lv_iconst (v := 0) hx hb dL_law_845 (by decide) ?_
              have hz := Option.some.inj h
              rw [← hz] at hz1
              exact absurd (show (0 : Int32) = 1 from hz1) (by decide)
            · rw [if_pos c226] at h
              refine lv_aload_n hx hb dL_law_834 rfl (lv_at hl 0 rfl) ?_
              refine lv_bipush (v := 6) hx hb dL_law_835 (by decide) ?_
              obtain ⟨q227, g228, h⟩ := vg_bind h
              refine va_calli (va_runV (As := [.int 6]) (rest := []) ⟨hx, hb, hml, hown, hts⟩ (cm_X3_count (m0 := m1) l D tc adL hO n_r1 g228) (cwV 1 hts gL_law_X3_count rfl rfl rfl (by decide +kernel) ⟨(Nat.le_of_ble_eq_true rfl), (Nat.le_of_ble_eq_true rfl)⟩) ⟨qR_blind, va_recv hK hP (ci := 3) (q0 := r1) rfl (vW_k3 n_r1 g222), qR_pre hP hK hZ⟩ rfl rfl hl.1 rfl (lv_room (Nat.le_of_ble_eq_true rfl)) dL_law_837 ⟨hc, hs⟩) hS (fun q9 _ h9 => h9.elim) (fun q9 h9 => h9.elim) (fun w229 u t H1 locs ht hvm hw hB hz1 hk1 hS => ?_)
              have hP := hP.kept (fun k9 q9 hk9 => hk1 q9.1 (hP k9 q9 hk9).lt (fun h9 => h9))
              generalize H1 = H at hP hS ⊢
              clear hk1 hz1 ht hvm
              have hw : w229 = q227 := hw
              rw [hw]
              refine lv_bipush (v := 60) hx hb dL_law_840 (by decide) ?_
              refine lv_icmp_le (tgt := 847) hx hb dL_law_842 (by decide) (fun c230 => ?_) (fun c230 => ?_)
              · rw [if_pos c230] at h
                exact (ih.2.2.2.2.2.2.2.2.2.2.2.2.2.2.2.1) NL adL m1 kc ks r1 r2 i3 i4 i5 i6 i7 i8 r9 i10 i11 i12 i13 r14 i15 i16 _ _ _ hNN hE hc hs hO n_r1 n_r2 n_r9 n_r14 h hP hD hS (lv_sub hl (l' := [(1, .ref (adL r1)), (2, .ref (adL r2)), (3, .int i3), (4, .int i4), (5, .int i5), (6, .int i6), (7, .int i7), (8, .int i8), (9, .ref (adL r9)), (10, .int i10), (11, .int i11), (12, .int i12), (13, .int i13), (14, .ref (adL r14)), (15, .int i15), (16, .int i16), (0, .ref b)]) [0, 1, 2, 3, 4, 5, 6, 7, 8, 9, 10, 11, 12, 13, 14, 15, 16] rfl)
              · rw [if_neg c230] at h
                refine lv_iconst (v := 0) hx hb dL_law_845 (by decide) ?_
                have hz := Option.some.inj h
                rw [← hz] at hz1
                exact absurd (show (0 : Int32) = 1 from hz1) (by decide)
        · rw [if_neg c220] at h
          refine lv_aload_n hx hb dL_law_292 rfl (lv_at hl 0 rfl) ?_
          refine lv_iload hx hb dL_law_293 (lv_at hl 15 rfl) ?_
          refine lv_iconst (v := 0) hx hb dL_law_295 (by decide) ?_
          obtain ⟨g231, h⟩ := vg_if h
          obtain ⟨q232, g233, h⟩ := vg_bind h
          refine va_calli (va_runV (As := [.int i16, .int 0]) (rest := []) ⟨hx, hb, hml, hown, hts⟩ (cm_X3_door (m0 := m1) l D tc adL hO n_r1 g233) (cwV 2 hts gL_law_X3_door rfl rfl rfl (by decide +kernel) ⟨(Nat.le_of_ble_eq_true rfl), (Nat.le_of_ble_eq_true rfl)⟩) ⟨qR_blind, va_recv hK hP (ci := 3) (q0 := r1) rfl (vW_k3 n_r1 g231), qR_pre hP hK hZ⟩ rfl rfl hl.1 rfl (lv_room (Nat.le_of_ble_eq_true rfl)) dL_law_296 ⟨hc, hs⟩) hS (fun q9 _ h9 => h9.elim) (fun q9 h9 => h9.elim) (fun w234 u t H1 locs ht hvm hw hB hz1 hk1 hS => ?_)
          have hP := hP.kept (fun k9 q9 hk9 => hk1 q9.1 (hP k9 q9 hk9).lt (fun h9 => h9))
          generalize H1 = H at hP hS ⊢
          clear hk1 hz1 ht hvm
          have hw : w234 = q232 := hw
          rw [hw]
          refine lv_istore (lv' := [(17, .int q232), (1, .ref (adL r1)), (2, .ref (adL r2)), (3, .int i3), (4, .int i4), (5, .int i5), (6, .int i6), (7, .int i7), (8, .int i8), (9, .ref (adL r9)), (10, .int i10), (11, .int i11), (12, .int i12), (13, .int i13), (14, .ref (adL r14)), (15, .int i15), (16, .int i16), (0, .ref b)]) hx hb dL_law_299 hl (by decide) rfl (fun ls hl => ?_)
          refine lv_aload_n hx hb dL_law_301 rfl (lv_at hl 1 rfl) ?_
          refine lv_iload hx hb dL_law_302 (lv_at hl 16 rfl) ?_
          refine lv_iconst (v := 1) hx hb dL_law_304 (by decide) ?_
          obtain ⟨q235, g236, h⟩ := vg_bind h
          refine va_calli (va_runV (As := [.int i16, .int 1]) (rest := []) ⟨hx, hb, hml, hown, hts⟩ (cm_X3_door (m0 := m1) l D tc adL hO n_r1 g236) (cwV 2 hts gL_law_X3_door rfl rfl rfl (by decide +kernel) ⟨(Nat.le_of_ble_eq_true rfl), (Nat.le_of_ble_eq_true rfl)⟩) ⟨qR_blind, va_recv hK hP (ci := 3) (q0 := r1) rfl (vW_k3 n_r1 g231), qR_pre hP hK hZ⟩ rfl rfl hl.1 rfl (lv_room (Nat.le_of_ble_eq_true rfl)) dL_law_305 ⟨hc, hs⟩) hS (fun q9 _ h9 => h9.elim) (fun q9 h9 => h9.elim) (fun w237 u t H1 locs ht hvm hw hB hz1 hk1 hS => ?_)
          have hP := hP.kept (fun k9 q9 hk9 => hk1 q9.1 (hP k9 q9 hk9).lt (fun h9 => h9))
          generalize H1 = H at hP hS ⊢
          clear hk1 hz1 ht hvm
          have hw : w237 = q235 := hw
          rw [hw]
          refine lv_istore (lv' := [(18, .int q235), (17, .int q232), (1, .ref (adL r1)), (2, .ref (adL r2)), (3, .int i3), (4, .int i4), (5, .int i5), (6, .int i6), (7, .int i7), (8, .int i8), (9, .ref (adL r9)), (10, .int i10), (11, .int i11), (12, .int i12), (13, .int i13), (14, .ref (adL r14)), (15, .int i15), (16, .int i16), (0, .ref b)]) hx hb dL_law_308 hl (by decide) rfl (fun ls hl => ?_)
          refine lv_aload hx hb dL_law_310 (lv_at hl 10 rfl) ?_
          refine lv_iload hx hb dL_law_312 (lv_at hl 17 rfl) ?_
          obtain ⟨g238, h⟩ := vg_if h
          obtain ⟨g239, h⟩ := vg_if h
          obtain ⟨y240, g241, h⟩ := vg_bind h
          have n_y240 := hO _ _ _ g241
          refine wm_aald8 hx hb hK hP n_r9 g238 (i := i16) g239 dL_law_314 ?_
          refine W.eq (g2 := F0 m 315 ls [.ref (adL y240)]) (by show F0 m 315 ls (va_rf (Option.map adL (mr m1 r9 i16.toNatClampNeg)) :: _) = _; rw [g241]; rfl) ?_
          refine lv_iconst (v := 0) hx hb dL_law_315 (by decide) ?_
          obtain ⟨g242, h⟩ := vg_if h
          obtain ⟨g243, h⟩ := vg_if h
          refine va_iald (D := D) hx hb hK hP y240 0 (vW_k6 n_y240 g242) rfl (i := 0) g243 dL_law_316 ?_
          refine W.eq (g2 := F0 m 317 ls [.int (mi m1 y240 0)]) rfl ?_
          refine lv_istore (lv' := [(19, .int (mi m1 y240 0)), (18, .int q235), (17, .int q232), (1, .ref (adL r1)), (2, .ref (adL r2)), (3, .int i3), (4, .int i4), (5, .int i5), (6, .int i6), (7, .int i7), (8, .int i8), (9, .ref (adL r9)), (10, .int i10), (11, .int i11), (12, .int i12), (13, .int i13), (14, .ref (adL r14)), (15, .int i15), (16, .int i16), (0, .ref b)]) hx hb dL_law_317 hl (by decide) rfl (fun ls hl => ?_)
          refine lv_aload_n hx hb dL_law_319 rfl (lv_at hl 3 rfl) ?_
          refine lv_iload hx hb dL_law_320 (lv_at hl 18 rfl) ?_
          refine lv_bipush (v := 7) hx hb dL_law_322 (by decide) ?_
          obtain ⟨q244, g245, h⟩ := vg_bind h
          refine va_calli (va_runV (As := [.int i16, .int 7]) (rest := []) ⟨hx, hb, hml, hown, hts⟩ (cm_X3_door (m0 := m1) l D tc adL hO n_r1 g245) (cwV 2 hts gL_law_X3_door rfl rfl rfl (by decide +kernel) ⟨(Nat.le_of_ble_eq_true rfl), (Nat.le_of_ble_eq_true rfl)⟩) ⟨qR_blind, va_recv hK hP (ci := 3) (q0 := r1) rfl (vW_k3 n_r1 g231), qR_pre hP hK hZ⟩ rfl rfl hl.1 rfl (lv_room (Nat.le_of_ble_eq_true rfl)) dL_law_324 ⟨hc, hs⟩) hS (fun q9 _ h9 => h9.elim) (fun q9 h9 => h9.elim) (fun w246 u t H1 locs ht hvm hw hB hz1 hk1 hS => ?_)
          have hP := hP.kept (fun k9 q9 hk9 => hk1 q9.1 (hP k9 q9 hk9).lt (fun h9 => h9))
          generalize H1 = H at hP hS ⊢
          clear hk1 hz1 ht hvm
          have hw : w246 = q244 := hw
          rw [hw]
          refine lv_aload hx hb dL_law_327 (lv_at hl 11 rfl) ?_
          refine lv_iload hx hb dL_law_329 (lv_at hl 18 rfl) ?_
          obtain ⟨g247, h⟩ := vg_if h
          obtain ⟨y248, g249, h⟩ := vg_bind h
          have n_y248 := hO _ _ _ g249
          refine wm_aald8 hx hb hK hP n_r9 g238 (i := i16) g247 dL_law_331 ?_
          refine W.eq (g2 := F0 m 332 ls [.ref (adL y248), .int q244]) (by show F0 m 332 ls (va_rf (Option.map adL (mr m1 r9 i16.toNatClampNeg)) :: _) = _; rw [g249]; rfl) ?_
          refine lv_bipush (v := 7) hx hb dL_law_332 (by decide) ?_
          obtain ⟨g250, h⟩ := vg_if h
          obtain ⟨g251, h⟩ := vg_if h
          refine va_iald (D := D) hx hb hK hP y248 0 (vW_k6 n_y248 g250) rfl (i := 7) g251 dL_law_334 ?_
          refine W.eq (g2 := F0 m 335 ls [.int (mi m1 y248 7), .int q244]) rfl ?_
          refine lv_isub hx hb dL_law_335 ?_
          refine lv_istore (lv' := [(20, .int (q244 - (mi m1 y248 7))), (19, .int (mi m1 y240 0)), (18, .int q235), (17, .int q232), (1, .ref (adL r1)), (2, .ref (adL r2)), (3, .int i3), (4, .int i4), (5, .int i5), (6, .int i6), (7, .int i7), (8, .int i8), (9, .ref (adL r9)), (10, .int i10), (11, .int i11), (12, .int i12), (13, .int i13), (14, .ref (adL r14)), (15, .int i15), (16, .int i16), (0, .ref b)]) hx hb dL_law_336 hl (by decide) rfl (fun ls hl => ?_)
          refine lv_aload_n hx hb dL_law_338 rfl (lv_at hl 4 rfl) ?_
          refine lv_iload hx hb dL_law_339 (lv_at hl 19 rfl) ?_
          refine lv_bipush (v := 8) hx hb dL_law_341 (by decide) ?_
          obtain ⟨q252, g253, h⟩ := vg_bind h
          refine va_calli (va_runV (As := [.int i16, .int 8]) (rest := []) ⟨hx, hb, hml, hown, hts⟩ (cm_X3_door (m0 := m1) l D tc adL hO n_r1 g253) (cwV 2 hts gL_law_X3_door rfl rfl rfl (by decide +kernel) ⟨(Nat.le_of_ble_eq_true rfl), (Nat.le_of_ble_eq_true rfl)⟩) ⟨qR_blind, va_recv hK hP (ci := 3) (q0 := r1) rfl (vW_k3 n_r1 g231), qR_pre hP hK hZ⟩ rfl rfl hl.1 rfl (lv_room (Nat.le_of_ble_eq_true rfl)) dL_law_343 ⟨hc, hs⟩) hS (fun q9 _ h9 => h9.elim) (fun q9 h9 => h9.elim) (fun w254 u t H1 locs ht hvm hw hB hz1 hk1 hS => ?_)
          have hP := hP.kept (fun k9 q9 hk9 => hk1 q9.1 (hP k9 q9 hk9).lt (fun h9 => h9))
          generalize H1 = H at hP hS ⊢
          clear hk1 hz1 ht hvm
          have hw : w254 = q252 := hw
          rw [hw]
          refine lv_aload hx hb dL_law_346 (lv_at hl 12 rfl) ?_
          refine lv_iload hx hb dL_law_348 (lv_at hl 19 rfl) ?_
          obtain ⟨g255, h⟩ := vg_if h
          obtain ⟨y256, g257, h⟩ := vg_bind h
          have n_y256 := hO _ _ _ g257
          refine wm_aald8 hx hb hK hP n_r9 g238 (i := i16) g255 dL_law_350 ?_
          refine W.eq (g2 := F0 m 351 ls [.ref (adL y256), .int q252]) (by show F0 m 351 ls (va_rf (Option.map adL (mr m1 r9 i16.toNatClampNeg)) :: _) = _; rw [g257]; rfl) ?_
          refine lv_bipush (v := 8) hx hb dL_law_351 (by decide) ?_
          obtain ⟨g258, h⟩ := vg_if h
          obtain ⟨g259, h⟩ := vg_if h
          refine va_iald (D := D) hx hb hK hP y256 0 (vW_k6 n_y256 g258) rfl (i := 8) g259 dL_law_353 ?_
          refine W.eq (g2 := F0 m 354 ls [.int (mi m1 y256 8), .int q252]) rfl ?_
          refine lv_isub hx hb dL_law_354 ?_
          refine lv_istore (lv' := [(21, .int (q252 - (mi m1 y256 8))), (20, .int (q244 - (mi m1 y248 7))), (19, .int (mi m1 y240 0)), (18, .int q235), (17, .int q232), (1, .ref (adL r1)), (2, .ref (adL r2)), (3, .int i3), (4, .int i4), (5, .int i5), (6, .int i6), (7, .int i7), (8, .int i8), (9, .ref (adL r9)), (10, .int i10), (11, .int i11), (12, .int i12), (13, .int i13), (14, .ref (adL r14)), (15, .int i15), (16, .int i16), (0, .ref b)]) hx hb dL_law_355 hl (by decide) rfl (fun ls hl => ?_)
          refine lv_aload hx hb dL_law_357 (lv_at hl 18 rfl) ?_
          refine lv_iload hx hb dL_law_359 (lv_at hl 4 rfl) ?_
          refine lv_dup2_11 hx hb dL_law_361 rfl rfl ?_
          obtain ⟨g260, h⟩ := vg_if h
          obtain ⟨g261, h⟩ := vg_if h
          refine va_iald (D := D) hx hb hK hP r14 0 (vW_k6 n_r14 g260) rfl (i := q232) g261 dL_law_362 ?_
          refine lv_iconst (v := 1) hx hb dL_law_363 (by decide) ?_
          refine lv_iadd hx hb dL_law_364 ?_
          obtain ⟨g262, h⟩ := vg_if h
          refine va_iast (D := D) hx hb hK hP hD hS r14 0 (vW_k6 n_r14 g260) rfl (i := q232) (x := (mi m1 r14 q232.toNatClampNeg) + 1) g262 dL_law_365 (fun H locs hP hD hS => ?_)
          rw [vW_p6 (m := m1) n_r14 g260] at hP hD
          have hO263 := vOK.I (a := r14) (j := q232.toNatClampNeg) (v := ((mi m1 r14 q232.toNatClampNeg) + 1)) hO
          have hP : va_P D vwCl (vW tc adL NL ((mI m1 r14 q232.toNatClampNeg ((mi m1 r14 q232.toNatClampNeg) + 1)))) H := hP
          have hD : va_D A (vW tc adL NL ((mI m1 r14 q232.toNatClampNeg ((mi m1 r14 q232.toNatClampNeg) + 1)))) := hD
          refine lv_iload hx hb dL_law_366 (lv_at hl 17 rfl) ?_
          refine lv_iload hx hb dL_law_368 (lv_at hl 1 rfl) ?_
          refine lv_iadd hx hb dL_law_370 ?_
          refine lv_istore (lv' := [(13, .int (i13 + (q244 - (mi m1 y248 7)))), (21, .int (q252 - (mi m1 y256 8))), (20, .int (q244 - (mi m1 y248 7))), (19, .int (mi m1 y240 0)), (18, .int q235), (17, .int q232), (1, .ref (adL r1)), (2, .ref (adL r2)), (3, .int i3), (4, .int i4), (5, .int i5), (6, .int i6), (7, .int i7), (8, .int i8), (9, .ref (adL r9)), (10, .int i10), (11, .int i11), (12, .int i12), (14, .ref (adL r14)), (15, .int i15), (16, .int i16), (0, .ref b)]) hx hb dL_law_371 hl (by decide) rfl (fun ls hl => ?_)
          refine lv_iload hx hb dL_law_373 (lv_at hl 19 rfl) ?_
          refine lv_iload hx hb dL_law_375 (lv_at hl 5 rfl) ?_
          refine lv_iconst (v := 2) hx hb dL_law_377 (by decide) ?_
          refine lv_icmp_ne (tgt := 388) hx hb dL_law_378 (by decide) (fun c264 => ?_) (fun c264 => ?_)
          · rw [if_neg c264] at h
            refine lv_iconst (v := 0) hx hb dL_law_388 (by decide) ?_
            refine lv_iadd hx hb dL_law_389 ?_
            refine lv_istore (lv' := [(15, .int (i15 + 0)), (13, .int (i13 + (q244 - (mi m1 y248 7)))), (21, .int (q252 - (mi m1 y256 8))), (20, .int (q244 - (mi m1 y248 7))), (19, .int (mi m1 y240 0)), (18, .int q235), (17, .int q232), (1, .ref (adL r1)), (2, .ref (adL r2)), (3, .int i3), (4, .int i4), (5, .int i5), (6, .int i6), (7, .int i7), (8, .int i8), (9, .ref (adL r9)), (10, .int i10), (11, .int i11), (12, .int i12), (14, .ref (adL r14)), (16, .int i16), (0, .ref b)]) hx hb dL_law_390 hl (by decide) rfl (fun ls hl => ?_)
            exact (ih.2.2.2.2.2.2.1) NL adL ((mI m1 r14 q232.toNatClampNeg ((mi m1 r14 q232.toNatClampNeg) + 1))) kc ks r1 r2 i3 i4 i5 i6 i7 i8 r9 i10 i11 i12 (i13 + (q244 - (mi m1 y248 7))) r14 (i15 + 0) i16 q232 q235 (mi m1 y240 0) (q244 - (mi m1 y248 7)) (q252 - (mi m1 y256 8)) _ _ _ hNN hE hc hs hO263 n_r1 n_r2 n_r9 n_r14 h hP hD hS (lv_sub hl (l' := [(1, .ref (adL r1)), (2, .ref (adL r2)), (3, .int i3), (4, .int i4), (5, .int i5), (6, .int i6), (7, .int i7), (8, .int i8), (9, .ref (adL r9)), (10, .int i10), (11, .int i11), (12, .int i12), (13, .int (i13 + (q244 - (mi m1 y248 7)))), (14, .ref (adL r14)), (15, .int (i15 + 0)), (16, .int i16), (17, .int q232), (18, .int q235), (19, .int (mi m1 y240 0)), (20, .int (q244 - (mi m1 y248 7))), (21, .int (q252 - (mi m1 y256 8))), (0, .ref b)]) [7, 8, 9, 10, 11, 12, 13, 14, 15, 16, 17, 18, 1, 19, 0, 20, 6, 5, 4, 3, 2, 21] rfl)
          · rw [if_pos c264] at h
            refine lv_iconst (v := 1) hx hb dL_law_381 (by decide) ?_
            refine lv_iload hx hb dL_law_382 (lv_at hl 20 rfl) ?_
            refine lv_ishl hx hb dL_law_384 ?_
            refine lv_goto (tgt := 389) hx hb dL_law_385 (by decide) ?_
            refine lv_iadd hx hb dL_law_389 ?_
            refine lv_istore (lv' := [(15, .int (i15 + (1 <<< (i16 &&& 31)))), (13, .int (i13 + (q244 - (mi m1 y248 7)))), (21, .int (q252 - (mi m1 y256 8))), (20, .int (q244 - (mi m1 y248 7))), (19, .int (mi m1 y240 0)), (18, .int q235), (17, .int q232), (1, .ref (adL r1)), (2, .ref (adL r2)), (3, .int i3), (4, .int i4), (5, .int i5), (6, .int i6), (7, .int i7), (8, .int i8), (9, .ref (adL r9)), (10, .int i10), (11, .int i11), (12, .int i12), (14, .ref (adL r14)), (16, .int i16), (0, .ref b)]) hx hb dL_law_390 hl (by decide) rfl (fun ls hl => ?_)
            exact (ih.2.2.2.2.2.2.1) NL adL ((mI m1 r14 q232.toNatClampNeg ((mi m1 r14 q232.toNatClampNeg) + 1))) kc ks r1 r2 i3 i4 i5 i6 i7 i8 r9 i10 i11 i12 (i13 + (q244 - (mi m1 y248 7))) r14 (i15 + (1 <<< (i16 &&& 31))) i16 q232 q235 (mi m1 y240 0) (q244 - (mi m1 y248 7)) (q252 - (mi m1 y256 8)) _ _ _ hNN hE hc hs hO263 n_r1 n_r2 n_r9 n_r14 h hP hD hS (lv_sub hl (l' := [(1, .ref (adL r1)), (2, .ref (adL r2)), (3, .int i3), (4, .int i4), (5, .int i5), (6, .int i6), (7, .int i7), (8, .int i8), (9, .ref (adL r9)), (10, .int i10), (11, .int i11), (12, .int i12), (13, .int (i13 + (q244 - (mi m1 y248 7)))), (14, .ref (adL r14)), (15, .int (i15 + (1 <<< (i16 &&& 31)))), (16, .int i16), (17, .int q232), (18, .int q235), (19, .int (mi m1 y240 0)), (20, .int (q244 - (mi m1 y248 7))), (21, .int (q252 - (mi m1 y256 8))), (0, .ref b)]) [7, 8, 9, 10, 11, 12, 13, 14, 15, 16, 17, 18, 1, 19, 0, 20, 6, 5, 4, 3, 2, 21] rfl)
      · intro NL adL m1 kc ks r1 r2 i3 i4 i5 i6 i7 i8 r9 i10 i11 i12 i13 r14 i15 i16 i17 i18 i19 i20 i21 H locs ls hNN hE hc hs hO n_r1 n_r2 n_r9 n_r14 h hP hD hS hl
        have h : fB_L_law_392 L xs (fL_L_law L xs n) NL m1 kc ks r1 r2 i3 i4 i5 i6 i7 i8 r9 i10 i11 i12 i13 r14 i15 i16 i17 i18 i19 i20 i21 0 0 0 0 0 = some z := h
        unfold fB_L_law_392 at h
        refine lv_iload hx hb dL_law_392 (lv_at hl 19 rfl) ?_
        refine lv_if_lt (tgt := 471) hx hb dL_law_394 (by decide) (fun c265 => ?_) (fun c265 => ?_)
        · rw [if_pos c265] at h
          refine lv_iconst (v := 0) hx hb dL_law_471 (by decide) ?_
          have hz := Option.some.inj h
          rw [← hz] at hz1
          exact absurd (show (0 : Int32) = 1 from hz1) (by decide)
        · rw [if_neg c265] at h
          refine lv_iload hx hb dL_law_397 (lv_at hl 20 rfl) ?_
          refine lv_if_lt (tgt := 471) hx hb dL_law_399 (by decide) (fun c266 => ?_) (fun c266 => ?_)
          · rw [if_pos c266] at h
            refine lv_iconst (v := 0) hx hb dL_law_471 (by decide) ?_
            have hz := Option.some.inj h
            rw [← hz] at hz1
            exact absurd (show (0 : Int32) = 1 from hz1) (by decide)
          · rw [if_neg c266] at h
            refine lv_iload hx hb dL_law_402 (lv_at hl 19 rfl) ?_
            refine lv_iload hx hb dL_law_404 (lv_at hl 20 rfl) ?_
            refine lv_iadd hx hb dL_law_406 ?_
            refine lv_iconst (v := 1) hx hb dL_law_407 (by decide) ?_
            refine lv_icmp_gt (tgt := 471) hx hb dL_law_408 (by decide) (fun c267 => ?_) (fun c267 => ?_)
            · rw [if_pos c267] at h
              refine lv_iconst (v := 0) hx hb dL_law_471 (by decide) ?_
              have hz := Option.some.inj h
              rw [← hz] at hz1
              exact absurd (show (0 : Int32) = 1 from hz1) (by decide)
            · rw [if_neg c267] at h
              refine lv_iload hx hb dL_law_411 (lv_at hl 19 rfl) ?_
              refine lv_iconst (v := 1) hx hb dL_law_413 (by decide) ?_
              refine lv_icmp_ne (tgt := 430) hx hb dL_law_414 (by decide) (fun c268 => ?_) (fun c268 => ?_)
              · rw [if_neg c268] at h
                refine lv_iload hx hb dL_law_430 (lv_at hl 20 rfl) ?_
                refine lv_iconst (v := 1) hx hb dL_law_432 (by decide) ?_
                refine lv_icmp_ne (tgt := 448) hx hb dL_law_433 (by decide) (fun c269 => ?_) (fun c269 => ?_)
                · rw [if_neg c269] at h
                  refine lv_iload hx hb dL_law_448 (lv_at hl 16 rfl) ?_
                  refine lv_if_ne (tgt := 457) hx hb dL_law_450 (by decide) (fun c270 => ?_) (fun c270 => ?_)
                  · rw [if_neg c270] at h
                    refine lv_iconst (v := 0) hx hb dL_law_457 (by decide) ?_
                    refine lv_iload hx hb dL_law_458 (lv_at hl 17 rfl) ?_
                    refine lv_if_ne (tgt := 467) hx hb dL_law_460 (by decide) (fun c271 => ?_) (fun c271 => ?_)
                    · rw [if_neg c271] at h
                      refine lv_iconst (v := 0) hx hb dL_law_467 (by decide) ?_
                      refine lv_icmp_eq (tgt := 473) hx hb dL_law_468 (by decide) (fun _ => ?_) (fun h9 => absurd h9 (by decide))
                      exact (ih.2.2.2.2.2.2.2.1) NL adL m1 kc ks r1 r2 i3 i4 i5 i6 i7 i8 r9 i10 i11 i12 i13 r14 i15 i16 i17 i18 i19 i20 i21 _ _ _ hNN hE hc hs hO n_r1 n_r2 n_r9 n_r14 h hP hD hS (lv_sub hl (l' := [(1, .ref (adL r1)), (2, .ref (adL r2)), (3, .int i3), (4, .int i4), (5, .int i5), (6, .int i6), (7, .int i7), (8, .int i8), (9, .ref (adL r9)), (10, .int i10), (11, .int i11), (12, .int i12), (13, .int i13), (14, .ref (adL r14)), (15, .int i15), (16, .int i16), (17, .int i17), (18, .int i18), (19, .int i19), (20, .int i20), (21, .int i21), (0, .ref b)]) [0, 1, 2, 3, 4, 5, 6, 7, 8, 9, 10, 11, 12, 13, 14, 15, 16, 17, 18, 19, 20, 21] rfl)
                    · rw [if_pos c271] at h
                      refine lv_iconst (v := 1) hx hb dL_law_463 (by decide) ?_
                      refine lv_goto (tgt := 468) hx hb dL_law_464 (by decide) ?_
                      refine lv_icmp_eq (tgt := 473) hx hb dL_law_468 (by decide) (fun h9 => absurd h9 (by decide)) (fun _ => ?_)
                      refine lv_iconst (v := 0) hx hb dL_law_471 (by decide) ?_
                      have hz := Option.some.inj h
                      rw [← hz] at hz1
                      exact absurd (show (0 : Int32) = 1 from hz1) (by decide)
                  · rw [if_pos c270] at h
                    refine lv_iconst (v := 1) hx hb dL_law_453 (by decide) ?_
                    refine lv_goto (tgt := 458) hx hb dL_law_454 (by decide) ?_
                    refine lv_iload hx hb dL_law_458 (lv_at hl 17 rfl) ?_
                    refine lv_if_ne (tgt := 467) hx hb dL_law_460 (by decide) (fun c272 => ?_) (fun c272 => ?_)
                    · rw [if_neg c272] at h
                      refine lv_iconst (v := 0) hx hb dL_law_467 (by decide) ?_
                      refine lv_icmp_eq (tgt := 473) hx hb dL_law_468 (by decide) (fun h9 => absurd h9 (by decide)) (fun _ => ?_)
                      refine lv_iconst (v := 0) hx hb dL_law_471 (by decide) ?_
                      have hz := Option.some.inj h
                      rw [← hz] at hz1
                      exact absurd (show (0 : Int32) = 1 from hz1) (by decide)
                    · rw [if_pos c272] at h
                      refine lv_iconst (v := 1) hx hb dL_law_463 (by decide) ?_
                      refine lv_goto (tgt := 468) hx hb dL_law_464 (by decide) ?_
                      refine lv_icmp_eq (tgt := 473) hx hb dL_law_468 (by decide) (fun _ => ?_) (fun h9 => absurd h9 (by decide))
                      exact (ih.2.2.2.2.2.2.2.1) NL adL m1 kc ks r1 r2 i3 i4 i5 i6 i7 i8 r9 i10 i11 i12 i13 r14 i15 i16 i17 i18 i19 i20 i21 _ _ _ hNN hE hc hs hO n_r1 n_r2 n_r9 n_r14 h hP hD hS (lv_sub hl (l' := [(1, .ref (adL r1)), (2, .ref (adL r2)), (3, .int i3), (4, .int i4), (5, .int i5), (6, .int i6), (7, .int i7), (8, .int i8), (9, .ref (adL r9)), (10, .int i10), (11, .int i11), (12, .int i12), (13, .int i13), (14, .ref (adL r14)), (15, .int i15), (16, .int i16), (17, .int i17), (18, .int i18), (19, .int i19), (20, .int i20), (21, .int i21), (0, .ref b)]) [0, 1, 2, 3, 4, 5, 6, 7, 8, 9, 10, 11, 12, 13, 14, 15, 16, 17, 18, 19, 20, 21] rfl)
                · rw [if_pos c269] at h
                  refine lv_iload hx hb dL_law_436 (lv_at hl 16 rfl) ?_
                  refine lv_iconst (v := 3) hx hb dL_law_438 (by decide) ?_
                  refine lv_icmp_ne (tgt := 471) hx hb dL_law_439 (by decide) (fun c273 => ?_) (fun c273 => ?_)
                  · rw [if_neg c273] at h
                    refine lv_iconst (v := 0) hx hb dL_law_471 (by decide) ?_
                    have hz := Option.some.inj h
                    rw [← hz] at hz1
                    exact absurd (show (0 : Int32) = 1 from hz1) (by decide)
                  · rw [if_pos c273] at h
                    refine lv_iload hx hb dL_law_442 (lv_at hl 17 rfl) ?_
                    refine lv_iconst (v := 4) hx hb dL_law_444 (by decide) ?_
                    refine lv_icmp_ne (tgt := 471) hx hb dL_law_445 (by decide) (fun c274 => ?_) (fun c274 => ?_)
                    · rw [if_neg c274] at h
                      refine lv_iconst (v := 0) hx hb dL_law_471 (by decide) ?_
                      have hz := Option.some.inj h
                      rw [← hz] at hz1
                      exact absurd (show (0 : Int32) = 1 from hz1) (by decide)
                    · rw [if_pos c274] at h
                      refine lv_iload hx hb dL_law_448 (lv_at hl 16 rfl) ?_
                      refine lv_if_ne (tgt := 457) hx hb dL_law_450 (by decide) (fun c275 => ?_) (fun c275 => ?_)
                      · rw [if_neg c275] at h
                        refine lv_iconst (v := 0) hx hb dL_law_457 (by decide) ?_
                        refine lv_iload hx hb dL_law_458 (lv_at hl 17 rfl) ?_
                        refine lv_if_ne (tgt := 467) hx hb dL_law_460 (by decide) (fun c276 => ?_) (fun c276 => ?_)
                        · rw [if_neg c276] at h
                          refine lv_iconst (v := 0) hx hb dL_law_467 (by decide) ?_
                          refine lv_icmp_eq (tgt := 473) hx hb dL_law_468 (by decide) (fun _ => ?_) (fun h9 => absurd h9 (by decide))
                          exact (ih.2.2.2.2.2.2.2.1) NL adL m1 kc ks r1 r2 i3 i4 i5 i6 i7 i8 r9 i10 i11 i12 i13 r14 i15 i16 i17 i18 i19 i20 i21 _ _ _ hNN hE hc hs hO n_r1 n_r2 n_r9 n_r14 h hP hD hS (lv_sub hl (l' := [(1, .ref (adL r1)), (2, .ref (adL r2)), (3, .int i3), (4, .int i4), (5, .int i5), (6, .int i6), (7, .int i7), (8, .int i8), (9, .ref (adL r9)), (10, .int i10), (11, .int i11), (12, .int i12), (13, .int i13), (14, .ref (adL r14)), (15, .int i15), (16, .int i16), (17, .int i17), (18, .int i18), (19, .int i19), (20, .int i20), (21, .int i21), (0, .ref b)]) [0, 1, 2, 3, 4, 5, 6, 7, 8, 9, 10, 11, 12, 13, 14, 15, 16, 17, 18, 19, 20, 21] rfl)
                        · rw [if_pos c276] at h
                          refine lv_iconst (v := 1) hx hb dL_law_463 (by decide) ?_
                          refine lv_goto (tgt := 468) hx hb dL_law_464 (by decide) ?_
                          refine lv_icmp_eq (tgt := 473) hx hb dL_law_468 (by decide) (fun h9 => absurd h9 (by decide)) (fun _ => ?_)
                          refine lv_iconst (v := 0) hx hb dL_law_471 (by decide) ?_
                          have hz := Option.some.inj h
                          rw [← hz] at hz1
                          exact absurd (show (0 : Int32) = 1 from hz1) (by decide)
                      · rw [if_pos c275] at h
                        refine lv_iconst (v := 1) hx hb dL_law_453 (by decide) ?_
                        refine lv_goto (tgt := 458) hx hb dL_law_454 (by decide) ?_
                        refine lv_iload hx hb dL_law_458 (lv_at hl 17 rfl) ?_
                        refine lv_if_ne (tgt := 467) hx hb dL_law_460 (by decide) (fun c277 => ?_) (fun c277 => ?_)
                        · rw [if_neg c277] at h
                          refine lv_iconst (v := 0) hx hb dL_law_467 (by decide) ?_
                          refine lv_icmp_eq (tgt := 473) hx hb dL_law_468 (by decide) (fun h9 => absurd h9 (by decide)) (fun _ => ?_)
                          refine lv_iconst (v := 0) hx hb dL_law_471 (by decide) ?_
                          have hz := Option.some.inj h
                          rw [← hz] at hz1
                          exact absurd (show (0 : Int32) = 1 from hz1) (by decide)
                        · rw [if_pos c277] at h
                          refine lv_iconst (v := 1) hx hb dL_law_463 (by decide) ?_
                          refine lv_goto (tgt := 468) hx hb dL_law_464 (by decide) ?_
                          refine lv_icmp_eq (tgt := 473) hx hb dL_law_468 (by decide) (fun _ => ?_) (fun h9 => absurd h9 (by decide))
                          exact (ih.2.2.2.2.2.2.2.1) NL adL m1 kc ks r1 r2 i3 i4 i5 i6 i7 i8 r9 i10 i11 i12 i13 r14 i15 i16 i17 i18 i19 i20 i21 _ _ _ hNN hE hc hs hO n_r1 n_r2 n_r9 n_r14 h hP hD hS (lv_sub hl (l' := [(1, .ref (adL r1)), (2, .ref (adL r2)), (3, .int i3), (4, .int i4), (5, .int i5), (6, .int i6), (7, .int i7), (8, .int i8), (9, .ref (adL r9)), (10, .int i10), (11, .int i11), (12, .int i12), (13, .int i13), (14, .ref (adL r14)), (15, .int i15), (16, .int i16), (17, .int i17), (18, .int i18), (19, .int i19), (20, .int i20), (21, .int i21), (0, .ref b)]) [0, 1, 2, 3, 4, 5, 6, 7, 8, 9, 10, 11, 12, 13, 14, 15, 16, 17, 18, 19, 20, 21] rfl)
              · rw [if_pos c268] at h
                refine lv_iload hx hb dL_law_417 (lv_at hl 16 rfl) ?_
                refine lv_iconst (v := 2) hx hb dL_law_419 (by decide) ?_
                refine lv_icmp_ne (tgt := 471) hx hb dL_law_420 (by decide) (fun c278 => ?_) (fun c278 => ?_)
                · rw [if_neg c278] at h
                  refine lv_iconst (v := 0) hx hb dL_law_471 (by decide) ?_
                  have hz := Option.some.inj h
                  rw [← hz] at hz1
                  exact absurd (show (0 : Int32) = 1 from hz1) (by decide)
                · rw [if_pos c278] at h
                  refine lv_iload hx hb dL_law_423 (lv_at hl 17 rfl) ?_
                  refine lv_bipush (v := 12) hx hb dL_law_425 (by decide) ?_
                  refine lv_icmp_ne (tgt := 471) hx hb dL_law_427 (by decide) (fun c279 => ?_) (fun c279 => ?_)
                  · rw [if_neg c279] at h
                    refine lv_iconst (v := 0) hx hb dL_law_471 (by decide) ?_
                    have hz := Option.some.inj h
                    rw [← hz] at hz1
                    exact absurd (show (0 : Int32) = 1 from hz1) (by decide)
                  · rw [if_pos c279] at h
                    refine lv_iload hx hb dL_law_430 (lv_at hl 20 rfl) ?_
                    refine lv_iconst (v := 1) hx hb dL_law_432 (by decide) ?_
                    refine lv_icmp_ne (tgt := 448) hx hb dL_law_433 (by decide) (fun c280 => ?_) (fun c280 => ?_)
                    · rw [if_neg c280] at h
                      refine lv_iload hx hb dL_law_448 (lv_at hl 16 rfl) ?_
                      refine lv_if_ne (tgt := 457) hx hb dL_law_450 (by decide) (fun c281 => ?_) (fun c281 => ?_)
                      · rw [if_neg c281] at h
                        refine lv_iconst (v := 0) hx hb dL_law_457 (by decide) ?_
                        refine lv_iload hx hb dL_law_458 (lv_at hl 17 rfl) ?_
                        refine lv_if_ne (tgt := 467) hx hb dL_law_460 (by decide) (fun c282 => ?_) (fun c282 => ?_)
                        · rw [if_neg c282] at h
                          refine lv_iconst (v := 0) hx hb dL_law_467 (by decide) ?_
                          refine lv_icmp_eq (tgt := 473) hx hb dL_law_468 (by decide) (fun _ => ?_) (fun h9 => absurd h9 (by decide))
                          exact (ih.2.2.2.2.2.2.2.1) NL adL m1 kc ks r1 r2 i3 i4 i5 i6 i7 i8 r9 i10 i11 i12 i13 r14 i15 i16 i17 i18 i19 i20 i21 _ _ _ hNN hE hc hs hO n_r1 n_r2 n_r9 n_r14 h hP hD hS (lv_sub hl (l' := [(1, .ref (adL r1)), (2, .ref (adL r2)), (3, .int i3), (4, .int i4), (5, .int i5), (6, .int i6), (7, .int i7), (8, .int i8), (9, .ref (adL r9)), (10, .int i10), (11, .int i11), (12, .int i12), (13, .int i13), (14, .ref (adL r14)), (15, .int i15), (16, .int i16), (17, .int i17), (18, .int i18), (19, .int i19), (20, .int i20), (21, .int i21), (0, .ref b)]) [0, 1, 2, 3, 4, 5, 6, 7, 8, 9, 10, 11, 12, 13, 14, 15, 16, 17, 18, 19, 20, 21] rfl)
                        · rw [if_pos c282] at h
                          refine lv_iconst (v := 1) hx hb dL_law_463 (by decide) ?_
                          refine lv_goto (tgt := 468) hx hb dL_law_464 (by decide) ?_
                          refine lv_icmp_eq (tgt := 473) hx hb dL_law_468 (by decide) (fun h9 => absurd h9 (by decide)) (fun _ => ?_)
                          refine lv_iconst (v := 0) hx hb dL_law_471 (by decide) ?_
                          have hz := Option.some.inj h
                          rw [← hz] at hz1
                          exact absurd (show (0 : Int32) = 1 from hz1) (by decide)
                      · rw [if_pos c281] at h
                        refine lv_iconst (v := 1) hx hb dL_law_453 (by decide) ?_
                        refine lv_goto (tgt := 458) hx hb dL_law_454 (by decide) ?_
                        refine lv_iload hx hb dL_law_458 (lv_at hl 17 rfl) ?_
                        refine lv_if_ne (tgt := 467) hx hb dL_law_460 (by decide) (fun c283 => ?_) (fun c283 => ?_)
                        · rw [if_neg c283] at h
                          refine lv_iconst (v := 0) hx hb dL_law_467 (by decide) ?_
                          refine lv_icmp_eq (tgt := 473) hx hb dL_law_468 (by decide) (fun h9 => absurd h9 (by decide)) (fun _ => ?_)
                          refine lv_iconst (v := 0) hx hb dL_law_471 (by decide) ?_
                          have hz := Option.some.inj h
                          rw [← hz] at hz1
                          exact absurd (show (0 : Int32) = 1 from hz1) (by decide)
                        · rw [if_pos c283] at h
                          refine lv_iconst (v := 1) hx hb dL_law_463 (by decide) ?_
                          refine lv_goto (tgt := 468) hx hb dL_law_464 (by decide) ?_
                          refine lv_icmp_eq (tgt := 473) hx hb dL_law_468 (by decide) (fun _ => ?_) (fun h9 => absurd h9 (by decide))
                          exact (ih.2.2.2.2.2.2.2.1) NL adL m1 kc ks r1 r2 i3 i4 i5 i6 i7 i8 r9 i10 i11 i12 i13 r14 i15 i16 i17 i18 i19 i20 i21 _ _ _ hNN hE hc hs hO n_r1 n_r2 n_r9 n_r14 h hP hD hS (lv_sub hl (l' := [(1, .ref (adL r1)), (2, .ref (adL r2)), (3, .int i3), (4, .int i4), (5, .int i5), (6, .int i6), (7, .int i7), (8, .int i8), (9, .ref (adL r9)), (10, .int i10), (11, .int i11), (12, .int i12), (13, .int i13), (14, .ref (adL r14)), (15, .int i15), (16, .int i16), (17, .int i17), (18, .int i18), (19, .int i19), (20, .int i20), (21, .int i21), (0, .ref b)]) [0, 1, 2, 3, 4, 5, 6, 7, 8, 9, 10, 11, 12, 13, 14, 15, 16, 17, 18, 19, 20, 21] rfl)
                    · rw [if_pos c280] at h
                      refine lv_iload hx hb dL_law_436 (lv_at hl 16 rfl) ?_
                      refine lv_iconst (v := 3) hx hb dL_law_438 (by decide) ?_
                      refine lv_icmp_ne (tgt := 471) hx hb dL_law_439 (by decide) (fun c284 => ?_) (fun c284 => ?_)
                      · rw [if_neg c284] at h
                        refine lv_iconst (v := 0) hx hb dL_law_471 (by decide) ?_
                        have hz := Option.some.inj h
                        rw [← hz] at hz1
                        exact absurd (show (0 : Int32) = 1 from hz1) (by decide)
                      · rw [if_pos c284] at h
                        refine lv_iload hx hb dL_law_442 (lv_at hl 17 rfl) ?_
                        refine lv_iconst (v := 4) hx hb dL_law_444 (by decide) ?_
                        refine lv_icmp_ne (tgt := 471) hx hb dL_law_445 (by decide) (fun c285 => ?_) (fun c285 => ?_)
                        · rw [if_neg c285] at h
                          refine lv_iconst (v := 0) hx hb dL_law_471 (by decide) ?_
                          have hz := Option.some.inj h
                          rw [← hz] at hz1
                          exact absurd (show (0 : Int32) = 1 from hz1) (by decide)
                        · rw [if_pos c285] at h
                          refine lv_iload hx hb dL_law_448 (lv_at hl 16 rfl) ?_
                          refine lv_if_ne (tgt := 457) hx hb dL_law_450 (by decide) (fun c286 => ?_) (fun c286 => ?_)
                          · rw [if_neg c286] at h
                            refine lv_iconst (v := 0) hx hb dL_law_457 (by decide) ?_
                            refine lv_iload hx hb dL_law_458 (lv_at hl 17 rfl) ?_
                            refine lv_if_ne (tgt := 467) hx hb dL_law_460 (by decide) (fun c287 => ?_) (fun c287 => ?_)
                            · rw [if_neg c287] at h
                              refine lv_iconst (v := 0) hx hb dL_law_467 (by decide) ?_
                              refine lv_icmp_eq (tgt := 473) hx hb dL_law_468 (by decide) (fun _ => ?_) (fun h9 => absurd h9 (by decide))
                              exact (ih.2.2.2.2.2.2.2.1) NL adL m1 kc ks r1 r2 i3 i4 i5 i6 i7 i8 r9 i10 i11 i12 i13 r14 i15 i16 i17 i18 i19 i20 i21 _ _ _ hNN hE hc hs hO n_r1 n_r2 n_r9 n_r14 h hP hD hS (lv_sub hl (l' := [(1, .ref (adL r1)), (2, .ref (adL r2)), (3, .int i3), (4, .int i4), (5, .int i5), (6, .int i6), (7, .int i7), (8, .int i8), (9, .ref (adL r9)), (10, .int i10), (11, .int i11), (12, .int i12), (13, .int i13), (14, .ref (adL r14)), (15, .int i15), (16, .int i16), (17, .int i17), (18, .int i18), (19, .int i19), (20, .int i20), (21, .int i21), (0, .ref b)]) [0, 1, 2, 3, 4, 5, 6, 7, 8, 9, 10, 11, 12, 13, 14, 15, 16, 17, 18, 19, 20, 21] rfl)
                            · rw [if_pos c287] at h
                              refine lv_iconst (v := 1) hx hb dL_law_463 (by decide) ?_
                              refine lv_goto (tgt := 468) hx hb dL_law_464 (by decide) ?_
                              refine lv_icmp_eq (tgt := 473) hx hb dL_law_468 (by decide) (fun h9 => absurd h9 (by decide)) (fun _ => ?_)
                              refine lv_iconst (v := 0) hx hb dL_law_471 (by decide) ?_
                              have hz := Option.some.inj h
                              rw [← hz] at hz1
                              exact absurd (show (0 : Int32) = 1 from hz1) (by decide)
                          · rw [if_pos c286] at h
                            refine lv_iconst (v := 1) hx hb dL_law_453 (by decide) ?_
                            refine lv_goto (tgt := 458) hx hb dL_law_454 (by decide) ?_
                            refine lv_iload hx hb dL_law_458 (lv_at hl 17 rfl) ?_
                            refine lv_if_ne (tgt := 467) hx hb dL_law_460 (by decide) (fun c288 => ?_) (fun c288 => ?_)
                            · rw [if_neg c288] at h
                              refine lv_iconst (v := 0) hx hb dL_law_467 (by decide) ?_
                              refine lv_icmp_eq (tgt := 473) hx hb dL_law_468 (by decide) (fun h9 => absurd h9 (by decide)) (fun _ => ?_)
                              refine lv_iconst (v := 0) hx hb dL_law_471 (by decide) ?_
                              have hz := Option.some.inj h
                              rw [← hz] at hz1
                              exact absurd (show (0 : Int32) = 1 from hz1) (by decide)
                            · rw [if_pos c288] at h
                              refine lv_iconst (v := 1) hx hb dL_law_463 (by decide) ?_
                              refine lv_goto (tgt := 468) hx hb dL_law_464 (by decide) ?_
                              refine lv_icmp_eq (tgt := 473) hx hb dL_law_468 (by decide) (fun _ => ?_) (fun h9 => absurd h9 (by decide))
                              exact (ih.2.2.2.2.2.2.2.1) NL adL m1 kc ks r1 r2 i3 i4 i5 i6 i7 i8 r9 i10 i11 i12 i13 r14 i15 i16 i17 i18 i19 i20 i21 _ _ _ hNN hE hc hs hO n_r1 n_r2 n_r9 n_r14 h hP hD hS (lv_sub hl (l' := [(1, .ref (adL r1)), (2, .ref (adL r2)), (3, .int i3), (4, .int i4), (5, .int i5), (6, .int i6), (7, .int i7), (8, .int i8), (9, .ref (adL r9)), (10, .int i10), (11, .int i11), (12, .int i12), (13, .int i13), (14, .ref (adL r14)), (15, .int i15), (16, .int i16), (17, .int i17), (18, .int i18), (19, .int i19), (20, .int i20), (21, .int i21), (0, .ref b)]) [0, 1, 2, 3, 4, 5, 6, 7, 8, 9, 10, 11, 12, 13, 14, 15, 16, 17, 18, 19, 20, 21] rfl)
      · intro NL adL m1 kc ks r1 r2 i3 i4 i5 i6 i7 i8 r9 i10 i11 i12 i13 r14 i15 i16 i17 i18 i19 i20 i21 H locs ls hNN hE hc hs hO n_r1 n_r2 n_r9 n_r14 h hP hD hS hl
        have h : fB_L_law_473 L xs (fL_L_law L xs n) NL m1 kc ks r1 r2 i3 i4 i5 i6 i7 i8 r9 i10 i11 i12 i13 r14 i15 i16 i17 i18 i19 i20 i21 0 0 0 0 0 = some z := h
        unfold fB_L_law_473 at h
        refine lv_iload hx hb dL_law_473 (lv_at hl 18 rfl) ?_
        refine lv_iconst (v := 1) hx hb dL_law_475 (by decide) ?_
        refine lv_icmp_le (tgt := 513) hx hb dL_law_476 (by decide) (fun c289 => ?_) (fun c289 => ?_)
        · rw [if_pos c289] at h
          exact (ih.2.2.2.2.2.2.2.2.1) NL adL m1 kc ks r1 r2 i3 i4 i5 i6 i7 i8 r9 i10 i11 i12 i13 r14 i15 i16 i17 i18 i19 i20 i21 _ _ _ hNN hE hc hs hO n_r1 n_r2 n_r9 n_r14 h hP hD hS (lv_sub hl (l' := [(1, .ref (adL r1)), (2, .ref (adL r2)), (3, .int i3), (4, .int i4), (5, .int i5), (6, .int i6), (7, .int i7), (8, .int i8), (9, .ref (adL r9)), (10, .int i10), (11, .int i11), (12, .int i12), (13, .int i13), (14, .ref (adL r14)), (15, .int i15), (16, .int i16), (17, .int i17), (18, .int i18), (19, .int i19), (20, .int i20), (21, .int i21), (0, .ref b)]) [0, 1, 2, 3, 4, 5, 6, 7, 8, 9, 10, 11, 12, 13, 14, 15, 16, 17, 18, 19, 20, 21] rfl)
        · rw [if_neg c289] at h
          refine lv_aload hx hb dL_law_479 (lv_at hl 8 rfl) ?_
          refine lv_iload hx hb dL_law_481 (lv_at hl 15 rfl) ?_
          obtain ⟨g290, h⟩ := vg_if h
          obtain ⟨g291, h⟩ := vg_if h
          obtain ⟨y292, g293, h⟩ := vg_bind h
          have n_y292 := hO _ _ _ g293
          refine wm_aald8 hx hb hK hP n_r9 g290 (i := i16) g291 dL_law_483 ?_
          refine W.eq (g2 := F0 m 484 ls [.ref (adL y292)]) (by show F0 m 484 ls (va_rf (Option.map adL (mr m1 r9 i16.toNatClampNeg)) :: _) = _; rw [g293]; rfl) ?_
          refine lv_iconst (v := 1) hx hb dL_law_484 (by decide) ?_
          obtain ⟨g294, h⟩ := vg_if h
          obtain ⟨g295, h⟩ := vg_if h
          refine va_iald (D := D) hx hb hK hP y292 0 (vW_k6 n_y292 g294) rfl (i := 1) g295 dL_law_485 ?_
          refine W.eq (g2 := F0 m 486 ls [.int (mi m1 y292 1)]) rfl ?_
          refine lv_iconst (v := 1) hx hb dL_law_486 (by decide) ?_
          refine lv_icmp_le (tgt := 513) hx hb dL_law_487 (by decide) (fun c296 => ?_) (fun c296 => ?_)
          · rw [if_pos c296] at h
            exact (ih.2.2.2.2.2.2.2.2.1) NL adL m1 kc ks r1 r2 i3 i4 i5 i6 i7 i8 r9 i10 i11 i12 i13 r14 i15 i16 i17 i18 i19 i20 i21 _ _ _ hNN hE hc hs hO n_r1 n_r2 n_r9 n_r14 h hP hD hS (lv_sub hl (l' := [(1, .ref (adL r1)), (2, .ref (adL r2)), (3, .int i3), (4, .int i4), (5, .int i5), (6, .int i6), (7, .int i7), (8, .int i8), (9, .ref (adL r9)), (10, .int i10), (11, .int i11), (12, .int i12), (13, .int i13), (14, .ref (adL r14)), (15, .int i15), (16, .int i16), (17, .int i17), (18, .int i18), (19, .int i19), (20, .int i20), (21, .int i21), (0, .ref b)]) [0, 1, 2, 3, 4, 5, 6, 7, 8, 9, 10, 11, 12, 13, 14, 15, 16, 17, 18, 19, 20, 21] rfl)
          · rw [if_neg c296] at h
            refine lv_iload hx hb dL_law_490 (lv_at hl 16 rfl) ?_
            refine lv_iload hx hb dL_law_492 (lv_at hl 18 rfl) ?_
            refine lv_icmp_ne (tgt := 511) hx hb dL_law_494 (by decide) (fun c297 => ?_) (fun c297 => ?_)
            · rw [if_neg c297] at h
              refine lv_iconst (v := 0) hx hb dL_law_511 (by decide) ?_
              have hz := Option.some.inj h
              rw [← hz] at hz1
              exact absurd (show (0 : Int32) = 1 from hz1) (by decide)
            · rw [if_pos c297] at h
              refine lv_iload hx hb dL_law_497 (lv_at hl 17 rfl) ?_
              refine lv_aload hx hb dL_law_499 (lv_at hl 8 rfl) ?_
              refine lv_iload hx hb dL_law_501 (lv_at hl 15 rfl) ?_
              obtain ⟨g298, h⟩ := vg_if h
              obtain ⟨y299, g300, h⟩ := vg_bind h
              have n_y299 := hO _ _ _ g300
              refine wm_aald8 hx hb hK hP n_r9 g290 (i := i16) g298 dL_law_503 ?_
              refine W.eq (g2 := F0 m 504 ls [.ref (adL y299), .int i18]) (by show F0 m 504 ls (va_rf (Option.map adL (mr m1 r9 i16.toNatClampNeg)) :: _) = _; rw [g300]; rfl) ?_
              refine lv_iconst (v := 1) hx hb dL_law_504 (by decide) ?_
              obtain ⟨g301, h⟩ := vg_if h
              obtain ⟨g302, h⟩ := vg_if h
              refine va_iald (D := D) hx hb hK hP y299 0 (vW_k6 n_y299 g301) rfl (i := 1) g302 dL_law_505 ?_
              refine W.eq (g2 := F0 m 506 ls [.int (mi m1 y299 1), .int i18]) rfl ?_
              refine lv_iconst (v := 1) hx hb dL_law_506 (by decide) ?_
              refine lv_isub hx hb dL_law_507 ?_
              refine lv_icmp_eq (tgt := 513) hx hb dL_law_508 (by decide) (fun c303 => ?_) (fun c303 => ?_)
              · rw [if_pos c303] at h
                exact (ih.2.2.2.2.2.2.2.2.1) NL adL m1 kc ks r1 r2 i3 i4 i5 i6 i7 i8 r9 i10 i11 i12 i13 r14 i15 i16 i17 i18 i19 i20 i21 _ _ _ hNN hE hc hs hO n_r1 n_r2 n_r9 n_r14 h hP hD hS (lv_sub hl (l' := [(1, .ref (adL r1)), (2, .ref (adL r2)), (3, .int i3), (4, .int i4), (5, .int i5), (6, .int i6), (7, .int i7), (8, .int i8), (9, .ref (adL r9)), (10, .int i10), (11, .int i11), (12, .int i12), (13, .int i13), (14, .ref (adL r14)), (15, .int i15), (16, .int i16), (17, .int i17), (18, .int i18), (19, .int i19), (20, .int i20), (21, .int i21), (0, .ref b)]) [0, 1, 2, 3, 4, 5, 6, 7, 8, 9, 10, 11, 12, 13, 14, 15, 16, 17, 18, 19, 20, 21] rfl)
              · rw [if_neg c303] at h
                refine lv_iconst (v := 0) hx hb dL_law_511 (by decide) ?_
                have hz := Option.some.inj h
                rw [← hz] at hz1
                exact absurd (show (0 : Int32) = 1 from hz1) (by decide)
      · intro NL adL m1 kc ks r1 r2 i3 i4 i5 i6 i7 i8 r9 i10 i11 i12 i13 r14 i15 i16 i17 i18 i19 i20 i21 H locs ls hNN hE hc hs hO n_r1 n_r2 n_r9 n_r14 h hP hD hS hl
        have h : fB_L_law_513 L xs (fL_L_law L xs n) NL m1 kc ks r1 r2 i3 i4 i5 i6 i7 i8 r9 i10 i11 i12 i13 r14 i15 i16 i17 i18 i19 i20 i21 0 0 0 0 0 = some z := h
        unfold fB_L_law_513 at h
        refine lv_iload hx hb dL_law_513 (lv_at hl 18 rfl) ?_
        refine lv_iconst (v := 1) hx hb dL_law_515 (by decide) ?_
        refine lv_icmp_ne (tgt := 561) hx hb dL_law_516 (by decide) (fun c304 => ?_) (fun c304 => ?_)
        · rw [if_neg c304] at h
          exact (ih.2.2.2.2.2.2.2.2.2.1) NL adL m1 kc ks r1 r2 i3 i4 i5 i6 i7 i8 r9 i10 i11 i12 i13 r14 i15 i16 i17 i18 i19 i20 i21 _ _ _ hNN hE hc hs hO n_r1 n_r2 n_r9 n_r14 h hP hD hS (lv_sub hl (l' := [(1, .ref (adL r1)), (2, .ref (adL r2)), (3, .int i3), (4, .int i4), (5, .int i5), (6, .int i6), (7, .int i7), (8, .int i8), (9, .ref (adL r9)), (10, .int i10), (11, .int i11), (12, .int i12), (13, .int i13), (14, .ref (adL r14)), (15, .int i15), (16, .int i16), (17, .int i17), (18, .int i18), (19, .int i19), (20, .int i20), (21, .int i21), (0, .ref b)]) [0, 1, 2, 3, 4, 5, 6, 7, 8, 9, 10, 11, 12, 13, 14, 15, 16, 17, 18, 19, 20, 21] rfl)
        · rw [if_pos c304] at h
          refine lv_iload hx hb dL_law_519 (lv_at hl 16 rfl) ?_
          refine lv_if_eq (tgt := 559) hx hb dL_law_521 (by decide) (fun c305 => ?_) (fun c305 => ?_)
          · rw [if_pos c305] at h
            refine lv_iconst (v := 0) hx hb dL_law_559 (by decide) ?_
            have hz := Option.some.inj h
            rw [← hz] at hz1
            exact absurd (show (0 : Int32) = 1 from hz1) (by decide)
          · rw [if_neg c305] at h
            refine lv_iload hx hb dL_law_524 (lv_at hl 16 rfl) ?_
            refine lv_iconst (v := 1) hx hb dL_law_526 (by decide) ?_
            refine lv_icmp_ne (tgt := 544) hx hb dL_law_527 (by decide) (fun c306 => ?_) (fun c306 => ?_)
            · rw [if_neg c306] at h
              refine lv_iload hx hb dL_law_544 (lv_at hl 16 rfl) ?_
              refine lv_iconst (v := 1) hx hb dL_law_546 (by decide) ?_
              refine lv_icmp_le (tgt := 561) hx hb dL_law_547 (by decide) (fun c307 => ?_) (fun c307 => ?_)
              · rw [if_pos c307] at h
                exact (ih.2.2.2.2.2.2.2.2.2.1) NL adL m1 kc ks r1 r2 i3 i4 i5 i6 i7 i8 r9 i10 i11 i12 i13 r14 i15 i16 i17 i18 i19 i20 i21 _ _ _ hNN hE hc hs hO n_r1 n_r2 n_r9 n_r14 h hP hD hS (lv_sub hl (l' := [(1, .ref (adL r1)), (2, .ref (adL r2)), (3, .int i3), (4, .int i4), (5, .int i5), (6, .int i6), (7, .int i7), (8, .int i8), (9, .ref (adL r9)), (10, .int i10), (11, .int i11), (12, .int i12), (13, .int i13), (14, .ref (adL r14)), (15, .int i15), (16, .int i16), (17, .int i17), (18, .int i18), (19, .int i19), (20, .int i20), (21, .int i21), (0, .ref b)]) [0, 1, 2, 3, 4, 5, 6, 7, 8, 9, 10, 11, 12, 13, 14, 15, 16, 17, 18, 19, 20, 21] rfl)
              · rw [if_neg c307] at h
                refine lv_iload hx hb dL_law_550 (lv_at hl 19 rfl) ?_
                refine lv_iload hx hb dL_law_552 (lv_at hl 20 rfl) ?_
                refine lv_iadd hx hb dL_law_554 ?_
                refine lv_iconst (v := 1) hx hb dL_law_555 (by decide) ?_
                refine lv_icmp_eq (tgt := 561) hx hb dL_law_556 (by decide) (fun c308 => ?_) (fun c308 => ?_)
                · rw [if_pos c308] at h
                  exact (ih.2.2.2.2.2.2.2.2.2.1) NL adL m1 kc ks r1 r2 i3 i4 i5 i6 i7 i8 r9 i10 i11 i12 i13 r14 i15 i16 i17 i18 i19 i20 i21 _ _ _ hNN hE hc hs hO n_r1 n_r2 n_r9 n_r14 h hP hD hS (lv_sub hl (l' := [(1, .ref (adL r1)), (2, .ref (adL r2)), (3, .int i3), (4, .int i4), (5, .int i5), (6, .int i6), (7, .int i7), (8, .int i8), (9, .ref (adL r9)), (10, .int i10), (11, .int i11), (12, .int i12), (13, .int i13), (14, .ref (adL r14)), (15, .int i15), (16, .int i16), (17, .int i17), (18, .int i18), (19, .int i19), (20, .int i20), (21, .int i21), (0, .ref b)]) [0, 1, 2, 3, 4, 5, 6, 7, 8, 9, 10, 11, 12, 13, 14, 15, 16, 17, 18, 19, 20, 21] rfl)
                · rw [if_neg c308] at h
                  refine lv_iconst (v := 0) hx hb dL_law_559 (by decide) ?_
                  have hz := Option.some.inj h
                  rw [← hz] at hz1
                  exact absurd (show (0 : Int32) = 1 from hz1) (by decide)
            · rw [if_pos c306] at h
              refine lv_iload hx hb dL_law_530 (lv_at hl 17 rfl) ?_
              refine lv_aload hx hb dL_law_532 (lv_at hl 8 rfl) ?_
              refine lv_iload hx hb dL_law_534 (lv_at hl 15 rfl) ?_
              obtain ⟨g309, h⟩ := vg_if h
              obtain ⟨g310, h⟩ := vg_if h
              obtain ⟨y311, g312, h⟩ := vg_bind h
              have n_y311 := hO _ _ _ g312
              refine wm_aald8 hx hb hK hP n_r9 g309 (i := i16) g310 dL_law_536 ?_
              refine W.eq (g2 := F0 m 537 ls [.ref (adL y311), .int i18]) (by show F0 m 537 ls (va_rf (Option.map adL (mr m1 r9 i16.toNatClampNeg)) :: _) = _; rw [g312]; rfl) ?_
              refine lv_iconst (v := 1) hx hb dL_law_537 (by decide) ?_
              obtain ⟨g313, h⟩ := vg_if h
              obtain ⟨g314, h⟩ := vg_if h
              refine va_iald (D := D) hx hb hK hP y311 0 (vW_k6 n_y311 g313) rfl (i := 1) g314 dL_law_538 ?_
              refine W.eq (g2 := F0 m 539 ls [.int (mi m1 y311 1), .int i18]) rfl ?_
              refine lv_iconst (v := 1) hx hb dL_law_539 (by decide) ?_
              refine lv_isub hx hb dL_law_540 ?_
              refine lv_icmp_ne (tgt := 559) hx hb dL_law_541 (by decide) (fun c315 => ?_) (fun c315 => ?_)
              · rw [if_neg c315] at h
                refine lv_iconst (v := 0) hx hb dL_law_559 (by decide) ?_
                have hz := Option.some.inj h
                rw [← hz] at hz1
                exact absurd (show (0 : Int32) = 1 from hz1) (by decide)
              · rw [if_pos c315] at h
                refine lv_iload hx hb dL_law_544 (lv_at hl 16 rfl) ?_
                refine lv_iconst (v := 1) hx hb dL_law_546 (by decide) ?_
                refine lv_icmp_le (tgt := 561) hx hb dL_law_547 (by decide) (fun c316 => ?_) (fun c316 => ?_)
                · rw [if_pos c316] at h
                  exact (ih.2.2.2.2.2.2.2.2.2.1) NL adL m1 kc ks r1 r2 i3 i4 i5 i6 i7 i8 r9 i10 i11 i12 i13 r14 i15 i16 i17 i18 i19 i20 i21 _ _ _ hNN hE hc hs hO n_r1 n_r2 n_r9 n_r14 h hP hD hS (lv_sub hl (l' := [(1, .ref (adL r1)), (2, .ref (adL r2)), (3, .int i3), (4, .int i4), (5, .int i5), (6, .int i6), (7, .int i7), (8, .int i8), (9, .ref (adL r9)), (10, .int i10), (11, .int i11), (12, .int i12), (13, .int i13), (14, .ref (adL r14)), (15, .int i15), (16, .int i16), (17, .int i17), (18, .int i18), (19, .int i19), (20, .int i20), (21, .int i21), (0, .ref b)]) [0, 1, 2, 3, 4, 5, 6, 7, 8, 9, 10, 11, 12, 13, 14, 15, 16, 17, 18, 19, 20, 21] rfl)
                · rw [if_neg c316] at h
                  refine lv_iload hx hb dL_law_550 (lv_at hl 19 rfl) ?_
                  refine lv_iload hx hb dL_law_552 (lv_at hl 20 rfl) ?_
                  refine lv_iadd hx hb dL_law_554 ?_
                  refine lv_iconst (v := 1) hx hb dL_law_555 (by decide) ?_
                  refine lv_icmp_eq (tgt := 561) hx hb dL_law_556 (by decide) (fun c317 => ?_) (fun c317 => ?_)
                  · rw [if_pos c317] at h
                    exact (ih.2.2.2.2.2.2.2.2.2.1) NL adL m1 kc ks r1 r2 i3 i4 i5 i6 i7 i8 r9 i10 i11 i12 i13 r14 i15 i16 i17 i18 i19 i20 i21 _ _ _ hNN hE hc hs hO n_r1 n_r2 n_r9 n_r14 h hP hD hS (lv_sub hl (l' := [(1, .ref (adL r1)), (2, .ref (adL r2)), (3, .int i3), (4, .int i4), (5, .int i5), (6, .int i6), (7, .int i7), (8, .int i8), (9, .ref (adL r9)), (10, .int i10), (11, .int i11), (12, .int i12), (13, .int i13), (14, .ref (adL r14)), (15, .int i15), (16, .int i16), (17, .int i17), (18, .int i18), (19, .int i19), (20, .int i20), (21, .int i21), (0, .ref b)]) [0, 1, 2, 3, 4, 5, 6, 7, 8, 9, 10, 11, 12, 13, 14, 15, 16, 17, 18, 19, 20, 21] rfl)
                  · rw [if_neg c317] at h
                    refine lv_iconst (v := 0) hx hb dL_law_559 (by decide) ?_
                    have hz := Option.some.inj h
                    rw [← hz] at hz1
                    exact absurd (show (0 : Int32) = 1 from hz1) (by decide)
      · intro NL adL m1 kc ks r1 r2 i3 i4 i5 i6 i7 i8 r9 i10 i11 i12 i13 r14 i15 i16 i17 i18 i19 i20 i21 H locs ls hNN hE hc hs hO n_r1 n_r2 n_r9 n_r14 h hP hD hS hl
        have h : fB_L_law_561 L xs (fL_L_law L xs n) NL m1 kc ks r1 r2 i3 i4 i5 i6 i7 i8 r9 i10 i11 i12 i13 r14 i15 i16 i17 i18 i19 i20 i21 0 0 0 0 0 = some z := h
        unfold fB_L_law_561 at h
        refine lv_iload hx hb dL_law_561 (lv_at hl 18 rfl) ?_
        refine lv_if_ne (tgt := 583) hx hb dL_law_563 (by decide) (fun c318 => ?_) (fun c318 => ?_)
        · rw [if_neg c318] at h
          exact (ih.2.2.2.2.2.2.2.2.2.2.1) NL adL m1 kc ks r1 r2 i3 i4 i5 i6 i7 i8 r9 i10 i11 i12 i13 r14 i15 i16 i17 i18 i19 i20 i21 _ _ _ hNN hE hc hs hO n_r1 n_r2 n_r9 n_r14 h hP hD hS (lv_sub hl (l' := [(1, .ref (adL r1)), (2, .ref (adL r2)), (3, .int i3), (4, .int i4), (5, .int i5), (6, .int i6), (7, .int i7), (8, .int i8), (9, .ref (adL r9)), (10, .int i10), (11, .int i11), (12, .int i12), (13, .int i13), (14, .ref (adL r14)), (15, .int i15), (16, .int i16), (17, .int i17), (18, .int i18), (19, .int i19), (20, .int i20), (21, .int i21), (0, .ref b)]) [0, 1, 2, 3, 4, 5, 6, 7, 8, 9, 10, 11, 12, 13, 14, 15, 16, 17, 18, 19, 20, 21] rfl)
        · rw [if_pos c318] at h
          refine lv_iload hx hb dL_law_566 (lv_at hl 16 rfl) ?_
          refine lv_iconst (v := 1) hx hb dL_law_568 (by decide) ?_
          refine lv_icmp_le (tgt := 583) hx hb dL_law_569 (by decide) (fun c319 => ?_) (fun c319 => ?_)
          · rw [if_pos c319] at h
            exact (ih.2.2.2.2.2.2.2.2.2.2.1) NL adL m1 kc ks r1 r2 i3 i4 i5 i6 i7 i8 r9 i10 i11 i12 i13 r14 i15 i16 i17 i18 i19 i20 i21 _ _ _ hNN hE hc hs hO n_r1 n_r2 n_r9 n_r14 h hP hD hS (lv_sub hl (l' := [(1, .ref (adL r1)), (2, .ref (adL r2)), (3, .int i3), (4, .int i4), (5, .int i5), (6, .int i6), (7, .int i7), (8, .int i8), (9, .ref (adL r9)), (10, .int i10), (11, .int i11), (12, .int i12), (13, .int i13), (14, .ref (adL r14)), (15, .int i15), (16, .int i16), (17, .int i17), (18, .int i18), (19, .int i19), (20, .int i20), (21, .int i21), (0, .ref b)]) [0, 1, 2, 3, 4, 5, 6, 7, 8, 9, 10, 11, 12, 13, 14, 15, 16, 17, 18, 19, 20, 21] rfl)
          · rw [if_neg c319] at h
            refine lv_iload hx hb dL_law_572 (lv_at hl 19 rfl) ?_
            refine lv_iload hx hb dL_law_574 (lv_at hl 20 rfl) ?_
            refine lv_iadd hx hb dL_law_576 ?_
            refine lv_iconst (v := 1) hx hb dL_law_577 (by decide) ?_
            refine lv_icmp_eq (tgt := 583) hx hb dL_law_578 (by decide) (fun c320 => ?_) (fun c320 => ?_)
            · rw [if_pos c320] at h
              exact (ih.2.2.2.2.2.2.2.2.2.2.1) NL adL m1 kc ks r1 r2 i3 i4 i5 i6 i7 i8 r9 i10 i11 i12 i13 r14 i15 i16 i17 i18 i19 i20 i21 _ _ _ hNN hE hc hs hO n_r1 n_r2 n_r9 n_r14 h hP hD hS (lv_sub hl (l' := [(1, .ref (adL r1)), (2, .ref (adL r2)), (3, .int i3), (4, .int i4), (5, .int i5), (6, .int i6), (7, .int i7), (8, .int i8), (9, .ref (adL r9)), (10, .int i10), (11, .int i11), (12, .int i12), (13, .int i13), (14, .ref (adL r14)), (15, .int i15), (16, .int i16), (17, .int i17), (18, .int i18), (19, .int i19), (20, .int i20), (21, .int i21), (0, .ref b)]) [0, 1, 2, 3, 4, 5, 6, 7, 8, 9, 10, 11, 12, 13, 14, 15, 16, 17, 18, 19, 20, 21] rfl)
            · rw [if_neg c320] at h
              refine lv_iconst (v := 0) hx hb dL_law_581 (by decide) ?_
              have hz := Option.some.inj h
              rw [← hz] at hz1
              exact absurd (show (0 : Int32) = 1 from hz1) (by decide)
      · intro NL adL m1 kc ks r1 r2 i3 i4 i5 i6 i7 i8 r9 i10 i11 i12 i13 r14 i15 i16 i17 i18 i19 i20 i21 H locs ls hNN hE hc hs hO n_r1 n_r2 n_r9 n_r14 h hP hD hS hl
        have h : fB_L_law_583 L xs (fL_L_law L xs n) NL m1 kc ks r1 r2 i3 i4 i5 i6 i7 i8 r9 i10 i11 i12 i13 r14 i15 i16 i17 i18 i19 i20 i21 0 0 0 0 0 = some z := h
        unfold fB_L_law_583 at h
        refine lv_iload hx hb dL_law_583 (lv_at hl 18 rfl) ?_
        refine lv_iconst (v := 1) hx hb dL_law_585 (by decide) ?_
        refine lv_icmp_ne (tgt := 608) hx hb dL_law_586 (by decide) (fun c321 => ?_) (fun c321 => ?_)
        · rw [if_neg c321] at h
          exact (ih.2.2.2.2.2.2.2.2.2.2.2.1) NL adL m1 kc ks r1 r2 i3 i4 i5 i6 i7 i8 r9 i10 i11 i12 i13 r14 i15 i16 i17 i18 i19 i20 i21 _ _ _ hNN hE hc hs hO n_r1 n_r2 n_r9 n_r14 h hP hD hS (lv_sub hl (l' := [(1, .ref (adL r1)), (2, .ref (adL r2)), (3, .int i3), (4, .int i4), (5, .int i5), (6, .int i6), (7, .int i7), (8, .int i8), (9, .ref (adL r9)), (10, .int i10), (11, .int i11), (12, .int i12), (13, .int i13), (14, .ref (adL r14)), (15, .int i15), (16, .int i16), (17, .int i17), (18, .int i18), (19, .int i19), (20, .int i20), (21, .int i21), (0, .ref b)]) [0, 1, 2, 3, 4, 5, 6, 7, 8, 9, 10, 11, 12, 13, 14, 15, 16, 17, 18, 19, 20, 21] rfl)
        · rw [if_pos c321] at h
          refine lv_aload hx hb dL_law_589 (lv_at hl 8 rfl) ?_
          refine lv_iload hx hb dL_law_591 (lv_at hl 15 rfl) ?_
          obtain ⟨g322, h⟩ := vg_if h
          obtain ⟨g323, h⟩ := vg_if h
          obtain ⟨y324, g325, h⟩ := vg_bind h
          have n_y324 := hO _ _ _ g325
          refine wm_aald8 hx hb hK hP n_r9 g322 (i := i16) g323 dL_law_593 ?_
          refine W.eq (g2 := F0 m 594 ls [.ref (adL y324)]) (by show F0 m 594 ls (va_rf (Option.map adL (mr m1 r9 i16.toNatClampNeg)) :: _) = _; rw [g325]; rfl) ?_
          refine lv_iconst (v := 1) hx hb dL_law_594 (by decide) ?_
          obtain ⟨g326, h⟩ := vg_if h
          obtain ⟨g327, h⟩ := vg_if h
          refine va_iald (D := D) hx hb hK hP y324 0 (vW_k6 n_y324 g326) rfl (i := 1) g327 dL_law_595 ?_
          refine W.eq (g2 := F0 m 596 ls [.int (mi m1 y324 1)]) rfl ?_
          refine lv_iconst (v := 1) hx hb dL_law_596 (by decide) ?_
          refine lv_icmp_ne (tgt := 608) hx hb dL_law_597 (by decide) (fun c328 => ?_) (fun c328 => ?_)
          · rw [if_neg c328] at h
            exact (ih.2.2.2.2.2.2.2.2.2.2.2.1) NL adL m1 kc ks r1 r2 i3 i4 i5 i6 i7 i8 r9 i10 i11 i12 i13 r14 i15 i16 i17 i18 i19 i20 i21 _ _ _ hNN hE hc hs hO n_r1 n_r2 n_r9 n_r14 h hP hD hS (lv_sub hl (l' := [(1, .ref (adL r1)), (2, .ref (adL r2)), (3, .int i3), (4, .int i4), (5, .int i5), (6, .int i6), (7, .int i7), (8, .int i8), (9, .ref (adL r9)), (10, .int i10), (11, .int i11), (12, .int i12), (13, .int i13), (14, .ref (adL r14)), (15, .int i15), (16, .int i16), (17, .int i17), (18, .int i18), (19, .int i19), (20, .int i20), (21, .int i21), (0, .ref b)]) [0, 1, 2, 3, 4, 5, 6, 7, 8, 9, 10, 11, 12, 13, 14, 15, 16, 17, 18, 19, 20, 21] rfl)
          · rw [if_pos c328] at h
            refine lv_iload hx hb dL_law_600 (lv_at hl 16 rfl) ?_
            refine lv_iconst (v := 1) hx hb dL_law_602 (by decide) ?_
            refine lv_icmp_ne (tgt := 608) hx hb dL_law_603 (by decide) (fun c329 => ?_) (fun c329 => ?_)
            · rw [if_neg c329] at h
              exact (ih.2.2.2.2.2.2.2.2.2.2.2.1) NL adL m1 kc ks r1 r2 i3 i4 i5 i6 i7 i8 r9 i10 i11 i12 i13 r14 i15 i16 i17 i18 i19 i20 i21 _ _ _ hNN hE hc hs hO n_r1 n_r2 n_r9 n_r14 h hP hD hS (lv_sub hl (l' := [(1, .ref (adL r1)), (2, .ref (adL r2)), (3, .int i3), (4, .int i4), (5, .int i5), (6, .int i6), (7, .int i7), (8, .int i8), (9, .ref (adL r9)), (10, .int i10), (11, .int i11), (12, .int i12), (13, .int i13), (14, .ref (adL r14)), (15, .int i15), (16, .int i16), (17, .int i17), (18, .int i18), (19, .int i19), (20, .int i20), (21, .int i21), (0, .ref b)]) [0, 1, 2, 3, 4, 5, 6, 7, 8, 9, 10, 11, 12, 13, 14, 15, 16, 17, 18, 19, 20, 21] rfl)
            · rw [if_pos c329] at h
              refine lv_iconst (v := 0) hx hb dL_law_606 (by decide) ?_
              have hz := Option.some.inj h
              rw [← hz] at hz1
              exact absurd (show (0 : Int32) = 1 from hz1) (by decide)
      · intro NL adL m1 kc ks r1 r2 i3 i4 i5 i6 i7 i8 r9 i10 i11 i12 i13 r14 i15 i16 i17 i18 i19 i20 i21 H locs ls hNN hE hc hs hO n_r1 n_r2 n_r9 n_r14 h hP hD hS hl
        have h : fB_L_law_608 L xs (fL_L_law L xs n) NL m1 kc ks r1 r2 i3 i4 i5 i6 i7 i8 r9 i10 i11 i12 i13 r14 i15 i16 i17 i18 i19 i20 i21 0 0 0 0 0 = some z := h
        unfold fB_L_law_608 at h
        refine lv_aload_n hx hb dL_law_608 rfl (lv_at hl 0 rfl) ?_
        refine lv_iload hx hb dL_law_609 (lv_at hl 15 rfl) ?_
        refine lv_iconst (v := 3) hx hb dL_law_611 (by decide) ?_
        obtain ⟨g330, h⟩ := vg_if h
        obtain ⟨q331, g332, h⟩ := vg_bind h
        refine va_calli (va_runV (As := [.int i16, .int 3]) (rest := []) ⟨hx, hb, hml, hown, hts⟩ (cm_X3_door (m0 := m1) l D tc adL hO n_r1 g332) (cwV 2 hts gL_law_X3_door rfl rfl rfl (by decide +kernel) ⟨(Nat.le_of_ble_eq_true rfl), (Nat.le_of_ble_eq_true rfl)⟩) ⟨qR_blind, va_recv hK hP (ci := 3) (q0 := r1) rfl (vW_k3 n_r1 g330), qR_pre hP hK hZ⟩ rfl rfl hl.1 rfl (lv_room (Nat.le_of_ble_eq_true rfl)) dL_law_612 ⟨hc, hs⟩) hS (fun q9 _ h9 => h9.elim) (fun q9 h9 => h9.elim) (fun w333 u t H1 locs ht hvm hw hB hz1 hk1 hS => ?_)
        have hP := hP.kept (fun k9 q9 hk9 => hk1 q9.1 (hP k9 q9 hk9).lt (fun h9 => h9))
        generalize H1 = H at hP hS ⊢
        clear hk1 hz1 ht hvm
        have hw : w333 = q331 := hw
        rw [hw]
        refine lv_istore (lv' := [(22, .int q331), (1, .ref (adL r1)), (2, .ref (adL r2)), (3, .int i3), (4, .int i4), (5, .int i5), (6, .int i6), (7, .int i7), (8, .int i8), (9, .ref (adL r9)), (10, .int i10), (11, .int i11), (12, .int i12), (13, .int i13), (14, .ref (adL r14)), (15, .int i15), (16, .int i16), (17, .int i17), (18, .int i18), (19, .int i19), (20, .int i20), (21, .int i21), (0, .ref b)]) hx hb dL_law_615 hl (by decide) rfl (fun ls hl => ?_)
        refine lv_aload_n hx hb dL_law_617 rfl (lv_at hl 1 rfl) ?_
        refine lv_iload hx hb dL_law_618 (lv_at hl 16 rfl) ?_
        refine lv_iconst (v := 4) hx hb dL_law_620 (by decide) ?_
        obtain ⟨q334, g335, h⟩ := vg_bind h
        refine va_calli (va_runV (As := [.int i16, .int 4]) (rest := []) ⟨hx, hb, hml, hown, hts⟩ (cm_X3_door (m0 := m1) l D tc adL hO n_r1 g335) (cwV 2 hts gL_law_X3_door rfl rfl rfl (by decide +kernel) ⟨(Nat.le_of_ble_eq_true rfl), (Nat.le_of_ble_eq_true rfl)⟩) ⟨qR_blind, va_recv hK hP (ci := 3) (q0 := r1) rfl (vW_k3 n_r1 g330), qR_pre hP hK hZ⟩ rfl rfl hl.1 rfl (lv_room (Nat.le_of_ble_eq_true rfl)) dL_law_621 ⟨hc, hs⟩) hS (fun q9 _ h9 => h9.elim) (fun q9 h9 => h9.elim) (fun w336 u t H1 locs ht hvm hw hB hz1 hk1 hS => ?_)
        have hP := hP.kept (fun k9 q9 hk9 => hk1 q9.1 (hP k9 q9 hk9).lt (fun h9 => h9))
        generalize H1 = H at hP hS ⊢
        clear hk1 hz1 ht hvm
        have hw : w336 = q334 := hw
        rw [hw]
        refine lv_istore (lv' := [(23, .int q334), (22, .int q331), (1, .ref (adL r1)), (2, .ref (adL r2)), (3, .int i3), (4, .int i4), (5, .int i5), (6, .int i6), (7, .int i7), (8, .int i8), (9, .ref (adL r9)), (10, .int i10), (11, .int i11), (12, .int i12), (13, .int i13), (14, .ref (adL r14)), (15, .int i15), (16, .int i16), (17, .int i17), (18, .int i18), (19, .int i19), (20, .int i20), (21, .int i21), (0, .ref b)]) hx hb dL_law_624 hl (by decide) rfl (fun ls hl => ?_)
        refine lv_aload_n hx hb dL_law_626 rfl (lv_at hl 2 rfl) ?_
        refine lv_iload hx hb dL_law_627 (lv_at hl 17 rfl) ?_
        refine lv_iconst (v := 5) hx hb dL_law_629 (by decide) ?_
        obtain ⟨q337, g338, h⟩ := vg_bind h
        refine va_calli (va_runV (As := [.int i16, .int 5]) (rest := []) ⟨hx, hb, hml, hown, hts⟩ (cm_X3_door (m0 := m1) l D tc adL hO n_r1 g338) (cwV 2 hts gL_law_X3_door rfl rfl rfl (by decide +kernel) ⟨(Nat.le_of_ble_eq_true rfl), (Nat.le_of_ble_eq_true rfl)⟩) ⟨qR_blind, va_recv hK hP (ci := 3) (q0 := r1) rfl (vW_k3 n_r1 g330), qR_pre hP hK hZ⟩ rfl rfl hl.1 rfl (lv_room (Nat.le_of_ble_eq_true rfl)) dL_law_630 ⟨hc, hs⟩) hS (fun q9 _ h9 => h9.elim) (fun q9 h9 => h9.elim) (fun w339 u t H1 locs ht hvm hw hB hz1 hk1 hS => ?_)
        have hP := hP.kept (fun k9 q9 hk9 => hk1 q9.1 (hP k9 q9 hk9).lt (fun h9 => h9))
        generalize H1 = H at hP hS ⊢
        clear hk1 hz1 ht hvm
        have hw : w339 = q337 := hw
        rw [hw]
        refine lv_istore (lv' := [(24, .int q337), (23, .int q334), (22, .int q331), (1, .ref (adL r1)), (2, .ref (adL r2)), (3, .int i3), (4, .int i4), (5, .int i5), (6, .int i6), (7, .int i7), (8, .int i8), (9, .ref (adL r9)), (10, .int i10), (11, .int i11), (12, .int i12), (13, .int i13), (14, .ref (adL r14)), (15, .int i15), (16, .int i16), (17, .int i17), (18, .int i18), (19, .int i19), (20, .int i20), (21, .int i21), (0, .ref b)]) hx hb dL_law_633 hl (by decide) rfl (fun ls hl => ?_)
        refine lv_iload hx hb dL_law_635 (lv_at hl 1 rfl) ?_
        refine lv_if_lt (tgt := 694) hx hb dL_law_637 (by decide) (fun c340 => ?_) (fun c340 => ?_)
        · rw [if_pos c340] at h
          refine lv_iconst (v := 0) hx hb dL_law_694 (by decide) ?_
          have hz := Option.some.inj h
          rw [← hz] at hz1
          exact absurd (show (0 : Int32) = 1 from hz1) (by decide)
        · rw [if_neg c340] at h
          refine lv_iload hx hb dL_law_640 (lv_at hl 1 rfl) ?_
          refine lv_iload hx hb dL_law_642 (lv_at hl 2 rfl) ?_
          refine lv_icmp_gt (tgt := 694) hx hb dL_law_644 (by decide) (fun c341 => ?_) (fun c341 => ?_)
          · rw [if_pos c341] at h
            refine lv_iconst (v := 0) hx hb dL_law_694 (by decide) ?_
            have hz := Option.some.inj h
            rw [← hz] at hz1
            exact absurd (show (0 : Int32) = 1 from hz1) (by decide)
          · rw [if_neg c341] at h
            refine lv_iload hx hb dL_law_647 (lv_at hl 0 rfl) ?_
            refine lv_if_lt (tgt := 694) hx hb dL_law_649 (by decide) (fun c342 => ?_) (fun c342 => ?_)
            · rw [if_pos c342] at h
              refine lv_iconst (v := 0) hx hb dL_law_694 (by decide) ?_
              have hz := Option.some.inj h
              rw [← hz] at hz1
              exact absurd (show (0 : Int32) = 1 from hz1) (by decide)
            · rw [if_neg c342] at h
              refine lv_iload hx hb dL_law_652 (lv_at hl 0 rfl) ?_
              refine lv_iload hx hb dL_law_654 (lv_at hl 1 rfl) ?_
              refine lv_icmp_gt (tgt := 694) hx hb dL_law_656 (by decide) (fun c343 => ?_) (fun c343 => ?_)
              · rw [if_pos c343] at h
                refine lv_iconst (v := 0) hx hb dL_law_694 (by decide) ?_
                have hz := Option.some.inj h
                rw [← hz] at hz1
                exact absurd (show (0 : Int32) = 1 from hz1) (by decide)
              · rw [if_neg c343] at h
                refine lv_iload hx hb dL_law_659 (lv_at hl 19 rfl) ?_
                refine lv_iconst (v := 1) hx hb dL_law_661 (by decide) ?_
                refine lv_icmp_eq (tgt := 681) hx hb dL_law_662 (by decide) (fun c344 => ?_) (fun c344 => ?_)
                · rw [if_pos c344] at h
                  refine lv_iload hx hb dL_law_681 (lv_at hl 19 rfl) ?_
                  refine lv_iconst (v := 1) hx hb dL_law_683 (by decide) ?_
                  refine lv_icmp_ne (tgt := 696) hx hb dL_law_684 (by decide) (fun c345 => ?_) (fun c345 => ?_)
                  · rw [if_neg c345] at h
                    exact (ih.2.2.2.2.2.2.2.2.2.2.2.2.1) NL adL m1 kc ks r1 r2 i3 i4 i5 i6 i7 i8 r9 i10 i11 i12 i13 r14 i15 i16 i17 i18 i19 i20 i21 q331 q334 q337 _ _ _ hNN hE hc hs hO n_r1 n_r2 n_r9 n_r14 h hP hD hS (lv_sub hl (l' := [(1, .ref (adL r1)), (2, .ref (adL r2)), (3, .int i3), (4, .int i4), (5, .int i5), (6, .int i6), (7, .int i7), (8, .int i8), (9, .ref (adL r9)), (10, .int i10), (11, .int i11), (12, .int i12), (13, .int i13), (14, .ref (adL r14)), (15, .int i15), (16, .int i16), (17, .int i17), (18, .int i18), (19, .int i19), (20, .int i20), (21, .int i21), (22, .int q331), (23, .int q334), (24, .int q337), (0, .ref b)]) [3, 4, 5, 6, 7, 8, 9, 10, 11, 12, 13, 14, 15, 16, 17, 18, 19, 20, 21, 22, 23, 2, 1, 0, 24] rfl)
                  · rw [if_pos c345] at h
                    refine lv_iload hx hb dL_law_687 (lv_at hl 1 rfl) ?_
                    refine lv_iload hx hb dL_law_689 (lv_at hl 2 rfl) ?_
                    refine lv_icmp_ne (tgt := 696) hx hb dL_law_691 (by decide) (fun c346 => ?_) (fun c346 => ?_)
                    · rw [if_neg c346] at h
                      exact (ih.2.2.2.2.2.2.2.2.2.2.2.2.1) NL adL m1 kc ks r1 r2 i3 i4 i5 i6 i7 i8 r9 i10 i11 i12 i13 r14 i15 i16 i17 i18 i19 i20 i21 q331 q334 q337 _ _ _ hNN hE hc hs hO n_r1 n_r2 n_r9 n_r14 h hP hD hS (lv_sub hl (l' := [(1, .ref (adL r1)), (2, .ref (adL r2)), (3, .int i3), (4, .int i4), (5, .int i5), (6, .int i6), (7, .int i7), (8, .int i8), (9, .ref (adL r9)), (10, .int i10), (11, .int i11), (12, .int i12), (13, .int i13), (14, .ref (adL r14)), (15, .int i15), (16, .int i16), (17, .int i17), (18, .int i18), (19, .int i19), (20, .int i20), (21, .int i21), (22, .int q331), (23, .int q334), (24, .int q337), (0, .ref b)]) [3, 4, 5, 6, 7, 8, 9, 10, 11, 12, 13, 14, 15, 16, 17, 18, 19, 20, 21, 22, 23, 2, 1, 0, 24] rfl)
                    · rw [if_pos c346] at h
                      refine lv_iconst (v := 0) hx hb dL_law_694 (by decide) ?_
                      have hz := Option.some.inj h
                      rw [← hz] at hz1
                      exact absurd (show (0 : Int32) = 1 from hz1) (by decide)
                · rw [if_neg c344] at h
                  refine lv_iload hx hb dL_law_665 (lv_at hl 1 rfl) ?_
                  refine lv_if_ne (tgt := 694) hx hb dL_law_667 (by decide) (fun c347 => ?_) (fun c347 => ?_)
                  · rw [if_neg c347] at h
                    refine lv_iconst (v := 0) hx hb dL_law_694 (by decide) ?_
                    have hz := Option.some.inj h
                    rw [← hz] at hz1
                    exact absurd (show (0 : Int32) = 1 from hz1) (by decide)
                  · rw [if_pos c347] at h
                    refine lv_aload_n hx hb dL_law_670 rfl (lv_at hl 3 rfl) ?_
                    refine lv_iload hx hb dL_law_671 (lv_at hl 18 rfl) ?_
                    refine lv_bipush (v := 6) hx hb dL_law_673 (by decide) ?_
                    obtain ⟨q348, g349, h⟩ := vg_bind h
                    refine va_calli (va_runV (As := [.int i16, .int 6]) (rest := []) ⟨hx, hb, hml, hown, hts⟩ (cm_X3_door (m0 := m1) l D tc adL hO n_r1 g349) (cwV 2 hts gL_law_X3_door rfl rfl rfl (by decide +kernel) ⟨(Nat.le_of_ble_eq_true rfl), (Nat.le_of_ble_eq_true rfl)⟩) ⟨qR_blind, va_recv hK hP (ci := 3) (q0 := r1) rfl (vW_k3 n_r1 g330), qR_pre hP hK hZ⟩ rfl rfl hl.1 rfl (lv_room (Nat.le_of_ble_eq_true rfl)) dL_law_675 ⟨hc, hs⟩) hS (fun q9 _ h9 => h9.elim) (fun q9 h9 => h9.elim) (fun w350 u t H1 locs ht hvm hw hB hz1 hk1 hS => ?_)
                    have hP := hP.kept (fun k9 q9 hk9 => hk1 q9.1 (hP k9 q9 hk9).lt (fun h9 => h9))
                    generalize H1 = H at hP hS ⊢
                    clear hk1 hz1 ht hvm
                    have hw : w350 = q348 := hw
                    rw [hw]
                    refine lv_if_ne (tgt := 694) hx hb dL_law_678 (by decide) (fun c351 => ?_) (fun c351 => ?_)
                    · rw [if_neg c351] at h
                      refine lv_iconst (v := 0) hx hb dL_law_694 (by decide) ?_
                      have hz := Option.some.inj h
                      rw [← hz] at hz1
                      exact absurd (show (0 : Int32) = 1 from hz1) (by decide)
                    · rw [if_pos c351] at h
                      refine lv_iload hx hb dL_law_681 (lv_at hl 19 rfl) ?_
                      refine lv_iconst (v := 1) hx hb dL_law_683 (by decide) ?_
                      refine lv_icmp_ne (tgt := 696) hx hb dL_law_684 (by decide) (fun c352 => ?_) (fun c352 => ?_)
                      · rw [if_neg c352] at h
                        exact (ih.2.2.2.2.2.2.2.2.2.2.2.2.1) NL adL m1 kc ks r1 r2 i3 i4 i5 i6 i7 i8 r9 i10 i11 i12 i13 r14 i15 i16 i17 i18 i19 i20 i21 q331 q334 q337 _ _ _ hNN hE hc hs hO n_r1 n_r2 n_r9 n_r14 h hP hD hS (lv_sub hl (l' := [(1, .ref (adL r1)), (2, .ref (adL r2)), (3, .int i3), (4, .int i4), (5, .int i5), (6, .int i6), (7, .int i7), (8, .int i8), (9, .ref (adL r9)), (10, .int i10), (11, .int i11), (12, .int i12), (13, .int i13), (14, .ref (adL r14)), (15, .int i15), (16, .int i16), (17, .int i17), (18, .int i18), (19, .int i19), (20, .int i20), (21, .int i21), (22, .int q331), (23, .int q334), (24, .int q337), (0, .ref b)]) [3, 4, 5, 6, 7, 8, 9, 10, 11, 12, 13, 14, 15, 16, 17, 18, 19, 20, 21, 22, 23, 2, 1, 0, 24] rfl)
                      · rw [if_pos c352] at h
                        refine lv_iload hx hb dL_law_687 (lv_at hl 1 rfl) ?_
                        refine lv_iload hx hb dL_law_689 (lv_at hl 2 rfl) ?_
                        refine lv_icmp_ne (tgt := 696) hx hb dL_law_691 (by decide) (fun c353 => ?_) (fun c353 => ?_)
                        · rw [if_neg c353] at h
                          exact (ih.2.2.2.2.2.2.2.2.2.2.2.2.1) NL adL m1 kc ks r1 r2 i3 i4 i5 i6 i7 i8 r9 i10 i11 i12 i13 r14 i15 i16 i17 i18 i19 i20 i21 q331 q334 q337 _ _ _ hNN hE hc hs hO n_r1 n_r2 n_r9 n_r14 h hP hD hS (lv_sub hl (l' := [(1, .ref (adL r1)), (2, .ref (adL r2)), (3, .int i3), (4, .int i4), (5, .int i5), (6, .int i6), (7, .int i7), (8, .int i8), (9, .ref (adL r9)), (10, .int i10), (11, .int i11), (12, .int i12), (13, .int i13), (14, .ref (adL r14)), (15, .int i15), (16, .int i16), (17, .int i17), (18, .int i18), (19, .int i19), (20, .int i20), (21, .int i21), (22, .int q331), (23, .int q334), (24, .int q337), (0, .ref b)]) [3, 4, 5, 6, 7, 8, 9, 10, 11, 12, 13, 14, 15, 16, 17, 18, 19, 20, 21, 22, 23, 2, 1, 0, 24] rfl)
                        · rw [if_pos c353] at h
                          refine lv_iconst (v := 0) hx hb dL_law_694 (by decide) ?_
                          have hz := Option.some.inj h
                          rw [← hz] at hz1
                          exact absurd (show (0 : Int32) = 1 from hz1) (by decide)
      · intro NL adL m1 kc ks r1 r2 i3 i4 i5 i6 i7 i8 r9 i10 i11 i12 i13 r14 i15 i16 i17 i18 i19 i20 i21 i22 i23 i24 H locs ls hNN hE hc hs hO n_r1 n_r2 n_r9 n_r14 h hP hD hS hl
        have h : fB_L_law_696 L xs (fL_L_law L xs n) NL m1 kc ks r1 r2 i3 i4 i5 i6 i7 i8 r9 i10 i11 i12 i13 r14 i15 i16 i17 i18 i19 i20 i21 i22 i23 i24 0 0 = some z := h
        unfold fB_L_law_696 at h
        refine lv_iconst (v := 0) hx hb dL_law_696 (by decide) ?_
        refine lv_istore (lv' := [(25, .int 0), (1, .ref (adL r1)), (2, .ref (adL r2)), (3, .int i3), (4, .int i4), (5, .int i5), (6, .int i6), (7, .int i7), (8, .int i8), (9, .ref (adL r9)), (10, .int i10), (11, .int i11), (12, .int i12), (13, .int i13), (14, .ref (adL r14)), (15, .int i15), (16, .int i16), (17, .int i17), (18, .int i18), (19, .int i19), (20, .int i20), (21, .int i21), (22, .int i22), (23, .int i23), (24, .int i24), (0, .ref b)]) hx hb dL_law_697 hl (by decide) rfl (fun ls hl => ?_)
        refine lv_iconst (v := 0) hx hb dL_law_699 (by decide) ?_
        refine lv_istore (lv' := [(26, .int 0), (25, .int 0), (1, .ref (adL r1)), (2, .ref (adL r2)), (3, .int i3), (4, .int i4), (5, .int i5), (6, .int i6), (7, .int i7), (8, .int i8), (9, .ref (adL r9)), (10, .int i10), (11, .int i11), (12, .int i12), (13, .int i13), (14, .ref (adL r14)), (15, .int i15), (16, .int i16), (17, .int i17), (18, .int i18), (19, .int i19), (20, .int i20), (21, .int i21), (22, .int i22), (23, .int i23), (24, .int i24), (0, .ref b)]) hx hb dL_law_700 hl (by decide) rfl (fun ls hl => ?_)
        exact (ih.2.2.2.2.2.2.2.2.2.2.2.2.2.1) NL adL m1 kc ks r1 r2 i3 i4 i5 i6 i7 i8 r9 i10 i11 i12 i13 r14 i15 i16 i17 i18 i19 i20 i21 i22 i23 i24 (0 : Int32) (0 : Int32) _ _ _ hNN hE hc hs hO n_r1 n_r2 n_r9 n_r14 h hP hD hS (lv_sub hl (l' := [(1, .ref (adL r1)), (2, .ref (adL r2)), (3, .int i3), (4, .int i4), (5, .int i5), (6, .int i6), (7, .int i7), (8, .int i8), (9, .ref (adL r9)), (10, .int i10), (11, .int i11), (12, .int i12), (13, .int i13), (14, .ref (adL r14)), (15, .int i15), (16, .int i16), (17, .int i17), (18, .int i18), (19, .int i19), (20, .int i20), (21, .int i21), (22, .int i22), (23, .int i23), (24, .int i24), (25, .int 0), (26, .int 0), (0, .ref b)]) [2, 3, 4, 5, 6, 7, 8, 9, 10, 11, 12, 13, 14, 15, 16, 17, 18, 19, 20, 21, 22, 23, 24, 25, 1, 0, 26] rfl)
      · intro NL adL m1 kc ks r1 r2 i3 i4 i5 i6 i7 i8 r9 i10 i11 i12 i13 r14 i15 i16 i17 i18 i19 i20 i21 i22 i23 i24 i25 i26 H locs ls hNN hE hc hs hO n_r1 n_r2 n_r9 n_r14 h hP hD hS hl
        have h : fB_L_law_702 L xs (fL_L_law L xs n) NL m1 kc ks r1 r2 i3 i4 i5 i6 i7 i8 r9 i10 i11 i12 i13 r14 i15 i16 i17 i18 i19 i20 i21 i22 i23 i24 i25 i26 = some z := h
        unfold fB_L_law_702 at h
        refine lv_iload hx hb dL_law_702 (lv_at hl 25 rfl) ?_
        refine lv_iload hx hb dL_law_704 (lv_at hl 21 rfl) ?_
        refine lv_icmp_ge (tgt := 737) hx hb dL_law_706 (by decide) (fun c354 => ?_) (fun c354 => ?_)
        · rw [if_pos c354] at h
          refine lv_iload hx hb dL_law_737 (lv_at hl 24 rfl) ?_
          refine lv_iload hx hb dL_law_739 (lv_at hl 22 rfl) ?_
          refine lv_icmp_eq (tgt := 746) hx hb dL_law_741 (by decide) (fun c355 => ?_) (fun c355 => ?_)
          · rw [if_pos c355] at h
            refine lv_iconst (v := 0) hx hb dL_law_746 (by decide) ?_
            refine lv_istore (lv' := [(26, .int 0), (1, .ref (adL r1)), (2, .ref (adL r2)), (3, .int i3), (4, .int i4), (5, .int i5), (6, .int i6), (7, .int i7), (8, .int i8), (9, .ref (adL r9)), (10, .int i10), (11, .int i11), (12, .int i12), (13, .int i13), (14, .ref (adL r14)), (15, .int i15), (16, .int i16), (17, .int i17), (18, .int i18), (19, .int i19), (20, .int i20), (21, .int i21), (22, .int i22), (23, .int i23), (24, .int i24), (25, .int i25), (0, .ref b)]) hx hb dL_law_747 hl (by decide) rfl (fun ls hl => ?_)
            exact (ih.2.2.2.2.2.2.2.2.2.2.2.2.2.2.1) NL adL m1 kc ks r1 r2 i3 i4 i5 i6 i7 i8 r9 i10 i11 i12 i13 r14 i15 i16 i17 i18 i19 i20 i21 i22 i23 i24 i25 (0 : Int32) _ _ _ hNN hE hc hs hO n_r1 n_r2 n_r9 n_r14 h hP hD hS (lv_sub hl (l' := [(1, .ref (adL r1)), (2, .ref (adL r2)), (3, .int i3), (4, .int i4), (5, .int i5), (6, .int i6), (7, .int i7), (8, .int i8), (9, .ref (adL r9)), (10, .int i10), (11, .int i11), (12, .int i12), (13, .int i13), (14, .ref (adL r14)), (15, .int i15), (16, .int i16), (17, .int i17), (18, .int i18), (19, .int i19), (20, .int i20), (21, .int i21), (22, .int i22), (23, .int i23), (24, .int i24), (25, .int i25), (26, .int 0), (0, .ref b)]) [1, 2, 3, 4, 5, 6, 7, 8, 9, 10, 11, 12, 13, 14, 15, 16, 17, 18, 19, 20, 21, 22, 23, 24, 25, 0, 26] rfl)
          · rw [if_neg c355] at h
            refine lv_iconst (v := 0) hx hb dL_law_744 (by decide) ?_
            have hz := Option.some.inj h
            rw [← hz] at hz1
            exact absurd (show (0 : Int32) = 1 from hz1) (by decide)
        · rw [if_neg c354] at h
          refine lv_iload hx hb dL_law_709 (lv_at hl 24 rfl) ?_
          refine lv_aload_n hx hb dL_law_711 rfl (lv_at hl 0 rfl) ?_
          refine lv_iload hx hb dL_law_712 (lv_at hl 15 rfl) ?_
          refine lv_iload hx hb dL_law_714 (lv_at hl 25 rfl) ?_
          refine lv_iconst (v := 2) hx hb dL_law_716 (by decide) ?_
          obtain ⟨g356, h⟩ := vg_if h
          obtain ⟨q357, g358, h⟩ := vg_bind h
          refine va_calli (va_runV (As := [.int i16, .int i26, .int 2]) (rest := [.int i25]) ⟨hx, hb, hml, hown, hts⟩ (cm_X3_asks (m0 := m1) l D tc adL hO n_r1 g358) (cwV 3 hts gL_law_X3_asks rfl rfl rfl (by decide +kernel) ⟨(Nat.le_of_ble_eq_true rfl), (Nat.le_of_ble_eq_true rfl)⟩) ⟨qR_blind, va_recv hK hP (ci := 3) (q0 := r1) rfl (vW_k3 n_r1 g356), qR_pre hP hK hZ⟩ rfl rfl hl.1 rfl (lv_room (Nat.le_of_ble_eq_true rfl)) dL_law_717 ⟨hc, hs⟩) hS (fun q9 _ h9 => h9.elim) (fun q9 h9 => h9.elim) (fun w359 u t H1 locs ht hvm hw hB hz1 hk1 hS => ?_)
          have hP := hP.kept (fun k9 q9 hk9 => hk1 q9.1 (hP k9 q9 hk9).lt (fun h9 => h9))
          generalize H1 = H at hP hS ⊢
          clear hk1 hz1 ht hvm
          have hw : w359 = q357 := hw
          rw [hw]
          refine lv_if_lt (tgt := 727) hx hb dL_law_720 (by decide) (fun c360 => ?_) (fun c360 => ?_)
          · rw [if_pos c360] at h
            refine lv_iconst (v := 0) hx hb dL_law_727 (by decide) ?_
            refine lv_iadd hx hb dL_law_728 ?_
            refine lv_istore (lv' := [(25, .int (i25 + 0)), (1, .ref (adL r1)), (2, .ref (adL r2)), (3, .int i3), (4, .int i4), (5, .int i5), (6, .int i6), (7, .int i7), (8, .int i8), (9, .ref (adL r9)), (10, .int i10), (11, .int i11), (12, .int i12), (13, .int i13), (14, .ref (adL r14)), (15, .int i15), (16, .int i16), (17, .int i17), (18, .int i18), (19, .int i19), (20, .int i20), (21, .int i21), (22, .int i22), (23, .int i23), (24, .int i24), (26, .int i26), (0, .ref b)]) hx hb dL_law_729 hl (by decide) rfl (fun ls hl => ?_)
            refine lv_iinc (v := i26 + 1) (lv' := [(26, .int (i26 + 1)), (25, .int (i25 + 0)), (1, .ref (adL r1)), (2, .ref (adL r2)), (3, .int i3), (4, .int i4), (5, .int i5), (6, .int i6), (7, .int i7), (8, .int i8), (9, .ref (adL r9)), (10, .int i10), (11, .int i11), (12, .int i12), (13, .int i13), (14, .ref (adL r14)), (15, .int i15), (16, .int i16), (17, .int i17), (18, .int i18), (19, .int i19), (20, .int i20), (21, .int i21), (22, .int i22), (23, .int i23), (24, .int i24), (0, .ref b)]) hx hb dL_law_731 hl (k := 25) rfl rfl (by decide) rfl (fun ls hl => ?_)
            refine lv_goto (tgt := 702) hx hb dL_law_734 (by decide) ?_
            exact (ih.2.2.2.2.2.2.2.2.2.2.2.2.2.1) NL adL m1 kc ks r1 r2 i3 i4 i5 i6 i7 i8 r9 i10 i11 i12 i13 r14 i15 i16 i17 i18 i19 i20 i21 i22 i23 i24 (i25 + 0) (i26 + 1) _ _ _ hNN hE hc hs hO n_r1 n_r2 n_r9 n_r14 h hP hD hS (lv_sub hl (l' := [(1, .ref (adL r1)), (2, .ref (adL r2)), (3, .int i3), (4, .int i4), (5, .int i5), (6, .int i6), (7, .int i7), (8, .int i8), (9, .ref (adL r9)), (10, .int i10), (11, .int i11), (12, .int i12), (13, .int i13), (14, .ref (adL r14)), (15, .int i15), (16, .int i16), (17, .int i17), (18, .int i18), (19, .int i19), (20, .int i20), (21, .int i21), (22, .int i22), (23, .int i23), (24, .int i24), (25, .int (i25 + 0)), (26, .int (i26 + 1)), (0, .ref b)]) [2, 3, 4, 5, 6, 7, 8, 9, 10, 11, 12, 13, 14, 15, 16, 17, 18, 19, 20, 21, 22, 23, 24, 25, 1, 0, 26] rfl)
          · rw [if_neg c360] at h
            refine lv_iconst (v := 1) hx hb dL_law_723 (by decide) ?_
            refine lv_goto (tgt := 728) hx hb dL_law_724 (by decide) ?_
            refine lv_iadd hx hb dL_law_728 ?_
            refine lv_istore (lv' := [(25, .int (i25 + 1)), (1, .ref (adL r1)), (2, .ref (adL r2)), (3, .int i3), (4, .int i4), (5, .int i5), (6, .int i6), (7, .int i7), (8, .int i8), (9, .ref (adL r9)), (10, .int i10), (11, .int i11), (12, .int i12), (13, .int i13), (14, .ref (adL r14)), (15, .int i15), (16, .int i16), (17, .int i17), (18, .int i18), (19, .int i19), (20, .int i20), (21, .int i21), (22, .int i22), (23, .int i23), (24, .int i24), (26, .int i26), (0, .ref b)]) hx hb dL_law_729 hl (by decide) rfl (fun ls hl => ?_)
            refine lv_iinc (v := i26 + 1) (lv' := [(26, .int (i26 + 1)), (25, .int (i25 + 1)), (1, .ref (adL r1)), (2, .ref (adL r2)), (3, .int i3), (4, .int i4), (5, .int i5), (6, .int i6), (7, .int i7), (8, .int i8), (9, .ref (adL r9)), (10, .int i10), (11, .int i11), (12, .int i12), (13, .int i13), (14, .ref (adL r14)), (15, .int i15), (16, .int i16), (17, .int i17), (18, .int i18), (19, .int i19), (20, .int i20), (21, .int i21), (22, .int i22), (23, .int i23), (24, .int i24), (0, .ref b)]) hx hb dL_law_731 hl (k := 25) rfl rfl (by decide) rfl (fun ls hl => ?_)
            refine lv_goto (tgt := 702) hx hb dL_law_734 (by decide) ?_
            exact (ih.2.2.2.2.2.2.2.2.2.2.2.2.2.1) NL adL m1 kc ks r1 r2 i3 i4 i5 i6 i7 i8 r9 i10 i11 i12 i13 r14 i15 i16 i17 i18 i19 i20 i21 i22 i23 i24 (i25 + 1) (i26 + 1) _ _ _ hNN hE hc hs hO n_r1 n_r2 n_r9 n_r14 h hP hD hS (lv_sub hl (l' := [(1, .ref (adL r1)), (2, .ref (adL r2)), (3, .int i3), (4, .int i4), (5, .int i5), (6, .int i6), (7, .int i7), (8, .int i8), (9, .ref (adL r9)), (10, .int i10), (11, .int i11), (12, .int i12), (13, .int i13), (14, .ref (adL r14)), (15, .int i15), (16, .int i16), (17, .int i17), (18, .int i18), (19, .int i19), (20, .int i20), (21, .int i21), (22, .int i22), (23, .int i23), (24, .int i24), (25, .int (i25 + 1)), (26, .int (i26 + 1)), (0, .ref b)]) [2, 3, 4, 5, 6, 7, 8, 9, 10, 11, 12, 13, 14, 15, 16, 17, 18, 19, 20, 21, 22, 23, 24, 25, 1, 0, 26] rfl)
      · intro NL adL m1 kc ks r1 r2 i3 i4 i5 i6 i7 i8 r9 i10 i11 i12 i13 r14 i15 i16 i17 i18 i19 i20 i21 i22 i23 i24 i25 i26 H locs ls hNN hE hc hs hO n_r1 n_r2 n_r9 n_r14 h hP hD hS hl
        have h : fB_L_law_749 L xs (fL_L_law L xs n) NL m1 kc ks r1 r2 i3 i4 i5 i6 i7 i8 r9 i10 i11 i12 i13 r14 i15 i16 i17 i18 i19 i20 i21 i22 i23 i24 i25 i26 = some z := h
        unfold fB_L_law_749 at h
        refine lv_iload hx hb dL_law_749 (lv_at hl 25 rfl) ?_
        refine lv_iload hx hb dL_law_751 (lv_at hl 21 rfl) ?_
        refine lv_icmp_ge (tgt := 810) hx hb dL_law_753 (by decide) (fun c361 => ?_) (fun c361 => ?_)
        · rw [if_pos c361] at h
          refine lv_iinc (v := i16 + 1) (lv' := [(16, .int (i16 + 1)), (1, .ref (adL r1)), (2, .ref (adL r2)), (3, .int i3), (4, .int i4), (5, .int i5), (6, .int i6), (7, .int i7), (8, .int i8), (9, .ref (adL r9)), (10, .int i10), (11, .int i11), (12, .int i12), (13, .int i13), (14, .ref (adL r14)), (15, .int i15), (17, .int i17), (18, .int i18), (19, .int i19), (20, .int i20), (21, .int i21), (22, .int i22), (23, .int i23), (24, .int i24), (25, .int i25), (26, .int i26), (0, .ref b)]) hx hb dL_law_810 hl (k := 15) rfl rfl (by decide) rfl (fun ls hl => ?_)
          refine lv_goto (tgt := 286) hx hb dL_law_813 (by decide) ?_
          exact (ih.2.2.2.2.2.1) NL adL m1 kc ks r1 r2 i3 i4 i5 i6 i7 i8 r9 i10 i11 i12 i13 r14 i15 (i16 + 1) _ _ _ hNN hE hc hs hO n_r1 n_r2 n_r9 n_r14 h hP hD hS (lv_sub hl (l' := [(1, .ref (adL r1)), (2, .ref (adL r2)), (3, .int i3), (4, .int i4), (5, .int i5), (6, .int i6), (7, .int i7), (8, .int i8), (9, .ref (adL r9)), (10, .int i10), (11, .int i11), (12, .int i12), (13, .int i13), (14, .ref (adL r14)), (15, .int i15), (16, .int (i16 + 1)), (0, .ref b)]) [1, 2, 3, 4, 5, 6, 7, 8, 9, 10, 11, 12, 13, 14, 15, 0, 26] rfl)
        · rw [if_neg c361] at h
          refine lv_aload_n hx hb dL_law_756 rfl (lv_at hl 0 rfl) ?_
          refine lv_iload hx hb dL_law_757 (lv_at hl 15 rfl) ?_
          obtain ⟨g362, h⟩ := vg_if h
          obtain ⟨q363, g364, h⟩ := vg_bind h
          refine va_calli (va_runV (As := [.int i16]) (rest := []) ⟨hx, hb, hml, hown, hts⟩ (cm_X3_reach (m0 := m1) l D tc adL hO n_r1 g364) (cwV 1 hts gL_law_X3_reach rfl rfl rfl (by decide +kernel) ⟨(Nat.le_of_ble_eq_true rfl), (Nat.le_of_ble_eq_true rfl)⟩) ⟨qR_blind, va_recv hK hP (ci := 3) (q0 := r1) rfl (vW_k3 n_r1 g362), qR_pre hP hK hZ⟩ rfl rfl hl.1 rfl (lv_room (Nat.le_of_ble_eq_true rfl)) dL_law_759 ⟨hc, hs⟩) hS (fun q9 _ h9 => h9.elim) (fun q9 h9 => h9.elim) (fun w365 u t H1 locs ht hvm hw hB hz1 hk1 hS => ?_)
          have hP := hP.kept (fun k9 q9 hk9 => hk1 q9.1 (hP k9 q9 hk9).lt (fun h9 => h9))
          generalize H1 = H at hP hS ⊢
          clear hk1 hz1 ht hvm
          have hw : w365 = q363 := hw
          rw [hw]
          refine lv_aload_n hx hb dL_law_762 rfl (lv_at hl 0 rfl) ?_
          refine lv_iload hx hb dL_law_763 (lv_at hl 15 rfl) ?_
          refine lv_iload hx hb dL_law_765 (lv_at hl 25 rfl) ?_
          refine lv_iconst (v := 0) hx hb dL_law_767 (by decide) ?_
          obtain ⟨q366, g367, h⟩ := vg_bind h
          refine va_calli (va_runV (As := [.int i16, .int i26, .int 0]) (rest := [.int q363]) ⟨hx, hb, hml, hown, hts⟩ (cm_X3_asks (m0 := m1) l D tc adL hO n_r1 g367) (cwV 3 hts gL_law_X3_asks rfl rfl rfl (by decide +kernel) ⟨(Nat.le_of_ble_eq_true rfl), (Nat.le_of_ble_eq_true rfl)⟩) ⟨qR_blind, va_recv hK hP (ci := 3) (q0 := r1) rfl (vW_k3 n_r1 g362), qR_pre hP hK hZ⟩ rfl rfl hl.1 rfl (lv_room (Nat.le_of_ble_eq_true rfl)) dL_law_768 ⟨hc, hs⟩) hS (fun q9 _ h9 => h9.elim) (fun q9 h9 => h9.elim) (fun w368 u t H1 locs ht hvm hw hB hz1 hk1 hS => ?_)
          have hP := hP.kept (fun k9 q9 hk9 => hk1 q9.1 (hP k9 q9 hk9).lt (fun h9 => h9))
          generalize H1 = H at hP hS ⊢
          clear hk1 hz1 ht hvm
          have hw : w368 = q366 := hw
          rw [hw]
          refine lv_ishr hx hb dL_law_771 ?_
          refine lv_iconst (v := 1) hx hb dL_law_772 (by decide) ?_
          refine lv_iand hx hb dL_law_773 ?_
          refine lv_if_eq (tgt := 802) hx hb dL_law_774 (by decide) (fun c369 => ?_) (fun c369 => ?_)
          · rw [if_pos c369] at h
            refine lv_iconst (v := 0) hx hb dL_law_802 (by decide) ?_
            have hz := Option.some.inj h
            rw [← hz] at hz1
            exact absurd (show (0 : Int32) = 1 from hz1) (by decide)
          · rw [if_neg c369] at h
            refine lv_aload_n hx hb dL_law_777 rfl (lv_at hl 0 rfl) ?_
            refine lv_aload_n hx hb dL_law_778 rfl (lv_at hl 0 rfl) ?_
            refine lv_iload hx hb dL_law_779 (lv_at hl 15 rfl) ?_
            refine lv_iload hx hb dL_law_781 (lv_at hl 25 rfl) ?_
            refine lv_iconst (v := 0) hx hb dL_law_783 (by decide) ?_
            obtain ⟨q370, g371, h⟩ := vg_bind h
            refine va_calli (va_runV (As := [.int i16, .int i26, .int 0]) (rest := [.ref (adL r1)]) ⟨hx, hb, hml, hown, hts⟩ (cm_X3_asks (m0 := m1) l D tc adL hO n_r1 g371) (cwV 3 hts gL_law_X3_asks rfl rfl rfl (by decide +kernel) ⟨(Nat.le_of_ble_eq_true rfl), (Nat.le_of_ble_eq_true rfl)⟩) ⟨qR_blind, va_recv hK hP (ci := 3) (q0 := r1) rfl (vW_k3 n_r1 g362), qR_pre hP hK hZ⟩ rfl rfl hl.1 rfl (lv_room (Nat.le_of_ble_eq_true rfl)) dL_law_784 ⟨hc, hs⟩) hS (fun q9 _ h9 => h9.elim) (fun q9 h9 => h9.elim) (fun w372 u t H1 locs ht hvm hw hB hz1 hk1 hS => ?_)
            have hP := hP.kept (fun k9 q9 hk9 => hk1 q9.1 (hP k9 q9 hk9).lt (fun h9 => h9))
            generalize H1 = H at hP hS ⊢
            clear hk1 hz1 ht hvm
            have hw : w372 = q370 := hw
            rw [hw]
            obtain ⟨q373, g374, h⟩ := vg_bind h
            refine va_calli (va_runV (As := [.int q370]) (rest := []) ⟨hx, hb, hml, hown, hts⟩ (cm_X3_reach (m0 := m1) l D tc adL hO n_r1 g374) (cwV 1 hts gL_law_X3_reach rfl rfl rfl (by decide +kernel) ⟨(Nat.le_of_ble_eq_true rfl), (Nat.le_of_ble_eq_true rfl)⟩) ⟨qR_blind, va_recv hK hP (ci := 3) (q0 := r1) rfl (vW_k3 n_r1 g362), qR_pre hP hK hZ⟩ rfl rfl hl.1 rfl (lv_room (Nat.le_of_ble_eq_true rfl)) dL_law_787 ⟨hc, hs⟩) hS (fun q9 _ h9 => h9.elim) (fun q9 h9 => h9.elim) (fun w375 u t H1 locs ht hvm hw hB hz1 hk1 hS => ?_)
            have hP := hP.kept (fun k9 q9 hk9 => hk1 q9.1 (hP k9 q9 hk9).lt (fun h9 => h9))
            generalize H1 = H at hP hS ⊢
            clear hk1 hz1 ht hvm
            have hw : w375 = q373 := hw
            rw [hw]
            refine lv_aload_n hx hb dL_law_790 rfl (lv_at hl 0 rfl) ?_
            refine lv_iload hx hb dL_law_791 (lv_at hl 15 rfl) ?_
            obtain ⟨q376, g377, h⟩ := vg_bind h
            refine va_calli (va_runV (As := [.int i16]) (rest := [.int q373]) ⟨hx, hb, hml, hown, hts⟩ (cm_X3_reach (m0 := m1) l D tc adL hO n_r1 g377) (cwV 1 hts gL_law_X3_reach rfl rfl rfl (by decide +kernel) ⟨(Nat.le_of_ble_eq_true rfl), (Nat.le_of_ble_eq_true rfl)⟩) ⟨qR_blind, va_recv hK hP (ci := 3) (q0 := r1) rfl (vW_k3 n_r1 g362), qR_pre hP hK hZ⟩ rfl rfl hl.1 rfl (lv_room (Nat.le_of_ble_eq_true rfl)) dL_law_793 ⟨hc, hs⟩) hS (fun q9 _ h9 => h9.elim) (fun q9 h9 => h9.elim) (fun w378 u t H1 locs ht hvm hw hB hz1 hk1 hS => ?_)
            have hP := hP.kept (fun k9 q9 hk9 => hk1 q9.1 (hP k9 q9 hk9).lt (fun h9 => h9))
            generalize H1 = H at hP hS ⊢
            clear hk1 hz1 ht hvm
            have hw : w378 = q376 := hw
            rw [hw]
            refine lv_iconst (v := (-1)) hx hb dL_law_796 (by decide) ?_
            refine lv_ixor hx hb dL_law_797 ?_
            refine lv_iand hx hb dL_law_798 ?_
            refine lv_if_eq (tgt := 804) hx hb dL_law_799 (by decide) (fun c379 => ?_) (fun c379 => ?_)
            · rw [if_pos c379] at h
              refine lv_iinc (v := i26 + 1) (lv' := [(26, .int (i26 + 1)), (1, .ref (adL r1)), (2, .ref (adL r2)), (3, .int i3), (4, .int i4), (5, .int i5), (6, .int i6), (7, .int i7), (8, .int i8), (9, .ref (adL r9)), (10, .int i10), (11, .int i11), (12, .int i12), (13, .int i13), (14, .ref (adL r14)), (15, .int i15), (16, .int i16), (17, .int i17), (18, .int i18), (19, .int i19), (20, .int i20), (21, .int i21), (22, .int i22), (23, .int i23), (24, .int i24), (25, .int i25), (0, .ref b)]) hx hb dL_law_804 hl (k := 25) rfl rfl (by decide) rfl (fun ls hl => ?_)
              refine lv_goto (tgt := 749) hx hb dL_law_807 (by decide) ?_
              exact (ih.2.2.2.2.2.2.2.2.2.2.2.2.2.2.1) NL adL m1 kc ks r1 r2 i3 i4 i5 i6 i7 i8 r9 i10 i11 i12 i13 r14 i15 i16 i17 i18 i19 i20 i21 i22 i23 i24 i25 (i26 + 1) _ _ _ hNN hE hc hs hO n_r1 n_r2 n_r9 n_r14 h hP hD hS (lv_sub hl (l' := [(1, .ref (adL r1)), (2, .ref (adL r2)), (3, .int i3), (4, .int i4), (5, .int i5), (6, .int i6), (7, .int i7), (8, .int i8), (9, .ref (adL r9)), (10, .int i10), (11, .int i11), (12, .int i12), (13, .int i13), (14, .ref (adL r14)), (15, .int i15), (16, .int i16), (17, .int i17), (18, .int i18), (19, .int i19), (20, .int i20), (21, .int i21), (22, .int i22), (23, .int i23), (24, .int i24), (25, .int i25), (26, .int (i26 + 1)), (0, .ref b)]) [1, 2, 3, 4, 5, 6, 7, 8, 9, 10, 11, 12, 13, 14, 15, 16, 17, 18, 19, 20, 21, 22, 23, 24, 25, 0, 26] rfl)
            · rw [if_neg c379] at h
              refine lv_iconst (v := 0) hx hb dL_law_802 (by decide) ?_
              have hz := Option.some.inj h
              rw [← hz] at hz1
              exact absurd (show (0 : Int32) = 1 from hz1) (by decide)
      · intro NL adL m1 kc ks r1 r2 i3 i4 i5 i6 i7 i8 r9 i10 i11 i12 i13 r14 i15 i16 H locs ls hNN hE hc hs hO n_r1 n_r2 n_r9 n_r14 h hP hD hS hl
        have h : fB_L_law_847 L xs (fL_L_law L xs n) NL m1 kc ks r1 r2 i3 i4 i5 i6 i7 i8 r9 i10 i11 i12 i13 r14 i15 i16 0 0 0 0 0 0 0 0 0 0 = some z := h
        unfold fB_L_law_847 at h
        refine lv_iconst (v := 0) hx hb dL_law_847 (by decide) ?_
        refine lv_istore (lv' := [(16, .int 0), (1, .ref (adL r1)), (2, .ref (adL r2)), (3, .int i3), (4, .int i4), (5, .int i5), (6, .int i6), (7, .int i7), (8, .int i8), (9, .ref (adL r9)), (10, .int i10), (11, .int i11), (12, .int i12), (13, .int i13), (14, .ref (adL r14)), (15, .int i15), (0, .ref b)]) hx hb dL_law_848 hl (by decide) rfl (fun ls hl => ?_)
        exact (ih.2.2.2.2.2.2.2.2.2.2.2.2.2.2.2.2.1) NL adL m1 kc ks r1 r2 i3 i4 i5 i6 i7 i8 r9 i10 i11 i12 i13 r14 i15 (0 : Int32) _ _ _ hNN hE hc hs hO n_r1 n_r2 n_r9 n_r14 h hP hD hS (lv_sub hl (l' := [(1, .ref (adL r1)), (2, .ref (adL r2)), (3, .int i3), (4, .int i4), (5, .int i5), (6, .int i6), (7, .int i7), (8, .int i8), (9, .ref (adL r9)), (10, .int i10), (11, .int i11), (12, .int i12), (13, .int i13), (14, .ref (adL r14)), (15, .int i15), (16, .int 0), (0, .ref b)]) [1, 2, 3, 4, 5, 6, 7, 8, 9, 10, 11, 12, 13, 14, 15, 0, 16] rfl)
      · intro NL adL m1 kc ks r1 r2 i3 i4 i5 i6 i7 i8 r9 i10 i11 i12 i13 r14 i15 i16 H locs ls hNN hE hc hs hO n_r1 n_r2 n_r9 n_r14 h hP hD hS hl
        have h : fB_L_law_850 L xs (fL_L_law L xs n) NL m1 kc ks r1 r2 i3 i4 i5 i6 i7 i8 r9 i10 i11 i12 i13 r14 i15 i16 0 0 0 0 0 0 0 0 0 0 = some z := h
        unfold fB_L_law_850 at h
        refine lv_iload hx hb dL_law_850 (lv_at hl 15 rfl) ?_
        refine lv_iconst (v := 4) hx hb dL_law_852 (by decide) ?_
        refine lv_icmp_ge (tgt := 880) hx hb dL_law_853 (by decide) (fun c380 => ?_) (fun c380 => ?_)
        · rw [if_pos c380] at h
          refine lv_iconst (v := 0) hx hb dL_law_880 (by decide) ?_
          refine lv_istore (lv' := [(16, .int 0), (1, .ref (adL r1)), (2, .ref (adL r2)), (3, .int i3), (4, .int i4), (5, .int i5), (6, .int i6), (7, .int i7), (8, .int i8), (9, .ref (adL r9)), (10, .int i10), (11, .int i11), (12, .int i12), (13, .int i13), (14, .ref (adL r14)), (15, .int i15), (0, .ref b)]) hx hb dL_law_881 hl (by decide) rfl (fun ls hl => ?_)
          exact (ih.2.2.2.2.2.2.2.2.2.2.2.2.2.2.2.2.2.1) NL adL m1 kc ks r1 r2 i3 i4 i5 i6 i7 i8 r9 i10 i11 i12 i13 r14 i15 (0 : Int32) _ _ _ hNN hE hc hs hO n_r1 n_r2 n_r9 n_r14 h hP hD hS (lv_sub hl (l' := [(1, .ref (adL r1)), (2, .ref (adL r2)), (3, .int i3), (4, .int i4), (5, .int i5), (6, .int i6), (7, .int i7), (8, .int i8), (9, .ref (adL r9)), (10, .int i10), (11, .int i11), (12, .int i12), (13, .int i13), (14, .ref (adL r14)), (15, .int i15), (16, .int 0), (0, .ref b)]) [1, 2, 3, 4, 5, 6, 7, 8, 9, 10, 11, 12, 13, 14, 15, 0, 16] rfl)
        · rw [if_neg c380] at h
          refine lv_aload_n hx hb dL_law_856 rfl (lv_at hl 0 rfl) ?_
          refine lv_iconst (v := 2) hx hb dL_law_857 (by decide) ?_
          refine lv_iload hx hb dL_law_858 (lv_at hl 15 rfl) ?_
          refine lv_iadd hx hb dL_law_860 ?_
          obtain ⟨g381, h⟩ := vg_if h
          obtain ⟨q382, g383, h⟩ := vg_bind h
          refine va_calli (va_runV (As := [.int (2 + i16)]) (rest := []) ⟨hx, hb, hml, hown, hts⟩ (cm_X3_count (m0 := m1) l D tc adL hO n_r1 g383) (cwV 1 hts gL_law_X3_count rfl rfl rfl (by decide +kernel) ⟨(Nat.le_of_ble_eq_true rfl), (Nat.le_of_ble_eq_true rfl)⟩) ⟨qR_blind, va_recv hK hP (ci := 3) (q0 := r1) rfl (vW_k3 n_r1 g381), qR_pre hP hK hZ⟩ rfl rfl hl.1 rfl (lv_room (Nat.le_of_ble_eq_true rfl)) dL_law_861 ⟨hc, hs⟩) hS (fun q9 _ h9 => h9.elim) (fun q9 h9 => h9.elim) (fun w384 u t H1 locs ht hvm hw hB hz1 hk1 hS => ?_)
          have hP := hP.kept (fun k9 q9 hk9 => hk1 q9.1 (hP k9 q9 hk9).lt (fun h9 => h9))
          generalize H1 = H at hP hS ⊢
          clear hk1 hz1 ht hvm
          have hw : w384 = q382 := hw
          rw [hw]
          refine lv_aload hx hb dL_law_864 (lv_at hl 13 rfl) ?_
          refine lv_iload hx hb dL_law_866 (lv_at hl 15 rfl) ?_
          obtain ⟨g385, h⟩ := vg_if h
          obtain ⟨g386, h⟩ := vg_if h
          refine va_iald (D := D) hx hb hK hP r14 0 (vW_k6 n_r14 g385) rfl (i := i16) g386 dL_law_868 ?_
          refine lv_icmp_eq (tgt := 874) hx hb dL_law_869 (by decide) (fun c387 => ?_) (fun c387 => ?_)
          · rw [if_pos c387] at h
            refine lv_iinc (v := i16 + 1) (lv' := [(16, .int (i16 + 1)), (1, .ref (adL r1)), (2, .ref (adL r2)), (3, .int i3), (4, .int i4), (5, .int i5), (6, .int i6), (7, .int i7), (8, .int i8), (9, .ref (adL r9)), (10, .int i10), (11, .int i11), (12, .int i12), (13, .int i13), (14, .ref (adL r14)), (15, .int i15), (0, .ref b)]) hx hb dL_law_874 hl (k := 15) rfl rfl (by decide) rfl (fun ls hl => ?_)
            refine lv_goto (tgt := 850) hx hb dL_law_877 (by decide) ?_
            exact (ih.2.2.2.2.2.2.2.2.2.2.2.2.2.2.2.2.1) NL adL m1 kc ks r1 r2 i3 i4 i5 i6 i7 i8 r9 i10 i11 i12 i13 r14 i15 (i16 + 1) _ _ _ hNN hE hc hs hO n_r1 n_r2 n_r9 n_r14 h hP hD hS (lv_sub hl (l' := [(1, .ref (adL r1)), (2, .ref (adL r2)), (3, .int i3), (4, .int i4), (5, .int i5), (6, .int i6), (7, .int i7), (8, .int i8), (9, .ref (adL r9)), (10, .int i10), (11, .int i11), (12, .int i12), (13, .int i13), (14, .ref (adL r14)), (15, .int i15), (16, .int (i16 + 1)), (0, .ref b)]) [1, 2, 3, 4, 5, 6, 7, 8, 9, 10, 11, 12, 13, 14, 15, 0, 16] rfl)
          · rw [if_neg c387] at h
            refine lv_iconst (v := 0) hx hb dL_law_872 (by decide) ?_
            have hz := Option.some.inj h
            rw [← hz] at hz1
            exact absurd (show (0 : Int32) = 1 from hz1) (by decide)
      · intro NL adL m1 kc ks r1 r2 i3 i4 i5 i6 i7 i8 r9 i10 i11 i12 i13 r14 i15 i16 H locs ls hNN hE hc hs hO n_r1 n_r2 n_r9 n_r14 h hP hD hS hl
        have h : fB_L_law_883 L xs (fL_L_law L xs n) NL m1 kc ks r1 r2 i3 i4 i5 i6 i7 i8 r9 i10 i11 i12 i13 r14 i15 i16 0 0 0 0 0 0 0 0 0 0 = some z := h
        unfold fB_L_law_883 at h
        refine lv_iload hx hb dL_law_883 (lv_at hl 15 rfl) ?_
        refine lv_aload_n hx hb dL_law_885 rfl (lv_at hl 0 rfl) ?_
        refine lv_bipush (v := 6) hx hb dL_law_886 (by decide) ?_
        obtain ⟨g388, h⟩ := vg_if h
        obtain ⟨q389, g390, h⟩ := vg_bind h
        refine va_calli (va_runV (As := [.int 6]) (rest := [.int i16]) ⟨hx, hb, hml, hown, hts⟩ (cm_X3_count (m0 := m1) l D tc adL hO n_r1 g390) (cwV 1 hts gL_law_X3_count rfl rfl rfl (by decide +kernel) ⟨(Nat.le_of_ble_eq_true rfl), (Nat.le_of_ble_eq_true rfl)⟩) ⟨qR_blind, va_recv hK hP (ci := 3) (q0 := r1) rfl (vW_k3 n_r1 g388), qR_pre hP hK hZ⟩ rfl rfl hl.1 rfl (lv_room (Nat.le_of_ble_eq_true rfl)) dL_law_888 ⟨hc, hs⟩) hS (fun q9 _ h9 => h9.elim) (fun q9 h9 => h9.elim) (fun w391 u t H1 locs ht hvm hw hB hz1 hk1 hS => ?_)
        have hP := hP.kept (fun k9 q9 hk9 => hk1 q9.1 (hP k9 q9 hk9).lt (fun h9 => h9))
        generalize H1 = H at hP hS ⊢
        clear hk1 hz1 ht hvm
        have hw : w391 = q389 := hw
        rw [hw]
        refine lv_icmp_ge (tgt := 1050) hx hb dL_law_891 (by decide) (fun c392 => ?_) (fun c392 => ?_)
        · rw [if_pos c392] at h
          refine lv_iinc (v := i4 + 1) (lv' := [(4, .int (i4 + 1)), (1, .ref (adL r1)), (2, .ref (adL r2)), (3, .int i3), (5, .int i5), (6, .int i6), (7, .int i7), (8, .int i8), (9, .ref (adL r9)), (10, .int i10), (11, .int i11), (12, .int i12), (13, .int i13), (14, .ref (adL r14)), (15, .int i15), (16, .int i16), (0, .ref b)]) hx hb dL_law_1050 hl (k := 3) rfl rfl (by decide) rfl (fun ls hl => ?_)
          refine lv_goto (tgt := 29) hx hb dL_law_1053 (by decide) ?_
          exact (ih.1) NL adL m1 kc ks r1 r2 i3 (i4 + 1) _ _ _ hNN hE hc hs hO n_r1 n_r2 h hP hD hS (lv_sub hl (l' := [(1, .ref (adL r1)), (2, .ref (adL r2)), (3, .int i3), (4, .int (i4 + 1)), (0, .ref b)]) [1, 2, 3, 0, 16] rfl)
        · rw [if_neg c392] at h
          refine lv_aload_n hx hb dL_law_894 rfl (lv_at hl 0 rfl) ?_
          refine lv_iload hx hb dL_law_895 (lv_at hl 15 rfl) ?_
          refine lv_iconst (v := 0) hx hb dL_law_897 (by decide) ?_
          obtain ⟨q393, g394, h⟩ := vg_bind h
          refine va_calli (va_runV (As := [.int i16, .int 0]) (rest := []) ⟨hx, hb, hml, hown, hts⟩ (cm_X3_voice (m0 := m1) l D tc adL hO n_r1 g394) (cwV 2 hts gL_law_X3_voice rfl rfl rfl (by decide +kernel) ⟨(Nat.le_of_ble_eq_true rfl), (Nat.le_of_ble_eq_true rfl)⟩) ⟨qR_blind, va_recv hK hP (ci := 3) (q0 := r1) rfl (vW_k3 n_r1 g388), qR_pre hP hK hZ⟩ rfl rfl hl.1 rfl (lv_room (Nat.le_of_ble_eq_true rfl)) dL_law_898 ⟨hc, hs⟩) hS (fun q9 _ h9 => h9.elim) (fun q9 h9 => h9.elim) (fun w395 u t H1 locs ht hvm hw hB hz1 hk1 hS => ?_)
          have hP := hP.kept (fun k9 q9 hk9 => hk1 q9.1 (hP k9 q9 hk9).lt (fun h9 => h9))
          generalize H1 = H at hP hS ⊢
          clear hk1 hz1 ht hvm
          have hw : w395 = q393 := hw
          rw [hw]
          refine lv_istore (lv' := [(17, .int q393), (1, .ref (adL r1)), (2, .ref (adL r2)), (3, .int i3), (4, .int i4), (5, .int i5), (6, .int i6), (7, .int i7), (8, .int i8), (9, .ref (adL r9)), (10, .int i10), (11, .int i11), (12, .int i12), (13, .int i13), (14, .ref (adL r14)), (15, .int i15), (16, .int i16), (0, .ref b)]) hx hb dL_law_901 hl (by decide) rfl (fun ls hl => ?_)
          refine lv_aload_n hx hb dL_law_903 rfl (lv_at hl 1 rfl) ?_
          refine lv_iload hx hb dL_law_904 (lv_at hl 16 rfl) ?_
          refine lv_iconst (v := 1) hx hb dL_law_906 (by decide) ?_
          obtain ⟨q396, g397, h⟩ := vg_bind h
          refine va_calli (va_runV (As := [.int i16, .int 1]) (rest := []) ⟨hx, hb, hml, hown, hts⟩ (cm_X3_voice (m0 := m1) l D tc adL hO n_r1 g397) (cwV 2 hts gL_law_X3_voice rfl rfl rfl (by decide +kernel) ⟨(Nat.le_of_ble_eq_true rfl), (Nat.le_of_ble_eq_true rfl)⟩) ⟨qR_blind, va_recv hK hP (ci := 3) (q0 := r1) rfl (vW_k3 n_r1 g388), qR_pre hP hK hZ⟩ rfl rfl hl.1 rfl (lv_room (Nat.le_of_ble_eq_true rfl)) dL_law_907 ⟨hc, hs⟩) hS (fun q9 _ h9 => h9.elim) (fun q9 h9 => h9.elim) (fun w398 u t H1 locs ht hvm hw hB hz1 hk1 hS => ?_)
          have hP := hP.kept (fun k9 q9 hk9 => hk1 q9.1 (hP k9 q9 hk9).lt (fun h9 => h9))
          generalize H1 = H at hP hS ⊢
          clear hk1 hz1 ht hvm
          have hw : w398 = q396 := hw
          rw [hw]
          refine lv_istore (lv' := [(18, .int q396), (17, .int q393), (1, .ref (adL r1)), (2, .ref (adL r2)), (3, .int i3), (4, .int i4), (5, .int i5), (6, .int i6), (7, .int i7), (8, .int i8), (9, .ref (adL r9)), (10, .int i10), (11, .int i11), (12, .int i12), (13, .int i13), (14, .ref (adL r14)), (15, .int i15), (16, .int i16), (0, .ref b)]) hx hb dL_law_910 hl (by decide) rfl (fun ls hl => ?_)
          refine lv_aload_n hx hb dL_law_912 rfl (lv_at hl 2 rfl) ?_
          refine lv_iload hx hb dL_law_913 (lv_at hl 17 rfl) ?_
          refine lv_iconst (v := 2) hx hb dL_law_915 (by decide) ?_
          obtain ⟨q399, g400, h⟩ := vg_bind h
          refine va_calli (va_runV (As := [.int i16, .int 2]) (rest := []) ⟨hx, hb, hml, hown, hts⟩ (cm_X3_voice (m0 := m1) l D tc adL hO n_r1 g400) (cwV 2 hts gL_law_X3_voice rfl rfl rfl (by decide +kernel) ⟨(Nat.le_of_ble_eq_true rfl), (Nat.le_of_ble_eq_true rfl)⟩) ⟨qR_blind, va_recv hK hP (ci := 3) (q0 := r1) rfl (vW_k3 n_r1 g388), qR_pre hP hK hZ⟩ rfl rfl hl.1 rfl (lv_room (Nat.le_of_ble_eq_true rfl)) dL_law_916 ⟨hc, hs⟩) hS (fun q9 _ h9 => h9.elim) (fun q9 h9 => h9.elim) (fun w401 u t H1 locs ht hvm hw hB hz1 hk1 hS => ?_)
          have hP := hP.kept (fun k9 q9 hk9 => hk1 q9.1 (hP k9 q9 hk9).lt (fun h9 => h9))
          generalize H1 = H at hP hS ⊢
          clear hk1 hz1 ht hvm
          have hw : w401 = q399 := hw
          rw [hw]
          refine lv_if_ne (tgt := 926) hx hb dL_law_919 (by decide) (fun c402 => ?_) (fun c402 => ?_)
          · rw [if_neg c402] at h
            refine lv_iconst (v := 0) hx hb dL_law_926 (by decide) ?_
            refine lv_istore (lv' := [(19, .int 0), (18, .int q396), (17, .int q393), (1, .ref (adL r1)), (2, .ref (adL r2)), (3, .int i3), (4, .int i4), (5, .int i5), (6, .int i6), (7, .int i7), (8, .int i8), (9, .ref (adL r9)), (10, .int i10), (11, .int i11), (12, .int i12), (13, .int i13), (14, .ref (adL r14)), (15, .int i15), (16, .int i16), (0, .ref b)]) hx hb dL_law_927 hl (by decide) rfl (fun ls hl => ?_)
            exact (ih.2.2.2.2.2.2.2.2.2.2.2.2.2.2.2.2.2.2.1) NL adL m1 kc ks r1 r2 i3 i4 i5 i6 i7 i8 r9 i10 i11 i12 i13 r14 i15 i16 q393 q396 (0 : Int32) _ _ _ hNN hE hc hs hO n_r1 n_r2 n_r9 n_r14 h hP hD hS (lv_sub hl (l' := [(1, .ref (adL r1)), (2, .ref (adL r2)), (3, .int i3), (4, .int i4), (5, .int i5), (6, .int i6), (7, .int i7), (8, .int i8), (9, .ref (adL r9)), (10, .int i10), (11, .int i11), (12, .int i12), (13, .int i13), (14, .ref (adL r14)), (15, .int i15), (16, .int i16), (17, .int q393), (18, .int q396), (19, .int 0), (0, .ref b)]) [3, 4, 5, 6, 7, 8, 9, 10, 11, 12, 13, 14, 15, 16, 17, 18, 2, 1, 0, 19] rfl)
          · rw [if_pos c402] at h
            refine lv_iconst (v := 1) hx hb dL_law_922 (by decide) ?_
            refine lv_goto (tgt := 927) hx hb dL_law_923 (by decide) ?_
            refine lv_istore (lv' := [(19, .int 1), (18, .int q396), (17, .int q393), (1, .ref (adL r1)), (2, .ref (adL r2)), (3, .int i3), (4, .int i4), (5, .int i5), (6, .int i6), (7, .int i7), (8, .int i8), (9, .ref (adL r9)), (10, .int i10), (11, .int i11), (12, .int i12), (13, .int i13), (14, .ref (adL r14)), (15, .int i15), (16, .int i16), (0, .ref b)]) hx hb dL_law_927 hl (by decide) rfl (fun ls hl => ?_)
            exact (ih.2.2.2.2.2.2.2.2.2.2.2.2.2.2.2.2.2.2.1) NL adL m1 kc ks r1 r2 i3 i4 i5 i6 i7 i8 r9 i10 i11 i12 i13 r14 i15 i16 q393 q396 (1 : Int32) _ _ _ hNN hE hc hs hO n_r1 n_r2 n_r9 n_r14 h hP hD hS (lv_sub hl (l' := [(1, .ref (adL r1)), (2, .ref (adL r2)), (3, .int i3), (4, .int i4), (5, .int i5), (6, .int i6), (7, .int i7), (8, .int i8), (9, .ref (adL r9)), (10, .int i10), (11, .int i11), (12, .int i12), (13, .int i13), (14, .ref (adL r14)), (15, .int i15), (16, .int i16), (17, .int q393), (18, .int q396), (19, .int 1), (0, .ref b)]) [3, 4, 5, 6, 7, 8, 9, 10, 11, 12, 13, 14, 15, 16, 17, 18, 2, 1, 0, 19] rfl)
      · intro NL adL m1 kc ks r1 r2 i3 i4 i5 i6 i7 i8 r9 i10 i11 i12 i13 r14 i15 i16 i17 i18 i19 H locs ls hNN hE hc hs hO n_r1 n_r2 n_r9 n_r14 h hP hD hS hl
        have h : fB_L_law_929 L xs (fL_L_law L xs n) NL m1 kc ks r1 r2 i3 i4 i5 i6 i7 i8 r9 i10 i11 i12 i13 r14 i15 i16 i17 i18 i19 0 0 0 0 0 0 0 = some z := h
        unfold fB_L_law_929 at h
        refine lv_iload hx hb dL_law_929 (lv_at hl 18 rfl) ?_
        refine lv_if_eq (tgt := 939) hx hb dL_law_931 (by decide) (fun c403 => ?_) (fun c403 => ?_)
        · rw [if_pos c403] at h
          refine lv_iload hx hb dL_law_939 (lv_at hl 17 rfl) ?_
          refine lv_istore (lv' := [(20, .int i18), (1, .ref (adL r1)), (2, .ref (adL r2)), (3, .int i3), (4, .int i4), (5, .int i5), (6, .int i6), (7, .int i7), (8, .int i8), (9, .ref (adL r9)), (10, .int i10), (11, .int i11), (12, .int i12), (13, .int i13), (14, .ref (adL r14)), (15, .int i15), (16, .int i16), (17, .int i17), (18, .int i18), (19, .int i19), (0, .ref b)]) hx hb dL_law_941 hl (by decide) rfl (fun ls hl => ?_)
          exact (ih.2.2.2.2.2.2.2.2.2.2.2.2.2.2.2.2.2.2.2.1) NL adL m1 kc ks r1 r2 i3 i4 i5 i6 i7 i8 r9 i10 i11 i12 i13 r14 i15 i16 i17 i18 i19 i18 _ _ _ hNN hE hc hs hO n_r1 n_r2 n_r9 n_r14 h hP hD hS (lv_sub hl (l' := [(1, .ref (adL r1)), (2, .ref (adL r2)), (3, .int i3), (4, .int i4), (5, .int i5), (6, .int i6), (7, .int i7), (8, .int i8), (9, .ref (adL r9)), (10, .int i10), (11, .int i11), (12, .int i12), (13, .int i13), (14, .ref (adL r14)), (15, .int i15), (16, .int i16), (17, .int i17), (18, .int i18), (19, .int i19), (20, .int i18), (0, .ref b)]) [1, 2, 3, 4, 5, 6, 7, 8, 9, 10, 11, 12, 13, 14, 15, 16, 17, 18, 19, 0, 20] rfl)
        · rw [if_neg c403] at h
          refine lv_iload hx hb dL_law_934 (lv_at hl 16 rfl) ?_
          refine lv_goto (tgt := 941) hx hb dL_law_936 (by decide) ?_
          refine lv_istore (lv' := [(20, .int i17), (1, .ref (adL r1)), (2, .ref (adL r2)), (3, .int i3), (4, .int i4), (5, .int i5), (6, .int i6), (7, .int i7), (8, .int i8), (9, .ref (adL r9)), (10, .int i10), (11, .int i11), (12, .int i12), (13, .int i13), (14, .ref (adL r14)), (15, .int i15), (16, .int i16), (17, .int i17), (18, .int i18), (19, .int i19), (0, .ref b)]) hx hb dL_law_941 hl (by decide) rfl (fun ls hl => ?_)
          exact (ih.2.2.2.2.2.2.2.2.2.2.2.2.2.2.2.2.2.2.2.1) NL adL m1 kc ks r1 r2 i3 i4 i5 i6 i7 i8 r9 i10 i11 i12 i13 r14 i15 i16 i17 i18 i19 i17 _ _ _ hNN hE hc hs hO n_r1 n_r2 n_r9 n_r14 h hP hD hS (lv_sub hl (l' := [(1, .ref (adL r1)), (2, .ref (adL r2)), (3, .int i3), (4, .int i4), (5, .int i5), (6, .int i6), (7, .int i7), (8, .int i8), (9, .ref (adL r9)), (10, .int i10), (11, .int i11), (12, .int i12), (13, .int i13), (14, .ref (adL r14)), (15, .int i15), (16, .int i16), (17, .int i17), (18, .int i18), (19, .int i19), (20, .int i17), (0, .ref b)]) [1, 2, 3, 4, 5, 6, 7, 8, 9, 10, 11, 12, 13, 14, 15, 16, 17, 18, 19, 0, 20] rfl)
      · intro NL adL m1 kc ks r1 r2 i3 i4 i5 i6 i7 i8 r9 i10 i11 i12 i13 r14 i15 i16 i17 i18 i19 i20 H locs ls hNN hE hc hs hO n_r1 n_r2 n_r9 n_r14 h hP hD hS hl
        have h : fB_L_law_943 L xs (fL_L_law L xs n) NL m1 kc ks r1 r2 i3 i4 i5 i6 i7 i8 r9 i10 i11 i12 i13 r14 i15 i16 i17 i18 i19 i20 0 0 0 0 0 0 = some z := h
        unfold fB_L_law_943 at h
        refine lv_iload hx hb dL_law_943 (lv_at hl 18 rfl) ?_
        refine lv_if_eq (tgt := 953) hx hb dL_law_945 (by decide) (fun c404 => ?_) (fun c404 => ?_)
        · rw [if_pos c404] at h
          refine lv_iload hx hb dL_law_953 (lv_at hl 16 rfl) ?_
          refine lv_istore (lv' := [(21, .int i17), (1, .ref (adL r1)), (2, .ref (adL r2)), (3, .int i3), (4, .int i4), (5, .int i5), (6, .int i6), (7, .int i7), (8, .int i8), (9, .ref (adL r9)), (10, .int i10), (11, .int i11), (12, .int i12), (13, .int i13), (14, .ref (adL r14)), (15, .int i15), (16, .int i16), (17, .int i17), (18, .int i18), (19, .int i19), (20, .int i20), (0, .ref b)]) hx hb dL_law_955 hl (by decide) rfl (fun ls hl => ?_)
          exact (ih.2.2.2.2.2.2.2.2.2.2.2.2.2.2.2.2.2.2.2.2.1) NL adL m1 kc ks r1 r2 i3 i4 i5 i6 i7 i8 r9 i10 i11 i12 i13 r14 i15 i16 i17 i18 i19 i20 i17 _ _ _ hNN hE hc hs hO n_r1 n_r2 n_r9 n_r14 h hP hD hS (lv_sub hl (l' := [(1, .ref (adL r1)), (2, .ref (adL r2)), (3, .int i3), (4, .int i4), (5, .int i5), (6, .int i6), (7, .int i7), (8, .int i8), (9, .ref (adL r9)), (10, .int i10), (11, .int i11), (12, .int i12), (13, .int i13), (14, .ref (adL r14)), (15, .int i15), (16, .int i16), (17, .int i17), (18, .int i18), (19, .int i19), (20, .int i20), (21, .int i17), (0, .ref b)]) [1, 2, 3, 4, 5, 6, 7, 8, 9, 10, 11, 12, 13, 14, 15, 16, 17, 18, 19, 20, 0, 21] rfl)
        · rw [if_neg c404] at h
          refine lv_iload hx hb dL_law_948 (lv_at hl 17 rfl) ?_
          refine lv_goto (tgt := 955) hx hb dL_law_950 (by decide) ?_
          refine lv_istore (lv' := [(21, .int i18), (1, .ref (adL r1)), (2, .ref (adL r2)), (3, .int i3), (4, .int i4), (5, .int i5), (6, .int i6), (7, .int i7), (8, .int i8), (9, .ref (adL r9)), (10, .int i10), (11, .int i11), (12, .int i12), (13, .int i13), (14, .ref (adL r14)), (15, .int i15), (16, .int i16), (17, .int i17), (18, .int i18), (19, .int i19), (20, .int i20), (0, .ref b)]) hx hb dL_law_955 hl (by decide) rfl (fun ls hl => ?_)
          exact (ih.2.2.2.2.2.2.2.2.2.2.2.2.2.2.2.2.2.2.2.2.1) NL adL m1 kc ks r1 r2 i3 i4 i5 i6 i7 i8 r9 i10 i11 i12 i13 r14 i15 i16 i17 i18 i19 i20 i18 _ _ _ hNN hE hc hs hO n_r1 n_r2 n_r9 n_r14 h hP hD hS (lv_sub hl (l' := [(1, .ref (adL r1)), (2, .ref (adL r2)), (3, .int i3), (4, .int i4), (5, .int i5), (6, .int i6), (7, .int i7), (8, .int i8), (9, .ref (adL r9)), (10, .int i10), (11, .int i11), (12, .int i12), (13, .int i13), (14, .ref (adL r14)), (15, .int i15), (16, .int i16), (17, .int i17), (18, .int i18), (19, .int i19), (20, .int i20), (21, .int i18), (0, .ref b)]) [1, 2, 3, 4, 5, 6, 7, 8, 9, 10, 11, 12, 13, 14, 15, 16, 17, 18, 19, 20, 0, 21] rfl)
      · intro NL adL m1 kc ks r1 r2 i3 i4 i5 i6 i7 i8 r9 i10 i11 i12 i13 r14 i15 i16 i17 i18 i19 i20 i21 H locs ls hNN hE hc hs hO n_r1 n_r2 n_r9 n_r14 h hP hD hS hl
        have h : fB_L_law_957 L xs (fL_L_law L xs n) NL m1 kc ks r1 r2 i3 i4 i5 i6 i7 i8 r9 i10 i11 i12 i13 r14 i15 i16 i17 i18 i19 i20 i21 0 0 0 0 0 = some z := h
        unfold fB_L_law_957 at h
        refine lv_iconst (v := 0) hx hb dL_law_957 (by decide) ?_
        refine lv_istore (lv' := [(22, .int 0), (1, .ref (adL r1)), (2, .ref (adL r2)), (3, .int i3), (4, .int i4), (5, .int i5), (6, .int i6), (7, .int i7), (8, .int i8), (9, .ref (adL r9)), (10, .int i10), (11, .int i11), (12, .int i12), (13, .int i13), (14, .ref (adL r14)), (15, .int i15), (16, .int i16), (17, .int i17), (18, .int i18), (19, .int i19), (20, .int i20), (21, .int i21), (0, .ref b)]) hx hb dL_law_958 hl (by decide) rfl (fun ls hl => ?_)
        refine lv_iconst (v := 0) hx hb dL_law_960 (by decide) ?_
        refine lv_istore (lv' := [(23, .int 0), (22, .int 0), (1, .ref (adL r1)), (2, .ref (adL r2)), (3, .int i3), (4, .int i4), (5, .int i5), (6, .int i6), (7, .int i7), (8, .int i8), (9, .ref (adL r9)), (10, .int i10), (11, .int i11), (12, .int i12), (13, .int i13), (14, .ref (adL r14)), (15, .int i15), (16, .int i16), (17, .int i17), (18, .int i18), (19, .int i19), (20, .int i20), (21, .int i21), (0, .ref b)]) hx hb dL_law_961 hl (by decide) rfl (fun ls hl => ?_)
        exact (ih.2.2.2.2.2.2.2.2.2.2.2.2.2.2.2.2.2.2.2.2.2.1) NL adL m1 kc ks r1 r2 i3 i4 i5 i6 i7 i8 r9 i10 i11 i12 i13 r14 i15 i16 i17 i18 i19 i20 i21 (0 : Int32) (0 : Int32) _ _ _ hNN hE hc hs hO n_r1 n_r2 n_r9 n_r14 h hP hD hS (lv_sub hl (l' := [(1, .ref (adL r1)), (2, .ref (adL r2)), (3, .int i3), (4, .int i4), (5, .int i5), (6, .int i6), (7, .int i7), (8, .int i8), (9, .ref (adL r9)), (10, .int i10), (11, .int i11), (12, .int i12), (13, .int i13), (14, .ref (adL r14)), (15, .int i15), (16, .int i16), (17, .int i17), (18, .int i18), (19, .int i19), (20, .int i20), (21, .int i21), (22, .int 0), (23, .int 0), (0, .ref b)]) [2, 3, 4, 5, 6, 7, 8, 9, 10, 11, 12, 13, 14, 15, 16, 17, 18, 19, 20, 21, 22, 1, 0, 23] rfl)
      · intro NL adL m1 kc ks r1 r2 i3 i4 i5 i6 i7 i8 r9 i10 i11 i12 i13 r14 i15 i16 i17 i18 i19 i20 i21 i22 i23 H locs ls hNN hE hc hs hO n_r1 n_r2 n_r9 n_r14 h hP hD hS hl
        have h : fB_L_law_963 L xs (fL_L_law L xs n) NL m1 kc ks r1 r2 i3 i4 i5 i6 i7 i8 r9 i10 i11 i12 i13 r14 i15 i16 i17 i18 i19 i20 i21 i22 i23 0 0 0 = some z := h
        unfold fB_L_law_963 at h
        refine lv_iload hx hb dL_law_963 (lv_at hl 22 rfl) ?_
        refine lv_aload_n hx hb dL_law_965 rfl (lv_at hl 0 rfl) ?_
        refine lv_iload hx hb dL_law_966 (lv_at hl 19 rfl) ?_
        refine lv_iconst (v := 3) hx hb dL_law_968 (by decide) ?_
        obtain ⟨g405, h⟩ := vg_if h
        obtain ⟨q406, g407, h⟩ := vg_bind h
        refine va_calli (va_runV (As := [.int i20, .int 3]) (rest := [.int i23]) ⟨hx, hb, hml, hown, hts⟩ (cm_X3_door (m0 := m1) l D tc adL hO n_r1 g407) (cwV 2 hts gL_law_X3_door rfl rfl rfl (by decide +kernel) ⟨(Nat.le_of_ble_eq_true rfl), (Nat.le_of_ble_eq_true rfl)⟩) ⟨qR_blind, va_recv hK hP (ci := 3) (q0 := r1) rfl (vW_k3 n_r1 g405), qR_pre hP hK hZ⟩ rfl rfl hl.1 rfl (lv_room (Nat.le_of_ble_eq_true rfl)) dL_law_969 ⟨hc, hs⟩) hS (fun q9 _ h9 => h9.elim) (fun q9 h9 => h9.elim) (fun w408 u t H1 locs ht hvm hw hB hz1 hk1 hS => ?_)
        have hP := hP.kept (fun k9 q9 hk9 => hk1 q9.1 (hP k9 q9 hk9).lt (fun h9 => h9))
        generalize H1 = H at hP hS ⊢
        clear hk1 hz1 ht hvm
        have hw : w408 = q406 := hw
        rw [hw]
        refine lv_icmp_ge (tgt := 1037) hx hb dL_law_972 (by decide) (fun c409 => ?_) (fun c409 => ?_)
        · rw [if_pos c409] at h
          refine lv_iload hx hb dL_law_1037 (lv_at hl 21 rfl) ?_
          refine lv_if_ne (tgt := 1044) hx hb dL_law_1039 (by decide) (fun c410 => ?_) (fun c410 => ?_)
          · rw [if_neg c410] at h
            refine lv_iinc (v := i16 + 1) (lv' := [(16, .int (i16 + 1)), (1, .ref (adL r1)), (2, .ref (adL r2)), (3, .int i3), (4, .int i4), (5, .int i5), (6, .int i6), (7, .int i7), (8, .int i8), (9, .ref (adL r9)), (10, .int i10), (11, .int i11), (12, .int i12), (13, .int i13), (14, .ref (adL r14)), (15, .int i15), (17, .int i17), (18, .int i18), (19, .int i19), (20, .int i20), (21, .int i21), (22, .int i22), (23, .int i23), (0, .ref b)]) hx hb dL_law_1044 hl (k := 15) rfl rfl (by decide) rfl (fun ls hl => ?_)
            refine lv_goto (tgt := 883) hx hb dL_law_1047 (by decide) ?_
            exact (ih.2.2.2.2.2.2.2.2.2.2.2.2.2.2.2.2.2.1) NL adL m1 kc ks r1 r2 i3 i4 i5 i6 i7 i8 r9 i10 i11 i12 i13 r14 i15 (i16 + 1) _ _ _ hNN hE hc hs hO n_r1 n_r2 n_r9 n_r14 h hP hD hS (lv_sub hl (l' := [(1, .ref (adL r1)), (2, .ref (adL r2)), (3, .int i3), (4, .int i4), (5, .int i5), (6, .int i6), (7, .int i7), (8, .int i8), (9, .ref (adL r9)), (10, .int i10), (11, .int i11), (12, .int i12), (13, .int i13), (14, .ref (adL r14)), (15, .int i15), (16, .int (i16 + 1)), (0, .ref b)]) [1, 2, 3, 4, 5, 6, 7, 8, 9, 10, 11, 12, 13, 14, 15, 0, 23] rfl)
          · rw [if_pos c410] at h
            refine lv_iconst (v := 0) hx hb dL_law_1042 (by decide) ?_
            have hz := Option.some.inj h
            rw [← hz] at hz1
            exact absurd (show (0 : Int32) = 1 from hz1) (by decide)
        · rw [if_neg c409] at h
          refine lv_iload hx hb dL_law_975 (lv_at hl 21 rfl) ?_
          refine lv_if_ne (tgt := 1024) hx hb dL_law_977 (by decide) (fun c411 => ?_) (fun c411 => ?_)
          · rw [if_neg c411] at h
            refine lv_iconst (v := 1) hx hb dL_law_1024 (by decide) ?_
            refine lv_goto (tgt := 1029) hx hb dL_law_1025 (by decide) ?_
            refine lv_istore (lv' := [(22, .int 1), (1, .ref (adL r1)), (2, .ref (adL r2)), (3, .int i3), (4, .int i4), (5, .int i5), (6, .int i6), (7, .int i7), (8, .int i8), (9, .ref (adL r9)), (10, .int i10), (11, .int i11), (12, .int i12), (13, .int i13), (14, .ref (adL r14)), (15, .int i15), (16, .int i16), (17, .int i17), (18, .int i18), (19, .int i19), (20, .int i20), (21, .int i21), (23, .int i23), (0, .ref b)]) hx hb dL_law_1029 hl (by decide) rfl (fun ls hl => ?_)
            exact (ih.2.2.2.2.2.2.2.2.2.2.2.2.2.2.2.2.2.2.2.2.2.2) NL adL m1 kc ks r1 r2 i3 i4 i5 i6 i7 i8 r9 i10 i11 i12 i13 r14 i15 i16 i17 i18 i19 i20 i21 (1 : Int32) i23 _ _ _ hNN hE hc hs hO n_r1 n_r2 n_r9 n_r14 h hP hD hS (lv_sub hl (l' := [(1, .ref (adL r1)), (2, .ref (adL r2)), (3, .int i3), (4, .int i4), (5, .int i5), (6, .int i6), (7, .int i7), (8, .int i8), (9, .ref (adL r9)), (10, .int i10), (11, .int i11), (12, .int i12), (13, .int i13), (14, .ref (adL r14)), (15, .int i15), (16, .int i16), (17, .int i17), (18, .int i18), (19, .int i19), (20, .int i20), (21, .int i21), (22, .int 1), (23, .int i23), (0, .ref b)]) [1, 2, 3, 4, 5, 6, 7, 8, 9, 10, 11, 12, 13, 14, 15, 16, 17, 18, 19, 20, 21, 0, 22, 23] rfl)
          · rw [if_pos c411] at h
            refine lv_aload_n hx hb dL_law_980 rfl (lv_at hl 0 rfl) ?_
            refine lv_iload hx hb dL_law_981 (lv_at hl 19 rfl) ?_
            refine lv_iload hx hb dL_law_983 (lv_at hl 22 rfl) ?_
            refine lv_iconst (v := 0) hx hb dL_law_985 (by decide) ?_
            obtain ⟨q412, g413, h⟩ := vg_bind h
            refine va_calli (va_runV (As := [.int i20, .int i23, .int 0]) (rest := []) ⟨hx, hb, hml, hown, hts⟩ (cm_X3_asks (m0 := m1) l D tc adL hO n_r1 g413) (cwV 3 hts gL_law_X3_asks rfl rfl rfl (by decide +kernel) ⟨(Nat.le_of_ble_eq_true rfl), (Nat.le_of_ble_eq_true rfl)⟩) ⟨qR_blind, va_recv hK hP (ci := 3) (q0 := r1) rfl (vW_k3 n_r1 g405), qR_pre hP hK hZ⟩ rfl rfl hl.1 rfl (lv_room (Nat.le_of_ble_eq_true rfl)) dL_law_986 ⟨hc, hs⟩) hS (fun q9 _ h9 => h9.elim) (fun q9 h9 => h9.elim) (fun w414 u t H1 locs ht hvm hw hB hz1 hk1 hS => ?_)
            have hP := hP.kept (fun k9 q9 hk9 => hk1 q9.1 (hP k9 q9 hk9).lt (fun h9 => h9))
            generalize H1 = H at hP hS ⊢
            clear hk1 hz1 ht hvm
            have hw : w414 = q412 := hw
            rw [hw]
            refine lv_iload hx hb dL_law_989 (lv_at hl 20 rfl) ?_
            refine lv_icmp_ne (tgt := 1028) hx hb dL_law_991 (by decide) (fun c415 => ?_) (fun c415 => ?_)
            · rw [if_neg c415] at h
              refine lv_iconst (v := 0) hx hb dL_law_1028 (by decide) ?_
              refine lv_istore (lv' := [(22, .int 0), (1, .ref (adL r1)), (2, .ref (adL r2)), (3, .int i3), (4, .int i4), (5, .int i5), (6, .int i6), (7, .int i7), (8, .int i8), (9, .ref (adL r9)), (10, .int i10), (11, .int i11), (12, .int i12), (13, .int i13), (14, .ref (adL r14)), (15, .int i15), (16, .int i16), (17, .int i17), (18, .int i18), (19, .int i19), (20, .int i20), (21, .int i21), (23, .int i23), (0, .ref b)]) hx hb dL_law_1029 hl (by decide) rfl (fun ls hl => ?_)
              exact (ih.2.2.2.2.2.2.2.2.2.2.2.2.2.2.2.2.2.2.2.2.2.2) NL adL m1 kc ks r1 r2 i3 i4 i5 i6 i7 i8 r9 i10 i11 i12 i13 r14 i15 i16 i17 i18 i19 i20 i21 (0 : Int32) i23 _ _ _ hNN hE hc hs hO n_r1 n_r2 n_r9 n_r14 h hP hD hS (lv_sub hl (l' := [(1, .ref (adL r1)), (2, .ref (adL r2)), (3, .int i3), (4, .int i4), (5, .int i5), (6, .int i6), (7, .int i7), (8, .int i8), (9, .ref (adL r9)), (10, .int i10), (11, .int i11), (12, .int i12), (13, .int i13), (14, .ref (adL r14)), (15, .int i15), (16, .int i16), (17, .int i17), (18, .int i18), (19, .int i19), (20, .int i20), (21, .int i21), (22, .int 0), (23, .int i23), (0, .ref b)]) [1, 2, 3, 4, 5, 6, 7, 8, 9, 10, 11, 12, 13, 14, 15, 16, 17, 18, 19, 20, 21, 0, 22, 23] rfl)
            · rw [if_pos c415] at h
              refine lv_aload_n hx hb dL_law_994 rfl (lv_at hl 0 rfl) ?_
              refine lv_iload hx hb dL_law_995 (lv_at hl 15 rfl) ?_
              refine lv_iconst (v := 3) hx hb dL_law_997 (by decide) ?_
              obtain ⟨q416, g417, h⟩ := vg_bind h
              refine va_calli (va_runV (As := [.int i16, .int 3]) (rest := []) ⟨hx, hb, hml, hown, hts⟩ (cm_X3_voice (m0 := m1) l D tc adL hO n_r1 g417) (cwV 2 hts gL_law_X3_voice rfl rfl rfl (by decide +kernel) ⟨(Nat.le_of_ble_eq_true rfl), (Nat.le_of_ble_eq_true rfl)⟩) ⟨qR_blind, va_recv hK hP (ci := 3) (q0 := r1) rfl (vW_k3 n_r1 g405), qR_pre hP hK hZ⟩ rfl rfl hl.1 rfl (lv_room (Nat.le_of_ble_eq_true rfl)) dL_law_998 ⟨hc, hs⟩) hS (fun q9 _ h9 => h9.elim) (fun q9 h9 => h9.elim) (fun w418 u t H1 locs ht hvm hw hB hz1 hk1 hS => ?_)
              have hP := hP.kept (fun k9 q9 hk9 => hk1 q9.1 (hP k9 q9 hk9).lt (fun h9 => h9))
              generalize H1 = H at hP hS ⊢
              clear hk1 hz1 ht hvm
              have hw : w418 = q416 := hw
              rw [hw]
              refine lv_iconst (v := 1) hx hb dL_law_1001 (by decide) ?_
              refine lv_icmp_lt (tgt := 1028) hx hb dL_law_1002 (by decide) (fun c419 => ?_) (fun c419 => ?_)
              · rw [if_pos c419] at h
                refine lv_iconst (v := 0) hx hb dL_law_1028 (by decide) ?_
                refine lv_istore (lv' := [(22, .int 0), (1, .ref (adL r1)), (2, .ref (adL r2)), (3, .int i3), (4, .int i4), (5, .int i5), (6, .int i6), (7, .int i7), (8, .int i8), (9, .ref (adL r9)), (10, .int i10), (11, .int i11), (12, .int i12), (13, .int i13), (14, .ref (adL r14)), (15, .int i15), (16, .int i16), (17, .int i17), (18, .int i18), (19, .int i19), (20, .int i20), (21, .int i21), (23, .int i23), (0, .ref b)]) hx hb dL_law_1029 hl (by decide) rfl (fun ls hl => ?_)
                exact (ih.2.2.2.2.2.2.2.2.2.2.2.2.2.2.2.2.2.2.2.2.2.2) NL adL m1 kc ks r1 r2 i3 i4 i5 i6 i7 i8 r9 i10 i11 i12 i13 r14 i15 i16 i17 i18 i19 i20 i21 (0 : Int32) i23 _ _ _ hNN hE hc hs hO n_r1 n_r2 n_r9 n_r14 h hP hD hS (lv_sub hl (l' := [(1, .ref (adL r1)), (2, .ref (adL r2)), (3, .int i3), (4, .int i4), (5, .int i5), (6, .int i6), (7, .int i7), (8, .int i8), (9, .ref (adL r9)), (10, .int i10), (11, .int i11), (12, .int i12), (13, .int i13), (14, .ref (adL r14)), (15, .int i15), (16, .int i16), (17, .int i17), (18, .int i18), (19, .int i19), (20, .int i20), (21, .int i21), (22, .int 0), (23, .int i23), (0, .ref b)]) [1, 2, 3, 4, 5, 6, 7, 8, 9, 10, 11, 12, 13, 14, 15, 16, 17, 18, 19, 20, 21, 0, 22, 23] rfl)
              · rw [if_neg c419] at h
                refine lv_aload_n hx hb dL_law_1005 rfl (lv_at hl 0 rfl) ?_
                refine lv_iload hx hb dL_law_1006 (lv_at hl 15 rfl) ?_
                refine lv_iconst (v := 3) hx hb dL_law_1008 (by decide) ?_
                obtain ⟨q420, g421, h⟩ := vg_bind h
                refine va_calli (va_runV (As := [.int i16, .int 3]) (rest := []) ⟨hx, hb, hml, hown, hts⟩ (cm_X3_voice (m0 := m1) l D tc adL hO n_r1 g421) (cwV 2 hts gL_law_X3_voice rfl rfl rfl (by decide +kernel) ⟨(Nat.le_of_ble_eq_true rfl), (Nat.le_of_ble_eq_true rfl)⟩) ⟨qR_blind, va_recv hK hP (ci := 3) (q0 := r1) rfl (vW_k3 n_r1 g405), qR_pre hP hK hZ⟩ rfl rfl hl.1 rfl (lv_room (Nat.le_of_ble_eq_true rfl)) dL_law_1009 ⟨hc, hs⟩) hS (fun q9 _ h9 => h9.elim) (fun q9 h9 => h9.elim) (fun w422 u t H1 locs ht hvm hw hB hz1 hk1 hS => ?_)
                have hP := hP.kept (fun k9 q9 hk9 => hk1 q9.1 (hP k9 q9 hk9).lt (fun h9 => h9))
                generalize H1 = H at hP hS ⊢
                clear hk1 hz1 ht hvm
                have hw : w422 = q420 := hw
                rw [hw]
                refine lv_aload_n hx hb dL_law_1012 rfl (lv_at hl 0 rfl) ?_
                refine lv_iload hx hb dL_law_1013 (lv_at hl 19 rfl) ?_
                refine lv_iload hx hb dL_law_1015 (lv_at hl 22 rfl) ?_
                refine lv_iconst (v := 1) hx hb dL_law_1017 (by decide) ?_
                obtain ⟨q423, g424, h⟩ := vg_bind h
                refine va_calli (va_runV (As := [.int i20, .int i23, .int 1]) (rest := [.int q420]) ⟨hx, hb, hml, hown, hts⟩ (cm_X3_asks (m0 := m1) l D tc adL hO n_r1 g424) (cwV 3 hts gL_law_X3_asks rfl rfl rfl (by decide +kernel) ⟨(Nat.le_of_ble_eq_true rfl), (Nat.le_of_ble_eq_true rfl)⟩) ⟨qR_blind, va_recv hK hP (ci := 3) (q0 := r1) rfl (vW_k3 n_r1 g405), qR_pre hP hK hZ⟩ rfl rfl hl.1 rfl (lv_room (Nat.le_of_ble_eq_true rfl)) dL_law_1018 ⟨hc, hs⟩) hS (fun q9 _ h9 => h9.elim) (fun q9 h9 => h9.elim) (fun w425 u t H1 locs ht hvm hw hB hz1 hk1 hS => ?_)
                have hP := hP.kept (fun k9 q9 hk9 => hk1 q9.1 (hP k9 q9 hk9).lt (fun h9 => h9))
                generalize H1 = H at hP hS ⊢
                clear hk1 hz1 ht hvm
                have hw : w425 = q423 := hw
                rw [hw]
                refine lv_icmp_gt (tgt := 1028) hx hb dL_law_1021 (by decide) (fun c426 => ?_) (fun c426 => ?_)
                · rw [if_pos c426] at h
                  refine lv_iconst (v := 0) hx hb dL_law_1028 (by decide) ?_
                  refine lv_istore (lv' := [(22, .int 0), (1, .ref (adL r1)), (2, .ref (adL r2)), (3, .int i3), (4, .int i4), (5, .int i5), (6, .int i6), (7, .int i7), (8, .int i8), (9, .ref (adL r9)), (10, .int i10), (11, .int i11), (12, .int i12), (13, .int i13), (14, .ref (adL r14)), (15, .int i15), (16, .int i16), (17, .int i17), (18, .int i18), (19, .int i19), (20, .int i20), (21, .int i21), (23, .int i23), (0, .ref b)]) hx hb dL_law_1029 hl (by decide) rfl (fun ls hl => ?_)
                  exact (ih.2.2.2.2.2.2.2.2.2.2.2.2.2.2.2.2.2.2.2.2.2.2) NL adL m1 kc ks r1 r2 i3 i4 i5 i6 i7 i8 r9 i10 i11 i12 i13 r14 i15 i16 i17 i18 i19 i20 i21 (0 : Int32) i23 _ _ _ hNN hE hc hs hO n_r1 n_r2 n_r9 n_r14 h hP hD hS (lv_sub hl (l' := [(1, .ref (adL r1)), (2, .ref (adL r2)), (3, .int i3), (4, .int i4), (5, .int i5), (6, .int i6), (7, .int i7), (8, .int i8), (9, .ref (adL r9)), (10, .int i10), (11, .int i11), (12, .int i12), (13, .int i13), (14, .ref (adL r14)), (15, .int i15), (16, .int i16), (17, .int i17), (18, .int i18), (19, .int i19), (20, .int i20), (21, .int i21), (22, .int 0), (23, .int i23), (0, .ref b)]) [1, 2, 3, 4, 5, 6, 7, 8, 9, 10, 11, 12, 13, 14, 15, 16, 17, 18, 19, 20, 21, 0, 22, 23] rfl)
                · rw [if_neg c426] at h
                  refine lv_iconst (v := 1) hx hb dL_law_1024 (by decide) ?_
                  refine lv_goto (tgt := 1029) hx hb dL_law_1025 (by decide) ?_
                  refine lv_istore (lv' := [(22, .int 1), (1, .ref (adL r1)), (2, .ref (adL r2)), (3, .int i3), (4, .int i4), (5, .int i5), (6, .int i6), (7, .int i7), (8, .int i8), (9, .ref (adL r9)), (10, .int i10), (11, .int i11), (12, .int i12), (13, .int i13), (14, .ref (adL r14)), (15, .int i15), (16, .int i16), (17, .int i17), (18, .int i18), (19, .int i19), (20, .int i20), (21, .int i21), (23, .int i23), (0, .ref b)]) hx hb dL_law_1029 hl (by decide) rfl (fun ls hl => ?_)
                  exact (ih.2.2.2.2.2.2.2.2.2.2.2.2.2.2.2.2.2.2.2.2.2.2) NL adL m1 kc ks r1 r2 i3 i4 i5 i6 i7 i8 r9 i10 i11 i12 i13 r14 i15 i16 i17 i18 i19 i20 i21 (1 : Int32) i23 _ _ _ hNN hE hc hs hO n_r1 n_r2 n_r9 n_r14 h hP hD hS (lv_sub hl (l' := [(1, .ref (adL r1)), (2, .ref (adL r2)), (3, .int i3), (4, .int i4), (5, .int i5), (6, .int i6), (7, .int i7), (8, .int i8), (9, .ref (adL r9)), (10, .int i10), (11, .int i11), (12, .int i12), (13, .int i13), (14, .ref (adL r14)), (15, .int i15), (16, .int i16), (17, .int i17), (18, .int i18), (19, .int i19), (20, .int i20), (21, .int i21), (22, .int 1), (23, .int i23), (0, .ref b)]) [1, 2, 3, 4, 5, 6, 7, 8, 9, 10, 11, 12, 13, 14, 15, 16, 17, 18, 19, 20, 21, 0, 22, 23] rfl)
      · intro NL adL m1 kc ks r1 r2 i3 i4 i5 i6 i7 i8 r9 i10 i11 i12 i13 r14 i15 i16 i17 i18 i19 i20 i21 i22 i23 H locs ls hNN hE hc hs hO n_r1 n_r2 n_r9 n_r14 h hP hD hS hl
        have h : fB_L_law_1031 L xs (fL_L_law L xs n) NL m1 kc ks r1 r2 i3 i4 i5 i6 i7 i8 r9 i10 i11 i12 i13 r14 i15 i16 i17 i18 i19 i20 i21 i22 i23 0 0 0 = some z := h
        unfold fB_L_law_1031 at h
        refine lv_iinc (v := i23 + 1) (lv' := [(23, .int (i23 + 1)), (1, .ref (adL r1)), (2, .ref (adL r2)), (3, .int i3), (4, .int i4), (5, .int i5), (6, .int i6), (7, .int i7), (8, .int i8), (9, .ref (adL r9)), (10, .int i10), (11, .int i11), (12, .int i12), (13, .int i13), (14, .ref (adL r14)), (15, .int i15), (16, .int i16), (17, .int i17), (18, .int i18), (19, .int i19), (20, .int i20), (21, .int i21), (22, .int i22), (0, .ref b)]) hx hb dL_law_1031 hl (k := 22) rfl rfl (by decide) rfl (fun ls hl => ?_)
        refine lv_goto (tgt := 963) hx hb dL_law_1034 (by decide) ?_
        exact (ih.2.2.2.2.2.2.2.2.2.2.2.2.2.2.2.2.2.2.2.2.2.1) NL adL m1 kc ks r1 r2 i3 i4 i5 i6 i7 i8 r9 i10 i11 i12 i13 r14 i15 i16 i17 i18 i19 i20 i21 i22 (i23 + 1) _ _ _ hNN hE hc hs hO n_r1 n_r2 n_r9 n_r14 h hP hD hS (lv_sub hl (l' := [(1, .ref (adL r1)), (2, .ref (adL r2)), (3, .int i3), (4, .int i4), (5, .int i5), (6, .int i6), (7, .int i7), (8, .int i8), (9, .ref (adL r9)), (10, .int i10), (11, .int i11), (12, .int i12), (13, .int i13), (14, .ref (adL r14)), (15, .int i15), (16, .int i16), (17, .int i17), (18, .int i18), (19, .int i19), (20, .int i20), (21, .int i21), (22, .int i22), (23, .int (i23 + 1)), (0, .ref b)]) [1, 2, 3, 4, 5, 6, 7, 8, 9, 10, 11, 12, 13, 14, 15, 16, 17, 18, 19, 20, 21, 22, 0, 23] rfl)
  unfold f_L_law at h
  refine wm_obj3 hx hb hts inlX3 hown (hts (.classLink RL 23 RX3) (List.mem_append_left _ (List.mem_append_left _ (List.mem_append_left _ (List.mem_of_getElem? (i := 0) rfl))))) (hts (.instantiable RX3 2) (List.mem_append_left _ (List.mem_append_left _ (List.mem_append_left _ (List.mem_of_getElem? (i := 1) rfl))))) (hts (.initialized RX3) (List.mem_append_left _ (List.mem_append_left _ (List.mem_append_left _ (List.mem_of_getElem? (i := 2) rfl))))) hO hK hP hD hS hA (Nat.le_of_ble_eq_true rfl) (Nat.le_of_ble_eq_true rfl) dL_law_0 (fun ad427 H e428 hP hD hS => ?_)
  have e429 : ∀ k, k < N → ad427 k = ad k := fun k hk => (e428 k (Nat.lt_of_lt_of_le hk (Nat.le_refl _))).trans ((fun _ _ => rfl) k hk)
  have e430 : N ≤ (N + 1) := Nat.le_trans (Nat.le_refl _) (Nat.le_succ _)
  have hO431 := vOK.N (k := 3) (n := 0) hO
  have hP : va_P D vwCl (vW tc ad427 ((N + 1)) ((mN m0 N 3 0))) H := hP
  have hD : va_D A (vW tc ad427 ((N + 1)) ((mN m0 N 3 0))) := hD
  refine lv_dup hx hb dL_law_3 rfl ?_
  obtain ⟨q432, g433, h⟩ := vg_bind h
  have hFc := vm_free hD hS hA
  refine va_callv (va_runI (As := []) (rest := [.ref (ad427 N)]) ⟨hx, hb, hml, hown, hts⟩ (cm_X3_init (m0 := (mN m0 N 3 0)) l D tc ad427 hO431 (Nat.lt_succ_self _) g433) (cwI 0 hts gL_law_X3_init rfl rfl rfl (hts (.initialized RX3) (List.mem_append_left _ (List.mem_append_left _ (List.mem_append_left _ (List.mem_of_getElem? (i := 2) rfl))))) (hts (.methodLink RL 73 yX3_init) (List.mem_append_left _ (List.mem_append_left _ (List.mem_append_left _ (List.mem_of_getElem? (i := 6) rfl))))) (hts (.instanceMethod yX3_init) (List.mem_append_left _ (List.mem_append_left _ (List.mem_append_left _ (List.mem_of_getElem? (i := 7) rfl))))) rfl (by decide +kernel) ⟨(Nat.le_of_ble_eq_true rfl), (Nat.le_of_ble_eq_true rfl)⟩) ⟨qW_blind, qW_pre hP hD hK hZ⟩ rfl rfl hl.1 rfl (lv_room (Nat.le_of_ble_eq_true rfl)) dL_law_4 ⟨(Nat.le_of_ble_eq_true rfl), (Nat.le_of_ble_eq_true rfl)⟩) hS (fun q9 _ h9 => hFc q9 h9) hFc (fun u t H1 locs ht hvm hw hB hz1 hk1 hS => ?_)
  obtain ⟨ad435, e436, e437, hO438, hP1, hK1, hD1⟩ := hB
  rw [ht] at hP1
  have hP := hP1
  have hD := hD1.weaken (fun _ q9 _ h9 => hFc q9.1 h9)
  generalize H1 = H at hP hS ⊢
  clear hk1 hz1 ht hvm
  have e439 : ∀ k, k < N → ad435 k = ad k := fun k hk => (e436 k (Nat.lt_of_lt_of_le hk e430)).trans (e429 k hk)
  have e440 : N ≤ q432.1 := Nat.le_trans e430 e437
  have n441 : N < q432.1 := Nat.lt_of_lt_of_le (Nat.lt_succ_self _) e437
  refine W.eq (g2 := F0 m 7 ls [.ref (ad435 N)]) (by rw [e436 N (Nat.lt_succ_self _)]) ?_
  have hP : va_P D vwCl (vW tc ad435 q432.1 q432.2) H := hP
  have hD : va_D A (vW tc ad435 q432.1 q432.2) := hD
  refine lv_astore_n (lv' := [(1, .ref (ad435 N)), (0, .ref b)]) hx hb dL_law_7 rfl hl (by decide) rfl (fun ls hl => ?_)
  refine lv_aload_n hx hb dL_law_8 rfl (lv_at hl 0 rfl) ?_
  refine lv_aload_n hx hb dL_law_9 rfl (lv_at hl 1 rfl) ?_
  obtain ⟨q442, g443, h⟩ := vg_bind h
  have hFc := vm_free hD hS hA
  refine va_callq (va_runS (As := [.ref (ad435 N), .ref b]) (rest := []) ⟨hx, hb, hml, hown, hts⟩ (cm_L_build (m0 := q432.2) l D tc ad435 hO438 n441 g443) (va_cwS 2 hts gL_law_L_build rfl rfl rfl (by decide +kernel) ⟨(Nat.le_of_ble_eq_true rfl), (Nat.le_of_ble_eq_true rfl)⟩) ⟨qX_blind, qX_pre hP hD hK hZ hX hbl hbA hS hFc⟩ rfl rfl hl.1 rfl (lv_room (Nat.le_of_ble_eq_true rfl)) dL_law_10 ⟨(Nat.le_of_ble_eq_true rfl), (Nat.le_of_ble_eq_true rfl)⟩) hS (fun q9 _ h9 => hFc q9 h9) hFc (fun w444 u t H1 locs ht hvm hw hB hz1 hk1 hS => ?_)
  obtain ⟨e446, e447, hO448, hP1, hK1, hD1, hr2⟩ := hB
  generalize u = ad445 at *
  rw [ht] at hP1
  have hP := hP1
  have hD := hD1.weaken (fun _ q9 _ h9 => hFc q9.1 h9)
  generalize H1 = H at hP hS ⊢
  clear hk1 hz1 ht hvm
  have hl : lv_has ls 27 [(1, .ref (ad445 N)), (0, .ref b)] := by rw [e446 N n441]; exact hl
  have e449 : ∀ k, k < N → ad445 k = ad k := fun k hk => (e446 k (Nat.lt_of_lt_of_le hk e440)).trans (e439 k hk)
  have e450 : N ≤ q442.2.1 := Nat.le_trans e440 e447
  have n451 : N < q442.2.1 := Nat.lt_of_lt_of_le n441 e447
  have hw : w444 = Option.map ad445 (q442.1) := hw
  rw [hw]
  have hP : va_P D vwCl (vW tc ad445 q442.2.1 q442.2.2) H := hP
  have hD : va_D A (vW tc ad445 q442.2.1 q442.2.2) := hD
  by_cases c452 : q442.1 = none
  · rw [if_pos c452] at h
    refine W.eq (g2 := F0 m 13 ls [.null]) (by rw [c452]; rfl) ?_
    refine lv_astore_nN (lv' := [(2, .null), (1, .ref (ad445 N)), (0, .ref b)]) hx hb dL_law_13 rfl hl (by decide) rfl (fun ls hl => ?_)
    refine lv_aload_nN hx hb dL_law_14 rfl (lv_at hl 0 rfl) ?_
    refine lv_ifnonnullN hx hb dL_law_15 ?_
    refine lv_iconst (v := 0) hx hb dL_law_18 (by decide) ?_
    have hz := Option.some.inj h
    rw [← hz] at hz1
    exact absurd (show (0 : Int32) = 1 from hz1) (by decide)
  rw [if_neg c452] at h
  obtain ⟨y453, g454, h⟩ := vg_bind h
  have n_y453 := hr2 _ g454
  refine W.eq (g2 := F0 m 13 ls [.ref (ad445 y453)]) (by rw [g454]; rfl) ?_
  refine lv_astore_n (lv' := [(2, .ref (ad445 y453)), (1, .ref (ad445 N)), (0, .ref b)]) hx hb dL_law_13 rfl hl (by decide) rfl (fun ls hl => ?_)
  refine lv_aload_n hx hb dL_law_14 rfl (lv_at hl 0 rfl) ?_
  refine lv_ifnonnull (tgt := 20) hx hb dL_law_15 (by decide) ?_
  refine lv_aload_n hx hb dL_law_20 rfl (lv_at hl 0 rfl) ?_
  obtain ⟨g455, h⟩ := vg_if h
  obtain ⟨y456, g457, h⟩ := vg_bind h
  have n_y456 := hO448 _ _ _ g457
  refine va_get (D := D) (ci := 5) (v := .ref (ad445 y456)) (C := RX5) (T := TX5) (N := 4) hx hb hts inlX5 hown hK hP y453 (vW_k5 n_y453 g455) rfl 0 (by decide) (hts (.fieldLink RL 35 "VaultDoorsLaw$Sim" "doors" "[LVaultDoorsLaw$Door;") (List.mem_append_left _ (List.mem_append_left _ (List.mem_append_left _ (List.mem_of_getElem? (i := 3) rfl))))) (fun _ h9 => h9) (by show some (va_rf (Option.map ad445 (mr q442.2.2 y453 0))) = _; rw [g457]; rfl) dL_law_21 ?_
  obtain ⟨g458, h⟩ := vg_if h
  refine va_alen (D := D) hx hb hK hP y456 3 (vW_k9 n_y456 g458) rfl rfl dL_law_24 ?_
  refine lv_istore_n (lv' := [(3, .int (Int32.ofNat (ml q442.2.2 y456))), (2, .ref (ad445 y453)), (1, .ref (ad445 N)), (0, .ref b)]) hx hb dL_law_25 rfl hl (by decide) rfl (fun ls hl => ?_)
  refine lv_iconst (v := 0) hx hb dL_law_26 (by decide) ?_
  refine lv_istore (lv' := [(4, .int 0), (3, .int (Int32.ofNat (ml q442.2.2 y456))), (2, .ref (ad445 y453)), (1, .ref (ad445 N)), (0, .ref b)]) hx hb dL_law_27 hl (by decide) rfl (fun ls hl => ?_)
  exact ((hL vF).1) q442.2.1 ad445 q442.2.2 ((((0 + 1) + 148) + 91)) ((((0 + 2) + 4178) + 1860)) N y453 (Int32.ofNat (ml q442.2.2 y456)) (0 : Int32) _ _ _ e450 e449 (Nat.le_of_ble_eq_true rfl) (Nat.le_of_ble_eq_true rfl) hO448 n451 n_y453 h hP hD hS (lv_sub hl (l' := [(1, .ref (ad445 N)), (2, .ref (ad445 y453)), (3, .int (Int32.ofNat (ml q442.2.2 y456))), (4, .int 0), (0, .ref b)]) [3, 2, 1, 0, 4] rfl)
