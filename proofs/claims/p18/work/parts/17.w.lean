noncomputable def fB_L_law_29 (L : Nat) (xs : Nat → Int32) (rec : Nat → Nat → vM → Nat → Nat → Nat → Nat → Int32 → Int32 → Int32 → Int32 → Int32 → Int32 → Nat → Int32 → Int32 → Int32 → Int32 → Nat → Int32 → Int32 → Int32 → Int32 → Int32 → Int32 → Int32 → Int32 → Int32 → Int32 → Int32 → Int32 → Option (Int32 × Nat × vM)) (N : Nat) (m : vM) (kc ks : Nat) (r1 : Nat) (r2 : Nat) (i3 : Int32) (i4 : Int32) (i5 : Int32) (i6 : Int32) (i7 : Int32) (i8 : Int32) (r9 : Nat) (i10 : Int32) (i11 : Int32) (i12 : Int32) (i13 : Int32) (r14 : Nat) (i15 : Int32) (i16 : Int32) (i17 : Int32) (i18 : Int32) (i19 : Int32) (i20 : Int32) (i21 : Int32) (i22 : Int32) (i23 : Int32) (i24 : Int32) (i25 : Int32) (i26 : Int32) : Option (Int32 × Nat × vM) :=
  if 50 ≤ i4 then (
    if mk m r2 = 5 then
    Option.bind (f_X5_isSame N m r2 r1) fun q3 =>
    if (kc + 11) ≤ 140000 then
    if (ks + 99) ≤ 4200000 then
    if q3.1 = 0 ∨ q3.1 = 1 then
    some (q3.1, q3.2.1, q3.2.2)
    else none
    else none
    else none
    else none
  ) else (
    if ¬ (16 : Int32) = 0 then
    Option.bind (f_L_cell L xs m ((i4 - i4 / 16 * 16))) fun q18 =>
    if ¬ (16 : Int32) = 0 then
    Option.bind (f_L_below m (((q18 >>> (((i4 / 16) * 3) &&& 31)) + (89 * i4))) i3) fun q22 =>
    Option.bind (f_L_below m ((((q18 >>> (((i4 / 16) * 3) &&& 31)) + (89 * i4)) >>> (8 &&& 31))) ((6 : Int32))) fun q25 =>
    if 3 ≤ q25 then (
      rec 90 N m kc ks r1 r2 i3 i4 ((q18 >>> (((i4 / 16) * 3) &&& 31)) + (89 * i4)) q22 (0 : Int32) 0 0 0 0 0 0 0 0 0 0 0 0 0 0 0 0 0 0 0
    ) else (
      rec 90 N m kc ks r1 r2 i3 i4 ((q18 >>> (((i4 / 16) * 3) &&& 31)) + (89 * i4)) q22 (1 : Int32) 0 0 0 0 0 0 0 0 0 0 0 0 0 0 0 0 0 0 0
    )
    else none
    else none
  )
noncomputable def fB_L_law_90 (L : Nat) (xs : Nat → Int32) (rec : Nat → Nat → vM → Nat → Nat → Nat → Nat → Int32 → Int32 → Int32 → Int32 → Int32 → Int32 → Nat → Int32 → Int32 → Int32 → Int32 → Nat → Int32 → Int32 → Int32 → Int32 → Int32 → Int32 → Int32 → Int32 → Int32 → Int32 → Int32 → Int32 → Option (Int32 × Nat × vM)) (N : Nat) (m : vM) (kc ks : Nat) (r1 : Nat) (r2 : Nat) (i3 : Int32) (i4 : Int32) (i5 : Int32) (i6 : Int32) (i7 : Int32) (i8 : Int32) (r9 : Nat) (i10 : Int32) (i11 : Int32) (i12 : Int32) (i13 : Int32) (r14 : Nat) (i15 : Int32) (i16 : Int32) (i17 : Int32) (i18 : Int32) (i19 : Int32) (i20 : Int32) (i21 : Int32) (i22 : Int32) (i23 : Int32) (i24 : Int32) (i25 : Int32) (i26 : Int32) : Option (Int32 × Nat × vM) :=
  if mk m r1 = 3 then
  Option.bind (f_X3_would m r1 i6 ((1 : Int32))) fun q2 =>
  Option.bind (f_L_act N q2.2 r1 r2 i5) fun q6 =>
  if (kc + 9) ≤ 140000 then
  if (ks + 284) ≤ 4200000 then
  if q6.1 = 0 then (
    some ((0 : Int32), q6.2.1, q6.2.2)
  ) else (
    if ¬ i3 < 0 then
    if i3.toNatClampNeg ≤ 1000 then
    if ((kc + 9) + (1 + i3.toNatClampNeg)) ≤ 140000 then
    if ((ks + 284) + (i3.toNatClampNeg + i3.toNatClampNeg * 9)) ≤ 4200000 then
    rec 123 ((q6.2.1 + (1 + i3.toNatClampNeg))) ((mQ q6.2.2 q6.2.1 i3.toNatClampNeg)) (((kc + 9) + (1 + i3.toNatClampNeg))) (((ks + 284) + (i3.toNatClampNeg + i3.toNatClampNeg * 9))) r1 r2 i3 i4 i5 i6 i7 q2.1 q6.2.1 (0 : Int32) 0 0 0 0 0 0 0 0 0 0 0 0 0 0 0 0
    else none
    else none
    else none
    else none
  )
  else none
  else none
  else none
noncomputable def fB_L_law_123 (L : Nat) (xs : Nat → Int32) (rec : Nat → Nat → vM → Nat → Nat → Nat → Nat → Int32 → Int32 → Int32 → Int32 → Int32 → Int32 → Nat → Int32 → Int32 → Int32 → Int32 → Nat → Int32 → Int32 → Int32 → Int32 → Int32 → Int32 → Int32 → Int32 → Int32 → Int32 → Int32 → Int32 → Option (Int32 × Nat × vM)) (N : Nat) (m : vM) (kc ks : Nat) (r1 : Nat) (r2 : Nat) (i3 : Int32) (i4 : Int32) (i5 : Int32) (i6 : Int32) (i7 : Int32) (i8 : Int32) (r9 : Nat) (i10 : Int32) (i11 : Int32) (i12 : Int32) (i13 : Int32) (r14 : Nat) (i15 : Int32) (i16 : Int32) (i17 : Int32) (i18 : Int32) (i19 : Int32) (i20 : Int32) (i21 : Int32) (i22 : Int32) (i23 : Int32) (i24 : Int32) (i25 : Int32) (i26 : Int32) : Option (Int32 × Nat × vM) :=
  if i3 ≤ i10 then (
    if mk m r1 = 3 then
    Option.bind (f_X3_count m r1 ((7 : Int32))) fun q3 =>
    Option.bind (f_X3_opens m r1 i6) fun q6 =>
    if mk q6.2 r1 = 3 then
    Option.bind (f_X3_pass q6.2 r1 ((1 : Int32))) fun q11 =>
    if mk q11.2 r2 = 5 then
    Option.bind (f_X5_pass N q11.2 r2) fun q16 =>
    if (kc + 2000) ≤ 140000 then
    if (ks + 70000) ≤ 4200000 then
    if i7 = 0 then (
      if q6.1 ≤ 1 then (
        if q6.1 = 1 then (
          if mk q16.2.2 r1 = 3 then
          Option.bind (f_X3_door q16.2.2 r1 i6 ((0 : Int32))) fun q34 =>
          if q34 = 2 then (
            Option.bind (f_X3_count q16.2.2 r1 ((7 : Int32))) fun q38 =>
            if q38 < q3 then (
              some ((0 : Int32), q16.2.1, q16.2.2)
            ) else (
              Option.bind (f_X3_count q16.2.2 r1 ((0 : Int32))) fun q42 =>
              if q42 = (i4 + 1) then (
                rec 272 q16.2.1 q16.2.2 ((kc + 2000)) ((ks + 70000)) r1 r2 i3 i4 i5 i6 i7 i8 r9 q3 q6.1 q11.1 0 0 0 0 0 0 0 0 0 0 0 0 0 0
              ) else (
                some ((0 : Int32), q16.2.1, q16.2.2)
              )
            )
          ) else (
            some ((0 : Int32), q16.2.1, q16.2.2)
          )
          else none
        ) else (
          if mk q16.2.2 r1 = 3 then
          Option.bind (f_X3_count q16.2.2 r1 ((7 : Int32))) fun q47 =>
          if q47 < q3 then (
            some ((0 : Int32), q16.2.1, q16.2.2)
          ) else (
            Option.bind (f_X3_count q16.2.2 r1 ((0 : Int32))) fun q51 =>
            if q51 = (i4 + 1) then (
              rec 272 q16.2.1 q16.2.2 ((kc + 2000)) ((ks + 70000)) r1 r2 i3 i4 i5 i6 i7 i8 r9 q3 q6.1 q11.1 0 0 0 0 0 0 0 0 0 0 0 0 0 0
            ) else (
              some ((0 : Int32), q16.2.1, q16.2.2)
            )
          )
          else none
        )
      ) else (
        if mk q16.2.2 r1 = 3 then
        Option.bind (f_X3_opens q16.2.2 r1 i6) fun q56 =>
        if q56.1 = (q6.1 - 1) then (
          if q6.1 = 1 then (
            if mk q56.2 r1 = 3 then
            Option.bind (f_X3_door q56.2 r1 i6 ((0 : Int32))) fun q63 =>
            if q63 = 2 then (
              Option.bind (f_X3_count q56.2 r1 ((7 : Int32))) fun q67 =>
              if q67 < q3 then (
                some ((0 : Int32), q16.2.1, q56.2)
              ) else (
                Option.bind (f_X3_count q56.2 r1 ((0 : Int32))) fun q71 =>
                if q71 = (i4 + 1) then (
                  rec 272 q16.2.1 q56.2 ((kc + 2000)) ((ks + 70000)) r1 r2 i3 i4 i5 i6 i7 i8 r9 q3 q6.1 q11.1 0 0 0 0 0 0 0 0 0 0 0 0 0 0
                ) else (
                  some ((0 : Int32), q16.2.1, q56.2)
                )
              )
            ) else (
              some ((0 : Int32), q16.2.1, q56.2)
            )
            else none
          ) else (
            if mk q56.2 r1 = 3 then
            Option.bind (f_X3_count q56.2 r1 ((7 : Int32))) fun q76 =>
            if q76 < q3 then (
              some ((0 : Int32), q16.2.1, q56.2)
            ) else (
              Option.bind (f_X3_count q56.2 r1 ((0 : Int32))) fun q80 =>
              if q80 = (i4 + 1) then (
                rec 272 q16.2.1 q56.2 ((kc + 2000)) ((ks + 70000)) r1 r2 i3 i4 i5 i6 i7 i8 r9 q3 q6.1 q11.1 0 0 0 0 0 0 0 0 0 0 0 0 0 0
              ) else (
                some ((0 : Int32), q16.2.1, q56.2)
              )
            )
            else none
          )
        ) else (
          some ((0 : Int32), q16.2.1, q56.2)
        )
        else none
      )
    ) else (
      if mk q16.2.2 r1 = 3 then
      Option.bind (f_X3_count q16.2.2 r1 ((8 : Int32))) fun q85 =>
      if q85 = i8 then (
        if q6.1 ≤ 1 then (
          if q6.1 = 1 then (
            Option.bind (f_X3_door q16.2.2 r1 i6 ((0 : Int32))) fun q91 =>
            if q91 = 2 then (
              Option.bind (f_X3_count q16.2.2 r1 ((7 : Int32))) fun q95 =>
              if q95 < q3 then (
                some ((0 : Int32), q16.2.1, q16.2.2)
              ) else (
                Option.bind (f_X3_count q16.2.2 r1 ((0 : Int32))) fun q99 =>
                if q99 = (i4 + 1) then (
                  rec 272 q16.2.1 q16.2.2 ((kc + 2000)) ((ks + 70000)) r1 r2 i3 i4 i5 i6 i7 i8 r9 q3 q6.1 q11.1 0 0 0 0 0 0 0 0 0 0 0 0 0 0
                ) else (
                  some ((0 : Int32), q16.2.1, q16.2.2)
                )
              )
            ) else (
              some ((0 : Int32), q16.2.1, q16.2.2)
            )
          ) else (
            Option.bind (f_X3_count q16.2.2 r1 ((7 : Int32))) fun q103 =>
            if q103 < q3 then (
              some ((0 : Int32), q16.2.1, q16.2.2)
            ) else (
              Option.bind (f_X3_count q16.2.2 r1 ((0 : Int32))) fun q107 =>
              if q107 = (i4 + 1) then (
                rec 272 q16.2.1 q16.2.2 ((kc + 2000)) ((ks + 70000)) r1 r2 i3 i4 i5 i6 i7 i8 r9 q3 q6.1 q11.1 0 0 0 0 0 0 0 0 0 0 0 0 0 0
              ) else (
                some ((0 : Int32), q16.2.1, q16.2.2)
              )
            )
          )
        ) else (
          Option.bind (f_X3_opens q16.2.2 r1 i6) fun q111 =>
          if q111.1 = (q6.1 - 1) then (
            if q6.1 = 1 then (
              if mk q111.2 r1 = 3 then
              Option.bind (f_X3_door q111.2 r1 i6 ((0 : Int32))) fun q118 =>
              if q118 = 2 then (
                Option.bind (f_X3_count q111.2 r1 ((7 : Int32))) fun q122 =>
                if q122 < q3 then (
                  some ((0 : Int32), q16.2.1, q111.2)
                ) else (
                  Option.bind (f_X3_count q111.2 r1 ((0 : Int32))) fun q126 =>
                  if q126 = (i4 + 1) then (
                    rec 272 q16.2.1 q111.2 ((kc + 2000)) ((ks + 70000)) r1 r2 i3 i4 i5 i6 i7 i8 r9 q3 q6.1 q11.1 0 0 0 0 0 0 0 0 0 0 0 0 0 0
                  ) else (
                    some ((0 : Int32), q16.2.1, q111.2)
                  )
                )
              ) else (
                some ((0 : Int32), q16.2.1, q111.2)
              )
              else none
            ) else (
              if mk q111.2 r1 = 3 then
              Option.bind (f_X3_count q111.2 r1 ((7 : Int32))) fun q131 =>
              if q131 < q3 then (
                some ((0 : Int32), q16.2.1, q111.2)
              ) else (
                Option.bind (f_X3_count q111.2 r1 ((0 : Int32))) fun q135 =>
                if q135 = (i4 + 1) then (
                  rec 272 q16.2.1 q111.2 ((kc + 2000)) ((ks + 70000)) r1 r2 i3 i4 i5 i6 i7 i8 r9 q3 q6.1 q11.1 0 0 0 0 0 0 0 0 0 0 0 0 0 0
                ) else (
                  some ((0 : Int32), q16.2.1, q111.2)
                )
              )
              else none
            )
          ) else (
            some ((0 : Int32), q16.2.1, q111.2)
          )
        )
      ) else (
        some ((0 : Int32), q16.2.1, q16.2.2)
      )
      else none
    )
    else none
    else none
    else none
    else none
    else none
  ) else (
    rec 132 N m kc ks r1 r2 i3 i4 i5 i6 i7 i8 r9 i10 (0 : Int32) 0 0 0 0 0 0 0 0 0 0 0 0 0 0 0
  )
noncomputable def fB_L_law_132 (L : Nat) (xs : Nat → Int32) (rec : Nat → Nat → vM → Nat → Nat → Nat → Nat → Int32 → Int32 → Int32 → Int32 → Int32 → Int32 → Nat → Int32 → Int32 → Int32 → Int32 → Nat → Int32 → Int32 → Int32 → Int32 → Int32 → Int32 → Int32 → Int32 → Int32 → Int32 → Int32 → Int32 → Option (Int32 × Nat × vM)) (N : Nat) (m : vM) (kc ks : Nat) (r1 : Nat) (r2 : Nat) (i3 : Int32) (i4 : Int32) (i5 : Int32) (i6 : Int32) (i7 : Int32) (i8 : Int32) (r9 : Nat) (i10 : Int32) (i11 : Int32) (i12 : Int32) (i13 : Int32) (r14 : Nat) (i15 : Int32) (i16 : Int32) (i17 : Int32) (i18 : Int32) (i19 : Int32) (i20 : Int32) (i21 : Int32) (i22 : Int32) (i23 : Int32) (i24 : Int32) (i25 : Int32) (i26 : Int32) : Option (Int32 × Nat × vM) :=
  if 9 ≤ i11 then (
    rec 123 N m kc ks r1 r2 i3 i4 i5 i6 i7 i8 r9 (i10 + 1) 0 0 0 0 0 0 0 0 0 0 0 0 0 0 0 0
  ) else (
    if mk m r9 = 8 then
    if vin i10 (ml m r9) then
    Option.bind (mr m r9 i10.toNatClampNeg) fun y4 =>
    if mk m r1 = 3 then
    Option.bind (f_X3_door m r1 i10 i11) fun q7 =>
    if mk m y4 = 6 then
    if vin i11 (ml m y4) then
    rec 132 N ((mI m y4 i11.toNatClampNeg q7)) kc ks r1 r2 i3 i4 i5 i6 i7 i8 r9 i10 (i11 + 1) 0 0 0 0 0 0 0 0 0 0 0 0 0 0 0
    else none
    else none
    else none
    else none
    else none
  )
noncomputable def fB_L_law_272 (L : Nat) (xs : Nat → Int32) (rec : Nat → Nat → vM → Nat → Nat → Nat → Nat → Int32 → Int32 → Int32 → Int32 → Int32 → Int32 → Nat → Int32 → Int32 → Int32 → Int32 → Nat → Int32 → Int32 → Int32 → Int32 → Int32 → Int32 → Int32 → Int32 → Int32 → Int32 → Int32 → Int32 → Option (Int32 × Nat × vM)) (N : Nat) (m : vM) (kc ks : Nat) (r1 : Nat) (r2 : Nat) (i3 : Int32) (i4 : Int32) (i5 : Int32) (i6 : Int32) (i7 : Int32) (i8 : Int32) (r9 : Nat) (i10 : Int32) (i11 : Int32) (i12 : Int32) (i13 : Int32) (r14 : Nat) (i15 : Int32) (i16 : Int32) (i17 : Int32) (i18 : Int32) (i19 : Int32) (i20 : Int32) (i21 : Int32) (i22 : Int32) (i23 : Int32) (i24 : Int32) (i25 : Int32) (i26 : Int32) : Option (Int32 × Nat × vM) :=
  if (kc + 1) ≤ 140000 then
  if (ks + 4) ≤ 4200000 then
  rec 286 ((N + 1)) ((mN m N 6 4)) ((kc + 1)) ((ks + 4)) r1 r2 i3 i4 i5 i6 i7 i8 r9 i10 i11 i12 (0 : Int32) N (0 : Int32) (0 : Int32) 0 0 0 0 0 0 0 0 0 0
  else none
  else none
noncomputable def fB_L_law_286 (L : Nat) (xs : Nat → Int32) (rec : Nat → Nat → vM → Nat → Nat → Nat → Nat → Int32 → Int32 → Int32 → Int32 → Int32 → Int32 → Nat → Int32 → Int32 → Int32 → Int32 → Nat → Int32 → Int32 → Int32 → Int32 → Int32 → Int32 → Int32 → Int32 → Int32 → Int32 → Int32 → Int32 → Option (Int32 × Nat × vM)) (N : Nat) (m : vM) (kc ks : Nat) (r1 : Nat) (r2 : Nat) (i3 : Int32) (i4 : Int32) (i5 : Int32) (i6 : Int32) (i7 : Int32) (i8 : Int32) (r9 : Nat) (i10 : Int32) (i11 : Int32) (i12 : Int32) (i13 : Int32) (r14 : Nat) (i15 : Int32) (i16 : Int32) (i17 : Int32) (i18 : Int32) (i19 : Int32) (i20 : Int32) (i21 : Int32) (i22 : Int32) (i23 : Int32) (i24 : Int32) (i25 : Int32) (i26 : Int32) : Option (Int32 × Nat × vM) :=
  if i3 ≤ i16 then (
    if i13 = i12 then (
      if mk m r1 = 3 then
      Option.bind (f_X3_count m r1 ((8 : Int32))) fun q4 =>
      if q4 = i15 then (
        Option.bind (f_X3_count m r1 ((6 : Int32))) fun q8 =>
        if q8 ≤ 60 then (
          rec 847 N m kc ks r1 r2 i3 i4 i5 i6 i7 i8 r9 i10 i11 i12 i13 r14 i15 i16 0 0 0 0 0 0 0 0 0 0
        ) else (
          some ((0 : Int32), N, m)
        )
      ) else (
        some ((0 : Int32), N, m)
      )
      else none
    ) else (
      some ((0 : Int32), N, m)
    )
  ) else (
    if mk m r1 = 3 then
    Option.bind (f_X3_door m r1 i16 ((0 : Int32))) fun q13 =>
    Option.bind (f_X3_door m r1 i16 ((1 : Int32))) fun q16 =>
    if mk m r9 = 8 then
    if vin i16 (ml m r9) then
    Option.bind (mr m r9 i16.toNatClampNeg) fun y21 =>
    if mk m y21 = 6 then
    if vin (0 : Int32) (ml m y21) then
    Option.bind (f_X3_door m r1 i16 ((7 : Int32))) fun q25 =>
    if vin i16 (ml m r9) then
    Option.bind (mr m r9 i16.toNatClampNeg) fun y29 =>
    if mk m y29 = 6 then
    if vin (7 : Int32) (ml m y29) then
    Option.bind (f_X3_door m r1 i16 ((8 : Int32))) fun q33 =>
    if vin i16 (ml m r9) then
    Option.bind (mr m r9 i16.toNatClampNeg) fun y37 =>
    if mk m y37 = 6 then
    if vin (8 : Int32) (ml m y37) then
    if mk m r14 = 6 then
    if vin q13 (ml m r14) then
    if vin q13 (ml m r14) then
    if q13 = 2 then (
      rec 392 N ((mI m r14 q13.toNatClampNeg ((mi m r14 q13.toNatClampNeg) + 1))) kc ks r1 r2 i3 i4 i5 i6 i7 i8 r9 i10 i11 i12 (i13 + (q25 - (mi m y29 7))) r14 (i15 + (1 <<< (i16 &&& 31))) i16 q13 q16 (mi m y21 0) (q25 - (mi m y29 7)) (q33 - (mi m y37 8)) 0 0 0 0 0
    ) else (
      rec 392 N ((mI m r14 q13.toNatClampNeg ((mi m r14 q13.toNatClampNeg) + 1))) kc ks r1 r2 i3 i4 i5 i6 i7 i8 r9 i10 i11 i12 (i13 + (q25 - (mi m y29 7))) r14 (i15 + 0) i16 q13 q16 (mi m y21 0) (q25 - (mi m y29 7)) (q33 - (mi m y37 8)) 0 0 0 0 0
    )
    else none
    else none
    else none
    else none
    else none
    else none
    else none
    else none
    else none
    else none
    else none
    else none
    else none
    else none
  )
noncomputable def fB_L_law_392 (L : Nat) (xs : Nat → Int32) (rec : Nat → Nat → vM → Nat → Nat → Nat → Nat → Int32 → Int32 → Int32 → Int32 → Int32 → Int32 → Nat → Int32 → Int32 → Int32 → Int32 → Nat → Int32 → Int32 → Int32 → Int32 → Int32 → Int32 → Int32 → Int32 → Int32 → Int32 → Int32 → Int32 → Option (Int32 × Nat × vM)) (N : Nat) (m : vM) (kc ks : Nat) (r1 : Nat) (r2 : Nat) (i3 : Int32) (i4 : Int32) (i5 : Int32) (i6 : Int32) (i7 : Int32) (i8 : Int32) (r9 : Nat) (i10 : Int32) (i11 : Int32) (i12 : Int32) (i13 : Int32) (r14 : Nat) (i15 : Int32) (i16 : Int32) (i17 : Int32) (i18 : Int32) (i19 : Int32) (i20 : Int32) (i21 : Int32) (i22 : Int32) (i23 : Int32) (i24 : Int32) (i25 : Int32) (i26 : Int32) : Option (Int32 × Nat × vM) :=
  if i20 < 0 then (
    some ((0 : Int32), N, m)
  ) else (
    if i21 < 0 then (
      some ((0 : Int32), N, m)
    ) else (
      rec 402 N m kc ks r1 r2 i3 i4 i5 i6 i7 i8 r9 i10 i11 i12 i13 r14 i15 i16 i17 i18 i19 i20 i21 0 0 0 0 0
    )
  )
noncomputable def fB_L_law_402 (L : Nat) (xs : Nat → Int32) (rec : Nat → Nat → vM → Nat → Nat → Nat → Nat → Int32 → Int32 → Int32 → Int32 → Int32 → Int32 → Nat → Int32 → Int32 → Int32 → Int32 → Nat → Int32 → Int32 → Int32 → Int32 → Int32 → Int32 → Int32 → Int32 → Int32 → Int32 → Int32 → Int32 → Option (Int32 × Nat × vM)) (N : Nat) (m : vM) (kc ks : Nat) (r1 : Nat) (r2 : Nat) (i3 : Int32) (i4 : Int32) (i5 : Int32) (i6 : Int32) (i7 : Int32) (i8 : Int32) (r9 : Nat) (i10 : Int32) (i11 : Int32) (i12 : Int32) (i13 : Int32) (r14 : Nat) (i15 : Int32) (i16 : Int32) (i17 : Int32) (i18 : Int32) (i19 : Int32) (i20 : Int32) (i21 : Int32) (i22 : Int32) (i23 : Int32) (i24 : Int32) (i25 : Int32) (i26 : Int32) : Option (Int32 × Nat × vM) :=
  if 1 < (i20 + i21) then (
    some ((0 : Int32), N, m)
  ) else (
    rec 411 N m kc ks r1 r2 i3 i4 i5 i6 i7 i8 r9 i10 i11 i12 i13 r14 i15 i16 i17 i18 i19 i20 i21 0 0 0 0 0
  )
noncomputable def fB_L_law_411 (L : Nat) (xs : Nat → Int32) (rec : Nat → Nat → vM → Nat → Nat → Nat → Nat → Int32 → Int32 → Int32 → Int32 → Int32 → Int32 → Nat → Int32 → Int32 → Int32 → Int32 → Nat → Int32 → Int32 → Int32 → Int32 → Int32 → Int32 → Int32 → Int32 → Int32 → Int32 → Int32 → Int32 → Option (Int32 × Nat × vM)) (N : Nat) (m : vM) (kc ks : Nat) (r1 : Nat) (r2 : Nat) (i3 : Int32) (i4 : Int32) (i5 : Int32) (i6 : Int32) (i7 : Int32) (i8 : Int32) (r9 : Nat) (i10 : Int32) (i11 : Int32) (i12 : Int32) (i13 : Int32) (r14 : Nat) (i15 : Int32) (i16 : Int32) (i17 : Int32) (i18 : Int32) (i19 : Int32) (i20 : Int32) (i21 : Int32) (i22 : Int32) (i23 : Int32) (i24 : Int32) (i25 : Int32) (i26 : Int32) : Option (Int32 × Nat × vM) :=
  if i20 = 1 then (
    if i17 = 2 then (
      if i18 = 12 then (
        rec 430 N m kc ks r1 r2 i3 i4 i5 i6 i7 i8 r9 i10 i11 i12 i13 r14 i15 i16 i17 i18 i19 i20 i21 0 0 0 0 0
      ) else (
        some ((0 : Int32), N, m)
      )
    ) else (
      some ((0 : Int32), N, m)
    )
  ) else (
    rec 430 N m kc ks r1 r2 i3 i4 i5 i6 i7 i8 r9 i10 i11 i12 i13 r14 i15 i16 i17 i18 i19 i20 i21 0 0 0 0 0
  )
noncomputable def fB_L_law_430 (L : Nat) (xs : Nat → Int32) (rec : Nat → Nat → vM → Nat → Nat → Nat → Nat → Int32 → Int32 → Int32 → Int32 → Int32 → Int32 → Nat → Int32 → Int32 → Int32 → Int32 → Nat → Int32 → Int32 → Int32 → Int32 → Int32 → Int32 → Int32 → Int32 → Int32 → Int32 → Int32 → Int32 → Option (Int32 × Nat × vM)) (N : Nat) (m : vM) (kc ks : Nat) (r1 : Nat) (r2 : Nat) (i3 : Int32) (i4 : Int32) (i5 : Int32) (i6 : Int32) (i7 : Int32) (i8 : Int32) (r9 : Nat) (i10 : Int32) (i11 : Int32) (i12 : Int32) (i13 : Int32) (r14 : Nat) (i15 : Int32) (i16 : Int32) (i17 : Int32) (i18 : Int32) (i19 : Int32) (i20 : Int32) (i21 : Int32) (i22 : Int32) (i23 : Int32) (i24 : Int32) (i25 : Int32) (i26 : Int32) : Option (Int32 × Nat × vM) :=
  if i21 = 1 then (
    if i17 = 3 then (
      if i18 = 4 then (
        rec 448 N m kc ks r1 r2 i3 i4 i5 i6 i7 i8 r9 i10 i11 i12 i13 r14 i15 i16 i17 i18 i19 i20 i21 0 0 0 0 0
      ) else (
        some ((0 : Int32), N, m)
      )
    ) else (
      some ((0 : Int32), N, m)
    )
  ) else (
    rec 448 N m kc ks r1 r2 i3 i4 i5 i6 i7 i8 r9 i10 i11 i12 i13 r14 i15 i16 i17 i18 i19 i20 i21 0 0 0 0 0
  )
noncomputable def fB_L_law_448 (L : Nat) (xs : Nat → Int32) (rec : Nat → Nat → vM → Nat → Nat → Nat → Nat → Int32 → Int32 → Int32 → Int32 → Int32 → Int32 → Nat → Int32 → Int32 → Int32 → Int32 → Nat → Int32 → Int32 → Int32 → Int32 → Int32 → Int32 → Int32 → Int32 → Int32 → Int32 → Int32 → Int32 → Option (Int32 × Nat × vM)) (N : Nat) (m : vM) (kc ks : Nat) (r1 : Nat) (r2 : Nat) (i3 : Int32) (i4 : Int32) (i5 : Int32) (i6 : Int32) (i7 : Int32) (i8 : Int32) (r9 : Nat) (i10 : Int32) (i11 : Int32) (i12 : Int32) (i13 : Int32) (r14 : Nat) (i15 : Int32) (i16 : Int32) (i17 : Int32) (i18 : Int32) (i19 : Int32) (i20 : Int32) (i21 : Int32) (i22 : Int32) (i23 : Int32) (i24 : Int32) (i25 : Int32) (i26 : Int32) : Option (Int32 × Nat × vM) :=
  if i17 = 0 then (
    if i18 = 0 then (
      rec 473 N m kc ks r1 r2 i3 i4 i5 i6 i7 i8 r9 i10 i11 i12 i13 r14 i15 i16 i17 i18 i19 i20 i21 0 0 0 0 0
    ) else (
      some ((0 : Int32), N, m)
    )
  ) else (
    if i18 = 0 then (
      some ((0 : Int32), N, m)
    ) else (
      rec 473 N m kc ks r1 r2 i3 i4 i5 i6 i7 i8 r9 i10 i11 i12 i13 r14 i15 i16 i17 i18 i19 i20 i21 0 0 0 0 0
    )
  )
noncomputable def fB_L_law_473 (L : Nat) (xs : Nat → Int32) (rec : Nat → Nat → vM → Nat → Nat → Nat → Nat → Int32 → Int32 → Int32 → Int32 → Int32 → Int32 → Nat → Int32 → Int32 → Int32 → Int32 → Nat → Int32 → Int32 → Int32 → Int32 → Int32 → Int32 → Int32 → Int32 → Int32 → Int32 → Int32 → Int32 → Option (Int32 × Nat × vM)) (N : Nat) (m : vM) (kc ks : Nat) (r1 : Nat) (r2 : Nat) (i3 : Int32) (i4 : Int32) (i5 : Int32) (i6 : Int32) (i7 : Int32) (i8 : Int32) (r9 : Nat) (i10 : Int32) (i11 : Int32) (i12 : Int32) (i13 : Int32) (r14 : Nat) (i15 : Int32) (i16 : Int32) (i17 : Int32) (i18 : Int32) (i19 : Int32) (i20 : Int32) (i21 : Int32) (i22 : Int32) (i23 : Int32) (i24 : Int32) (i25 : Int32) (i26 : Int32) : Option (Int32 × Nat × vM) :=
  if i19 ≤ 1 then (
    rec 513 N m kc ks r1 r2 i3 i4 i5 i6 i7 i8 r9 i10 i11 i12 i13 r14 i15 i16 i17 i18 i19 i20 i21 0 0 0 0 0
  ) else (
    if mk m r9 = 8 then
    if vin i16 (ml m r9) then
    Option.bind (mr m r9 i16.toNatClampNeg) fun y4 =>
    if mk m y4 = 6 then
    if vin (1 : Int32) (ml m y4) then
    if (mi m y4 1) ≤ 1 then (
      rec 513 N m kc ks r1 r2 i3 i4 i5 i6 i7 i8 r9 i10 i11 i12 i13 r14 i15 i16 i17 i18 i19 i20 i21 0 0 0 0 0
    ) else (
      if i17 = i19 then (
        if vin i16 (ml m r9) then
        Option.bind (mr m r9 i16.toNatClampNeg) fun y11 =>
        if mk m y11 = 6 then
        if vin (1 : Int32) (ml m y11) then
        if i18 = ((mi m y11 1) - 1) then (
          rec 513 N m kc ks r1 r2 i3 i4 i5 i6 i7 i8 r9 i10 i11 i12 i13 r14 i15 i16 i17 i18 i19 i20 i21 0 0 0 0 0
        ) else (
          some ((0 : Int32), N, m)
        )
        else none
        else none
        else none
      ) else (
        some ((0 : Int32), N, m)
      )
    )
    else none
    else none
    else none
    else none
  )
noncomputable def fB_L_law_513 (L : Nat) (xs : Nat → Int32) (rec : Nat → Nat → vM → Nat → Nat → Nat → Nat → Int32 → Int32 → Int32 → Int32 → Int32 → Int32 → Nat → Int32 → Int32 → Int32 → Int32 → Nat → Int32 → Int32 → Int32 → Int32 → Int32 → Int32 → Int32 → Int32 → Int32 → Int32 → Int32 → Int32 → Option (Int32 × Nat × vM)) (N : Nat) (m : vM) (kc ks : Nat) (r1 : Nat) (r2 : Nat) (i3 : Int32) (i4 : Int32) (i5 : Int32) (i6 : Int32) (i7 : Int32) (i8 : Int32) (r9 : Nat) (i10 : Int32) (i11 : Int32) (i12 : Int32) (i13 : Int32) (r14 : Nat) (i15 : Int32) (i16 : Int32) (i17 : Int32) (i18 : Int32) (i19 : Int32) (i20 : Int32) (i21 : Int32) (i22 : Int32) (i23 : Int32) (i24 : Int32) (i25 : Int32) (i26 : Int32) : Option (Int32 × Nat × vM) :=
  if i19 = 1 then (
    if i17 = 0 then (
      some ((0 : Int32), N, m)
    ) else (
      if i17 = 1 then (
        if mk m r9 = 8 then
        if vin i16 (ml m r9) then
        Option.bind (mr m r9 i16.toNatClampNeg) fun y6 =>
        if mk m y6 = 6 then
        if vin (1 : Int32) (ml m y6) then
        if i18 = ((mi m y6 1) - 1) then (
          if i17 ≤ 1 then (
            rec 561 N m kc ks r1 r2 i3 i4 i5 i6 i7 i8 r9 i10 i11 i12 i13 r14 i15 i16 i17 i18 i19 i20 i21 0 0 0 0 0
          ) else (
            if (i20 + i21) = 1 then (
              rec 561 N m kc ks r1 r2 i3 i4 i5 i6 i7 i8 r9 i10 i11 i12 i13 r14 i15 i16 i17 i18 i19 i20 i21 0 0 0 0 0
            ) else (
              some ((0 : Int32), N, m)
            )
          )
        ) else (
          some ((0 : Int32), N, m)
        )
        else none
        else none
        else none
        else none
      ) else (
        if i17 ≤ 1 then (
          rec 561 N m kc ks r1 r2 i3 i4 i5 i6 i7 i8 r9 i10 i11 i12 i13 r14 i15 i16 i17 i18 i19 i20 i21 0 0 0 0 0
        ) else (
          if (i20 + i21) = 1 then (
            rec 561 N m kc ks r1 r2 i3 i4 i5 i6 i7 i8 r9 i10 i11 i12 i13 r14 i15 i16 i17 i18 i19 i20 i21 0 0 0 0 0
          ) else (
            some ((0 : Int32), N, m)
          )
        )
      )
    )
  ) else (
    rec 561 N m kc ks r1 r2 i3 i4 i5 i6 i7 i8 r9 i10 i11 i12 i13 r14 i15 i16 i17 i18 i19 i20 i21 0 0 0 0 0
  )
noncomputable def fB_L_law_561 (L : Nat) (xs : Nat → Int32) (rec : Nat → Nat → vM → Nat → Nat → Nat → Nat → Int32 → Int32 → Int32 → Int32 → Int32 → Int32 → Nat → Int32 → Int32 → Int32 → Int32 → Nat → Int32 → Int32 → Int32 → Int32 → Int32 → Int32 → Int32 → Int32 → Int32 → Int32 → Int32 → Int32 → Option (Int32 × Nat × vM)) (N : Nat) (m : vM) (kc ks : Nat) (r1 : Nat) (r2 : Nat) (i3 : Int32) (i4 : Int32) (i5 : Int32) (i6 : Int32) (i7 : Int32) (i8 : Int32) (r9 : Nat) (i10 : Int32) (i11 : Int32) (i12 : Int32) (i13 : Int32) (r14 : Nat) (i15 : Int32) (i16 : Int32) (i17 : Int32) (i18 : Int32) (i19 : Int32) (i20 : Int32) (i21 : Int32) (i22 : Int32) (i23 : Int32) (i24 : Int32) (i25 : Int32) (i26 : Int32) : Option (Int32 × Nat × vM) :=
  if i19 = 0 then (
    if i17 ≤ 1 then (
      rec 583 N m kc ks r1 r2 i3 i4 i5 i6 i7 i8 r9 i10 i11 i12 i13 r14 i15 i16 i17 i18 i19 i20 i21 0 0 0 0 0
    ) else (
      if (i20 + i21) = 1 then (
        rec 583 N m kc ks r1 r2 i3 i4 i5 i6 i7 i8 r9 i10 i11 i12 i13 r14 i15 i16 i17 i18 i19 i20 i21 0 0 0 0 0
      ) else (
        some ((0 : Int32), N, m)
      )
    )
  ) else (
    rec 583 N m kc ks r1 r2 i3 i4 i5 i6 i7 i8 r9 i10 i11 i12 i13 r14 i15 i16 i17 i18 i19 i20 i21 0 0 0 0 0
  )
noncomputable def fB_L_law_583 (L : Nat) (xs : Nat → Int32) (rec : Nat → Nat → vM → Nat → Nat → Nat → Nat → Int32 → Int32 → Int32 → Int32 → Int32 → Int32 → Nat → Int32 → Int32 → Int32 → Int32 → Nat → Int32 → Int32 → Int32 → Int32 → Int32 → Int32 → Int32 → Int32 → Int32 → Int32 → Int32 → Int32 → Option (Int32 × Nat × vM)) (N : Nat) (m : vM) (kc ks : Nat) (r1 : Nat) (r2 : Nat) (i3 : Int32) (i4 : Int32) (i5 : Int32) (i6 : Int32) (i7 : Int32) (i8 : Int32) (r9 : Nat) (i10 : Int32) (i11 : Int32) (i12 : Int32) (i13 : Int32) (r14 : Nat) (i15 : Int32) (i16 : Int32) (i17 : Int32) (i18 : Int32) (i19 : Int32) (i20 : Int32) (i21 : Int32) (i22 : Int32) (i23 : Int32) (i24 : Int32) (i25 : Int32) (i26 : Int32) : Option (Int32 × Nat × vM) :=
  if i19 = 1 then (
    if mk m r9 = 8 then
    if vin i16 (ml m r9) then
    Option.bind (mr m r9 i16.toNatClampNeg) fun y4 =>
    if mk m y4 = 6 then
    if vin (1 : Int32) (ml m y4) then
    if (mi m y4 1) = 1 then (
      if i17 = 1 then (
        some ((0 : Int32), N, m)
      ) else (
        rec 608 N m kc ks r1 r2 i3 i4 i5 i6 i7 i8 r9 i10 i11 i12 i13 r14 i15 i16 i17 i18 i19 i20 i21 0 0 0 0 0
      )
    ) else (
      rec 608 N m kc ks r1 r2 i3 i4 i5 i6 i7 i8 r9 i10 i11 i12 i13 r14 i15 i16 i17 i18 i19 i20 i21 0 0 0 0 0
    )
    else none
    else none
    else none
    else none
  ) else (
    rec 608 N m kc ks r1 r2 i3 i4 i5 i6 i7 i8 r9 i10 i11 i12 i13 r14 i15 i16 i17 i18 i19 i20 i21 0 0 0 0 0
  )
noncomputable def fB_L_law_608 (L : Nat) (xs : Nat → Int32) (rec : Nat → Nat → vM → Nat → Nat → Nat → Nat → Int32 → Int32 → Int32 → Int32 → Int32 → Int32 → Nat → Int32 → Int32 → Int32 → Int32 → Nat → Int32 → Int32 → Int32 → Int32 → Int32 → Int32 → Int32 → Int32 → Int32 → Int32 → Int32 → Int32 → Option (Int32 × Nat × vM)) (N : Nat) (m : vM) (kc ks : Nat) (r1 : Nat) (r2 : Nat) (i3 : Int32) (i4 : Int32) (i5 : Int32) (i6 : Int32) (i7 : Int32) (i8 : Int32) (r9 : Nat) (i10 : Int32) (i11 : Int32) (i12 : Int32) (i13 : Int32) (r14 : Nat) (i15 : Int32) (i16 : Int32) (i17 : Int32) (i18 : Int32) (i19 : Int32) (i20 : Int32) (i21 : Int32) (i22 : Int32) (i23 : Int32) (i24 : Int32) (i25 : Int32) (i26 : Int32) : Option (Int32 × Nat × vM) :=
  if mk m r1 = 3 then
  Option.bind (f_X3_door m r1 i16 ((3 : Int32))) fun q2 =>
  Option.bind (f_X3_door m r1 i16 ((4 : Int32))) fun q5 =>
  Option.bind (f_X3_door m r1 i16 ((5 : Int32))) fun q8 =>
  if q5 < 0 then (
    some ((0 : Int32), N, m)
  ) else (
    if q2 < q5 then (
      some ((0 : Int32), N, m)
    ) else (
      if q8 < 0 then (
        some ((0 : Int32), N, m)
      ) else (
        if q5 < q8 then (
          some ((0 : Int32), N, m)
        ) else (
          if i17 = 1 then (
            if i17 = 1 then (
              if q5 = q2 then (
                some ((0 : Int32), N, m)
              ) else (
                rec 696 N m kc ks r1 r2 i3 i4 i5 i6 i7 i8 r9 i10 i11 i12 i13 r14 i15 i16 i17 i18 i19 i20 i21 q2 q5 q8 0 0
              )
            ) else (
              rec 696 N m kc ks r1 r2 i3 i4 i5 i6 i7 i8 r9 i10 i11 i12 i13 r14 i15 i16 i17 i18 i19 i20 i21 q2 q5 q8 0 0
            )
          ) else (
            if q5 = 0 then (
              Option.bind (f_X3_door m r1 i16 ((6 : Int32))) fun q19 =>
              if q19 = 0 then (
                if i17 = 1 then (
                  if q5 = q2 then (
                    some ((0 : Int32), N, m)
                  ) else (
                    rec 696 N m kc ks r1 r2 i3 i4 i5 i6 i7 i8 r9 i10 i11 i12 i13 r14 i15 i16 i17 i18 i19 i20 i21 q2 q5 q8 0 0
                  )
                ) else (
                  rec 696 N m kc ks r1 r2 i3 i4 i5 i6 i7 i8 r9 i10 i11 i12 i13 r14 i15 i16 i17 i18 i19 i20 i21 q2 q5 q8 0 0
                )
              ) else (
                some ((0 : Int32), N, m)
              )
            ) else (
              some ((0 : Int32), N, m)
            )
          )
        )
      )
    )
  )
  else none
noncomputable def fB_L_law_696 (L : Nat) (xs : Nat → Int32) (rec : Nat → Nat → vM → Nat → Nat → Nat → Nat → Int32 → Int32 → Int32 → Int32 → Int32 → Int32 → Nat → Int32 → Int32 → Int32 → Int32 → Nat → Int32 → Int32 → Int32 → Int32 → Int32 → Int32 → Int32 → Int32 → Int32 → Int32 → Int32 → Int32 → Option (Int32 × Nat × vM)) (N : Nat) (m : vM) (kc ks : Nat) (r1 : Nat) (r2 : Nat) (i3 : Int32) (i4 : Int32) (i5 : Int32) (i6 : Int32) (i7 : Int32) (i8 : Int32) (r9 : Nat) (i10 : Int32) (i11 : Int32) (i12 : Int32) (i13 : Int32) (r14 : Nat) (i15 : Int32) (i16 : Int32) (i17 : Int32) (i18 : Int32) (i19 : Int32) (i20 : Int32) (i21 : Int32) (i22 : Int32) (i23 : Int32) (i24 : Int32) (i25 : Int32) (i26 : Int32) : Option (Int32 × Nat × vM) :=
  rec 702 N m kc ks r1 r2 i3 i4 i5 i6 i7 i8 r9 i10 i11 i12 i13 r14 i15 i16 i17 i18 i19 i20 i21 i22 i23 i24 (0 : Int32) (0 : Int32)
noncomputable def fB_L_law_702 (L : Nat) (xs : Nat → Int32) (rec : Nat → Nat → vM → Nat → Nat → Nat → Nat → Int32 → Int32 → Int32 → Int32 → Int32 → Int32 → Nat → Int32 → Int32 → Int32 → Int32 → Nat → Int32 → Int32 → Int32 → Int32 → Int32 → Int32 → Int32 → Int32 → Int32 → Int32 → Int32 → Int32 → Option (Int32 × Nat × vM)) (N : Nat) (m : vM) (kc ks : Nat) (r1 : Nat) (r2 : Nat) (i3 : Int32) (i4 : Int32) (i5 : Int32) (i6 : Int32) (i7 : Int32) (i8 : Int32) (r9 : Nat) (i10 : Int32) (i11 : Int32) (i12 : Int32) (i13 : Int32) (r14 : Nat) (i15 : Int32) (i16 : Int32) (i17 : Int32) (i18 : Int32) (i19 : Int32) (i20 : Int32) (i21 : Int32) (i22 : Int32) (i23 : Int32) (i24 : Int32) (i25 : Int32) (i26 : Int32) : Option (Int32 × Nat × vM) :=
  if i22 ≤ i26 then (
    if i25 = i23 then (
      rec 749 N m kc ks r1 r2 i3 i4 i5 i6 i7 i8 r9 i10 i11 i12 i13 r14 i15 i16 i17 i18 i19 i20 i21 i22 i23 i24 i25 (0 : Int32)
    ) else (
      some ((0 : Int32), N, m)
    )
  ) else (
    if mk m r1 = 3 then
    Option.bind (f_X3_asks m r1 i16 i26 ((2 : Int32))) fun q4 =>
    if q4 < 0 then (
      rec 702 N m kc ks r1 r2 i3 i4 i5 i6 i7 i8 r9 i10 i11 i12 i13 r14 i15 i16 i17 i18 i19 i20 i21 i22 i23 i24 (i25 + 0) (i26 + 1)
    ) else (
      rec 702 N m kc ks r1 r2 i3 i4 i5 i6 i7 i8 r9 i10 i11 i12 i13 r14 i15 i16 i17 i18 i19 i20 i21 i22 i23 i24 (i25 + 1) (i26 + 1)
    )
    else none
  )
noncomputable def fB_L_law_749 (L : Nat) (xs : Nat → Int32) (rec : Nat → Nat → vM → Nat → Nat → Nat → Nat → Int32 → Int32 → Int32 → Int32 → Int32 → Int32 → Nat → Int32 → Int32 → Int32 → Int32 → Nat → Int32 → Int32 → Int32 → Int32 → Int32 → Int32 → Int32 → Int32 → Int32 → Int32 → Int32 → Int32 → Option (Int32 × Nat × vM)) (N : Nat) (m : vM) (kc ks : Nat) (r1 : Nat) (r2 : Nat) (i3 : Int32) (i4 : Int32) (i5 : Int32) (i6 : Int32) (i7 : Int32) (i8 : Int32) (r9 : Nat) (i10 : Int32) (i11 : Int32) (i12 : Int32) (i13 : Int32) (r14 : Nat) (i15 : Int32) (i16 : Int32) (i17 : Int32) (i18 : Int32) (i19 : Int32) (i20 : Int32) (i21 : Int32) (i22 : Int32) (i23 : Int32) (i24 : Int32) (i25 : Int32) (i26 : Int32) : Option (Int32 × Nat × vM) :=
  if i22 ≤ i26 then (
    rec 286 N m kc ks r1 r2 i3 i4 i5 i6 i7 i8 r9 i10 i11 i12 i13 r14 i15 (i16 + 1) 0 0 0 0 0 0 0 0 0 0
  ) else (
    if mk m r1 = 3 then
    Option.bind (f_X3_reach m r1 i16) fun q3 =>
    Option.bind (f_X3_asks m r1 i16 i26 ((0 : Int32))) fun q6 =>
    if ((q3 >>> (q6 &&& 31)) &&& 1) = 0 then (
      some ((0 : Int32), N, m)
    ) else (
      Option.bind (f_X3_asks m r1 i16 i26 ((0 : Int32))) fun q10 =>
      Option.bind (f_X3_reach m r1 q10) fun q13 =>
      Option.bind (f_X3_reach m r1 i16) fun q16 =>
      if (q13 &&& (q16 ^^^ ((-1)))) = 0 then (
        rec 749 N m kc ks r1 r2 i3 i4 i5 i6 i7 i8 r9 i10 i11 i12 i13 r14 i15 i16 i17 i18 i19 i20 i21 i22 i23 i24 i25 (i26 + 1)
      ) else (
        some ((0 : Int32), N, m)
      )
    )
    else none
  )
noncomputable def fB_L_law_847 (L : Nat) (xs : Nat → Int32) (rec : Nat → Nat → vM → Nat → Nat → Nat → Nat → Int32 → Int32 → Int32 → Int32 → Int32 → Int32 → Nat → Int32 → Int32 → Int32 → Int32 → Nat → Int32 → Int32 → Int32 → Int32 → Int32 → Int32 → Int32 → Int32 → Int32 → Int32 → Int32 → Int32 → Option (Int32 × Nat × vM)) (N : Nat) (m : vM) (kc ks : Nat) (r1 : Nat) (r2 : Nat) (i3 : Int32) (i4 : Int32) (i5 : Int32) (i6 : Int32) (i7 : Int32) (i8 : Int32) (r9 : Nat) (i10 : Int32) (i11 : Int32) (i12 : Int32) (i13 : Int32) (r14 : Nat) (i15 : Int32) (i16 : Int32) (i17 : Int32) (i18 : Int32) (i19 : Int32) (i20 : Int32) (i21 : Int32) (i22 : Int32) (i23 : Int32) (i24 : Int32) (i25 : Int32) (i26 : Int32) : Option (Int32 × Nat × vM) :=
  rec 850 N m kc ks r1 r2 i3 i4 i5 i6 i7 i8 r9 i10 i11 i12 i13 r14 i15 (0 : Int32) 0 0 0 0 0 0 0 0 0 0
noncomputable def fB_L_law_850 (L : Nat) (xs : Nat → Int32) (rec : Nat → Nat → vM → Nat → Nat → Nat → Nat → Int32 → Int32 → Int32 → Int32 → Int32 → Int32 → Nat → Int32 → Int32 → Int32 → Int32 → Nat → Int32 → Int32 → Int32 → Int32 → Int32 → Int32 → Int32 → Int32 → Int32 → Int32 → Int32 → Int32 → Option (Int32 × Nat × vM)) (N : Nat) (m : vM) (kc ks : Nat) (r1 : Nat) (r2 : Nat) (i3 : Int32) (i4 : Int32) (i5 : Int32) (i6 : Int32) (i7 : Int32) (i8 : Int32) (r9 : Nat) (i10 : Int32) (i11 : Int32) (i12 : Int32) (i13 : Int32) (r14 : Nat) (i15 : Int32) (i16 : Int32) (i17 : Int32) (i18 : Int32) (i19 : Int32) (i20 : Int32) (i21 : Int32) (i22 : Int32) (i23 : Int32) (i24 : Int32) (i25 : Int32) (i26 : Int32) : Option (Int32 × Nat × vM) :=
  if 4 ≤ i16 then (
    rec 883 N m kc ks r1 r2 i3 i4 i5 i6 i7 i8 r9 i10 i11 i12 i13 r14 i15 (0 : Int32) 0 0 0 0 0 0 0 0 0 0
  ) else (
    if mk m r1 = 3 then
    Option.bind (f_X3_count m r1 ((2 + i16))) fun q3 =>
    if mk m r14 = 6 then
    if vin i16 (ml m r14) then
    if q3 = (mi m r14 i16.toNatClampNeg) then (
      rec 850 N m kc ks r1 r2 i3 i4 i5 i6 i7 i8 r9 i10 i11 i12 i13 r14 i15 (i16 + 1) 0 0 0 0 0 0 0 0 0 0
    ) else (
      some ((0 : Int32), N, m)
    )
    else none
    else none
    else none
  )
noncomputable def fB_L_law_883 (L : Nat) (xs : Nat → Int32) (rec : Nat → Nat → vM → Nat → Nat → Nat → Nat → Int32 → Int32 → Int32 → Int32 → Int32 → Int32 → Nat → Int32 → Int32 → Int32 → Int32 → Nat → Int32 → Int32 → Int32 → Int32 → Int32 → Int32 → Int32 → Int32 → Int32 → Int32 → Int32 → Int32 → Option (Int32 × Nat × vM)) (N : Nat) (m : vM) (kc ks : Nat) (r1 : Nat) (r2 : Nat) (i3 : Int32) (i4 : Int32) (i5 : Int32) (i6 : Int32) (i7 : Int32) (i8 : Int32) (r9 : Nat) (i10 : Int32) (i11 : Int32) (i12 : Int32) (i13 : Int32) (r14 : Nat) (i15 : Int32) (i16 : Int32) (i17 : Int32) (i18 : Int32) (i19 : Int32) (i20 : Int32) (i21 : Int32) (i22 : Int32) (i23 : Int32) (i24 : Int32) (i25 : Int32) (i26 : Int32) : Option (Int32 × Nat × vM) :=
  if mk m r1 = 3 then
  Option.bind (f_X3_count m r1 ((6 : Int32))) fun q2 =>
  if q2 ≤ i16 then (
    rec 29 N m kc ks r1 r2 i3 (i4 + 1) 0 0 0 0 0 0 0 0 0 0 0 0 0 0 0 0 0 0 0 0 0 0
  ) else (
    Option.bind (f_X3_voice m r1 i16 ((0 : Int32))) fun q6 =>
    Option.bind (f_X3_voice m r1 i16 ((1 : Int32))) fun q9 =>
    Option.bind (f_X3_voice m r1 i16 ((2 : Int32))) fun q12 =>
    if q12 = 0 then (
      rec 929 N m kc ks r1 r2 i3 i4 i5 i6 i7 i8 r9 i10 i11 i12 i13 r14 i15 i16 q6 q9 (1 : Int32) 0 0 0 0 0 0 0
    ) else (
      rec 929 N m kc ks r1 r2 i3 i4 i5 i6 i7 i8 r9 i10 i11 i12 i13 r14 i15 i16 q6 q9 (0 : Int32) 0 0 0 0 0 0 0
    )
  )
  else none
noncomputable def fB_L_law_929 (L : Nat) (xs : Nat → Int32) (rec : Nat → Nat → vM → Nat → Nat → Nat → Nat → Int32 → Int32 → Int32 → Int32 → Int32 → Int32 → Nat → Int32 → Int32 → Int32 → Int32 → Nat → Int32 → Int32 → Int32 → Int32 → Int32 → Int32 → Int32 → Int32 → Int32 → Int32 → Int32 → Int32 → Option (Int32 × Nat × vM)) (N : Nat) (m : vM) (kc ks : Nat) (r1 : Nat) (r2 : Nat) (i3 : Int32) (i4 : Int32) (i5 : Int32) (i6 : Int32) (i7 : Int32) (i8 : Int32) (r9 : Nat) (i10 : Int32) (i11 : Int32) (i12 : Int32) (i13 : Int32) (r14 : Nat) (i15 : Int32) (i16 : Int32) (i17 : Int32) (i18 : Int32) (i19 : Int32) (i20 : Int32) (i21 : Int32) (i22 : Int32) (i23 : Int32) (i24 : Int32) (i25 : Int32) (i26 : Int32) : Option (Int32 × Nat × vM) :=
  if i19 = 0 then (
    rec 943 N m kc ks r1 r2 i3 i4 i5 i6 i7 i8 r9 i10 i11 i12 i13 r14 i15 i16 i17 i18 i19 i18 0 0 0 0 0 0
  ) else (
    rec 943 N m kc ks r1 r2 i3 i4 i5 i6 i7 i8 r9 i10 i11 i12 i13 r14 i15 i16 i17 i18 i19 i17 0 0 0 0 0 0
  )
noncomputable def fB_L_law_943 (L : Nat) (xs : Nat → Int32) (rec : Nat → Nat → vM → Nat → Nat → Nat → Nat → Int32 → Int32 → Int32 → Int32 → Int32 → Int32 → Nat → Int32 → Int32 → Int32 → Int32 → Nat → Int32 → Int32 → Int32 → Int32 → Int32 → Int32 → Int32 → Int32 → Int32 → Int32 → Int32 → Int32 → Option (Int32 × Nat × vM)) (N : Nat) (m : vM) (kc ks : Nat) (r1 : Nat) (r2 : Nat) (i3 : Int32) (i4 : Int32) (i5 : Int32) (i6 : Int32) (i7 : Int32) (i8 : Int32) (r9 : Nat) (i10 : Int32) (i11 : Int32) (i12 : Int32) (i13 : Int32) (r14 : Nat) (i15 : Int32) (i16 : Int32) (i17 : Int32) (i18 : Int32) (i19 : Int32) (i20 : Int32) (i21 : Int32) (i22 : Int32) (i23 : Int32) (i24 : Int32) (i25 : Int32) (i26 : Int32) : Option (Int32 × Nat × vM) :=
  if i19 = 0 then (
    rec 957 N m kc ks r1 r2 i3 i4 i5 i6 i7 i8 r9 i10 i11 i12 i13 r14 i15 i16 i17 i18 i19 i20 i17 0 0 0 0 0
  ) else (
    rec 957 N m kc ks r1 r2 i3 i4 i5 i6 i7 i8 r9 i10 i11 i12 i13 r14 i15 i16 i17 i18 i19 i20 i18 0 0 0 0 0
  )
noncomputable def fB_L_law_957 (L : Nat) (xs : Nat → Int32) (rec : Nat → Nat → vM → Nat → Nat → Nat → Nat → Int32 → Int32 → Int32 → Int32 → Int32 → Int32 → Nat → Int32 → Int32 → Int32 → Int32 → Nat → Int32 → Int32 → Int32 → Int32 → Int32 → Int32 → Int32 → Int32 → Int32 → Int32 → Int32 → Int32 → Option (Int32 × Nat × vM)) (N : Nat) (m : vM) (kc ks : Nat) (r1 : Nat) (r2 : Nat) (i3 : Int32) (i4 : Int32) (i5 : Int32) (i6 : Int32) (i7 : Int32) (i8 : Int32) (r9 : Nat) (i10 : Int32) (i11 : Int32) (i12 : Int32) (i13 : Int32) (r14 : Nat) (i15 : Int32) (i16 : Int32) (i17 : Int32) (i18 : Int32) (i19 : Int32) (i20 : Int32) (i21 : Int32) (i22 : Int32) (i23 : Int32) (i24 : Int32) (i25 : Int32) (i26 : Int32) : Option (Int32 × Nat × vM) :=
  rec 963 N m kc ks r1 r2 i3 i4 i5 i6 i7 i8 r9 i10 i11 i12 i13 r14 i15 i16 i17 i18 i19 i20 i21 (0 : Int32) (0 : Int32) 0 0 0
noncomputable def fB_L_law_963 (L : Nat) (xs : Nat → Int32) (rec : Nat → Nat → vM → Nat → Nat → Nat → Nat → Int32 → Int32 → Int32 → Int32 → Int32 → Int32 → Nat → Int32 → Int32 → Int32 → Int32 → Nat → Int32 → Int32 → Int32 → Int32 → Int32 → Int32 → Int32 → Int32 → Int32 → Int32 → Int32 → Int32 → Option (Int32 × Nat × vM)) (N : Nat) (m : vM) (kc ks : Nat) (r1 : Nat) (r2 : Nat) (i3 : Int32) (i4 : Int32) (i5 : Int32) (i6 : Int32) (i7 : Int32) (i8 : Int32) (r9 : Nat) (i10 : Int32) (i11 : Int32) (i12 : Int32) (i13 : Int32) (r14 : Nat) (i15 : Int32) (i16 : Int32) (i17 : Int32) (i18 : Int32) (i19 : Int32) (i20 : Int32) (i21 : Int32) (i22 : Int32) (i23 : Int32) (i24 : Int32) (i25 : Int32) (i26 : Int32) : Option (Int32 × Nat × vM) :=
  if mk m r1 = 3 then
  Option.bind (f_X3_door m r1 i20 ((3 : Int32))) fun q2 =>
  if q2 ≤ i23 then (
    if i22 = 0 then (
      some ((0 : Int32), N, m)
    ) else (
      rec 883 N m kc ks r1 r2 i3 i4 i5 i6 i7 i8 r9 i10 i11 i12 i13 r14 i15 (i16 + 1) 0 0 0 0 0 0 0 0 0 0
    )
  ) else (
    if i22 = 0 then (
      Option.bind (f_X3_asks m r1 i20 i23 ((0 : Int32))) fun q8 =>
      if q8 = i21 then (
        Option.bind (f_X3_voice m r1 i16 ((3 : Int32))) fun q12 =>
        if q12 < 1 then (
          rec 1031 N m kc ks r1 r2 i3 i4 i5 i6 i7 i8 r9 i10 i11 i12 i13 r14 i15 i16 i17 i18 i19 i20 i21 (0 : Int32) i23 0 0 0
        ) else (
          Option.bind (f_X3_voice m r1 i16 ((3 : Int32))) fun q16 =>
          Option.bind (f_X3_asks m r1 i20 i23 ((1 : Int32))) fun q19 =>
          if q19 < q16 then (
            rec 1031 N m kc ks r1 r2 i3 i4 i5 i6 i7 i8 r9 i10 i11 i12 i13 r14 i15 i16 i17 i18 i19 i20 i21 (0 : Int32) i23 0 0 0
          ) else (
            rec 1031 N m kc ks r1 r2 i3 i4 i5 i6 i7 i8 r9 i10 i11 i12 i13 r14 i15 i16 i17 i18 i19 i20 i21 (1 : Int32) i23 0 0 0
          )
        )
      ) else (
        rec 1031 N m kc ks r1 r2 i3 i4 i5 i6 i7 i8 r9 i10 i11 i12 i13 r14 i15 i16 i17 i18 i19 i20 i21 (0 : Int32) i23 0 0 0
      )
    ) else (
      rec 1031 N m kc ks r1 r2 i3 i4 i5 i6 i7 i8 r9 i10 i11 i12 i13 r14 i15 i16 i17 i18 i19 i20 i21 (1 : Int32) i23 0 0 0
    )
  )
  else none
noncomputable def fB_L_law_1031 (L : Nat) (xs : Nat → Int32) (rec : Nat → Nat → vM → Nat → Nat → Nat → Nat → Int32 → Int32 → Int32 → Int32 → Int32 → Int32 → Nat → Int32 → Int32 → Int32 → Int32 → Nat → Int32 → Int32 → Int32 → Int32 → Int32 → Int32 → Int32 → Int32 → Int32 → Int32 → Int32 → Int32 → Option (Int32 × Nat × vM)) (N : Nat) (m : vM) (kc ks : Nat) (r1 : Nat) (r2 : Nat) (i3 : Int32) (i4 : Int32) (i5 : Int32) (i6 : Int32) (i7 : Int32) (i8 : Int32) (r9 : Nat) (i10 : Int32) (i11 : Int32) (i12 : Int32) (i13 : Int32) (r14 : Nat) (i15 : Int32) (i16 : Int32) (i17 : Int32) (i18 : Int32) (i19 : Int32) (i20 : Int32) (i21 : Int32) (i22 : Int32) (i23 : Int32) (i24 : Int32) (i25 : Int32) (i26 : Int32) : Option (Int32 × Nat × vM) :=
  rec 963 N m kc ks r1 r2 i3 i4 i5 i6 i7 i8 r9 i10 i11 i12 i13 r14 i15 i16 i17 i18 i19 i20 i21 i22 (i23 + 1) 0 0 0
noncomputable def fL_L_law (L : Nat) (xs : Nat → Int32) (n : Nat) : Nat → Nat → vM → Nat → Nat → Nat → Nat → Int32 → Int32 → Int32 → Int32 → Int32 → Int32 → Nat → Int32 → Int32 → Int32 → Int32 → Nat → Int32 → Int32 → Int32 → Int32 → Int32 → Int32 → Int32 → Int32 → Int32 → Int32 → Int32 → Int32 → Option (Int32 × Nat × vM) := Nat.rec (fun _ _ _ _ _ _ _ _ _ _ _ _ _ _ _ _ _ _ _ _ _ _ _ _ _ _ _ _ _ _ _ => none) (fun _ rec pc N m kc ks r1 r2 i3 i4 i5 i6 i7 i8 r9 i10 i11 i12 i13 r14 i15 i16 i17 i18 i19 i20 i21 i22 i23 i24 i25 i26 => if pc = 29 then fB_L_law_29 L xs rec N m kc ks r1 r2 i3 i4 i5 i6 i7 i8 r9 i10 i11 i12 i13 r14 i15 i16 i17 i18 i19 i20 i21 i22 i23 i24 i25 i26 else if pc = 90 then fB_L_law_90 L xs rec N m kc ks r1 r2 i3 i4 i5 i6 i7 i8 r9 i10 i11 i12 i13 r14 i15 i16 i17 i18 i19 i20 i21 i22 i23 i24 i25 i26 else if pc = 123 then fB_L_law_123 L xs rec N m kc ks r1 r2 i3 i4 i5 i6 i7 i8 r9 i10 i11 i12 i13 r14 i15 i16 i17 i18 i19 i20 i21 i22 i23 i24 i25 i26 else if pc = 132 then fB_L_law_132 L xs rec N m kc ks r1 r2 i3 i4 i5 i6 i7 i8 r9 i10 i11 i12 i13 r14 i15 i16 i17 i18 i19 i20 i21 i22 i23 i24 i25 i26 else if pc = 272 then fB_L_law_272 L xs rec N m kc ks r1 r2 i3 i4 i5 i6 i7 i8 r9 i10 i11 i12 i13 r14 i15 i16 i17 i18 i19 i20 i21 i22 i23 i24 i25 i26 else if pc = 286 then fB_L_law_286 L xs rec N m kc ks r1 r2 i3 i4 i5 i6 i7 i8 r9 i10 i11 i12 i13 r14 i15 i16 i17 i18 i19 i20 i21 i22 i23 i24 i25 i26 else if pc = 392 then fB_L_law_392 L xs rec N m kc ks r1 r2 i3 i4 i5 i6 i7 i8 r9 i10 i11 i12 i13 r14 i15 i16 i17 i18 i19 i20 i21 i22 i23 i24 i25 i26 else if pc = 402 then fB_L_law_402 L xs rec N m kc ks r1 r2 i3 i4 i5 i6 i7 i8 r9 i10 i11 i12 i13 r14 i15 i16 i17 i18 i19 i20 i21 i22 i23 i24 i25 i26 else if pc = 411 then fB_L_law_411 L xs rec N m kc ks r1 r2 i3 i4 i5 i6 i7 i8 r9 i10 i11 i12 i13 r14 i15 i16 i17 i18 i19 i20 i21 i22 i23 i24 i25 i26 else if pc = 430 then fB_L_law_430 L xs rec N m kc ks r1 r2 i3 i4 i5 i6 i7 i8 r9 i10 i11 i12 i13 r14 i15 i16 i17 i18 i19 i20 i21 i22 i23 i24 i25 i26 else if pc = 448 then fB_L_law_448 L xs rec N m kc ks r1 r2 i3 i4 i5 i6 i7 i8 r9 i10 i11 i12 i13 r14 i15 i16 i17 i18 i19 i20 i21 i22 i23 i24 i25 i26 else if pc = 473 then fB_L_law_473 L xs rec N m kc ks r1 r2 i3 i4 i5 i6 i7 i8 r9 i10 i11 i12 i13 r14 i15 i16 i17 i18 i19 i20 i21 i22 i23 i24 i25 i26 else if pc = 513 then fB_L_law_513 L xs rec N m kc ks r1 r2 i3 i4 i5 i6 i7 i8 r9 i10 i11 i12 i13 r14 i15 i16 i17 i18 i19 i20 i21 i22 i23 i24 i25 i26 else if pc = 561 then fB_L_law_561 L xs rec N m kc ks r1 r2 i3 i4 i5 i6 i7 i8 r9 i10 i11 i12 i13 r14 i15 i16 i17 i18 i19 i20 i21 i22 i23 i24 i25 i26 else if pc = 583 then fB_L_law_583 L xs rec N m kc ks r1 r2 i3 i4 i5 i6 i7 i8 r9 i10 i11 i12 i13 r14 i15 i16 i17 i18 i19 i20 i21 i22 i23 i24 i25 i26 else if pc = 608 then fB_L_law_608 L xs rec N m kc ks r1 r2 i3 i4 i5 i6 i7 i8 r9 i10 i11 i12 i13 r14 i15 i16 i17 i18 i19 i20 i21 i22 i23 i24 i25 i26 else if pc = 696 then fB_L_law_696 L xs rec N m kc ks r1 r2 i3 i4 i5 i6 i7 i8 r9 i10 i11 i12 i13 r14 i15 i16 i17 i18 i19 i20 i21 i22 i23 i24 i25 i26 else if pc = 702 then fB_L_law_702 L xs rec N m kc ks r1 r2 i3 i4 i5 i6 i7 i8 r9 i10 i11 i12 i13 r14 i15 i16 i17 i18 i19 i20 i21 i22 i23 i24 i25 i26 else if pc = 749 then fB_L_law_749 L xs rec N m kc ks r1 r2 i3 i4 i5 i6 i7 i8 r9 i10 i11 i12 i13 r14 i15 i16 i17 i18 i19 i20 i21 i22 i23 i24 i25 i26 else if pc = 847 then fB_L_law_847 L xs rec N m kc ks r1 r2 i3 i4 i5 i6 i7 i8 r9 i10 i11 i12 i13 r14 i15 i16 i17 i18 i19 i20 i21 i22 i23 i24 i25 i26 else if pc = 850 then fB_L_law_850 L xs rec N m kc ks r1 r2 i3 i4 i5 i6 i7 i8 r9 i10 i11 i12 i13 r14 i15 i16 i17 i18 i19 i20 i21 i22 i23 i24 i25 i26 else if pc = 883 then fB_L_law_883 L xs rec N m kc ks r1 r2 i3 i4 i5 i6 i7 i8 r9 i10 i11 i12 i13 r14 i15 i16 i17 i18 i19 i20 i21 i22 i23 i24 i25 i26 else if pc = 929 then fB_L_law_929 L xs rec N m kc ks r1 r2 i3 i4 i5 i6 i7 i8 r9 i10 i11 i12 i13 r14 i15 i16 i17 i18 i19 i20 i21 i22 i23 i24 i25 i26 else if pc = 943 then fB_L_law_943 L xs rec N m kc ks r1 r2 i3 i4 i5 i6 i7 i8 r9 i10 i11 i12 i13 r14 i15 i16 i17 i18 i19 i20 i21 i22 i23 i24 i25 i26 else if pc = 957 then fB_L_law_957 L xs rec N m kc ks r1 r2 i3 i4 i5 i6 i7 i8 r9 i10 i11 i12 i13 r14 i15 i16 i17 i18 i19 i20 i21 i22 i23 i24 i25 i26 else if pc = 963 then fB_L_law_963 L xs rec N m kc ks r1 r2 i3 i4 i5 i6 i7 i8 r9 i10 i11 i12 i13 r14 i15 i16 i17 i18 i19 i20 i21 i22 i23 i24 i25 i26 else if pc = 1031 then fB_L_law_1031 L xs rec N m kc ks r1 r2 i3 i4 i5 i6 i7 i8 r9 i10 i11 i12 i13 r14 i15 i16 i17 i18 i19 i20 i21 i22 i23 i24 i25 i26 else none) n
noncomputable def f_L_law (L : Nat) (xs : Nat → Int32) (N : Nat) (m : vM)  : Option (Int32 × Nat × vM) :=
  Option.bind (f_X3_init ((N + 1)) ((mN m N 3 0)) N) fun q6 =>
  Option.bind (f_L_build L xs q6.1 q6.2 N) fun q16 =>
  if q16.1 = none then (
    some ((0 : Int32), q16.2.1, q16.2.2)
  ) else Option.bind (q16.1) fun y27 => (
    if mk q16.2.2 y27 = 5 then
    Option.bind (mr q16.2.2 y27 0) fun y30 =>
    if mk q16.2.2 y30 = 9 then
    fL_L_law L xs vF 29 q16.2.1 q16.2.2 ((((0 + 1) + 148) + 91)) ((((0 + 2) + 4178) + 1860)) N y27 (Int32.ofNat (ml q16.2.2 y30)) (0 : Int32) 0 0 0 0 0 0 0 0 0 0 0 0 0 0 0 0 0 0 0 0 0 0
    else none
    else none
  )
abbrev lC_29 (p : Program) (l : Launch) (e : Env) (s : State) (m : MethodId) (below : List Frame) (meth : Method) (c : Code) (D : va_G) (tc : Nat → ClassId) (ad : Nat → Nat) (N b L : Nat) (xs : Nat → Int32) (A : Nat → Prop) (Qf : State → Prop) (z : Int32 × Nat × vM) (n : Nat) : Prop := ∀ (NL : Nat) (adL : Nat → Nat) (m1 : vM) (kc ks : Nat) (r1 : Nat) (r2 : Nat) (i3 : Int32) (i4 : Int32) (H : Heap) (locs : List Loc) (ls : Array Slot), N ≤ NL → (∀ k, k < N → adL k = ad k) → kc ≤ 140000 → ks ≤ 4200000 → vOK NL m1 → r1 < NL → r2 < NL → fL_L_law L xs n 29 NL m1 kc ks r1 r2 i3 i4 0 0 0 0 0 0 0 0 0 0 0 0 0 0 0 0 0 0 0 0 0 0 = some z → va_P D vwCl (vW tc adL NL m1) H → va_D A (vW tc adL NL m1) → va_S A s.heap H locs → lv_has ls 27 [(1, .ref (adL r1)), (2, .ref (adL r2)), (3, .int i3), (4, .int i4), (0, .ref b)] → W p l e room_1 s m #[Value.ref b] below meth c H locs kc ks Qf (F0 m 29 ls [])
abbrev lC_90 (p : Program) (l : Launch) (e : Env) (s : State) (m : MethodId) (below : List Frame) (meth : Method) (c : Code) (D : va_G) (tc : Nat → ClassId) (ad : Nat → Nat) (N b L : Nat) (xs : Nat → Int32) (A : Nat → Prop) (Qf : State → Prop) (z : Int32 × Nat × vM) (n : Nat) : Prop := ∀ (NL : Nat) (adL : Nat → Nat) (m1 : vM) (kc ks : Nat) (r1 : Nat) (r2 : Nat) (i3 : Int32) (i4 : Int32) (i5 : Int32) (i6 : Int32) (i7 : Int32) (H : Heap) (locs : List Loc) (ls : Array Slot), N ≤ NL → (∀ k, k < N → adL k = ad k) → kc ≤ 140000 → ks ≤ 4200000 → vOK NL m1 → r1 < NL → r2 < NL → fL_L_law L xs n 90 NL m1 kc ks r1 r2 i3 i4 i5 i6 i7 0 0 0 0 0 0 0 0 0 0 0 0 0 0 0 0 0 0 0 = some z → va_P D vwCl (vW tc adL NL m1) H → va_D A (vW tc adL NL m1) → va_S A s.heap H locs → lv_has ls 27 [(1, .ref (adL r1)), (2, .ref (adL r2)), (3, .int i3), (4, .int i4), (5, .int i5), (6, .int i6), (7, .int i7), (0, .ref b)] → W p l e room_1 s m #[Value.ref b] below meth c H locs kc ks Qf (F0 m 90 ls [])
abbrev lC_123 (p : Program) (l : Launch) (e : Env) (s : State) (m : MethodId) (below : List Frame) (meth : Method) (c : Code) (D : va_G) (tc : Nat → ClassId) (ad : Nat → Nat) (N b L : Nat) (xs : Nat → Int32) (A : Nat → Prop) (Qf : State → Prop) (z : Int32 × Nat × vM) (n : Nat) : Prop := ∀ (NL : Nat) (adL : Nat → Nat) (m1 : vM) (kc ks : Nat) (r1 : Nat) (r2 : Nat) (i3 : Int32) (i4 : Int32) (i5 : Int32) (i6 : Int32) (i7 : Int32) (i8 : Int32) (r9 : Nat) (i10 : Int32) (H : Heap) (locs : List Loc) (ls : Array Slot), N ≤ NL → (∀ k, k < N → adL k = ad k) → kc ≤ 140000 → ks ≤ 4200000 → vOK NL m1 → r1 < NL → r2 < NL → r9 < NL → fL_L_law L xs n 123 NL m1 kc ks r1 r2 i3 i4 i5 i6 i7 i8 r9 i10 0 0 0 0 0 0 0 0 0 0 0 0 0 0 0 0 = some z → va_P D vwCl (vW tc adL NL m1) H → va_D A (vW tc adL NL m1) → va_S A s.heap H locs → lv_has ls 27 [(1, .ref (adL r1)), (2, .ref (adL r2)), (3, .int i3), (4, .int i4), (5, .int i5), (6, .int i6), (7, .int i7), (8, .int i8), (9, .ref (adL r9)), (10, .int i10), (0, .ref b)] → W p l e room_1 s m #[Value.ref b] below meth c H locs kc ks Qf (F0 m 123 ls [])
abbrev lC_132 (p : Program) (l : Launch) (e : Env) (s : State) (m : MethodId) (below : List Frame) (meth : Method) (c : Code) (D : va_G) (tc : Nat → ClassId) (ad : Nat → Nat) (N b L : Nat) (xs : Nat → Int32) (A : Nat → Prop) (Qf : State → Prop) (z : Int32 × Nat × vM) (n : Nat) : Prop := ∀ (NL : Nat) (adL : Nat → Nat) (m1 : vM) (kc ks : Nat) (r1 : Nat) (r2 : Nat) (i3 : Int32) (i4 : Int32) (i5 : Int32) (i6 : Int32) (i7 : Int32) (i8 : Int32) (r9 : Nat) (i10 : Int32) (i11 : Int32) (H : Heap) (locs : List Loc) (ls : Array Slot), N ≤ NL → (∀ k, k < N → adL k = ad k) → kc ≤ 140000 → ks ≤ 4200000 → vOK NL m1 → r1 < NL → r2 < NL → r9 < NL → fL_L_law L xs n 132 NL m1 kc ks r1 r2 i3 i4 i5 i6 i7 i8 r9 i10 i11 0 0 0 0 0 0 0 0 0 0 0 0 0 0 0 = some z → va_P D vwCl (vW tc adL NL m1) H → va_D A (vW tc adL NL m1) → va_S A s.heap H locs → lv_has ls 27 [(1, .ref (adL r1)), (2, .ref (adL r2)), (3, .int i3), (4, .int i4), (5, .int i5), (6, .int i6), (7, .int i7), (8, .int i8), (9, .ref (adL r9)), (10, .int i10), (11, .int i11), (0, .ref b)] → W p l e room_1 s m #[Value.ref b] below meth c H locs kc ks Qf (F0 m 132 ls [])
abbrev lC_272 (p : Program) (l : Launch) (e : Env) (s : State) (m : MethodId) (below : List Frame) (meth : Method) (c : Code) (D : va_G) (tc : Nat → ClassId) (ad : Nat → Nat) (N b L : Nat) (xs : Nat → Int32) (A : Nat → Prop) (Qf : State → Prop) (z : Int32 × Nat × vM) (n : Nat) : Prop := ∀ (NL : Nat) (adL : Nat → Nat) (m1 : vM) (kc ks : Nat) (r1 : Nat) (r2 : Nat) (i3 : Int32) (i4 : Int32) (i5 : Int32) (i6 : Int32) (i7 : Int32) (i8 : Int32) (r9 : Nat) (i10 : Int32) (i11 : Int32) (i12 : Int32) (H : Heap) (locs : List Loc) (ls : Array Slot), N ≤ NL → (∀ k, k < N → adL k = ad k) → kc ≤ 140000 → ks ≤ 4200000 → vOK NL m1 → r1 < NL → r2 < NL → r9 < NL → fL_L_law L xs n 272 NL m1 kc ks r1 r2 i3 i4 i5 i6 i7 i8 r9 i10 i11 i12 0 0 0 0 0 0 0 0 0 0 0 0 0 0 = some z → va_P D vwCl (vW tc adL NL m1) H → va_D A (vW tc adL NL m1) → va_S A s.heap H locs → lv_has ls 27 [(1, .ref (adL r1)), (2, .ref (adL r2)), (3, .int i3), (4, .int i4), (5, .int i5), (6, .int i6), (7, .int i7), (8, .int i8), (9, .ref (adL r9)), (10, .int i10), (11, .int i11), (12, .int i12), (0, .ref b)] → W p l e room_1 s m #[Value.ref b] below meth c H locs kc ks Qf (F0 m 272 ls [])
abbrev lC_286 (p : Program) (l : Launch) (e : Env) (s : State) (m : MethodId) (below : List Frame) (meth : Method) (c : Code) (D : va_G) (tc : Nat → ClassId) (ad : Nat → Nat) (N b L : Nat) (xs : Nat → Int32) (A : Nat → Prop) (Qf : State → Prop) (z : Int32 × Nat × vM) (n : Nat) : Prop := ∀ (NL : Nat) (adL : Nat → Nat) (m1 : vM) (kc ks : Nat) (r1 : Nat) (r2 : Nat) (i3 : Int32) (i4 : Int32) (i5 : Int32) (i6 : Int32) (i7 : Int32) (i8 : Int32) (r9 : Nat) (i10 : Int32) (i11 : Int32) (i12 : Int32) (i13 : Int32) (r14 : Nat) (i15 : Int32) (i16 : Int32) (H : Heap) (locs : List Loc) (ls : Array Slot), N ≤ NL → (∀ k, k < N → adL k = ad k) → kc ≤ 140000 → ks ≤ 4200000 → vOK NL m1 → r1 < NL → r2 < NL → r9 < NL → r14 < NL → fL_L_law L xs n 286 NL m1 kc ks r1 r2 i3 i4 i5 i6 i7 i8 r9 i10 i11 i12 i13 r14 i15 i16 0 0 0 0 0 0 0 0 0 0 = some z → va_P D vwCl (vW tc adL NL m1) H → va_D A (vW tc adL NL m1) → va_S A s.heap H locs → lv_has ls 27 [(1, .ref (adL r1)), (2, .ref (adL r2)), (3, .int i3), (4, .int i4), (5, .int i5), (6, .int i6), (7, .int i7), (8, .int i8), (9, .ref (adL r9)), (10, .int i10), (11, .int i11), (12, .int i12), (13, .int i13), (14, .ref (adL r14)), (15, .int i15), (16, .int i16), (0, .ref b)] → W p l e room_1 s m #[Value.ref b] below meth c H locs kc ks Qf (F0 m 286 ls [])
abbrev lC_392 (p : Program) (l : Launch) (e : Env) (s : State) (m : MethodId) (below : List Frame) (meth : Method) (c : Code) (D : va_G) (tc : Nat → ClassId) (ad : Nat → Nat) (N b L : Nat) (xs : Nat → Int32) (A : Nat → Prop) (Qf : State → Prop) (z : Int32 × Nat × vM) (n : Nat) : Prop := ∀ (NL : Nat) (adL : Nat → Nat) (m1 : vM) (kc ks : Nat) (r1 : Nat) (r2 : Nat) (i3 : Int32) (i4 : Int32) (i5 : Int32) (i6 : Int32) (i7 : Int32) (i8 : Int32) (r9 : Nat) (i10 : Int32) (i11 : Int32) (i12 : Int32) (i13 : Int32) (r14 : Nat) (i15 : Int32) (i16 : Int32) (i17 : Int32) (i18 : Int32) (i19 : Int32) (i20 : Int32) (i21 : Int32) (H : Heap) (locs : List Loc) (ls : Array Slot), N ≤ NL → (∀ k, k < N → adL k = ad k) → kc ≤ 140000 → ks ≤ 4200000 → vOK NL m1 → r1 < NL → r2 < NL → r9 < NL → r14 < NL → fL_L_law L xs n 392 NL m1 kc ks r1 r2 i3 i4 i5 i6 i7 i8 r9 i10 i11 i12 i13 r14 i15 i16 i17 i18 i19 i20 i21 0 0 0 0 0 = some z → va_P D vwCl (vW tc adL NL m1) H → va_D A (vW tc adL NL m1) → va_S A s.heap H locs → lv_has ls 27 [(1, .ref (adL r1)), (2, .ref (adL r2)), (3, .int i3), (4, .int i4), (5, .int i5), (6, .int i6), (7, .int i7), (8, .int i8), (9, .ref (adL r9)), (10, .int i10), (11, .int i11), (12, .int i12), (13, .int i13), (14, .ref (adL r14)), (15, .int i15), (16, .int i16), (17, .int i17), (18, .int i18), (19, .int i19), (20, .int i20), (21, .int i21), (0, .ref b)] → W p l e room_1 s m #[Value.ref b] below meth c H locs kc ks Qf (F0 m 392 ls [])
abbrev lC_402 (p : Program) (l : Launch) (e : Env) (s : State) (m : MethodId) (below : List Frame) (meth : Method) (c : Code) (D : va_G) (tc : Nat → ClassId) (ad : Nat → Nat) (N b L : Nat) (xs : Nat → Int32) (A : Nat → Prop) (Qf : State → Prop) (z : Int32 × Nat × vM) (n : Nat) : Prop := ∀ (NL : Nat) (adL : Nat → Nat) (m1 : vM) (kc ks : Nat) (r1 : Nat) (r2 : Nat) (i3 : Int32) (i4 : Int32) (i5 : Int32) (i6 : Int32) (i7 : Int32) (i8 : Int32) (r9 : Nat) (i10 : Int32) (i11 : Int32) (i12 : Int32) (i13 : Int32) (r14 : Nat) (i15 : Int32) (i16 : Int32) (i17 : Int32) (i18 : Int32) (i19 : Int32) (i20 : Int32) (i21 : Int32) (H : Heap) (locs : List Loc) (ls : Array Slot), N ≤ NL → (∀ k, k < N → adL k = ad k) → kc ≤ 140000 → ks ≤ 4200000 → vOK NL m1 → r1 < NL → r2 < NL → r9 < NL → r14 < NL → fL_L_law L xs n 402 NL m1 kc ks r1 r2 i3 i4 i5 i6 i7 i8 r9 i10 i11 i12 i13 r14 i15 i16 i17 i18 i19 i20 i21 0 0 0 0 0 = some z → va_P D vwCl (vW tc adL NL m1) H → va_D A (vW tc adL NL m1) → va_S A s.heap H locs → lv_has ls 27 [(1, .ref (adL r1)), (2, .ref (adL r2)), (3, .int i3), (4, .int i4), (5, .int i5), (6, .int i6), (7, .int i7), (8, .int i8), (9, .ref (adL r9)), (10, .int i10), (11, .int i11), (12, .int i12), (13, .int i13), (14, .ref (adL r14)), (15, .int i15), (16, .int i16), (17, .int i17), (18, .int i18), (19, .int i19), (20, .int i20), (21, .int i21), (0, .ref b)] → W p l e room_1 s m #[Value.ref b] below meth c H locs kc ks Qf (F0 m 402 ls [])
abbrev lC_411 (p : Program) (l : Launch) (e : Env) (s : State) (m : MethodId) (below : List Frame) (meth : Method) (c : Code) (D : va_G) (tc : Nat → ClassId) (ad : Nat → Nat) (N b L : Nat) (xs : Nat → Int32) (A : Nat → Prop) (Qf : State → Prop) (z : Int32 × Nat × vM) (n : Nat) : Prop := ∀ (NL : Nat) (adL : Nat → Nat) (m1 : vM) (kc ks : Nat) (r1 : Nat) (r2 : Nat) (i3 : Int32) (i4 : Int32) (i5 : Int32) (i6 : Int32) (i7 : Int32) (i8 : Int32) (r9 : Nat) (i10 : Int32) (i11 : Int32) (i12 : Int32) (i13 : Int32) (r14 : Nat) (i15 : Int32) (i16 : Int32) (i17 : Int32) (i18 : Int32) (i19 : Int32) (i20 : Int32) (i21 : Int32) (H : Heap) (locs : List Loc) (ls : Array Slot), N ≤ NL → (∀ k, k < N → adL k = ad k) → kc ≤ 140000 → ks ≤ 4200000 → vOK NL m1 → r1 < NL → r2 < NL → r9 < NL → r14 < NL → fL_L_law L xs n 411 NL m1 kc ks r1 r2 i3 i4 i5 i6 i7 i8 r9 i10 i11 i12 i13 r14 i15 i16 i17 i18 i19 i20 i21 0 0 0 0 0 = some z → va_P D vwCl (vW tc adL NL m1) H → va_D A (vW tc adL NL m1) → va_S A s.heap H locs → lv_has ls 27 [(1, .ref (adL r1)), (2, .ref (adL r2)), (3, .int i3), (4, .int i4), (5, .int i5), (6, .int i6), (7, .int i7), (8, .int i8), (9, .ref (adL r9)), (10, .int i10), (11, .int i11), (12, .int i12), (13, .int i13), (14, .ref (adL r14)), (15, .int i15), (16, .int i16), (17, .int i17), (18, .int i18), (19, .int i19), (20, .int i20), (21, .int i21), (0, .ref b)] → W p l e room_1 s m #[Value.ref b] below meth c H locs kc ks Qf (F0 m 411 ls [])
abbrev lC_430 (p : Program) (l : Launch) (e : Env) (s : State) (m : MethodId) (below : List Frame) (meth : Method) (c : Code) (D : va_G) (tc : Nat → ClassId) (ad : Nat → Nat) (N b L : Nat) (xs : Nat → Int32) (A : Nat → Prop) (Qf : State → Prop) (z : Int32 × Nat × vM) (n : Nat) : Prop := ∀ (NL : Nat) (adL : Nat → Nat) (m1 : vM) (kc ks : Nat) (r1 : Nat) (r2 : Nat) (i3 : Int32) (i4 : Int32) (i5 : Int32) (i6 : Int32) (i7 : Int32) (i8 : Int32) (r9 : Nat) (i10 : Int32) (i11 : Int32) (i12 : Int32) (i13 : Int32) (r14 : Nat) (i15 : Int32) (i16 : Int32) (i17 : Int32) (i18 : Int32) (i19 : Int32) (i20 : Int32) (i21 : Int32) (H : Heap) (locs : List Loc) (ls : Array Slot), N ≤ NL → (∀ k, k < N → adL k = ad k) → kc ≤ 140000 → ks ≤ 4200000 → vOK NL m1 → r1 < NL → r2 < NL → r9 < NL → r14 < NL → fL_L_law L xs n 430 NL m1 kc ks r1 r2 i3 i4 i5 i6 i7 i8 r9 i10 i11 i12 i13 r14 i15 i16 i17 i18 i19 i20 i21 0 0 0 0 0 = some z → va_P D vwCl (vW tc adL NL m1) H → va_D A (vW tc adL NL m1) → va_S A s.heap H locs → lv_has ls 27 [(1, .ref (adL r1)), (2, .ref (adL r2)), (3, .int i3), (4, .int i4), (5, .int i5), (6, .int i6), (7, .int i7), (8, .int i8), (9, .ref (adL r9)), (10, .int i10), (11, .int i11), (12, .int i12), (13, .int i13), (14, .ref (adL r14)), (15, .int i15), (16, .int i16), (17, .int i17), (18, .int i18), (19, .int i19), (20, .int i20), (21, .int i21), (0, .ref b)] → W p l e room_1 s m #[Value.ref b] below meth c H locs kc ks Qf (F0 m 430 ls [])
abbrev lC_448 (p : Program) (l : Launch) (e : Env) (s : State) (m : MethodId) (below : List Frame) (meth : Method) (c : Code) (D : va_G) (tc : Nat → ClassId) (ad : Nat → Nat) (N b L : Nat) (xs : Nat → Int32) (A : Nat → Prop) (Qf : State → Prop) (z : Int32 × Nat × vM) (n : Nat) : Prop := ∀ (NL : Nat) (adL : Nat → Nat) (m1 : vM) (kc ks : Nat) (r1 : Nat) (r2 : Nat) (i3 : Int32) (i4 : Int32) (i5 : Int32) (i6 : Int32) (i7 : Int32) (i8 : Int32) (r9 : Nat) (i10 : Int32) (i11 : Int32) (i12 : Int32) (i13 : Int32) (r14 : Nat) (i15 : Int32) (i16 : Int32) (i17 : Int32) (i18 : Int32) (i19 : Int32) (i20 : Int32) (i21 : Int32) (H : Heap) (locs : List Loc) (ls : Array Slot), N ≤ NL → (∀ k, k < N → adL k = ad k) → kc ≤ 140000 → ks ≤ 4200000 → vOK NL m1 → r1 < NL → r2 < NL → r9 < NL → r14 < NL → fL_L_law L xs n 448 NL m1 kc ks r1 r2 i3 i4 i5 i6 i7 i8 r9 i10 i11 i12 i13 r14 i15 i16 i17 i18 i19 i20 i21 0 0 0 0 0 = some z → va_P D vwCl (vW tc adL NL m1) H → va_D A (vW tc adL NL m1) → va_S A s.heap H locs → lv_has ls 27 [(1, .ref (adL r1)), (2, .ref (adL r2)), (3, .int i3), (4, .int i4), (5, .int i5), (6, .int i6), (7, .int i7), (8, .int i8), (9, .ref (adL r9)), (10, .int i10), (11, .int i11), (12, .int i12), (13, .int i13), (14, .ref (adL r14)), (15, .int i15), (16, .int i16), (17, .int i17), (18, .int i18), (19, .int i19), (20, .int i20), (21, .int i21), (0, .ref b)] → W p l e room_1 s m #[Value.ref b] below meth c H locs kc ks Qf (F0 m 448 ls [])
abbrev lC_473 (p : Program) (l : Launch) (e : Env) (s : State) (m : MethodId) (below : List Frame) (meth : Method) (c : Code) (D : va_G) (tc : Nat → ClassId) (ad : Nat → Nat) (N b L : Nat) (xs : Nat → Int32) (A : Nat → Prop) (Qf : State → Prop) (z : Int32 × Nat × vM) (n : Nat) : Prop := ∀ (NL : Nat) (adL : Nat → Nat) (m1 : vM) (kc ks : Nat) (r1 : Nat) (r2 : Nat) (i3 : Int32) (i4 : Int32) (i5 : Int32) (i6 : Int32) (i7 : Int32) (i8 : Int32) (r9 : Nat) (i10 : Int32) (i11 : Int32) (i12 : Int32) (i13 : Int32) (r14 : Nat) (i15 : Int32) (i16 : Int32) (i17 : Int32) (i18 : Int32) (i19 : Int32) (i20 : Int32) (i21 : Int32) (H : Heap) (locs : List Loc) (ls : Array Slot), N ≤ NL → (∀ k, k < N → adL k = ad k) → kc ≤ 140000 → ks ≤ 4200000 → vOK NL m1 → r1 < NL → r2 < NL → r9 < NL → r14 < NL → fL_L_law L xs n 473 NL m1 kc ks r1 r2 i3 i4 i5 i6 i7 i8 r9 i10 i11 i12 i13 r14 i15 i16 i17 i18 i19 i20 i21 0 0 0 0 0 = some z → va_P D vwCl (vW tc adL NL m1) H → va_D A (vW tc adL NL m1) → va_S A s.heap H locs → lv_has ls 27 [(1, .ref (adL r1)), (2, .ref (adL r2)), (3, .int i3), (4, .int i4), (5, .int i5), (6, .int i6), (7, .int i7), (8, .int i8), (9, .ref (adL r9)), (10, .int i10), (11, .int i11), (12, .int i12), (13, .int i13), (14, .ref (adL r14)), (15, .int i15), (16, .int i16), (17, .int i17), (18, .int i18), (19, .int i19), (20, .int i20), (21, .int i21), (0, .ref b)] → W p l e room_1 s m #[Value.ref b] below meth c H locs kc ks Qf (F0 m 473 ls [])
abbrev lC_513 (p : Program) (l : Launch) (e : Env) (s : State) (m : MethodId) (below : List Frame) (meth : Method) (c : Code) (D : va_G) (tc : Nat → ClassId) (ad : Nat → Nat) (N b L : Nat) (xs : Nat → Int32) (A : Nat → Prop) (Qf : State → Prop) (z : Int32 × Nat × vM) (n : Nat) : Prop := ∀ (NL : Nat) (adL : Nat → Nat) (m1 : vM) (kc ks : Nat) (r1 : Nat) (r2 : Nat) (i3 : Int32) (i4 : Int32) (i5 : Int32) (i6 : Int32) (i7 : Int32) (i8 : Int32) (r9 : Nat) (i10 : Int32) (i11 : Int32) (i12 : Int32) (i13 : Int32) (r14 : Nat) (i15 : Int32) (i16 : Int32) (i17 : Int32) (i18 : Int32) (i19 : Int32) (i20 : Int32) (i21 : Int32) (H : Heap) (locs : List Loc) (ls : Array Slot), N ≤ NL → (∀ k, k < N → adL k = ad k) → kc ≤ 140000 → ks ≤ 4200000 → vOK NL m1 → r1 < NL → r2 < NL → r9 < NL → r14 < NL → fL_L_law L xs n 513 NL m1 kc ks r1 r2 i3 i4 i5 i6 i7 i8 r9 i10 i11 i12 i13 r14 i15 i16 i17 i18 i19 i20 i21 0 0 0 0 0 = some z → va_P D vwCl (vW tc adL NL m1) H → va_D A (vW tc adL NL m1) → va_S A s.heap H locs → lv_has ls 27 [(1, .ref (adL r1)), (2, .ref (adL r2)), (3, .int i3), (4, .int i4), (5, .int i5), (6, .int i6), (7, .int i7), (8, .int i8), (9, .ref (adL r9)), (10, .int i10), (11, .int i11), (12, .int i12), (13, .int i13), (14, .ref (adL r14)), (15, .int i15), (16, .int i16), (17, .int i17), (18, .int i18), (19, .int i19), (20, .int i20), (21, .int i21), (0, .ref b)] → W p l e room_1 s m #[Value.ref b] below meth c H locs kc ks Qf (F0 m 513 ls [])
abbrev lC_561 (p : Program) (l : Launch) (e : Env) (s : State) (m : MethodId) (below : List Frame) (meth : Method) (c : Code) (D : va_G) (tc : Nat → ClassId) (ad : Nat → Nat) (N b L : Nat) (xs : Nat → Int32) (A : Nat → Prop) (Qf : State → Prop) (z : Int32 × Nat × vM) (n : Nat) : Prop := ∀ (NL : Nat) (adL : Nat → Nat) (m1 : vM) (kc ks : Nat) (r1 : Nat) (r2 : Nat) (i3 : Int32) (i4 : Int32) (i5 : Int32) (i6 : Int32) (i7 : Int32) (i8 : Int32) (r9 : Nat) (i10 : Int32) (i11 : Int32) (i12 : Int32) (i13 : Int32) (r14 : Nat) (i15 : Int32) (i16 : Int32) (i17 : Int32) (i18 : Int32) (i19 : Int32) (i20 : Int32) (i21 : Int32) (H : Heap) (locs : List Loc) (ls : Array Slot), N ≤ NL → (∀ k, k < N → adL k = ad k) → kc ≤ 140000 → ks ≤ 4200000 → vOK NL m1 → r1 < NL → r2 < NL → r9 < NL → r14 < NL → fL_L_law L xs n 561 NL m1 kc ks r1 r2 i3 i4 i5 i6 i7 i8 r9 i10 i11 i12 i13 r14 i15 i16 i17 i18 i19 i20 i21 0 0 0 0 0 = some z → va_P D vwCl (vW tc adL NL m1) H → va_D A (vW tc adL NL m1) → va_S A s.heap H locs → lv_has ls 27 [(1, .ref (adL r1)), (2, .ref (adL r2)), (3, .int i3), (4, .int i4), (5, .int i5), (6, .int i6), (7, .int i7), (8, .int i8), (9, .ref (adL r9)), (10, .int i10), (11, .int i11), (12, .int i12), (13, .int i13), (14, .ref (adL r14)), (15, .int i15), (16, .int i16), (17, .int i17), (18, .int i18), (19, .int i19), (20, .int i20), (21, .int i21), (0, .ref b)] → W p l e room_1 s m #[Value.ref b] below meth c H locs kc ks Qf (F0 m 561 ls [])
abbrev lC_583 (p : Program) (l : Launch) (e : Env) (s : State) (m : MethodId) (below : List Frame) (meth : Method) (c : Code) (D : va_G) (tc : Nat → ClassId) (ad : Nat → Nat) (N b L : Nat) (xs : Nat → Int32) (A : Nat → Prop) (Qf : State → Prop) (z : Int32 × Nat × vM) (n : Nat) : Prop := ∀ (NL : Nat) (adL : Nat → Nat) (m1 : vM) (kc ks : Nat) (r1 : Nat) (r2 : Nat) (i3 : Int32) (i4 : Int32) (i5 : Int32) (i6 : Int32) (i7 : Int32) (i8 : Int32) (r9 : Nat) (i10 : Int32) (i11 : Int32) (i12 : Int32) (i13 : Int32) (r14 : Nat) (i15 : Int32) (i16 : Int32) (i17 : Int32) (i18 : Int32) (i19 : Int32) (i20 : Int32) (i21 : Int32) (H : Heap) (locs : List Loc) (ls : Array Slot), N ≤ NL → (∀ k, k < N → adL k = ad k) → kc ≤ 140000 → ks ≤ 4200000 → vOK NL m1 → r1 < NL → r2 < NL → r9 < NL → r14 < NL → fL_L_law L xs n 583 NL m1 kc ks r1 r2 i3 i4 i5 i6 i7 i8 r9 i10 i11 i12 i13 r14 i15 i16 i17 i18 i19 i20 i21 0 0 0 0 0 = some z → va_P D vwCl (vW tc adL NL m1) H → va_D A (vW tc adL NL m1) → va_S A s.heap H locs → lv_has ls 27 [(1, .ref (adL r1)), (2, .ref (adL r2)), (3, .int i3), (4, .int i4), (5, .int i5), (6, .int i6), (7, .int i7), (8, .int i8), (9, .ref (adL r9)), (10, .int i10), (11, .int i11), (12, .int i12), (13, .int i13), (14, .ref (adL r14)), (15, .int i15), (16, .int i16), (17, .int i17), (18, .int i18), (19, .int i19), (20, .int i20), (21, .int i21), (0, .ref b)] → W p l e room_1 s m #[Value.ref b] below meth c H locs kc ks Qf (F0 m 583 ls [])
abbrev lC_608 (p : Program) (l : Launch) (e : Env) (s : State) (m : MethodId) (below : List Frame) (meth : Method) (c : Code) (D : va_G) (tc : Nat → ClassId) (ad : Nat → Nat) (N b L : Nat) (xs : Nat → Int32) (A : Nat → Prop) (Qf : State → Prop) (z : Int32 × Nat × vM) (n : Nat) : Prop := ∀ (NL : Nat) (adL : Nat → Nat) (m1 : vM) (kc ks : Nat) (r1 : Nat) (r2 : Nat) (i3 : Int32) (i4 : Int32) (i5 : Int32) (i6 : Int32) (i7 : Int32) (i8 : Int32) (r9 : Nat) (i10 : Int32) (i11 : Int32) (i12 : Int32) (i13 : Int32) (r14 : Nat) (i15 : Int32) (i16 : Int32) (i17 : Int32) (i18 : Int32) (i19 : Int32) (i20 : Int32) (i21 : Int32) (H : Heap) (locs : List Loc) (ls : Array Slot), N ≤ NL → (∀ k, k < N → adL k = ad k) → kc ≤ 140000 → ks ≤ 4200000 → vOK NL m1 → r1 < NL → r2 < NL → r9 < NL → r14 < NL → fL_L_law L xs n 608 NL m1 kc ks r1 r2 i3 i4 i5 i6 i7 i8 r9 i10 i11 i12 i13 r14 i15 i16 i17 i18 i19 i20 i21 0 0 0 0 0 = some z → va_P D vwCl (vW tc adL NL m1) H → va_D A (vW tc adL NL m1) → va_S A s.heap H locs → lv_has ls 27 [(1, .ref (adL r1)), (2, .ref (adL r2)), (3, .int i3), (4, .int i4), (5, .int i5), (6, .int i6), (7, .int i7), (8, .int i8), (9, .ref (adL r9)), (10, .int i10), (11, .int i11), (12, .int i12), (13, .int i13), (14, .ref (adL r14)), (15, .int i15), (16, .int i16), (17, .int i17), (18, .int i18), (19, .int i19), (20, .int i20), (21, .int i21), (0, .ref b)] → W p l e room_1 s m #[Value.ref b] below meth c H locs kc ks Qf (F0 m 608 ls [])
abbrev lC_696 (p : Program) (l : Launch) (e : Env) (s : State) (m : MethodId) (below : List Frame) (meth : Method) (c : Code) (D : va_G) (tc : Nat → ClassId) (ad : Nat → Nat) (N b L : Nat) (xs : Nat → Int32) (A : Nat → Prop) (Qf : State → Prop) (z : Int32 × Nat × vM) (n : Nat) : Prop := ∀ (NL : Nat) (adL : Nat → Nat) (m1 : vM) (kc ks : Nat) (r1 : Nat) (r2 : Nat) (i3 : Int32) (i4 : Int32) (i5 : Int32) (i6 : Int32) (i7 : Int32) (i8 : Int32) (r9 : Nat) (i10 : Int32) (i11 : Int32) (i12 : Int32) (i13 : Int32) (r14 : Nat) (i15 : Int32) (i16 : Int32) (i17 : Int32) (i18 : Int32) (i19 : Int32) (i20 : Int32) (i21 : Int32) (i22 : Int32) (i23 : Int32) (i24 : Int32) (H : Heap) (locs : List Loc) (ls : Array Slot), N ≤ NL → (∀ k, k < N → adL k = ad k) → kc ≤ 140000 → ks ≤ 4200000 → vOK NL m1 → r1 < NL → r2 < NL → r9 < NL → r14 < NL → fL_L_law L xs n 696 NL m1 kc ks r1 r2 i3 i4 i5 i6 i7 i8 r9 i10 i11 i12 i13 r14 i15 i16 i17 i18 i19 i20 i21 i22 i23 i24 0 0 = some z → va_P D vwCl (vW tc adL NL m1) H → va_D A (vW tc adL NL m1) → va_S A s.heap H locs → lv_has ls 27 [(1, .ref (adL r1)), (2, .ref (adL r2)), (3, .int i3), (4, .int i4), (5, .int i5), (6, .int i6), (7, .int i7), (8, .int i8), (9, .ref (adL r9)), (10, .int i10), (11, .int i11), (12, .int i12), (13, .int i13), (14, .ref (adL r14)), (15, .int i15), (16, .int i16), (17, .int i17), (18, .int i18), (19, .int i19), (20, .int i20), (21, .int i21), (22, .int i22), (23, .int i23), (24, .int i24), (0, .ref b)] → W p l e room_1 s m #[Value.ref b] below meth c H locs kc ks Qf (F0 m 696 ls [])
abbrev lC_702 (p : Program) (l : Launch) (e : Env) (s : State) (m : MethodId) (below : List Frame) (meth : Method) (c : Code) (D : va_G) (tc : Nat → ClassId) (ad : Nat → Nat) (N b L : Nat) (xs : Nat → Int32) (A : Nat → Prop) (Qf : State → Prop) (z : Int32 × Nat × vM) (n : Nat) : Prop := ∀ (NL : Nat) (adL : Nat → Nat) (m1 : vM) (kc ks : Nat) (r1 : Nat) (r2 : Nat) (i3 : Int32) (i4 : Int32) (i5 : Int32) (i6 : Int32) (i7 : Int32) (i8 : Int32) (r9 : Nat) (i10 : Int32) (i11 : Int32) (i12 : Int32) (i13 : Int32) (r14 : Nat) (i15 : Int32) (i16 : Int32) (i17 : Int32) (i18 : Int32) (i19 : Int32) (i20 : Int32) (i21 : Int32) (i22 : Int32) (i23 : Int32) (i24 : Int32) (i25 : Int32) (i26 : Int32) (H : Heap) (locs : List Loc) (ls : Array Slot), N ≤ NL → (∀ k, k < N → adL k = ad k) → kc ≤ 140000 → ks ≤ 4200000 → vOK NL m1 → r1 < NL → r2 < NL → r9 < NL → r14 < NL → fL_L_law L xs n 702 NL m1 kc ks r1 r2 i3 i4 i5 i6 i7 i8 r9 i10 i11 i12 i13 r14 i15 i16 i17 i18 i19 i20 i21 i22 i23 i24 i25 i26 = some z → va_P D vwCl (vW tc adL NL m1) H → va_D A (vW tc adL NL m1) → va_S A s.heap H locs → lv_has ls 27 [(1, .ref (adL r1)), (2, .ref (adL r2)), (3, .int i3), (4, .int i4), (5, .int i5), (6, .int i6), (7, .int i7), (8, .int i8), (9, .ref (adL r9)), (10, .int i10), (11, .int i11), (12, .int i12), (13, .int i13), (14, .ref (adL r14)), (15, .int i15), (16, .int i16), (17, .int i17), (18, .int i18), (19, .int i19), (20, .int i20), (21, .int i21), (22, .int i22), (23, .int i23), (24, .int i24), (25, .int i25), (26, .int i26), (0, .ref b)] → W p l e room_1 s m #[Value.ref b] below meth c H locs kc ks Qf (F0 m 702 ls [])
abbrev lC_749 (p : Program) (l : Launch) (e : Env) (s : State) (m : MethodId) (below : List Frame) (meth : Method) (c : Code) (D : va_G) (tc : Nat → ClassId) (ad : Nat → Nat) (N b L : Nat) (xs : Nat → Int32) (A : Nat → Prop) (Qf : State → Prop) (z : Int32 × Nat × vM) (n : Nat) : Prop := ∀ (NL : Nat) (adL : Nat → Nat) (m1 : vM) (kc ks : Nat) (r1 : Nat) (r2 : Nat) (i3 : Int32) (i4 : Int32) (i5 : Int32) (i6 : Int32) (i7 : Int32) (i8 : Int32) (r9 : Nat) (i10 : Int32) (i11 : Int32) (i12 : Int32) (i13 : Int32) (r14 : Nat) (i15 : Int32) (i16 : Int32) (i17 : Int32) (i18 : Int32) (i19 : Int32) (i20 : Int32) (i21 : Int32) (i22 : Int32) (i23 : Int32) (i24 : Int32) (i25 : Int32) (i26 : Int32) (H : Heap) (locs : List Loc) (ls : Array Slot), N ≤ NL → (∀ k, k < N → adL k = ad k) → kc ≤ 140000 → ks ≤ 4200000 → vOK NL m1 → r1 < NL → r2 < NL → r9 < NL → r14 < NL → fL_L_law L xs n 749 NL m1 kc ks r1 r2 i3 i4 i5 i6 i7 i8 r9 i10 i11 i12 i13 r14 i15 i16 i17 i18 i19 i20 i21 i22 i23 i24 i25 i26 = some z → va_P D vwCl (vW tc adL NL m1) H → va_D A (vW tc adL NL m1) → va_S A s.heap H locs → lv_has ls 27 [(1, .ref (adL r1)), (2, .ref (adL r2)), (3, .int i3), (4, .int i4), (5, .int i5), (6, .int i6), (7, .int i7), (8, .int i8), (9, .ref (adL r9)), (10, .int i10), (11, .int i11), (12, .int i12), (13, .int i13), (14, .ref (adL r14)), (15, .int i15), (16, .int i16), (17, .int i17), (18, .int i18), (19, .int i19), (20, .int i20), (21, .int i21), (22, .int i22), (23, .int i23), (24, .int i24), (25, .int i25), (26, .int i26), (0, .ref b)] → W p l e room_1 s m #[Value.ref b] below meth c H locs kc ks Qf (F0 m 749 ls [])
abbrev lC_847 (p : Program) (l : Launch) (e : Env) (s : State) (m : MethodId) (below : List Frame) (meth : Method) (c : Code) (D : va_G) (tc : Nat → ClassId) (ad : Nat → Nat) (N b L : Nat) (xs : Nat → Int32) (A : Nat → Prop) (Qf : State → Prop) (z : Int32 × Nat × vM) (n : Nat) : Prop := ∀ (NL : Nat) (adL : Nat → Nat) (m1 : vM) (kc ks : Nat) (r1 : Nat) (r2 : Nat) (i3 : Int32) (i4 : Int32) (i5 : Int32) (i6 : Int32) (i7 : Int32) (i8 : Int32) (r9 : Nat) (i10 : Int32) (i11 : Int32) (i12 : Int32) (i13 : Int32) (r14 : Nat) (i15 : Int32) (i16 : Int32) (H : Heap) (locs : List Loc) (ls : Array Slot), N ≤ NL → (∀ k, k < N → adL k = ad k) → kc ≤ 140000 → ks ≤ 4200000 → vOK NL m1 → r1 < NL → r2 < NL → r9 < NL → r14 < NL → fL_L_law L xs n 847 NL m1 kc ks r1 r2 i3 i4 i5 i6 i7 i8 r9 i10 i11 i12 i13 r14 i15 i16 0 0 0 0 0 0 0 0 0 0 = some z → va_P D vwCl (vW tc adL NL m1) H → va_D A (vW tc adL NL m1) → va_S A s.heap H locs → lv_has ls 27 [(1, .ref (adL r1)), (2, .ref (adL r2)), (3, .int i3), (4, .int i4), (5, .int i5), (6, .int i6), (7, .int i7), (8, .int i8), (9, .ref (adL r9)), (10, .int i10), (11, .int i11), (12, .int i12), (13, .int i13), (14, .ref (adL r14)), (15, .int i15), (16, .int i16), (0, .ref b)] → W p l e room_1 s m #[Value.ref b] below meth c H locs kc ks Qf (F0 m 847 ls [])
abbrev lC_850 (p : Program) (l : Launch) (e : Env) (s : State) (m : MethodId) (below : List Frame) (meth : Method) (c : Code) (D : va_G) (tc : Nat → ClassId) (ad : Nat → Nat) (N b L : Nat) (xs : Nat → Int32) (A : Nat → Prop) (Qf : State → Prop) (z : Int32 × Nat × vM) (n : Nat) : Prop := ∀ (NL : Nat) (adL : Nat → Nat) (m1 : vM) (kc ks : Nat) (r1 : Nat) (r2 : Nat) (i3 : Int32) (i4 : Int32) (i5 : Int32) (i6 : Int32) (i7 : Int32) (i8 : Int32) (r9 : Nat) (i10 : Int32) (i11 : Int32) (i12 : Int32) (i13 : Int32) (r14 : Nat) (i15 : Int32) (i16 : Int32) (H : Heap) (locs : List Loc) (ls : Array Slot), N ≤ NL → (∀ k, k < N → adL k = ad k) → kc ≤ 140000 → ks ≤ 4200000 → vOK NL m1 → r1 < NL → r2 < NL → r9 < NL → r14 < NL → fL_L_law L xs n 850 NL m1 kc ks r1 r2 i3 i4 i5 i6 i7 i8 r9 i10 i11 i12 i13 r14 i15 i16 0 0 0 0 0 0 0 0 0 0 = some z → va_P D vwCl (vW tc adL NL m1) H → va_D A (vW tc adL NL m1) → va_S A s.heap H locs → lv_has ls 27 [(1, .ref (adL r1)), (2, .ref (adL r2)), (3, .int i3), (4, .int i4), (5, .int i5), (6, .int i6), (7, .int i7), (8, .int i8), (9, .ref (adL r9)), (10, .int i10), (11, .int i11), (12, .int i12), (13, .int i13), (14, .ref (adL r14)), (15, .int i15), (16, .int i16), (0, .ref b)] → W p l e room_1 s m #[Value.ref b] below meth c H locs kc ks Qf (F0 m 850 ls [])
abbrev lC_883 (p : Program) (l : Launch) (e : Env) (s : State) (m : MethodId) (below : List Frame) (meth : Method) (c : Code) (D : va_G) (tc : Nat → ClassId) (ad : Nat → Nat) (N b L : Nat) (xs : Nat → Int32) (A : Nat → Prop) (Qf : State → Prop) (z : Int32 × Nat × vM) (n : Nat) : Prop := ∀ (NL : Nat) (adL : Nat → Nat) (m1 : vM) (kc ks : Nat) (r1 : Nat) (r2 : Nat) (i3 : Int32) (i4 : Int32) (i5 : Int32) (i6 : Int32) (i7 : Int32) (i8 : Int32) (r9 : Nat) (i10 : Int32) (i11 : Int32) (i12 : Int32) (i13 : Int32) (r14 : Nat) (i15 : Int32) (i16 : Int32) (H : Heap) (locs : List Loc) (ls : Array Slot), N ≤ NL → (∀ k, k < N → adL k = ad k) → kc ≤ 140000 → ks ≤ 4200000 → vOK NL m1 → r1 < NL → r2 < NL → r9 < NL → r14 < NL → fL_L_law L xs n 883 NL m1 kc ks r1 r2 i3 i4 i5 i6 i7 i8 r9 i10 i11 i12 i13 r14 i15 i16 0 0 0 0 0 0 0 0 0 0 = some z → va_P D vwCl (vW tc adL NL m1) H → va_D A (vW tc adL NL m1) → va_S A s.heap H locs → lv_has ls 27 [(1, .ref (adL r1)), (2, .ref (adL r2)), (3, .int i3), (4, .int i4), (5, .int i5), (6, .int i6), (7, .int i7), (8, .int i8), (9, .ref (adL r9)), (10, .int i10), (11, .int i11), (12, .int i12), (13, .int i13), (14, .ref (adL r14)), (15, .int i15), (16, .int i16), (0, .ref b)] → W p l e room_1 s m #[Value.ref b] below meth c H locs kc ks Qf (F0 m 883 ls [])
abbrev lC_929 (p : Program) (l : Launch) (e : Env) (s : State) (m : MethodId) (below : List Frame) (meth : Method) (c : Code) (D : va_G) (tc : Nat → ClassId) (ad : Nat → Nat) (N b L : Nat) (xs : Nat → Int32) (A : Nat → Prop) (Qf : State → Prop) (z : Int32 × Nat × vM) (n : Nat) : Prop := ∀ (NL : Nat) (adL : Nat → Nat) (m1 : vM) (kc ks : Nat) (r1 : Nat) (r2 : Nat) (i3 : Int32) (i4 : Int32) (i5 : Int32) (i6 : Int32) (i7 : Int32) (i8 : Int32) (r9 : Nat) (i10 : Int32) (i11 : Int32) (i12 : Int32) (i13 : Int32) (r14 : Nat) (i15 : Int32) (i16 : Int32) (i17 : Int32) (i18 : Int32) (i19 : Int32) (H : Heap) (locs : List Loc) (ls : Array Slot), N ≤ NL → (∀ k, k < N → adL k = ad k) → kc ≤ 140000 → ks ≤ 4200000 → vOK NL m1 → r1 < NL → r2 < NL → r9 < NL → r14 < NL → fL_L_law L xs n 929 NL m1 kc ks r1 r2 i3 i4 i5 i6 i7 i8 r9 i10 i11 i12 i13 r14 i15 i16 i17 i18 i19 0 0 0 0 0 0 0 = some z → va_P D vwCl (vW tc adL NL m1) H → va_D A (vW tc adL NL m1) → va_S A s.heap H locs → lv_has ls 27 [(1, .ref (adL r1)), (2, .ref (adL r2)), (3, .int i3), (4, .int i4), (5, .int i5), (6, .int i6), (7, .int i7), (8, .int i8), (9, .ref (adL r9)), (10, .int i10), (11, .int i11), (12, .int i12), (13, .int i13), (14, .ref (adL r14)), (15, .int i15), (16, .int i16), (17, .int i17), (18, .int i18), (19, .int i19), (0, .ref b)] → W p l e room_1 s m #[Value.ref b] below meth c H locs kc ks Qf (F0 m 929 ls [])
abbrev lC_943 (p : Program) (l : Launch) (e : Env) (s : State) (m : MethodId) (below : List Frame) (meth : Method) (c : Code) (D : va_G) (tc : Nat → ClassId) (ad : Nat → Nat) (N b L : Nat) (xs : Nat → Int32) (A : Nat → Prop) (Qf : State → Prop) (z : Int32 × Nat × vM) (n : Nat) : Prop := ∀ (NL : Nat) (adL : Nat → Nat) (m1 : vM) (kc ks : Nat) (r1 : Nat) (r2 : Nat) (i3 : Int32) (i4 : Int32) (i5 : Int32) (i6 : Int32) (i7 : Int32) (i8 : Int32) (r9 : Nat) (i10 : Int32) (i11 : Int32) (i12 : Int32) (i13 : Int32) (r14 : Nat) (i15 : Int32) (i16 : Int32) (i17 : Int32) (i18 : Int32) (i19 : Int32) (i20 : Int32) (H : Heap) (locs : List Loc) (ls : Array Slot), N ≤ NL → (∀ k, k < N → adL k = ad k) → kc ≤ 140000 → ks ≤ 4200000 → vOK NL m1 → r1 < NL → r2 < NL → r9 < NL → r14 < NL → fL_L_law L xs n 943 NL m1 kc ks r1 r2 i3 i4 i5 i6 i7 i8 r9 i10 i11 i12 i13 r14 i15 i16 i17 i18 i19 i20 0 0 0 0 0 0 = some z → va_P D vwCl (vW tc adL NL m1) H → va_D A (vW tc adL NL m1) → va_S A s.heap H locs → lv_has ls 27 [(1, .ref (adL r1)), (2, .ref (adL r2)), (3, .int i3), (4, .int i4), (5, .int i5), (6, .int i6), (7, .int i7), (8, .int i8), (9, .ref (adL r9)), (10, .int i10), (11, .int i11), (12, .int i12), (13, .int i13), (14, .ref (adL r14)), (15, .int i15), (16, .int i16), (17, .int i17), (18, .int i18), (19, .int i19), (20, .int i20), (0, .ref b)] → W p l e room_1 s m #[Value.ref b] below meth c H locs kc ks Qf (F0 m 943 ls [])
abbrev lC_957 (p : Program) (l : Launch) (e : Env) (s : State) (m : MethodId) (below : List Frame) (meth : Method) (c : Code) (D : va_G) (tc : Nat → ClassId) (ad : Nat → Nat) (N b L : Nat) (xs : Nat → Int32) (A : Nat → Prop) (Qf : State → Prop) (z : Int32 × Nat × vM) (n : Nat) : Prop := ∀ (NL : Nat) (adL : Nat → Nat) (m1 : vM) (kc ks : Nat) (r1 : Nat) (r2 : Nat) (i3 : Int32) (i4 : Int32) (i5 : Int32) (i6 : Int32) (i7 : Int32) (i8 : Int32) (r9 : Nat) (i10 : Int32) (i11 : Int32) (i12 : Int32) (i13 : Int32) (r14 : Nat) (i15 : Int32) (i16 : Int32) (i17 : Int32) (i18 : Int32) (i19 : Int32) (i20 : Int32) (i21 : Int32) (H : Heap) (locs : List Loc) (ls : Array Slot), N ≤ NL → (∀ k, k < N → adL k = ad k) → kc ≤ 140000 → ks ≤ 4200000 → vOK NL m1 → r1 < NL → r2 < NL → r9 < NL → r14 < NL → fL_L_law L xs n 957 NL m1 kc ks r1 r2 i3 i4 i5 i6 i7 i8 r9 i10 i11 i12 i13 r14 i15 i16 i17 i18 i19 i20 i21 0 0 0 0 0 = some z → va_P D vwCl (vW tc adL NL m1) H → va_D A (vW tc adL NL m1) → va_S A s.heap H locs → lv_has ls 27 [(1, .ref (adL r1)), (2, .ref (adL r2)), (3, .int i3), (4, .int i4), (5, .int i5), (6, .int i6), (7, .int i7), (8, .int i8), (9, .ref (adL r9)), (10, .int i10), (11, .int i11), (12, .int i12), (13, .int i13), (14, .ref (adL r14)), (15, .int i15), (16, .int i16), (17, .int i17), (18, .int i18), (19, .int i19), (20, .int i20), (21, .int i21), (0, .ref b)] → W p l e room_1 s m #[Value.ref b] below meth c H locs kc ks Qf (F0 m 957 ls [])
abbrev lC_963 (p : Program) (l : Launch) (e : Env) (s : State) (m : MethodId) (below : List Frame) (meth : Method) (c : Code) (D : va_G) (tc : Nat → ClassId) (ad : Nat → Nat) (N b L : Nat) (xs : Nat → Int32) (A : Nat → Prop) (Qf : State → Prop) (z : Int32 × Nat × vM) (n : Nat) : Prop := ∀ (NL : Nat) (adL : Nat → Nat) (m1 : vM) (kc ks : Nat) (r1 : Nat) (r2 : Nat) (i3 : Int32) (i4 : Int32) (i5 : Int32) (i6 : Int32) (i7 : Int32) (i8 : Int32) (r9 : Nat) (i10 : Int32) (i11 : Int32) (i12 : Int32) (i13 : Int32) (r14 : Nat) (i15 : Int32) (i16 : Int32) (i17 : Int32) (i18 : Int32) (i19 : Int32) (i20 : Int32) (i21 : Int32) (i22 : Int32) (i23 : Int32) (H : Heap) (locs : List Loc) (ls : Array Slot), N ≤ NL → (∀ k, k < N → adL k = ad k) → kc ≤ 140000 → ks ≤ 4200000 → vOK NL m1 → r1 < NL → r2 < NL → r9 < NL → r14 < NL → fL_L_law L xs n 963 NL m1 kc ks r1 r2 i3 i4 i5 i6 i7 i8 r9 i10 i11 i12 i13 r14 i15 i16 i17 i18 i19 i20 i21 i22 i23 0 0 0 = some z → va_P D vwCl (vW tc adL NL m1) H → va_D A (vW tc adL NL m1) → va_S A s.heap H locs → lv_has ls 27 [(1, .ref (adL r1)), (2, .ref (adL r2)), (3, .int i3), (4, .int i4), (5, .int i5), (6, .int i6), (7, .int i7), (8, .int i8), (9, .ref (adL r9)), (10, .int i10), (11, .int i11), (12, .int i12), (13, .int i13), (14, .ref (adL r14)), (15, .int i15), (16, .int i16), (17, .int i17), (18, .int i18), (19, .int i19), (20, .int i20), (21, .int i21), (22, .int i22), (23, .int i23), (0, .ref b)] → W p l e room_1 s m #[Value.ref b] below meth c H locs kc ks Qf (F0 m 963 ls [])
abbrev lC_1031 (p : Program) (l : Launch) (e : Env) (s : State) (m : MethodId) (below : List Frame) (meth : Method) (c : Code) (D : va_G) (tc : Nat → ClassId) (ad : Nat → Nat) (N b L : Nat) (xs : Nat → Int32) (A : Nat → Prop) (Qf : State → Prop) (z : Int32 × Nat × vM) (n : Nat) : Prop := ∀ (NL : Nat) (adL : Nat → Nat) (m1 : vM) (kc ks : Nat) (r1 : Nat) (r2 : Nat) (i3 : Int32) (i4 : Int32) (i5 : Int32) (i6 : Int32) (i7 : Int32) (i8 : Int32) (r9 : Nat) (i10 : Int32) (i11 : Int32) (i12 : Int32) (i13 : Int32) (r14 : Nat) (i15 : Int32) (i16 : Int32) (i17 : Int32) (i18 : Int32) (i19 : Int32) (i20 : Int32) (i21 : Int32) (i22 : Int32) (i23 : Int32) (H : Heap) (locs : List Loc) (ls : Array Slot), N ≤ NL → (∀ k, k < N → adL k = ad k) → kc ≤ 140000 → ks ≤ 4200000 → vOK NL m1 → r1 < NL → r2 < NL → r9 < NL → r14 < NL → fL_L_law L xs n 1031 NL m1 kc ks r1 r2 i3 i4 i5 i6 i7 i8 r9 i10 i11 i12 i13 r14 i15 i16 i17 i18 i19 i20 i21 i22 i23 0 0 0 = some z → va_P D vwCl (vW tc adL NL m1) H → va_D A (vW tc adL NL m1) → va_S A s.heap H locs → lv_has ls 27 [(1, .ref (adL r1)), (2, .ref (adL r2)), (3, .int i3), (4, .int i4), (5, .int i5), (6, .int i6), (7, .int i7), (8, .int i8), (9, .ref (adL r9)), (10, .int i10), (11, .int i11), (12, .int i12), (13, .int i13), (14, .ref (adL r14)), (15, .int i15), (16, .int i16), (17, .int i17), (18, .int i18), (19, .int i19), (20, .int i20), (21, .int i21), (22, .int i22), (23, .int i23), (0, .ref b)] → W p l e room_1 s m #[Value.ref b] below meth c H locs kc ks Qf (F0 m 1031 ls [])
theorem fS_L_law {L : Nat} {xs : Nat → Int32} {n pc N : Nat} {m : vM} {kc ks : Nat} {r1 : Nat} {r2 : Nat} {i3 : Int32} {i4 : Int32} {i5 : Int32} {i6 : Int32} {i7 : Int32} {i8 : Int32} {r9 : Nat} {i10 : Int32} {i11 : Int32} {i12 : Int32} {i13 : Int32} {r14 : Nat} {i15 : Int32} {i16 : Int32} {i17 : Int32} {i18 : Int32} {i19 : Int32} {i20 : Int32} {i21 : Int32} {i22 : Int32} {i23 : Int32} {i24 : Int32} {i25 : Int32} {i26 : Int32} : fL_L_law L xs (n + 1) pc N m kc ks r1 r2 i3 i4 i5 i6 i7 i8 r9 i10 i11 i12 i13 r14 i15 i16 i17 i18 i19 i20 i21 i22 i23 i24 i25 i26 = if pc = 29 then fB_L_law_29 L xs (fL_L_law L xs n) N m kc ks r1 r2 i3 i4 i5 i6 i7 i8 r9 i10 i11 i12 i13 r14 i15 i16 i17 i18 i19 i20 i21 i22 i23 i24 i25 i26 else if pc = 90 then fB_L_law_90 L xs (fL_L_law L xs n) N m kc ks r1 r2 i3 i4 i5 i6 i7 i8 r9 i10 i11 i12 i13 r14 i15 i16 i17 i18 i19 i20 i21 i22 i23 i24 i25 i26 else if pc = 123 then fB_L_law_123 L xs (fL_L_law L xs n) N m kc ks r1 r2 i3 i4 i5 i6 i7 i8 r9 i10 i11 i12 i13 r14 i15 i16 i17 i18 i19 i20 i21 i22 i23 i24 i25 i26 else if pc = 132 then fB_L_law_132 L xs (fL_L_law L xs n) N m kc ks r1 r2 i3 i4 i5 i6 i7 i8 r9 i10 i11 i12 i13 r14 i15 i16 i17 i18 i19 i20 i21 i22 i23 i24 i25 i26 else if pc = 272 then fB_L_law_272 L xs (fL_L_law L xs n) N m kc ks r1 r2 i3 i4 i5 i6 i7 i8 r9 i10 i11 i12 i13 r14 i15 i16 i17 i18 i19 i20 i21 i22 i23 i24 i25 i26 else if pc = 286 then fB_L_law_286 L xs (fL_L_law L xs n) N m kc ks r1 r2 i3 i4 i5 i6 i7 i8 r9 i10 i11 i12 i13 r14 i15 i16 i17 i18 i19 i20 i21 i22 i23 i24 i25 i26 else if pc = 392 then fB_L_law_392 L xs (fL_L_law L xs n) N m kc ks r1 r2 i3 i4 i5 i6 i7 i8 r9 i10 i11 i12 i13 r14 i15 i16 i17 i18 i19 i20 i21 i22 i23 i24 i25 i26 else if pc = 402 then fB_L_law_402 L xs (fL_L_law L xs n) N m kc ks r1 r2 i3 i4 i5 i6 i7 i8 r9 i10 i11 i12 i13 r14 i15 i16 i17 i18 i19 i20 i21 i22 i23 i24 i25 i26 else if pc = 411 then fB_L_law_411 L xs (fL_L_law L xs n) N m kc ks r1 r2 i3 i4 i5 i6 i7 i8 r9 i10 i11 i12 i13 r14 i15 i16 i17 i18 i19 i20 i21 i22 i23 i24 i25 i26 else if pc = 430 then fB_L_law_430 L xs (fL_L_law L xs n) N m kc ks r1 r2 i3 i4 i5 i6 i7 i8 r9 i10 i11 i12 i13 r14 i15 i16 i17 i18 i19 i20 i21 i22 i23 i24 i25 i26 else if pc = 448 then fB_L_law_448 L xs (fL_L_law L xs n) N m kc ks r1 r2 i3 i4 i5 i6 i7 i8 r9 i10 i11 i12 i13 r14 i15 i16 i17 i18 i19 i20 i21 i22 i23 i24 i25 i26 else if pc = 473 then fB_L_law_473 L xs (fL_L_law L xs n) N m kc ks r1 r2 i3 i4 i5 i6 i7 i8 r9 i10 i11 i12 i13 r14 i15 i16 i17 i18 i19 i20 i21 i22 i23 i24 i25 i26 else if pc = 513 then fB_L_law_513 L xs (fL_L_law L xs n) N m kc ks r1 r2 i3 i4 i5 i6 i7 i8 r9 i10 i11 i12 i13 r14 i15 i16 i17 i18 i19 i20 i21 i22 i23 i24 i25 i26 else if pc = 561 then fB_L_law_561 L xs (fL_L_law L xs n) N m kc ks r1 r2 i3 i4 i5 i6 i7 i8 r9 i10 i11 i12 i13 r14 i15 i16 i17 i18 i19 i20 i21 i22 i23 i24 i25 i26 else if pc = 583 then fB_L_law_583 L xs (fL_L_law L xs n) N m kc ks r1 r2 i3 i4 i5 i6 i7 i8 r9 i10 i11 i12 i13 r14 i15 i16 i17 i18 i19 i20 i21 i22 i23 i24 i25 i26 else if pc = 608 then fB_L_law_608 L xs (fL_L_law L xs n) N m kc ks r1 r2 i3 i4 i5 i6 i7 i8 r9 i10 i11 i12 i13 r14 i15 i16 i17 i18 i19 i20 i21 i22 i23 i24 i25 i26 else if pc = 696 then fB_L_law_696 L xs (fL_L_law L xs n) N m kc ks r1 r2 i3 i4 i5 i6 i7 i8 r9 i10 i11 i12 i13 r14 i15 i16 i17 i18 i19 i20 i21 i22 i23 i24 i25 i26 else if pc = 702 then fB_L_law_702 L xs (fL_L_law L xs n) N m kc ks r1 r2 i3 i4 i5 i6 i7 i8 r9 i10 i11 i12 i13 r14 i15 i16 i17 i18 i19 i20 i21 i22 i23 i24 i25 i26 else if pc = 749 then fB_L_law_749 L xs (fL_L_law L xs n) N m kc ks r1 r2 i3 i4 i5 i6 i7 i8 r9 i10 i11 i12 i13 r14 i15 i16 i17 i18 i19 i20 i21 i22 i23 i24 i25 i26 else if pc = 847 then fB_L_law_847 L xs (fL_L_law L xs n) N m kc ks r1 r2 i3 i4 i5 i6 i7 i8 r9 i10 i11 i12 i13 r14 i15 i16 i17 i18 i19 i20 i21 i22 i23 i24 i25 i26 else if pc = 850 then fB_L_law_850 L xs (fL_L_law L xs n) N m kc ks r1 r2 i3 i4 i5 i6 i7 i8 r9 i10 i11 i12 i13 r14 i15 i16 i17 i18 i19 i20 i21 i22 i23 i24 i25 i26 else if pc = 883 then fB_L_law_883 L xs (fL_L_law L xs n) N m kc ks r1 r2 i3 i4 i5 i6 i7 i8 r9 i10 i11 i12 i13 r14 i15 i16 i17 i18 i19 i20 i21 i22 i23 i24 i25 i26 else if pc = 929 then fB_L_law_929 L xs (fL_L_law L xs n) N m kc ks r1 r2 i3 i4 i5 i6 i7 i8 r9 i10 i11 i12 i13 r14 i15 i16 i17 i18 i19 i20 i21 i22 i23 i24 i25 i26 else if pc = 943 then fB_L_law_943 L xs (fL_L_law L xs n) N m kc ks r1 r2 i3 i4 i5 i6 i7 i8 r9 i10 i11 i12 i13 r14 i15 i16 i17 i18 i19 i20 i21 i22 i23 i24 i25 i26 else if pc = 957 then fB_L_law_957 L xs (fL_L_law L xs n) N m kc ks r1 r2 i3 i4 i5 i6 i7 i8 r9 i10 i11 i12 i13 r14 i15 i16 i17 i18 i19 i20 i21 i22 i23 i24 i25 i26 else if pc = 963 then fB_L_law_963 L xs (fL_L_law L xs n) N m kc ks r1 r2 i3 i4 i5 i6 i7 i8 r9 i10 i11 i12 i13 r14 i15 i16 i17 i18 i19 i20 i21 i22 i23 i24 i25 i26 else if pc = 1031 then fB_L_law_1031 L xs (fL_L_law L xs n) N m kc ks r1 r2 i3 i4 i5 i6 i7 i8 r9 i10 i11 i12 i13 r14 i15 i16 i17 i18 i19 i20 i21 i22 i23 i24 i25 i26 else none := rfl
theorem fE_L_law_29 {L : Nat} {xs : Nat → Int32} {n N : Nat} {m : vM} {kc ks : Nat} {r1 : Nat} {r2 : Nat} {i3 : Int32} {i4 : Int32} {i5 : Int32} {i6 : Int32} {i7 : Int32} {i8 : Int32} {r9 : Nat} {i10 : Int32} {i11 : Int32} {i12 : Int32} {i13 : Int32} {r14 : Nat} {i15 : Int32} {i16 : Int32} {i17 : Int32} {i18 : Int32} {i19 : Int32} {i20 : Int32} {i21 : Int32} {i22 : Int32} {i23 : Int32} {i24 : Int32} {i25 : Int32} {i26 : Int32} : fL_L_law L xs (n + 1) 29 N m kc ks r1 r2 i3 i4 i5 i6 i7 i8 r9 i10 i11 i12 i13 r14 i15 i16 i17 i18 i19 i20 i21 i22 i23 i24 i25 i26 = fB_L_law_29 L xs (fL_L_law L xs n) N m kc ks r1 r2 i3 i4 i5 i6 i7 i8 r9 i10 i11 i12 i13 r14 i15 i16 i17 i18 i19 i20 i21 i22 i23 i24 i25 i26 := fS_L_law.trans (if_pos rfl)
theorem fE_L_law_90 {L : Nat} {xs : Nat → Int32} {n N : Nat} {m : vM} {kc ks : Nat} {r1 : Nat} {r2 : Nat} {i3 : Int32} {i4 : Int32} {i5 : Int32} {i6 : Int32} {i7 : Int32} {i8 : Int32} {r9 : Nat} {i10 : Int32} {i11 : Int32} {i12 : Int32} {i13 : Int32} {r14 : Nat} {i15 : Int32} {i16 : Int32} {i17 : Int32} {i18 : Int32} {i19 : Int32} {i20 : Int32} {i21 : Int32} {i22 : Int32} {i23 : Int32} {i24 : Int32} {i25 : Int32} {i26 : Int32} : fL_L_law L xs (n + 1) 90 N m kc ks r1 r2 i3 i4 i5 i6 i7 i8 r9 i10 i11 i12 i13 r14 i15 i16 i17 i18 i19 i20 i21 i22 i23 i24 i25 i26 = fB_L_law_90 L xs (fL_L_law L xs n) N m kc ks r1 r2 i3 i4 i5 i6 i7 i8 r9 i10 i11 i12 i13 r14 i15 i16 i17 i18 i19 i20 i21 i22 i23 i24 i25 i26 := fS_L_law.trans ((if_neg (by decide)).trans (if_pos rfl))
theorem fE_L_law_123 {L : Nat} {xs : Nat → Int32} {n N : Nat} {m : vM} {kc ks : Nat} {r1 : Nat} {r2 : Nat} {i3 : Int32} {i4 : Int32} {i5 : Int32} {i6 : Int32} {i7 : Int32} {i8 : Int32} {r9 : Nat} {i10 : Int32} {i11 : Int32} {i12 : Int32} {i13 : Int32} {r14 : Nat} {i15 : Int32} {i16 : Int32} {i17 : Int32} {i18 : Int32} {i19 : Int32} {i20 : Int32} {i21 : Int32} {i22 : Int32} {i23 : Int32} {i24 : Int32} {i25 : Int32} {i26 : Int32} : fL_L_law L xs (n + 1) 123 N m kc ks r1 r2 i3 i4 i5 i6 i7 i8 r9 i10 i11 i12 i13 r14 i15 i16 i17 i18 i19 i20 i21 i22 i23 i24 i25 i26 = fB_L_law_123 L xs (fL_L_law L xs n) N m kc ks r1 r2 i3 i4 i5 i6 i7 i8 r9 i10 i11 i12 i13 r14 i15 i16 i17 i18 i19 i20 i21 i22 i23 i24 i25 i26 := fS_L_law.trans ((if_neg (by decide)).trans ((if_neg (by decide)).trans (if_pos rfl)))
theorem fE_L_law_132 {L : Nat} {xs : Nat → Int32} {n N : Nat} {m : vM} {kc ks : Nat} {r1 : Nat} {r2 : Nat} {i3 : Int32} {i4 : Int32} {i5 : Int32} {i6 : Int32} {i7 : Int32} {i8 : Int32} {r9 : Nat} {i10 : Int32} {i11 : Int32} {i12 : Int32} {i13 : Int32} {r14 : Nat} {i15 : Int32} {i16 : Int32} {i17 : Int32} {i18 : Int32} {i19 : Int32} {i20 : Int32} {i21 : Int32} {i22 : Int32} {i23 : Int32} {i24 : Int32} {i25 : Int32} {i26 : Int32} : fL_L_law L xs (n + 1) 132 N m kc ks r1 r2 i3 i4 i5 i6 i7 i8 r9 i10 i11 i12 i13 r14 i15 i16 i17 i18 i19 i20 i21 i22 i23 i24 i25 i26 = fB_L_law_132 L xs (fL_L_law L xs n) N m kc ks r1 r2 i3 i4 i5 i6 i7 i8 r9 i10 i11 i12 i13 r14 i15 i16 i17 i18 i19 i20 i21 i22 i23 i24 i25 i26 := fS_L_law.trans ((if_neg (by decide)).trans ((if_neg (by decide)).trans ((if_neg (by decide)).trans (if_pos rfl))))
theorem fE_L_law_272 {L : Nat} {xs : Nat → Int32} {n N : Nat} {m : vM} {kc ks : Nat} {r1 : Nat} {r2 : Nat} {i3 : Int32} {i4 : Int32} {i5 : Int32} {i6 : Int32} {i7 : Int32} {i8 : Int32} {r9 : Nat} {i10 : Int32} {i11 : Int32} {i12 : Int32} {i13 : Int32} {r14 : Nat} {i15 : Int32} {i16 : Int32} {i17 : Int32} {i18 : Int32} {i19 : Int32} {i20 : Int32} {i21 : Int32} {i22 : Int32} {i23 : Int32} {i24 : Int32} {i25 : Int32} {i26 : Int32} : fL_L_law L xs (n + 1) 272 N m kc ks r1 r2 i3 i4 i5 i6 i7 i8 r9 i10 i11 i12 i13 r14 i15 i16 i17 i18 i19 i20 i21 i22 i23 i24 i25 i26 = fB_L_law_272 L xs (fL_L_law L xs n) N m kc ks r1 r2 i3 i4 i5 i6 i7 i8 r9 i10 i11 i12 i13 r14 i15 i16 i17 i18 i19 i20 i21 i22 i23 i24 i25 i26 := fS_L_law.trans ((if_neg (by decide)).trans ((if_neg (by decide)).trans ((if_neg (by decide)).trans ((if_neg (by decide)).trans (if_pos rfl)))))
theorem fE_L_law_286 {L : Nat} {xs : Nat → Int32} {n N : Nat} {m : vM} {kc ks : Nat} {r1 : Nat} {r2 : Nat} {i3 : Int32} {i4 : Int32} {i5 : Int32} {i6 : Int32} {i7 : Int32} {i8 : Int32} {r9 : Nat} {i10 : Int32} {i11 : Int32} {i12 : Int32} {i13 : Int32} {r14 : Nat} {i15 : Int32} {i16 : Int32} {i17 : Int32} {i18 : Int32} {i19 : Int32} {i20 : Int32} {i21 : Int32} {i22 : Int32} {i23 : Int32} {i24 : Int32} {i25 : Int32} {i26 : Int32} : fL_L_law L xs (n + 1) 286 N m kc ks r1 r2 i3 i4 i5 i6 i7 i8 r9 i10 i11 i12 i13 r14 i15 i16 i17 i18 i19 i20 i21 i22 i23 i24 i25 i26 = fB_L_law_286 L xs (fL_L_law L xs n) N m kc ks r1 r2 i3 i4 i5 i6 i7 i8 r9 i10 i11 i12 i13 r14 i15 i16 i17 i18 i19 i20 i21 i22 i23 i24 i25 i26 := fS_L_law.trans ((if_neg (by decide)).trans ((if_neg (by decide)).trans ((if_neg (by decide)).trans ((if_neg (by decide)).trans ((if_neg (by decide)).trans (if_pos rfl))))))
theorem fE_L_law_392 {L : Nat} {xs : Nat → Int32} {n N : Nat} {m : vM} {kc ks : Nat} {r1 : Nat} {r2 : Nat} {i3 : Int32} {i4 : Int32} {i5 : Int32} {i6 : Int32} {i7 : Int32} {i8 : Int32} {r9 : Nat} {i10 : Int32} {i11 : Int32} {i12 : Int32} {i13 : Int32} {r14 : Nat} {i15 : Int32} {i16 : Int32} {i17 : Int32} {i18 : Int32} {i19 : Int32} {i20 : Int32} {i21 : Int32} {i22 : Int32} {i23 : Int32} {i24 : Int32} {i25 : Int32} {i26 : Int32} : fL_L_law L xs (n + 1) 392 N m kc ks r1 r2 i3 i4 i5 i6 i7 i8 r9 i10 i11 i12 i13 r14 i15 i16 i17 i18 i19 i20 i21 i22 i23 i24 i25 i26 = fB_L_law_392 L xs (fL_L_law L xs n) N m kc ks r1 r2 i3 i4 i5 i6 i7 i8 r9 i10 i11 i12 i13 r14 i15 i16 i17 i18 i19 i20 i21 i22 i23 i24 i25 i26 := fS_L_law.trans ((if_neg (by decide)).trans ((if_neg (by decide)).trans ((if_neg (by decide)).trans ((if_neg (by decide)).trans ((if_neg (by decide)).trans ((if_neg (by decide)).trans (if_pos rfl)))))))
theorem fE_L_law_402 {L : Nat} {xs : Nat → Int32} {n N : Nat} {m : vM} {kc ks : Nat} {r1 : Nat} {r2 : Nat} {i3 : Int32} {i4 : Int32} {i5 : Int32} {i6 : Int32} {i7 : Int32} {i8 : Int32} {r9 : Nat} {i10 : Int32} {i11 : Int32} {i12 : Int32} {i13 : Int32} {r14 : Nat} {i15 : Int32} {i16 : Int32} {i17 : Int32} {i18 : Int32} {i19 : Int32} {i20 : Int32} {i21 : Int32} {i22 : Int32} {i23 : Int32} {i24 : Int32} {i25 : Int32} {i26 : Int32} : fL_L_law L xs (n + 1) 402 N m kc ks r1 r2 i3 i4 i5 i6 i7 i8 r9 i10 i11 i12 i13 r14 i15 i16 i17 i18 i19 i20 i21 i22 i23 i24 i25 i26 = fB_L_law_402 L xs (fL_L_law L xs n) N m kc ks r1 r2 i3 i4 i5 i6 i7 i8 r9 i10 i11 i12 i13 r14 i15 i16 i17 i18 i19 i20 i21 i22 i23 i24 i25 i26 := fS_L_law.trans ((if_neg (by decide)).trans ((if_neg (by decide)).trans ((if_neg (by decide)).trans ((if_neg (by decide)).trans ((if_neg (by decide)).trans ((if_neg (by decide)).trans ((if_neg (by decide)).trans (if_pos rfl))))))))
theorem fE_L_law_411 {L : Nat} {xs : Nat → Int32} {n N : Nat} {m : vM} {kc ks : Nat} {r1 : Nat} {r2 : Nat} {i3 : Int32} {i4 : Int32} {i5 : Int32} {i6 : Int32} {i7 : Int32} {i8 : Int32} {r9 : Nat} {i10 : Int32} {i11 : Int32} {i12 : Int32} {i13 : Int32} {r14 : Nat} {i15 : Int32} {i16 : Int32} {i17 : Int32} {i18 : Int32} {i19 : Int32} {i20 : Int32} {i21 : Int32} {i22 : Int32} {i23 : Int32} {i24 : Int32} {i25 : Int32} {i26 : Int32} : fL_L_law L xs (n + 1) 411 N m kc ks r1 r2 i3 i4 i5 i6 i7 i8 r9 i10 i11 i12 i13 r14 i15 i16 i17 i18 i19 i20 i21 i22 i23 i24 i25 i26 = fB_L_law_411 L xs (fL_L_law L xs n) N m kc ks r1 r2 i3 i4 i5 i6 i7 i8 r9 i10 i11 i12 i13 r14 i15 i16 i17 i18 i19 i20 i21 i22 i23 i24 i25 i26 := fS_L_law.trans ((if_neg (by decide)).trans ((if_neg (by decide)).trans ((if_neg (by decide)).trans ((if_neg (by decide)).trans ((if_neg (by decide)).trans ((if_neg (by decide)).trans ((if_neg (by decide)).trans ((if_neg (by decide)).trans (if_pos rfl)))))))))
theorem fE_L_law_430 {L : Nat} {xs : Nat → Int32} {n N : Nat} {m : vM} {kc ks : Nat} {r1 : Nat} {r2 : Nat} {i3 : Int32} {i4 : Int32} {i5 : Int32} {i6 : Int32} {i7 : Int32} {i8 : Int32} {r9 : Nat} {i10 : Int32} {i11 : Int32} {i12 : Int32} {i13 : Int32} {r14 : Nat} {i15 : Int32} {i16 : Int32} {i17 : Int32} {i18 : Int32} {i19 : Int32} {i20 : Int32} {i21 : Int32} {i22 : Int32} {i23 : Int32} {i24 : Int32} {i25 : Int32} {i26 : Int32} : fL_L_law L xs (n + 1) 430 N m kc ks r1 r2 i3 i4 i5 i6 i7 i8 r9 i10 i11 i12 i13 r14 i15 i16 i17 i18 i19 i20 i21 i22 i23 i24 i25 i26 = fB_L_law_430 L xs (fL_L_law L xs n) N m kc ks r1 r2 i3 i4 i5 i6 i7 i8 r9 i10 i11 i12 i13 r14 i15 i16 i17 i18 i19 i20 i21 i22 i23 i24 i25 i26 := fS_L_law.trans ((if_neg (by decide)).trans ((if_neg (by decide)).trans ((if_neg (by decide)).trans ((if_neg (by decide)).trans ((if_neg (by decide)).trans ((if_neg (by decide)).trans ((if_neg (by decide)).trans ((if_neg (by decide)).trans ((if_neg (by decide)).trans (if_pos rfl))))))))))
theorem fE_L_law_448 {L : Nat} {xs : Nat → Int32} {n N : Nat} {m : vM} {kc ks : Nat} {r1 : Nat} {r2 : Nat} {i3 : Int32} {i4 : Int32} {i5 : Int32} {i6 : Int32} {i7 : Int32} {i8 : Int32} {r9 : Nat} {i10 : Int32} {i11 : Int32} {i12 : Int32} {i13 : Int32} {r14 : Nat} {i15 : Int32} {i16 : Int32} {i17 : Int32} {i18 : Int32} {i19 : Int32} {i20 : Int32} {i21 : Int32} {i22 : Int32} {i23 : Int32} {i24 : Int32} {i25 : Int32} {i26 : Int32} : fL_L_law L xs (n + 1) 448 N m kc ks r1 r2 i3 i4 i5 i6 i7 i8 r9 i10 i11 i12 i13 r14 i15 i16 i17 i18 i19 i20 i21 i22 i23 i24 i25 i26 = fB_L_law_448 L xs (fL_L_law L xs n) N m kc ks r1 r2 i3 i4 i5 i6 i7 i8 r9 i10 i11 i12 i13 r14 i15 i16 i17 i18 i19 i20 i21 i22 i23 i24 i25 i26 := fS_L_law.trans ((if_neg (by decide)).trans ((if_neg (by decide)).trans ((if_neg (by decide)).trans ((if_neg (by decide)).trans ((if_neg (by decide)).trans ((if_neg (by decide)).trans ((if_neg (by decide)).trans ((if_neg (by decide)).trans ((if_neg (by decide)).trans ((if_neg (by decide)).trans (if_pos rfl)))))))))))
theorem fE_L_law_473 {L : Nat} {xs : Nat → Int32} {n N : Nat} {m : vM} {kc ks : Nat} {r1 : Nat} {r2 : Nat} {i3 : Int32} {i4 : Int32} {i5 : Int32} {i6 : Int32} {i7 : Int32} {i8 : Int32} {r9 : Nat} {i10 : Int32} {i11 : Int32} {i12 : Int32} {i13 : Int32} {r14 : Nat} {i15 : Int32} {i16 : Int32} {i17 : Int32} {i18 : Int32} {i19 : Int32} {i20 : Int32} {i21 : Int32} {i22 : Int32} {i23 : Int32} {i24 : Int32} {i25 : Int32} {i26 : Int32} : fL_L_law L xs (n + 1) 473 N m kc ks r1 r2 i3 i4 i5 i6 i7 i8 r9 i10 i11 i12 i13 r14 i15 i16 i17 i18 i19 i20 i21 i22 i23 i24 i25 i26 = fB_L_law_473 L xs (fL_L_law L xs n) N m kc ks r1 r2 i3 i4 i5 i6 i7 i8 r9 i10 i11 i12 i13 r14 i15 i16 i17 i18 i19 i20 i21 i22 i23 i24 i25 i26 := fS_L_law.trans ((if_neg (by decide)).trans ((if_neg (by decide)).trans ((if_neg (by decide)).trans ((if_neg (by decide)).trans ((if_neg (by decide)).trans ((if_neg (by decide)).trans ((if_neg (by decide)).trans ((if_neg (by decide)).trans ((if_neg (by decide)).trans ((if_neg (by decide)).trans ((if_neg (by decide)).trans (if_pos rfl))))))))))))
theorem fE_L_law_513 {L : Nat} {xs : Nat → Int32} {n N : Nat} {m : vM} {kc ks : Nat} {r1 : Nat} {r2 : Nat} {i3 : Int32} {i4 : Int32} {i5 : Int32} {i6 : Int32} {i7 : Int32} {i8 : Int32} {r9 : Nat} {i10 : Int32} {i11 : Int32} {i12 : Int32} {i13 : Int32} {r14 : Nat} {i15 : Int32} {i16 : Int32} {i17 : Int32} {i18 : Int32} {i19 : Int32} {i20 : Int32} {i21 : Int32} {i22 : Int32} {i23 : Int32} {i24 : Int32} {i25 : Int32} {i26 : Int32} : fL_L_law L xs (n + 1) 513 N m kc ks r1 r2 i3 i4 i5 i6 i7 i8 r9 i10 i11 i12 i13 r14 i15 i16 i17 i18 i19 i20 i21 i22 i23 i24 i25 i26 = fB_L_law_513 L xs (fL_L_law L xs n) N m kc ks r1 r2 i3 i4 i5 i6 i7 i8 r9 i10 i11 i12 i13 r14 i15 i16 i17 i18 i19 i20 i21 i22 i23 i24 i25 i26 := fS_L_law.trans ((if_neg (by decide)).trans ((if_neg (by decide)).trans ((if_neg (by decide)).trans ((if_neg (by decide)).trans ((if_neg (by decide)).trans ((if_neg (by decide)).trans ((if_neg (by decide)).trans ((if_neg (by decide)).trans ((if_neg (by decide)).trans ((if_neg (by decide)).trans ((if_neg (by decide)).trans ((if_neg (by decide)).trans (if_pos rfl)))))))))))))
theorem fE_L_law_561 {L : Nat} {xs : Nat → Int32} {n N : Nat} {m : vM} {kc ks : Nat} {r1 : Nat} {r2 : Nat} {i3 : Int32} {i4 : Int32} {i5 : Int32} {i6 : Int32} {i7 : Int32} {i8 : Int32} {r9 : Nat} {i10 : Int32} {i11 : Int32} {i12 : Int32} {i13 : Int32} {r14 : Nat} {i15 : Int32} {i16 : Int32} {i17 : Int32} {i18 : Int32} {i19 : Int32} {i20 : Int32} {i21 : Int32} {i22 : Int32} {i23 : Int32} {i24 : Int32} {i25 : Int32} {i26 : Int32} : fL_L_law L xs (n + 1) 561 N m kc ks r1 r2 i3 i4 i5 i6 i7 i8 r9 i10 i11 i12 i13 r14 i15 i16 i17 i18 i19 i20 i21 i22 i23 i24 i25 i26 = fB_L_law_561 L xs (fL_L_law L xs n) N m kc ks r1 r2 i3 i4 i5 i6 i7 i8 r9 i10 i11 i12 i13 r14 i15 i16 i17 i18 i19 i20 i21 i22 i23 i24 i25 i26 := fS_L_law.trans ((if_neg (by decide)).trans ((if_neg (by decide)).trans ((if_neg (by decide)).trans ((if_neg (by decide)).trans ((if_neg (by decide)).trans ((if_neg (by decide)).trans ((if_neg (by decide)).trans ((if_neg (by decide)).trans ((if_neg (by decide)).trans ((if_neg (by decide)).trans ((if_neg (by decide)).trans ((if_neg (by decide)).trans ((if_neg (by decide)).trans (if_pos rfl))))))))))))))
theorem fE_L_law_583 {L : Nat} {xs : Nat → Int32} {n N : Nat} {m : vM} {kc ks : Nat} {r1 : Nat} {r2 : Nat} {i3 : Int32} {i4 : Int32} {i5 : Int32} {i6 : Int32} {i7 : Int32} {i8 : Int32} {r9 : Nat} {i10 : Int32} {i11 : Int32} {i12 : Int32} {i13 : Int32} {r14 : Nat} {i15 : Int32} {i16 : Int32} {i17 : Int32} {i18 : Int32} {i19 : Int32} {i20 : Int32} {i21 : Int32} {i22 : Int32} {i23 : Int32} {i24 : Int32} {i25 : Int32} {i26 : Int32} : fL_L_law L xs (n + 1) 583 N m kc ks r1 r2 i3 i4 i5 i6 i7 i8 r9 i10 i11 i12 i13 r14 i15 i16 i17 i18 i19 i20 i21 i22 i23 i24 i25 i26 = fB_L_law_583 L xs (fL_L_law L xs n) N m kc ks r1 r2 i3 i4 i5 i6 i7 i8 r9 i10 i11 i12 i13 r14 i15 i16 i17 i18 i19 i20 i21 i22 i23 i24 i25 i26 := fS_L_law.trans ((if_neg (by decide)).trans ((if_neg (by decide)).trans ((if_neg (by decide)).trans ((if_neg (by decide)).trans ((if_neg (by decide)).trans ((if_neg (by decide)).trans ((if_neg (by decide)).trans ((if_neg (by decide)).trans ((if_neg (by decide)).trans ((if_neg (by decide)).trans ((if_neg (by decide)).trans ((if_neg (by decide)).trans ((if_neg (by decide)).trans ((if_neg (by decide)).trans (if_pos rfl)))))))))))))))
theorem fE_L_law_608 {L : Nat} {xs : Nat → Int32} {n N : Nat} {m : vM} {kc ks : Nat} {r1 : Nat} {r2 : Nat} {i3 : Int32} {i4 : Int32} {i5 : Int32} {i6 : Int32} {i7 : Int32} {i8 : Int32} {r9 : Nat} {i10 : Int32} {i11 : Int32} {i12 : Int32} {i13 : Int32} {r14 : Nat} {i15 : Int32} {i16 : Int32} {i17 : Int32} {i18 : Int32} {i19 : Int32} {i20 : Int32} {i21 : Int32} {i22 : Int32} {i23 : Int32} {i24 : Int32} {i25 : Int32} {i26 : Int32} : fL_L_law L xs (n + 1) 608 N m kc ks r1 r2 i3 i4 i5 i6 i7 i8 r9 i10 i11 i12 i13 r14 i15 i16 i17 i18 i19 i20 i21 i22 i23 i24 i25 i26 = fB_L_law_608 L xs (fL_L_law L xs n) N m kc ks r1 r2 i3 i4 i5 i6 i7 i8 r9 i10 i11 i12 i13 r14 i15 i16 i17 i18 i19 i20 i21 i22 i23 i24 i25 i26 := fS_L_law.trans ((if_neg (by decide)).trans ((if_neg (by decide)).trans ((if_neg (by decide)).trans ((if_neg (by decide)).trans ((if_neg (by decide)).trans ((if_neg (by decide)).trans ((if_neg (by decide)).trans ((if_neg (by decide)).trans ((if_neg (by decide)).trans ((if_neg (by decide)).trans ((if_neg (by decide)).trans ((if_neg (by decide)).trans ((if_neg (by decide)).trans ((if_neg (by decide)).trans ((if_neg (by decide)).trans (if_pos rfl))))))))))))))))
theorem fE_L_law_696 {L : Nat} {xs : Nat → Int32} {n N : Nat} {m : vM} {kc ks : Nat} {r1 : Nat} {r2 : Nat} {i3 : Int32} {i4 : Int32} {i5 : Int32} {i6 : Int32} {i7 : Int32} {i8 : Int32} {r9 : Nat} {i10 : Int32} {i11 : Int32} {i12 : Int32} {i13 : Int32} {r14 : Nat} {i15 : Int32} {i16 : Int32} {i17 : Int32} {i18 : Int32} {i19 : Int32} {i20 : Int32} {i21 : Int32} {i22 : Int32} {i23 : Int32} {i24 : Int32} {i25 : Int32} {i26 : Int32} : fL_L_law L xs (n + 1) 696 N m kc ks r1 r2 i3 i4 i5 i6 i7 i8 r9 i10 i11 i12 i13 r14 i15 i16 i17 i18 i19 i20 i21 i22 i23 i24 i25 i26 = fB_L_law_696 L xs (fL_L_law L xs n) N m kc ks r1 r2 i3 i4 i5 i6 i7 i8 r9 i10 i11 i12 i13 r14 i15 i16 i17 i18 i19 i20 i21 i22 i23 i24 i25 i26 := fS_L_law.trans ((if_neg (by decide)).trans ((if_neg (by decide)).trans ((if_neg (by decide)).trans ((if_neg (by decide)).trans ((if_neg (by decide)).trans ((if_neg (by decide)).trans ((if_neg (by decide)).trans ((if_neg (by decide)).trans ((if_neg (by decide)).trans ((if_neg (by decide)).trans ((if_neg (by decide)).trans ((if_neg (by decide)).trans ((if_neg (by decide)).trans ((if_neg (by decide)).trans ((if_neg (by decide)).trans ((if_neg (by decide)).trans (if_pos rfl)))))))))))))))))
theorem fE_L_law_702 {L : Nat} {xs : Nat → Int32} {n N : Nat} {m : vM} {kc ks : Nat} {r1 : Nat} {r2 : Nat} {i3 : Int32} {i4 : Int32} {i5 : Int32} {i6 : Int32} {i7 : Int32} {i8 : Int32} {r9 : Nat} {i10 : Int32} {i11 : Int32} {i12 : Int32} {i13 : Int32} {r14 : Nat} {i15 : Int32} {i16 : Int32} {i17 : Int32} {i18 : Int32} {i19 : Int32} {i20 : Int32} {i21 : Int32} {i22 : Int32} {i23 : Int32} {i24 : Int32} {i25 : Int32} {i26 : Int32} : fL_L_law L xs (n + 1) 702 N m kc ks r1 r2 i3 i4 i5 i6 i7 i8 r9 i10 i11 i12 i13 r14 i15 i16 i17 i18 i19 i20 i21 i22 i23 i24 i25 i26 = fB_L_law_702 L xs (fL_L_law L xs n) N m kc ks r1 r2 i3 i4 i5 i6 i7 i8 r9 i10 i11 i12 i13 r14 i15 i16 i17 i18 i19 i20 i21 i22 i23 i24 i25 i26 := fS_L_law.trans ((if_neg (by decide)).trans ((if_neg (by decide)).trans ((if_neg (by decide)).trans ((if_neg (by decide)).trans ((if_neg (by decide)).trans ((if_neg (by decide)).trans ((if_neg (by decide)).trans ((if_neg (by decide)).trans ((if_neg (by decide)).trans ((if_neg (by decide)).trans ((if_neg (by decide)).trans ((if_neg (by decide)).trans ((if_neg (by decide)).trans ((if_neg (by decide)).trans ((if_neg (by decide)).trans ((if_neg (by decide)).trans ((if_neg (by decide)).trans (if_pos rfl))))))))))))))))))
theorem fE_L_law_749 {L : Nat} {xs : Nat → Int32} {n N : Nat} {m : vM} {kc ks : Nat} {r1 : Nat} {r2 : Nat} {i3 : Int32} {i4 : Int32} {i5 : Int32} {i6 : Int32} {i7 : Int32} {i8 : Int32} {r9 : Nat} {i10 : Int32} {i11 : Int32} {i12 : Int32} {i13 : Int32} {r14 : Nat} {i15 : Int32} {i16 : Int32} {i17 : Int32} {i18 : Int32} {i19 : Int32} {i20 : Int32} {i21 : Int32} {i22 : Int32} {i23 : Int32} {i24 : Int32} {i25 : Int32} {i26 : Int32} : fL_L_law L xs (n + 1) 749 N m kc ks r1 r2 i3 i4 i5 i6 i7 i8 r9 i10 i11 i12 i13 r14 i15 i16 i17 i18 i19 i20 i21 i22 i23 i24 i25 i26 = fB_L_law_749 L xs (fL_L_law L xs n) N m kc ks r1 r2 i3 i4 i5 i6 i7 i8 r9 i10 i11 i12 i13 r14 i15 i16 i17 i18 i19 i20 i21 i22 i23 i24 i25 i26 := fS_L_law.trans ((if_neg (by decide)).trans ((if_neg (by decide)).trans ((if_neg (by decide)).trans ((if_neg (by decide)).trans ((if_neg (by decide)).trans ((if_neg (by decide)).trans ((if_neg (by decide)).trans ((if_neg (by decide)).trans ((if_neg (by decide)).trans ((if_neg (by decide)).trans ((if_neg (by decide)).trans ((if_neg (by decide)).trans ((if_neg (by decide)).trans ((if_neg (by decide)).trans ((if_neg (by decide)).trans ((if_neg (by decide)).trans ((if_neg (by decide)).trans ((if_neg (by decide)).trans (if_pos rfl)))))))))))))))))))
theorem fE_L_law_847 {L : Nat} {xs : Nat → Int32} {n N : Nat} {m : vM} {kc ks : Nat} {r1 : Nat} {r2 : Nat} {i3 : Int32} {i4 : Int32} {i5 : Int32} {i6 : Int32} {i7 : Int32} {i8 : Int32} {r9 : Nat} {i10 : Int32} {i11 : Int32} {i12 : Int32} {i13 : Int32} {r14 : Nat} {i15 : Int32} {i16 : Int32} {i17 : Int32} {i18 : Int32} {i19 : Int32} {i20 : Int32} {i21 : Int32} {i22 : Int32} {i23 : Int32} {i24 : Int32} {i25 : Int32} {i26 : Int32} : fL_L_law L xs (n + 1) 847 N m kc ks r1 r2 i3 i4 i5 i6 i7 i8 r9 i10 i11 i12 i13 r14 i15 i16 i17 i18 i19 i20 i21 i22 i23 i24 i25 i26 = fB_L_law_847 L xs (fL_L_law L xs n) N m kc ks r1 r2 i3 i4 i5 i6 i7 i8 r9 i10 i11 i12 i13 r14 i15 i16 i17 i18 i19 i20 i21 i22 i23 i24 i25 i26 := fS_L_law.trans ((if_neg (by decide)).trans ((if_neg (by decide)).trans ((if_neg (by decide)).trans ((if_neg (by decide)).trans ((if_neg (by decide)).trans ((if_neg (by decide)).trans ((if_neg (by decide)).trans ((if_neg (by decide)).trans ((if_neg (by decide)).trans ((if_neg (by decide)).trans ((if_neg (by decide)).trans ((if_neg (by decide)).trans ((if_neg (by decide)).trans ((if_neg (by decide)).trans ((if_neg (by decide)).trans ((if_neg (by decide)).trans ((if_neg (by decide)).trans ((if_neg (by decide)).trans ((if_neg (by decide)).trans (if_pos rfl))))))))))))))))))))
theorem fE_L_law_850 {L : Nat} {xs : Nat → Int32} {n N : Nat} {m : vM} {kc ks : Nat} {r1 : Nat} {r2 : Nat} {i3 : Int32} {i4 : Int32} {i5 : Int32} {i6 : Int32} {i7 : Int32} {i8 : Int32} {r9 : Nat} {i10 : Int32} {i11 : Int32} {i12 : Int32} {i13 : Int32} {r14 : Nat} {i15 : Int32} {i16 : Int32} {i17 : Int32} {i18 : Int32} {i19 : Int32} {i20 : Int32} {i21 : Int32} {i22 : Int32} {i23 : Int32} {i24 : Int32} {i25 : Int32} {i26 : Int32} : fL_L_law L xs (n + 1) 850 N m kc ks r1 r2 i3 i4 i5 i6 i7 i8 r9 i10 i11 i12 i13 r14 i15 i16 i17 i18 i19 i20 i21 i22 i23 i24 i25 i26 = fB_L_law_850 L xs (fL_L_law L xs n) N m kc ks r1 r2 i3 i4 i5 i6 i7 i8 r9 i10 i11 i12 i13 r14 i15 i16 i17 i18 i19 i20 i21 i22 i23 i24 i25 i26 := fS_L_law.trans ((if_neg (by decide)).trans ((if_neg (by decide)).trans ((if_neg (by decide)).trans ((if_neg (by decide)).trans ((if_neg (by decide)).trans ((if_neg (by decide)).trans ((if_neg (by decide)).trans ((if_neg (by decide)).trans ((if_neg (by decide)).trans ((if_neg (by decide)).trans ((if_neg (by decide)).trans ((if_neg (by decide)).trans ((if_neg (by decide)).trans ((if_neg (by decide)).trans ((if_neg (by decide)).trans ((if_neg (by decide)).trans ((if_neg (by decide)).trans ((if_neg (by decide)).trans ((if_neg (by decide)).trans ((if_neg (by decide)).trans (if_pos rfl)))))))))))))))))))))
theorem fE_L_law_883 {L : Nat} {xs : Nat → Int32} {n N : Nat} {m : vM} {kc ks : Nat} {r1 : Nat} {r2 : Nat} {i3 : Int32} {i4 : Int32} {i5 : Int32} {i6 : Int32} {i7 : Int32} {i8 : Int32} {r9 : Nat} {i10 : Int32} {i11 : Int32} {i12 : Int32} {i13 : Int32} {r14 : Nat} {i15 : Int32} {i16 : Int32} {i17 : Int32} {i18 : Int32} {i19 : Int32} {i20 : Int32} {i21 : Int32} {i22 : Int32} {i23 : Int32} {i24 : Int32} {i25 : Int32} {i26 : Int32} : fL_L_law L xs (n + 1) 883 N m kc ks r1 r2 i3 i4 i5 i6 i7 i8 r9 i10 i11 i12 i13 r14 i15 i16 i17 i18 i19 i20 i21 i22 i23 i24 i25 i26 = fB_L_law_883 L xs (fL_L_law L xs n) N m kc ks r1 r2 i3 i4 i5 i6 i7 i8 r9 i10 i11 i12 i13 r14 i15 i16 i17 i18 i19 i20 i21 i22 i23 i24 i25 i26 := fS_L_law.trans ((if_neg (by decide)).trans ((if_neg (by decide)).trans ((if_neg (by decide)).trans ((if_neg (by decide)).trans ((if_neg (by decide)).trans ((if_neg (by decide)).trans ((if_neg (by decide)).trans ((if_neg (by decide)).trans ((if_neg (by decide)).trans ((if_neg (by decide)).trans ((if_neg (by decide)).trans ((if_neg (by decide)).trans ((if_neg (by decide)).trans ((if_neg (by decide)).trans ((if_neg (by decide)).trans ((if_neg (by decide)).trans ((if_neg (by decide)).trans ((if_neg (by decide)).trans ((if_neg (by decide)).trans ((if_neg (by decide)).trans ((if_neg (by decide)).trans (if_pos rfl))))))))))))))))))))))
theorem fE_L_law_929 {L : Nat} {xs : Nat → Int32} {n N : Nat} {m : vM} {kc ks : Nat} {r1 : Nat} {r2 : Nat} {i3 : Int32} {i4 : Int32} {i5 : Int32} {i6 : Int32} {i7 : Int32} {i8 : Int32} {r9 : Nat} {i10 : Int32} {i11 : Int32} {i12 : Int32} {i13 : Int32} {r14 : Nat} {i15 : Int32} {i16 : Int32} {i17 : Int32} {i18 : Int32} {i19 : Int32} {i20 : Int32} {i21 : Int32} {i22 : Int32} {i23 : Int32} {i24 : Int32} {i25 : Int32} {i26 : Int32} : fL_L_law L xs (n + 1) 929 N m kc ks r1 r2 i3 i4 i5 i6 i7 i8 r9 i10 i11 i12 i13 r14 i15 i16 i17 i18 i19 i20 i21 i22 i23 i24 i25 i26 = fB_L_law_929 L xs (fL_L_law L xs n) N m kc ks r1 r2 i3 i4 i5 i6 i7 i8 r9 i10 i11 i12 i13 r14 i15 i16 i17 i18 i19 i20 i21 i22 i23 i24 i25 i26 := fS_L_law.trans ((if_neg (by decide)).trans ((if_neg (by decide)).trans ((if_neg (by decide)).trans ((if_neg (by decide)).trans ((if_neg (by decide)).trans ((if_neg (by decide)).trans ((if_neg (by decide)).trans ((if_neg (by decide)).trans ((if_neg (by decide)).trans ((if_neg (by decide)).trans ((if_neg (by decide)).trans ((if_neg (by decide)).trans ((if_neg (by decide)).trans ((if_neg (by decide)).trans ((if_neg (by decide)).trans ((if_neg (by decide)).trans ((if_neg (by decide)).trans ((if_neg (by decide)).trans ((if_neg (by decide)).trans ((if_neg (by decide)).trans ((if_neg (by decide)).trans ((if_neg (by decide)).trans (if_pos rfl)))))))))))))))))))))))
theorem fE_L_law_943 {L : Nat} {xs : Nat → Int32} {n N : Nat} {m : vM} {kc ks : Nat} {r1 : Nat} {r2 : Nat} {i3 : Int32} {i4 : Int32} {i5 : Int32} {i6 : Int32} {i7 : Int32} {i8 : Int32} {r9 : Nat} {i10 : Int32} {i11 : Int32} {i12 : Int32} {i13 : Int32} {r14 : Nat} {i15 : Int32} {i16 : Int32} {i17 : Int32} {i18 : Int32} {i19 : Int32} {i20 : Int32} {i21 : Int32} {i22 : Int32} {i23 : Int32} {i24 : Int32} {i25 : Int32} {i26 : Int32} : fL_L_law L xs (n + 1) 943 N m kc ks r1 r2 i3 i4 i5 i6 i7 i8 r9 i10 i11 i12 i13 r14 i15 i16 i17 i18 i19 i20 i21 i22 i23 i24 i25 i26 = fB_L_law_943 L xs (fL_L_law L xs n) N m kc ks r1 r2 i3 i4 i5 i6 i7 i8 r9 i10 i11 i12 i13 r14 i15 i16 i17 i18 i19 i20 i21 i22 i23 i24 i25 i26 := fS_L_law.trans ((if_neg (by decide)).trans ((if_neg (by decide)).trans ((if_neg (by decide)).trans ((if_neg (by decide)).trans ((if_neg (by decide)).trans ((if_neg (by decide)).trans ((if_neg (by decide)).trans ((if_neg (by decide)).trans ((if_neg (by decide)).trans ((if_neg (by decide)).trans ((if_neg (by decide)).trans ((if_neg (by decide)).trans ((if_neg (by decide)).trans ((if_neg (by decide)).trans ((if_neg (by decide)).trans ((if_neg (by decide)).trans ((if_neg (by decide)).trans ((if_neg (by decide)).trans ((if_neg (by decide)).trans ((if_neg (by decide)).trans ((if_neg (by decide)).trans ((if_neg (by decide)).trans ((if_neg (by decide)).trans (if_pos rfl))))))))))))))))))))))))
theorem fE_L_law_957 {L : Nat} {xs : Nat → Int32} {n N : Nat} {m : vM} {kc ks : Nat} {r1 : Nat} {r2 : Nat} {i3 : Int32} {i4 : Int32} {i5 : Int32} {i6 : Int32} {i7 : Int32} {i8 : Int32} {r9 : Nat} {i10 : Int32} {i11 : Int32} {i12 : Int32} {i13 : Int32} {r14 : Nat} {i15 : Int32} {i16 : Int32} {i17 : Int32} {i18 : Int32} {i19 : Int32} {i20 : Int32} {i21 : Int32} {i22 : Int32} {i23 : Int32} {i24 : Int32} {i25 : Int32} {i26 : Int32} : fL_L_law L xs (n + 1) 957 N m kc ks r1 r2 i3 i4 i5 i6 i7 i8 r9 i10 i11 i12 i13 r14 i15 i16 i17 i18 i19 i20 i21 i22 i23 i24 i25 i26 = fB_L_law_957 L xs (fL_L_law L xs n) N m kc ks r1 r2 i3 i4 i5 i6 i7 i8 r9 i10 i11 i12 i13 r14 i15 i16 i17 i18 i19 i20 i21 i22 i23 i24 i25 i26 := fS_L_law.trans ((if_neg (by decide)).trans ((if_neg (by decide)).trans ((if_neg (by decide)).trans ((if_neg (by decide)).trans ((if_neg (by decide)).trans ((if_neg (by decide)).trans ((if_neg (by decide)).trans ((if_neg (by decide)).trans ((if_neg (by decide)).trans ((if_neg (by decide)).trans ((if_neg (by decide)).trans ((if_neg (by decide)).trans ((if_neg (by decide)).trans ((if_neg (by decide)).trans ((if_neg (by decide)).trans ((if_neg (by decide)).trans ((if_neg (by decide)).trans ((if_neg (by decide)).trans ((if_neg (by decide)).trans ((if_neg (by decide)).trans ((if_neg (by decide)).trans ((if_neg (by decide)).trans ((if_neg (by decide)).trans ((if_neg (by decide)).trans (if_pos rfl)))))))))))))))))))))))))
theorem fE_L_law_963 {L : Nat} {xs : Nat → Int32} {n N : Nat} {m : vM} {kc ks : Nat} {r1 : Nat} {r2 : Nat} {i3 : Int32} {i4 : Int32} {i5 : Int32} {i6 : Int32} {i7 : Int32} {i8 : Int32} {r9 : Nat} {i10 : Int32} {i11 : Int32} {i12 : Int32} {i13 : Int32} {r14 : Nat} {i15 : Int32} {i16 : Int32} {i17 : Int32} {i18 : Int32} {i19 : Int32} {i20 : Int32} {i21 : Int32} {i22 : Int32} {i23 : Int32} {i24 : Int32} {i25 : Int32} {i26 : Int32} : fL_L_law L xs (n + 1) 963 N m kc ks r1 r2 i3 i4 i5 i6 i7 i8 r9 i10 i11 i12 i13 r14 i15 i16 i17 i18 i19 i20 i21 i22 i23 i24 i25 i26 = fB_L_law_963 L xs (fL_L_law L xs n) N m kc ks r1 r2 i3 i4 i5 i6 i7 i8 r9 i10 i11 i12 i13 r14 i15 i16 i17 i18 i19 i20 i21 i22 i23 i24 i25 i26 := fS_L_law.trans ((if_neg (by decide)).trans ((if_neg (by decide)).trans ((if_neg (by decide)).trans ((if_neg (by decide)).trans ((if_neg (by decide)).trans ((if_neg (by decide)).trans ((if_neg (by decide)).trans ((if_neg (by decide)).trans ((if_neg (by decide)).trans ((if_neg (by decide)).trans ((if_neg (by decide)).trans ((if_neg (by decide)).trans ((if_neg (by decide)).trans ((if_neg (by decide)).trans ((if_neg (by decide)).trans ((if_neg (by decide)).trans ((if_neg (by decide)).trans ((if_neg (by decide)).trans ((if_neg (by decide)).trans ((if_neg (by decide)).trans ((if_neg (by decide)).trans ((if_neg (by decide)).trans ((if_neg (by decide)).trans ((if_neg (by decide)).trans ((if_neg (by decide)).trans (if_pos rfl))))))))))))))))))))))))))
theorem fE_L_law_1031 {L : Nat} {xs : Nat → Int32} {n N : Nat} {m : vM} {kc ks : Nat} {r1 : Nat} {r2 : Nat} {i3 : Int32} {i4 : Int32} {i5 : Int32} {i6 : Int32} {i7 : Int32} {i8 : Int32} {r9 : Nat} {i10 : Int32} {i11 : Int32} {i12 : Int32} {i13 : Int32} {r14 : Nat} {i15 : Int32} {i16 : Int32} {i17 : Int32} {i18 : Int32} {i19 : Int32} {i20 : Int32} {i21 : Int32} {i22 : Int32} {i23 : Int32} {i24 : Int32} {i25 : Int32} {i26 : Int32} : fL_L_law L xs (n + 1) 1031 N m kc ks r1 r2 i3 i4 i5 i6 i7 i8 r9 i10 i11 i12 i13 r14 i15 i16 i17 i18 i19 i20 i21 i22 i23 i24 i25 i26 = fB_L_law_1031 L xs (fL_L_law L xs n) N m kc ks r1 r2 i3 i4 i5 i6 i7 i8 r9 i10 i11 i12 i13 r14 i15 i16 i17 i18 i19 i20 i21 i22 i23 i24 i25 i26 := fS_L_law.trans ((if_neg (by decide)).trans ((if_neg (by decide)).trans ((if_neg (by decide)).trans ((if_neg (by decide)).trans ((if_neg (by decide)).trans ((if_neg (by decide)).trans ((if_neg (by decide)).trans ((if_neg (by decide)).trans ((if_neg (by decide)).trans ((if_neg (by decide)).trans ((if_neg (by decide)).trans ((if_neg (by decide)).trans ((if_neg (by decide)).trans ((if_neg (by decide)).trans ((if_neg (by decide)).trans ((if_neg (by decide)).trans ((if_neg (by decide)).trans ((if_neg (by decide)).trans ((if_neg (by decide)).trans ((if_neg (by decide)).trans ((if_neg (by decide)).trans ((if_neg (by decide)).trans ((if_neg (by decide)).trans ((if_neg (by decide)).trans ((if_neg (by decide)).trans ((if_neg (by decide)).trans (if_pos rfl)))))))))))))))))))))))))))
set_option maxHeartbeats 1000000 in
set_option maxRecDepth 100000 in
theorem law_b29 {p : Program} {l : Launch} {e : Env} {s : State} {m : MethodId} {below : List Frame} {meth : Method} {c : Code} {D : va_G} {tc : Nat → ClassId} {ad : Nat → Nat} {N b L : Nat} {xs : Nat → Int32} {A : Nat → Prop} {Qf : State → Prop} {z : Int32 × Nat × vM} (hx : p.tables.exec = Jvm.exec) (hb : c.code = code) (hml : c.maxLocals = 27) (hown : s.vm.findClass RL = some m.cls) (hts : ∀ w ∈ wsL_law, w.before #[Value.ref b] s = true) (hX : va_X b L xs s s.heap) (hbl : b < s.heap.size) (hbA : ¬ A b) (hA : ∀ q : Nat, s.heap.size ≤ q → A q) (hK : va_K D vwCl (vT tc) s) (hZ : vZ tc s) (hend : ∀ (H : Heap) (locs : List Loc) (ls : Array Slot), va_S A s.heap H locs → W p l e room_1 s m #[Value.ref b] below meth c H locs room_1.cells room_1.slots Qf (F0 m 1061 ls [.int 1])) (hz1 : z.1 = 1) {n : Nat} (ih : lC_29 p l e s m below meth c D tc ad N b L xs A Qf z n ∧ lC_90 p l e s m below meth c D tc ad N b L xs A Qf z n ∧ lC_123 p l e s m below meth c D tc ad N b L xs A Qf z n ∧ lC_132 p l e s m below meth c D tc ad N b L xs A Qf z n ∧ lC_272 p l e s m below meth c D tc ad N b L xs A Qf z n ∧ lC_286 p l e s m below meth c D tc ad N b L xs A Qf z n ∧ lC_392 p l e s m below meth c D tc ad N b L xs A Qf z n ∧ lC_402 p l e s m below meth c D tc ad N b L xs A Qf z n ∧ lC_411 p l e s m below meth c D tc ad N b L xs A Qf z n ∧ lC_430 p l e s m below meth c D tc ad N b L xs A Qf z n ∧ lC_448 p l e s m below meth c D tc ad N b L xs A Qf z n ∧ lC_473 p l e s m below meth c D tc ad N b L xs A Qf z n ∧ lC_513 p l e s m below meth c D tc ad N b L xs A Qf z n ∧ lC_561 p l e s m below meth c D tc ad N b L xs A Qf z n ∧ lC_583 p l e s m below meth c D tc ad N b L xs A Qf z n ∧ lC_608 p l e s m below meth c D tc ad N b L xs A Qf z n ∧ lC_696 p l e s m below meth c D tc ad N b L xs A Qf z n ∧ lC_702 p l e s m below meth c D tc ad N b L xs A Qf z n ∧ lC_749 p l e s m below meth c D tc ad N b L xs A Qf z n ∧ lC_847 p l e s m below meth c D tc ad N b L xs A Qf z n ∧ lC_850 p l e s m below meth c D tc ad N b L xs A Qf z n ∧ lC_883 p l e s m below meth c D tc ad N b L xs A Qf z n ∧ lC_929 p l e s m below meth c D tc ad N b L xs A Qf z n ∧ lC_943 p l e s m below meth c D tc ad N b L xs A Qf z n ∧ lC_957 p l e s m below meth c D tc ad N b L xs A Qf z n ∧ lC_963 p l e s m below meth c D tc ad N b L xs A Qf z n ∧ lC_1031 p l e s m below meth c D tc ad N b L xs A Qf z n) : lC_29 p l e s m below meth c D tc ad N b L xs A Qf z (n + 1) := by
  intro NL adL m1 kc ks r1 r2 i3 i4 H locs ls hNN hE hc hs hO n_r1 n_r2 h hP hD hS hl
  have h : fB_L_law_29 L xs (fL_L_law L xs n) NL m1 kc ks r1 r2 i3 i4 0 0 0 0 0 0 0 0 0 0 0 0 0 0 0 0 0 0 0 0 0 0 = some z := fE_L_law_29.symm.trans h
  unfold fB_L_law_29 at h
  refine lv_iload hx hb dL_law_29 (lv_at hl 3 rfl) ?_
  refine lv_bipush (v := 50) hx hb dL_law_31 (by decide) ?_
  refine lv_icmp_ge (tgt := 1056) hx hb dL_law_33 (by decide) (fun c1 => ?_) (fun c1 => ?_)
  · rw [if_pos c1] at h
    refine lv_aload_n hx hb dL_law_1056 rfl (lv_at hl 1 rfl) ?_
    refine lv_aload_n hx hb dL_law_1057 rfl (lv_at hl 0 rfl) ?_
    obtain ⟨g2, h⟩ := vg_if h
    obtain ⟨q3, g4, h⟩ := vg_bind h
    obtain ⟨g5, h⟩ := vg_if h
    obtain ⟨g6, h⟩ := vg_if h
    have hFc := vm_free hD hS hA
    refine va_calli (va_runV (As := [.ref (adL r1)]) (rest := []) ⟨hx, hb, hml, hown, hts⟩ (cm_X5_isSame (m0 := m1) l D tc adL hO n_r2 n_r1 g4) (cwV 1 hts gL_law_X5_isSame rfl rfl rfl (by decide +kernel) ⟨(Nat.le_of_ble_eq_true rfl), (Nat.le_of_ble_eq_true rfl)⟩) ⟨qW_blind, va_recv hK hP (ci := 5) (q0 := r2) rfl (vW_k5 n_r2 g2), qW_pre hP hD hK hZ⟩ rfl rfl hl.1 rfl (lv_room (Nat.le_of_ble_eq_true rfl)) dL_law_1058 ⟨(vRc g5), (vRs g6)⟩) hS (fun q9 _ h9 => hFc q9 h9) hFc (fun w7 u t H1 locs ht hvm hw hB hz1 hk1 hS => ?_)
    obtain ⟨ad8, e9, e10, hO11, hP1, hK1, hD1⟩ := hB
    rw [ht] at hP1
    have hP := hP1
    have hD := hD1.weaken (fun _ q9 _ h9 => hFc q9.1 h9)
    generalize H1 = H at hP hS ⊢
    clear hk1 hz1 ht hvm
    have hl : lv_has ls 27 [(1, .ref (ad8 r1)), (2, .ref (ad8 r2)), (3, .int i3), (4, .int i4), (0, .ref b)] := by rw [e9 r1 n_r1, e9 r2 n_r2]; exact hl
    have e12 : ∀ k, k < N → ad8 k = ad k := fun k hk => (e9 k (Nat.lt_of_lt_of_le hk hNN)).trans (hE k hk)
    have e13 : N ≤ q3.2.1 := Nat.le_trans hNN e10
    have n14 : r1 < q3.2.1 := Nat.lt_of_lt_of_le n_r1 e10
    have n15 : r2 < q3.2.1 := Nat.lt_of_lt_of_le n_r2 e10
    have hw : w7 = q3.1 := hw
    rw [hw]
    have hP : va_P D vwCl (vW tc ad8 q3.2.1 q3.2.2) H := hP
    have hD : va_D A (vW tc ad8 q3.2.1 q3.2.2) := hD
    obtain ⟨g16, h⟩ := vg_if h
    have hz := Option.some.inj h
    rw [← hz] at hz1
    have hz2 : q3.1 = 1 := hz1
    refine W.eq (g2 := F0 m 1061 ls [.int 1]) (by rw [hz2]) ?_
    refine W.widen (k := room_1.cells) (n := room_1.slots) (vRc g5) (vRs g6) ?_
    exact hend _ _ _ hS
  · rw [if_neg c1] at h
    refine lv_aload_n hx hb dL_law_36 rfl (lv_at hl 4 rfl) ?_
    refine lv_iload hx hb dL_law_37 (lv_at hl 3 rfl) ?_
    refine lv_bipush (v := 16) hx hb dL_law_39 (by decide) ?_
    obtain ⟨g17, h⟩ := vg_if h
    refine lv_irem hx hb dL_law_41 g17 ?_
    obtain ⟨q18, g19, h⟩ := vg_bind h
    refine va_calli (va_runS (As := [.ref b, .int (i4 - i4 / 16 * 16)]) (rest := []) ⟨hx, hb, hml, hown, hts⟩ (cm_L_cell (m0 := m1) l D tc adL hO g19) (va_cwS 2 hts gL_law_L_cell rfl rfl rfl (by decide +kernel) ⟨(Nat.le_of_ble_eq_true rfl), (Nat.le_of_ble_eq_true rfl)⟩) ⟨qS_blind, qS_pre hP hK hZ hX hbl hbA hS⟩ rfl rfl hl.1 rfl (lv_room (Nat.le_of_ble_eq_true rfl)) dL_law_42 ⟨vRc hc, vRs hs⟩) hS (fun q9 _ h9 => h9.elim) (fun q9 h9 => h9.elim) (fun w20 u t H1 locs ht hvm hw hB hz1 hk1 hS => ?_)
    have hP := hP.kept (fun k9 q9 hk9 => hk1 q9.1 (hP k9 q9 hk9).lt (fun h9 => h9))
    generalize H1 = H at hP hS ⊢
    clear hk1 hz1 ht hvm
    have hw : w20 = q18 := hw
    rw [hw]
    refine lv_iload hx hb dL_law_45 (lv_at hl 3 rfl) ?_
    refine lv_bipush (v := 16) hx hb dL_law_47 (by decide) ?_
    obtain ⟨g21, h⟩ := vg_if h
    refine lv_idiv hx hb dL_law_49 g21 ?_
    refine lv_iconst (v := 3) hx hb dL_law_50 (by decide) ?_
    refine lv_imul hx hb dL_law_51 ?_
    refine lv_ishr hx hb dL_law_52 ?_
    refine lv_bipush (v := 89) hx hb dL_law_53 (by decide) ?_
    refine lv_iload hx hb dL_law_55 (lv_at hl 3 rfl) ?_
    refine lv_imul hx hb dL_law_57 ?_
    refine lv_iadd hx hb dL_law_58 ?_
    refine lv_istore (lv' := [(5, .int ((q18 >>> (((i4 / 16) * 3) &&& 31)) + (89 * i4))), (1, .ref (adL r1)), (2, .ref (adL r2)), (3, .int i3), (4, .int i4), (0, .ref b)]) hx hb dL_law_59 hl (by decide) rfl (fun ls hl => ?_)
    refine lv_iload hx hb dL_law_61 (lv_at hl 0 rfl) ?_
    refine lv_iload_n hx hb dL_law_63 rfl (lv_at hl 3 rfl) ?_
    obtain ⟨q22, g23, h⟩ := vg_bind h
    refine va_calli (va_runS (As := [.int ((q18 >>> (((i4 / 16) * 3) &&& 31)) + (89 * i4)), .int i3]) (rest := []) ⟨hx, hb, hml, hown, hts⟩ (cm_L_below (m0 := m1) l D tc adL hO g23) (va_cwS 2 hts gL_law_L_below rfl rfl rfl (by decide +kernel) ⟨(Nat.le_of_ble_eq_true rfl), (Nat.le_of_ble_eq_true rfl)⟩) ⟨qR_blind, qR_pre hP hK hZ⟩ rfl rfl hl.1 rfl (lv_room (Nat.le_of_ble_eq_true rfl)) dL_law_64 ⟨vRc hc, vRs hs⟩) hS (fun q9 _ h9 => h9.elim) (fun q9 h9 => h9.elim) (fun w24 u t H1 locs ht hvm hw hB hz1 hk1 hS => ?_)
    have hP := hP.kept (fun k9 q9 hk9 => hk1 q9.1 (hP k9 q9 hk9).lt (fun h9 => h9))
    generalize H1 = H at hP hS ⊢
    clear hk1 hz1 ht hvm
    have hw : w24 = q22 := hw
    rw [hw]
    refine lv_istore (lv' := [(6, .int q22), (5, .int ((q18 >>> (((i4 / 16) * 3) &&& 31)) + (89 * i4))), (1, .ref (adL r1)), (2, .ref (adL r2)), (3, .int i3), (4, .int i4), (0, .ref b)]) hx hb dL_law_67 hl (by decide) rfl (fun ls hl => ?_)
    refine lv_iload hx hb dL_law_69 (lv_at hl 1 rfl) ?_
    refine lv_bipush (v := 8) hx hb dL_law_71 (by decide) ?_
    refine lv_ishr hx hb dL_law_73 ?_
    refine lv_bipush (v := 6) hx hb dL_law_74 (by decide) ?_
    obtain ⟨q25, g26, h⟩ := vg_bind h
    refine va_calli (va_runS (As := [.int (((q18 >>> (((i4 / 16) * 3) &&& 31)) + (89 * i4)) >>> (8 &&& 31)), .int 6]) (rest := []) ⟨hx, hb, hml, hown, hts⟩ (cm_L_below (m0 := m1) l D tc adL hO g26) (va_cwS 2 hts gL_law_L_below rfl rfl rfl (by decide +kernel) ⟨(Nat.le_of_ble_eq_true rfl), (Nat.le_of_ble_eq_true rfl)⟩) ⟨qR_blind, qR_pre hP hK hZ⟩ rfl rfl hl.1 rfl (lv_room (Nat.le_of_ble_eq_true rfl)) dL_law_76 ⟨vRc hc, vRs hs⟩) hS (fun q9 _ h9 => h9.elim) (fun q9 h9 => h9.elim) (fun w27 u t H1 locs ht hvm hw hB hz1 hk1 hS => ?_)
    have hP := hP.kept (fun k9 q9 hk9 => hk1 q9.1 (hP k9 q9 hk9).lt (fun h9 => h9))
    generalize H1 = H at hP hS ⊢
    clear hk1 hz1 ht hvm
    have hw : w27 = q25 := hw
    rw [hw]
    refine lv_iconst (v := 3) hx hb dL_law_79 (by decide) ?_
    refine lv_icmp_ge (tgt := 87) hx hb dL_law_80 (by decide) (fun c28 => ?_) (fun c28 => ?_)
    · rw [if_pos c28] at h
      refine lv_iconst (v := 0) hx hb dL_law_87 (by decide) ?_
      refine lv_istore (lv' := [(7, .int 0), (6, .int q22), (5, .int ((q18 >>> (((i4 / 16) * 3) &&& 31)) + (89 * i4))), (1, .ref (adL r1)), (2, .ref (adL r2)), (3, .int i3), (4, .int i4), (0, .ref b)]) hx hb dL_law_88 hl (by decide) rfl (fun ls hl => ?_)
      exact (ih.2.1) NL adL m1 kc ks r1 r2 i3 i4 ((q18 >>> (((i4 / 16) * 3) &&& 31)) + (89 * i4)) q22 (0 : Int32) _ _ _ hNN hE hc hs hO n_r1 n_r2 h hP hD hS (lv_sub hl (l' := [(1, .ref (adL r1)), (2, .ref (adL r2)), (3, .int i3), (4, .int i4), (5, .int ((q18 >>> (((i4 / 16) * 3) &&& 31)) + (89 * i4))), (6, .int q22), (7, .int 0), (0, .ref b)]) [3, 4, 5, 6, 2, 1, 0, 7] rfl)
    · rw [if_neg c28] at h
      refine lv_iconst (v := 1) hx hb dL_law_83 (by decide) ?_
      refine lv_goto (tgt := 88) hx hb dL_law_84 (by decide) ?_
      refine lv_istore (lv' := [(7, .int 1), (6, .int q22), (5, .int ((q18 >>> (((i4 / 16) * 3) &&& 31)) + (89 * i4))), (1, .ref (adL r1)), (2, .ref (adL r2)), (3, .int i3), (4, .int i4), (0, .ref b)]) hx hb dL_law_88 hl (by decide) rfl (fun ls hl => ?_)
      exact (ih.2.1) NL adL m1 kc ks r1 r2 i3 i4 ((q18 >>> (((i4 / 16) * 3) &&& 31)) + (89 * i4)) q22 (1 : Int32) _ _ _ hNN hE hc hs hO n_r1 n_r2 h hP hD hS (lv_sub hl (l' := [(1, .ref (adL r1)), (2, .ref (adL r2)), (3, .int i3), (4, .int i4), (5, .int ((q18 >>> (((i4 / 16) * 3) &&& 31)) + (89 * i4))), (6, .int q22), (7, .int 1), (0, .ref b)]) [3, 4, 5, 6, 2, 1, 0, 7] rfl)
set_option maxHeartbeats 1000000 in
set_option maxRecDepth 100000 in
theorem law_b90 {p : Program} {l : Launch} {e : Env} {s : State} {m : MethodId} {below : List Frame} {meth : Method} {c : Code} {D : va_G} {tc : Nat → ClassId} {ad : Nat → Nat} {N b L : Nat} {xs : Nat → Int32} {A : Nat → Prop} {Qf : State → Prop} {z : Int32 × Nat × vM} (hx : p.tables.exec = Jvm.exec) (hb : c.code = code) (hml : c.maxLocals = 27) (hown : s.vm.findClass RL = some m.cls) (hts : ∀ w ∈ wsL_law, w.before #[Value.ref b] s = true) (hX : va_X b L xs s s.heap) (hbl : b < s.heap.size) (hbA : ¬ A b) (hA : ∀ q : Nat, s.heap.size ≤ q → A q) (hK : va_K D vwCl (vT tc) s) (hZ : vZ tc s) (hend : ∀ (H : Heap) (locs : List Loc) (ls : Array Slot), va_S A s.heap H locs → W p l e room_1 s m #[Value.ref b] below meth c H locs room_1.cells room_1.slots Qf (F0 m 1061 ls [.int 1])) (hz1 : z.1 = 1) {n : Nat} (ih : lC_29 p l e s m below meth c D tc ad N b L xs A Qf z n ∧ lC_90 p l e s m below meth c D tc ad N b L xs A Qf z n ∧ lC_123 p l e s m below meth c D tc ad N b L xs A Qf z n ∧ lC_132 p l e s m below meth c D tc ad N b L xs A Qf z n ∧ lC_272 p l e s m below meth c D tc ad N b L xs A Qf z n ∧ lC_286 p l e s m below meth c D tc ad N b L xs A Qf z n ∧ lC_392 p l e s m below meth c D tc ad N b L xs A Qf z n ∧ lC_402 p l e s m below meth c D tc ad N b L xs A Qf z n ∧ lC_411 p l e s m below meth c D tc ad N b L xs A Qf z n ∧ lC_430 p l e s m below meth c D tc ad N b L xs A Qf z n ∧ lC_448 p l e s m below meth c D tc ad N b L xs A Qf z n ∧ lC_473 p l e s m below meth c D tc ad N b L xs A Qf z n ∧ lC_513 p l e s m below meth c D tc ad N b L xs A Qf z n ∧ lC_561 p l e s m below meth c D tc ad N b L xs A Qf z n ∧ lC_583 p l e s m below meth c D tc ad N b L xs A Qf z n ∧ lC_608 p l e s m below meth c D tc ad N b L xs A Qf z n ∧ lC_696 p l e s m below meth c D tc ad N b L xs A Qf z n ∧ lC_702 p l e s m below meth c D tc ad N b L xs A Qf z n ∧ lC_749 p l e s m below meth c D tc ad N b L xs A Qf z n ∧ lC_847 p l e s m below meth c D tc ad N b L xs A Qf z n ∧ lC_850 p l e s m below meth c D tc ad N b L xs A Qf z n ∧ lC_883 p l e s m below meth c D tc ad N b L xs A Qf z n ∧ lC_929 p l e s m below meth c D tc ad N b L xs A Qf z n ∧ lC_943 p l e s m below meth c D tc ad N b L xs A Qf z n ∧ lC_957 p l e s m below meth c D tc ad N b L xs A Qf z n ∧ lC_963 p l e s m below meth c D tc ad N b L xs A Qf z n ∧ lC_1031 p l e s m below meth c D tc ad N b L xs A Qf z n) : lC_90 p l e s m below meth c D tc ad N b L xs A Qf z (n + 1) := by
  intro NL adL m1 kc ks r1 r2 i3 i4 i5 i6 i7 H locs ls hNN hE hc hs hO n_r1 n_r2 h hP hD hS hl
  have h : fB_L_law_90 L xs (fL_L_law L xs n) NL m1 kc ks r1 r2 i3 i4 i5 i6 i7 0 0 0 0 0 0 0 0 0 0 0 0 0 0 0 0 0 0 0 = some z := fE_L_law_90.symm.trans h
  unfold fB_L_law_90 at h
  refine lv_aload_n hx hb dL_law_90 rfl (lv_at hl 0 rfl) ?_
  refine lv_iload hx hb dL_law_91 (lv_at hl 5 rfl) ?_
  refine lv_iconst (v := 1) hx hb dL_law_93 (by decide) ?_
  obtain ⟨g1, h⟩ := vg_if h
  obtain ⟨q2, g3, h⟩ := vg_bind h
  have hFc := vm_free hD hS hA
  refine va_calli (va_runV (As := [.int i6, .int 1]) (rest := []) ⟨hx, hb, hml, hown, hts⟩ (cm_X3_would (m0 := m1) l D tc adL hO n_r1 g3) (cwV 2 hts gL_law_X3_would rfl rfl rfl (by decide +kernel) ⟨(Nat.le_of_ble_eq_true rfl), (Nat.le_of_ble_eq_true rfl)⟩) ⟨qW_blind, va_recv hK hP (ci := 3) (q0 := r1) rfl (vW_k3 n_r1 g1), qW_pre hP hD hK hZ⟩ rfl rfl hl.1 rfl (lv_room (Nat.le_of_ble_eq_true rfl)) dL_law_94 ⟨vRc hc, vRs hs⟩) hS (fun q9 _ h9 => hFc q9 h9) hFc (fun w4 u t H1 locs ht hvm hw hB hz1 hk1 hS => ?_)
  obtain ⟨hO5, hP1, hK1, hD1⟩ := hB
  rw [ht] at hP1
  have hP := hP1
  have hD := hD1.weaken (fun _ q9 _ h9 => hFc q9.1 h9)
  generalize H1 = H at hP hS ⊢
  have hP : va_P D vwCl (vW tc adL NL q2.2) H := hP
  have hD : va_D A (vW tc adL NL q2.2) := hD
  clear hk1 hz1 ht hvm
  have hw : w4 = q2.1 := hw
  rw [hw]
  refine lv_istore (lv' := [(8, .int q2.1), (1, .ref (adL r1)), (2, .ref (adL r2)), (3, .int i3), (4, .int i4), (5, .int i5), (6, .int i6), (7, .int i7), (0, .ref b)]) hx hb dL_law_97 hl (by decide) rfl (fun ls hl => ?_)
  refine lv_aload_n hx hb dL_law_99 rfl (lv_at hl 1 rfl) ?_
  refine lv_aload_n hx hb dL_law_100 rfl (lv_at hl 2 rfl) ?_
  refine lv_iload hx hb dL_law_101 (lv_at hl 5 rfl) ?_
  obtain ⟨q6, g7, h⟩ := vg_bind h
  obtain ⟨g8, h⟩ := vg_if h
  obtain ⟨g9, h⟩ := vg_if h
  have hFc := vm_free hD hS hA
  refine va_calli (va_runS (As := [.ref (adL r1), .ref (adL r2), .int i5]) (rest := []) ⟨hx, hb, hml, hown, hts⟩ (cm_L_act (m0 := q2.2) l D tc adL hO5 n_r1 n_r2 g7) (va_cwS 3 hts gL_law_L_act rfl rfl rfl (by decide +kernel) ⟨(Nat.le_of_ble_eq_true rfl), (Nat.le_of_ble_eq_true rfl)⟩) ⟨qW_blind, qW_pre hP hD hK hZ⟩ rfl rfl hl.1 rfl (lv_room (Nat.le_of_ble_eq_true rfl)) dL_law_103 ⟨(vRc g8), (vRs g9)⟩) hS (fun q9 _ h9 => hFc q9 h9) hFc (fun w10 u t H1 locs ht hvm hw hB hz1 hk1 hS => ?_)
  obtain ⟨ad11, e12, e13, hO14, hP1, hK1, hD1⟩ := hB
  rw [ht] at hP1
  have hP := hP1
  have hD := hD1.weaken (fun _ q9 _ h9 => hFc q9.1 h9)
  generalize H1 = H at hP hS ⊢
  clear hk1 hz1 ht hvm
  have hl : lv_has ls 27 [(8, .int q2.1), (1, .ref (ad11 r1)), (2, .ref (ad11 r2)), (3, .int i3), (4, .int i4), (5, .int i5), (6, .int i6), (7, .int i7), (0, .ref b)] := by rw [e12 r1 n_r1, e12 r2 n_r2]; exact hl
  have e15 : ∀ k, k < N → ad11 k = ad k := fun k hk => (e12 k (Nat.lt_of_lt_of_le hk hNN)).trans (hE k hk)
  have e16 : N ≤ q6.2.1 := Nat.le_trans hNN e13
  have n17 : r1 < q6.2.1 := Nat.lt_of_lt_of_le n_r1 e13
  have n18 : r2 < q6.2.1 := Nat.lt_of_lt_of_le n_r2 e13
  have hw : w10 = q6.1 := hw
  rw [hw]
  have hP : va_P D vwCl (vW tc ad11 q6.2.1 q6.2.2) H := hP
  have hD : va_D A (vW tc ad11 q6.2.1 q6.2.2) := hD
  refine lv_if_ne (tgt := 111) hx hb dL_law_106 (by decide) (fun c19 => ?_) (fun c19 => ?_)
  · rw [if_neg c19] at h
    refine lv_iload_n hx hb dL_law_111 rfl (lv_at hl 3 rfl) ?_
    refine lv_bipush (v := 9) hx hb dL_law_112 (by decide) ?_
    obtain ⟨g20, h⟩ := vg_if h
    obtain ⟨g21, h⟩ := vg_if h
    obtain ⟨g22, h⟩ := vg_if h
    obtain ⟨g23, h⟩ := vg_if h
    refine wm_mna (n := i3) (n' := i3.toNatClampNeg) hx hb hown (hts (.classLink RL 84 "[[I") (List.mem_append_left _ (List.mem_append_left _ (List.mem_append_left _ (List.mem_of_getElem? (i := 4) rfl))))) hZ.2.1 (hts (.arrayClass .int) (List.mem_append_left _ (List.mem_append_left _ (List.mem_append_left _ (List.mem_of_getElem? (i := 5) rfl))))) hO14 hK hP hD hS hA g20 rfl g21 (vRc g22) (vRs g23) dL_law_114 (fun ad24 H e25 hP hD hS => ?_)
    have hl : lv_has ls 27 [(8, .int q2.1), (1, .ref (ad24 r1)), (2, .ref (ad24 r2)), (3, .int i3), (4, .int i4), (5, .int i5), (6, .int i6), (7, .int i7), (0, .ref b)] := by rw [e25 r1 n17, e25 r2 n18]; exact hl
    have e26 : ∀ k, k < N → ad24 k = ad k := fun k hk => (e25 k (Nat.lt_of_lt_of_le hk e16)).trans (e15 k hk)
    have e27 : N ≤ (q6.2.1 + (1 + i3.toNatClampNeg)) := Nat.le_trans e16 (Nat.le_add_right _ _)
    have hO28 := vOK.Q (n := i3.toNatClampNeg) hO14
    have n29 : r1 < (q6.2.1 + (1 + i3.toNatClampNeg)) := Nat.lt_of_lt_of_le n17 (Nat.le_add_right _ _)
    have n30 : r2 < (q6.2.1 + (1 + i3.toNatClampNeg)) := Nat.lt_of_lt_of_le n18 (Nat.le_add_right _ _)
    have n31 : q6.2.1 < (q6.2.1 + (1 + i3.toNatClampNeg)) := by omega
    have hP : va_P D vwCl (vW tc ad24 ((q6.2.1 + (1 + i3.toNatClampNeg))) ((mQ q6.2.2 q6.2.1 i3.toNatClampNeg))) H := hP
    have hD : va_D A (vW tc ad24 ((q6.2.1 + (1 + i3.toNatClampNeg))) ((mQ q6.2.2 q6.2.1 i3.toNatClampNeg))) := hD
    refine lv_astore (lv' := [(9, .ref (ad24 q6.2.1)), (8, .int q2.1), (1, .ref (ad24 r1)), (2, .ref (ad24 r2)), (3, .int i3), (4, .int i4), (5, .int i5), (6, .int i6), (7, .int i7), (0, .ref b)]) hx hb dL_law_118 hl (by decide) rfl (fun ls hl => ?_)
    refine lv_iconst (v := 0) hx hb dL_law_120 (by decide) ?_
    refine lv_istore (lv' := [(10, .int 0), (9, .ref (ad24 q6.2.1)), (8, .int q2.1), (1, .ref (ad24 r1)), (2, .ref (ad24 r2)), (3, .int i3), (4, .int i4), (5, .int i5), (6, .int i6), (7, .int i7), (0, .ref b)]) hx hb dL_law_121 hl (by decide) rfl (fun ls hl => ?_)
    exact (ih.2.2.1) ((q6.2.1 + (1 + i3.toNatClampNeg))) ad24 ((mQ q6.2.2 q6.2.1 i3.toNatClampNeg)) (((kc + 9) + (1 + i3.toNatClampNeg))) (((ks + 284) + (i3.toNatClampNeg + i3.toNatClampNeg * 9))) r1 r2 i3 i4 i5 i6 i7 q2.1 q6.2.1 (0 : Int32) _ _ _ e27 e26 g22 g23 hO28 n29 n30 n31 h hP hD hS (lv_sub hl (l' := [(1, .ref (ad24 r1)), (2, .ref (ad24 r2)), (3, .int i3), (4, .int i4), (5, .int i5), (6, .int i6), (7, .int i7), (8, .int q2.1), (9, .ref (ad24 q6.2.1)), (10, .int 0), (0, .ref b)]) [3, 4, 5, 6, 7, 8, 9, 2, 1, 0, 10] rfl)
  · rw [if_pos c19] at h
    refine lv_iconst (v := 0) hx hb dL_law_109 (by decide) ?_
    have hz := Option.some.inj h
    rw [← hz] at hz1
    exact absurd (show (0 : Int32) = 1 from hz1) (by decide)
set_option maxHeartbeats 1000000 in
set_option maxRecDepth 100000 in
theorem law_b123 {p : Program} {l : Launch} {e : Env} {s : State} {m : MethodId} {below : List Frame} {meth : Method} {c : Code} {D : va_G} {tc : Nat → ClassId} {ad : Nat → Nat} {N b L : Nat} {xs : Nat → Int32} {A : Nat → Prop} {Qf : State → Prop} {z : Int32 × Nat × vM} (hx : p.tables.exec = Jvm.exec) (hb : c.code = code) (hml : c.maxLocals = 27) (hown : s.vm.findClass RL = some m.cls) (hts : ∀ w ∈ wsL_law, w.before #[Value.ref b] s = true) (hX : va_X b L xs s s.heap) (hbl : b < s.heap.size) (hbA : ¬ A b) (hA : ∀ q : Nat, s.heap.size ≤ q → A q) (hK : va_K D vwCl (vT tc) s) (hZ : vZ tc s) (hend : ∀ (H : Heap) (locs : List Loc) (ls : Array Slot), va_S A s.heap H locs → W p l e room_1 s m #[Value.ref b] below meth c H locs room_1.cells room_1.slots Qf (F0 m 1061 ls [.int 1])) (hz1 : z.1 = 1) {n : Nat} (ih : lC_29 p l e s m below meth c D tc ad N b L xs A Qf z n ∧ lC_90 p l e s m below meth c D tc ad N b L xs A Qf z n ∧ lC_123 p l e s m below meth c D tc ad N b L xs A Qf z n ∧ lC_132 p l e s m below meth c D tc ad N b L xs A Qf z n ∧ lC_272 p l e s m below meth c D tc ad N b L xs A Qf z n ∧ lC_286 p l e s m below meth c D tc ad N b L xs A Qf z n ∧ lC_392 p l e s m below meth c D tc ad N b L xs A Qf z n ∧ lC_402 p l e s m below meth c D tc ad N b L xs A Qf z n ∧ lC_411 p l e s m below meth c D tc ad N b L xs A Qf z n ∧ lC_430 p l e s m below meth c D tc ad N b L xs A Qf z n ∧ lC_448 p l e s m below meth c D tc ad N b L xs A Qf z n ∧ lC_473 p l e s m below meth c D tc ad N b L xs A Qf z n ∧ lC_513 p l e s m below meth c D tc ad N b L xs A Qf z n ∧ lC_561 p l e s m below meth c D tc ad N b L xs A Qf z n ∧ lC_583 p l e s m below meth c D tc ad N b L xs A Qf z n ∧ lC_608 p l e s m below meth c D tc ad N b L xs A Qf z n ∧ lC_696 p l e s m below meth c D tc ad N b L xs A Qf z n ∧ lC_702 p l e s m below meth c D tc ad N b L xs A Qf z n ∧ lC_749 p l e s m below meth c D tc ad N b L xs A Qf z n ∧ lC_847 p l e s m below meth c D tc ad N b L xs A Qf z n ∧ lC_850 p l e s m below meth c D tc ad N b L xs A Qf z n ∧ lC_883 p l e s m below meth c D tc ad N b L xs A Qf z n ∧ lC_929 p l e s m below meth c D tc ad N b L xs A Qf z n ∧ lC_943 p l e s m below meth c D tc ad N b L xs A Qf z n ∧ lC_957 p l e s m below meth c D tc ad N b L xs A Qf z n ∧ lC_963 p l e s m below meth c D tc ad N b L xs A Qf z n ∧ lC_1031 p l e s m below meth c D tc ad N b L xs A Qf z n) : lC_123 p l e s m below meth c D tc ad N b L xs A Qf z (n + 1) := by
  intro NL adL m1 kc ks r1 r2 i3 i4 i5 i6 i7 i8 r9 i10 H locs ls hNN hE hc hs hO n_r1 n_r2 n_r9 h hP hD hS hl
  have h : fB_L_law_123 L xs (fL_L_law L xs n) NL m1 kc ks r1 r2 i3 i4 i5 i6 i7 i8 r9 i10 0 0 0 0 0 0 0 0 0 0 0 0 0 0 0 0 = some z := fE_L_law_123.symm.trans h
  unfold fB_L_law_123 at h
  refine lv_iload hx hb dL_law_123 (lv_at hl 9 rfl) ?_
  refine lv_iload_n hx hb dL_law_125 rfl (lv_at hl 2 rfl) ?_
  refine lv_icmp_ge (tgt := 167) hx hb dL_law_126 (by decide) (fun c1 => ?_) (fun c1 => ?_)
  · rw [if_pos c1] at h
    refine lv_aload_n hx hb dL_law_167 rfl (lv_at hl 0 rfl) ?_
    refine lv_bipush (v := 7) hx hb dL_law_168 (by decide) ?_
    obtain ⟨g2, h⟩ := vg_if h
    obtain ⟨q3, g4, h⟩ := vg_bind h
    refine va_calli (va_runV (As := [.int 7]) (rest := []) ⟨hx, hb, hml, hown, hts⟩ (cm_X3_count (m0 := m1) l D tc adL hO n_r1 g4) (cwV 1 hts gL_law_X3_count rfl rfl rfl (by decide +kernel) ⟨(Nat.le_of_ble_eq_true rfl), (Nat.le_of_ble_eq_true rfl)⟩) ⟨qR_blind, va_recv hK hP (ci := 3) (q0 := r1) rfl (vW_k3 n_r1 g2), qR_pre hP hK hZ⟩ rfl rfl hl.1 rfl (lv_room (Nat.le_of_ble_eq_true rfl)) dL_law_170 ⟨vRc hc, vRs hs⟩) hS (fun q9 _ h9 => h9.elim) (fun q9 h9 => h9.elim) (fun w5 u t H1 locs ht hvm hw hB hz1 hk1 hS => ?_)
    have hP := hP.kept (fun k9 q9 hk9 => hk1 q9.1 (hP k9 q9 hk9).lt (fun h9 => h9))
    generalize H1 = H at hP hS ⊢
    clear hk1 hz1 ht hvm
    have hw : w5 = q3 := hw
    rw [hw]
    refine lv_istore (lv' := [(10, .int q3), (1, .ref (adL r1)), (2, .ref (adL r2)), (3, .int i3), (4, .int i4), (5, .int i5), (6, .int i6), (7, .int i7), (8, .int i8), (9, .ref (adL r9)), (0, .ref b)]) hx hb dL_law_173 hl (by decide) rfl (fun ls hl => ?_)
    refine lv_aload_n hx hb dL_law_175 rfl (lv_at hl 1 rfl) ?_
    refine lv_iload hx hb dL_law_176 (lv_at hl 6 rfl) ?_
    obtain ⟨q6, g7, h⟩ := vg_bind h
    have hFc := vm_free hD hS hA
    refine va_calli (va_runV (As := [.int i6]) (rest := []) ⟨hx, hb, hml, hown, hts⟩ (cm_X3_opens (m0 := m1) l D tc adL hO n_r1 g7) (cwV 1 hts gL_law_X3_opens rfl rfl rfl (by decide +kernel) ⟨(Nat.le_of_ble_eq_true rfl), (Nat.le_of_ble_eq_true rfl)⟩) ⟨qW_blind, va_recv hK hP (ci := 3) (q0 := r1) rfl (vW_k3 n_r1 g2), qW_pre hP hD hK hZ⟩ rfl rfl hl.1 rfl (lv_room (Nat.le_of_ble_eq_true rfl)) dL_law_178 ⟨vRc hc, vRs hs⟩) hS (fun q9 _ h9 => hFc q9 h9) hFc (fun w8 u t H1 locs ht hvm hw hB hz1 hk1 hS => ?_)
    obtain ⟨hO9, hP1, hK1, hD1⟩ := hB
    rw [ht] at hP1
    have hP := hP1
    have hD := hD1.weaken (fun _ q9 _ h9 => hFc q9.1 h9)
    generalize H1 = H at hP hS ⊢
    have hP : va_P D vwCl (vW tc adL NL q6.2) H := hP
    have hD : va_D A (vW tc adL NL q6.2) := hD
    clear hk1 hz1 ht hvm
    have hw : w8 = q6.1 := hw
    rw [hw]
    refine lv_istore (lv' := [(11, .int q6.1), (10, .int q3), (1, .ref (adL r1)), (2, .ref (adL r2)), (3, .int i3), (4, .int i4), (5, .int i5), (6, .int i6), (7, .int i7), (8, .int i8), (9, .ref (adL r9)), (0, .ref b)]) hx hb dL_law_181 hl (by decide) rfl (fun ls hl => ?_)
    refine lv_aload_n hx hb dL_law_183 rfl (lv_at hl 2 rfl) ?_
    refine lv_iconst (v := 1) hx hb dL_law_184 (by decide) ?_
    obtain ⟨g10, h⟩ := vg_if h
    obtain ⟨q11, g12, h⟩ := vg_bind h
    have hFc := vm_free hD hS hA
    refine va_calli (va_runV (As := [.int 1]) (rest := []) ⟨hx, hb, hml, hown, hts⟩ (cm_X3_pass (m0 := q6.2) l D tc adL hO9 n_r1 g12) (cwV 1 hts gL_law_X3_pass rfl rfl rfl (by decide +kernel) ⟨(Nat.le_of_ble_eq_true rfl), (Nat.le_of_ble_eq_true rfl)⟩) ⟨qW_blind, va_recv hK hP (ci := 3) (q0 := r1) rfl (vW_k3 n_r1 g10), qW_pre hP hD hK hZ⟩ rfl rfl hl.1 rfl (lv_room (Nat.le_of_ble_eq_true rfl)) dL_law_185 ⟨vRc hc, vRs hs⟩) hS (fun q9 _ h9 => hFc q9 h9) hFc (fun w13 u t H1 locs ht hvm hw hB hz1 hk1 hS => ?_)
    obtain ⟨hO14, hP1, hK1, hD1⟩ := hB
    rw [ht] at hP1
    have hP := hP1
    have hD := hD1.weaken (fun _ q9 _ h9 => hFc q9.1 h9)
    generalize H1 = H at hP hS ⊢
    have hP : va_P D vwCl (vW tc adL NL q11.2) H := hP
    have hD : va_D A (vW tc adL NL q11.2) := hD
    clear hk1 hz1 ht hvm
    have hw : w13 = q11.1 := hw
    rw [hw]
    refine lv_istore (lv' := [(12, .int q11.1), (11, .int q6.1), (10, .int q3), (1, .ref (adL r1)), (2, .ref (adL r2)), (3, .int i3), (4, .int i4), (5, .int i5), (6, .int i6), (7, .int i7), (8, .int i8), (9, .ref (adL r9)), (0, .ref b)]) hx hb dL_law_188 hl (by decide) rfl (fun ls hl => ?_)
    refine lv_aload_n hx hb dL_law_190 rfl (lv_at hl 4 rfl) ?_
    obtain ⟨g15, h⟩ := vg_if h
    obtain ⟨q16, g17, h⟩ := vg_bind h
    obtain ⟨g18, h⟩ := vg_if h
    obtain ⟨g19, h⟩ := vg_if h
    have hFc := vm_free hD hS hA
    refine va_calli (va_runV (As := []) (rest := []) ⟨hx, hb, hml, hown, hts⟩ (cm_X5_pass (m0 := q11.2) l D tc adL hO14 n_r2 g17) (cwV 0 hts gL_law_X5_pass rfl rfl rfl (by decide +kernel) ⟨(Nat.le_of_ble_eq_true rfl), (Nat.le_of_ble_eq_true rfl)⟩) ⟨qW_blind, va_recv hK hP (ci := 5) (q0 := r2) rfl (vW_k5 n_r2 g15), qW_pre hP hD hK hZ⟩ rfl rfl hl.1 rfl (lv_room (Nat.le_of_ble_eq_true rfl)) dL_law_191 ⟨(vRc g18), (vRs g19)⟩) hS (fun q9 _ h9 => hFc q9 h9) hFc (fun w20 u t H1 locs ht hvm hw hB hz1 hk1 hS => ?_)
    obtain ⟨ad21, e22, e23, hO24, hP1, hK1, hD1⟩ := hB
    rw [ht] at hP1
    have hP := hP1
    have hD := hD1.weaken (fun _ q9 _ h9 => hFc q9.1 h9)
    generalize H1 = H at hP hS ⊢
    clear hk1 hz1 ht hvm
    have hl : lv_has ls 27 [(12, .int q11.1), (11, .int q6.1), (10, .int q3), (1, .ref (ad21 r1)), (2, .ref (ad21 r2)), (3, .int i3), (4, .int i4), (5, .int i5), (6, .int i6), (7, .int i7), (8, .int i8), (9, .ref (ad21 r9)), (0, .ref b)] := by rw [e22 r1 n_r1, e22 r2 n_r2, e22 r9 n_r9]; exact hl
    have e25 : ∀ k, k < N → ad21 k = ad k := fun k hk => (e22 k (Nat.lt_of_lt_of_le hk hNN)).trans (hE k hk)
    have e26 : N ≤ q16.2.1 := Nat.le_trans hNN e23
    have n27 : r1 < q16.2.1 := Nat.lt_of_lt_of_le n_r1 e23
    have n28 : r2 < q16.2.1 := Nat.lt_of_lt_of_le n_r2 e23
    have n29 : r9 < q16.2.1 := Nat.lt_of_lt_of_le n_r9 e23
    have hw : w20 = q16.1 := hw
    rw [hw]
    have hP : va_P D vwCl (vW tc ad21 q16.2.1 q16.2.2) H := hP
    have hD : va_D A (vW tc ad21 q16.2.1 q16.2.2) := hD
    refine lv_pop hx hb dL_law_194 rfl ?_
    refine lv_iload hx hb dL_law_195 (lv_at hl 9 rfl) ?_
    refine lv_if_eq (tgt := 211) hx hb dL_law_197 (by decide) (fun c30 => ?_) (fun c30 => ?_)
    · rw [if_pos c30] at h
      refine lv_iload hx hb dL_law_211 (lv_at hl 1 rfl) ?_
      refine lv_iconst (v := 1) hx hb dL_law_213 (by decide) ?_
      refine lv_icmp_le (tgt := 230) hx hb dL_law_214 (by decide) (fun c31 => ?_) (fun c31 => ?_)
      · rw [if_pos c31] at h
        refine lv_iload hx hb dL_law_230 (lv_at hl 1 rfl) ?_
        refine lv_iconst (v := 1) hx hb dL_law_232 (by decide) ?_
        refine lv_icmp_ne (tgt := 247) hx hb dL_law_233 (by decide) (fun c32 => ?_) (fun c32 => ?_)
        · rw [if_neg c32] at h
          refine lv_aload_n hx hb dL_law_247 rfl (lv_at hl 3 rfl) ?_
          refine lv_bipush (v := 7) hx hb dL_law_248 (by decide) ?_
          obtain ⟨g33, h⟩ := vg_if h
          obtain ⟨q34, g35, h⟩ := vg_bind h
          refine va_calli (va_runV (As := [.int 7]) (rest := []) ⟨hx, hb, hml, hown, hts⟩ (cm_X3_count (m0 := q16.2.2) l D tc ad21 hO24 n27 g35) (cwV 1 hts gL_law_X3_count rfl rfl rfl (by decide +kernel) ⟨(Nat.le_of_ble_eq_true rfl), (Nat.le_of_ble_eq_true rfl)⟩) ⟨qR_blind, va_recv hK hP (ci := 3) (q0 := r1) rfl (vW_k3 n27 g33), qR_pre hP hK hZ⟩ rfl rfl hl.1 rfl (lv_room (Nat.le_of_ble_eq_true rfl)) dL_law_250 ⟨vRc g18, vRs g19⟩) hS (fun q9 _ h9 => h9.elim) (fun q9 h9 => h9.elim) (fun w36 u t H1 locs ht hvm hw hB hz1 hk1 hS => ?_)
          have hP := hP.kept (fun k9 q9 hk9 => hk1 q9.1 (hP k9 q9 hk9).lt (fun h9 => h9))
          generalize H1 = H at hP hS ⊢
          clear hk1 hz1 ht hvm
          have hw : w36 = q34 := hw
          rw [hw]
          refine lv_iload hx hb dL_law_253 (lv_at hl 2 rfl) ?_
          refine lv_icmp_lt (tgt := 270) hx hb dL_law_255 (by decide) (fun c37 => ?_) (fun c37 => ?_)
          · rw [if_pos c37] at h
            refine lv_iconst (v := 0) hx hb dL_law_270 (by decide) ?_
            have hz := Option.some.inj h
            rw [← hz] at hz1
            exact absurd (show (0 : Int32) = 1 from hz1) (by decide)
          · rw [if_neg c37] at h
            refine lv_aload_n hx hb dL_law_258 rfl (lv_at hl 3 rfl) ?_
            refine lv_iconst (v := 0) hx hb dL_law_259 (by decide) ?_
            obtain ⟨q38, g39, h⟩ := vg_bind h
            refine va_calli (va_runV (As := [.int 0]) (rest := []) ⟨hx, hb, hml, hown, hts⟩ (cm_X3_count (m0 := q16.2.2) l D tc ad21 hO24 n27 g39) (cwV 1 hts gL_law_X3_count rfl rfl rfl (by decide +kernel) ⟨(Nat.le_of_ble_eq_true rfl), (Nat.le_of_ble_eq_true rfl)⟩) ⟨qR_blind, va_recv hK hP (ci := 3) (q0 := r1) rfl (vW_k3 n27 g33), qR_pre hP hK hZ⟩ rfl rfl hl.1 rfl (lv_room (Nat.le_of_ble_eq_true rfl)) dL_law_260 ⟨vRc g18, vRs g19⟩) hS (fun q9 _ h9 => h9.elim) (fun q9 h9 => h9.elim) (fun w40 u t H1 locs ht hvm hw hB hz1 hk1 hS => ?_)
            have hP := hP.kept (fun k9 q9 hk9 => hk1 q9.1 (hP k9 q9 hk9).lt (fun h9 => h9))
            generalize H1 = H at hP hS ⊢
            clear hk1 hz1 ht hvm
            have hw : w40 = q38 := hw
            rw [hw]
            refine lv_iload hx hb dL_law_263 (lv_at hl 6 rfl) ?_
            refine lv_iconst (v := 1) hx hb dL_law_265 (by decide) ?_
            refine lv_iadd hx hb dL_law_266 ?_
            refine lv_icmp_eq (tgt := 272) hx hb dL_law_267 (by decide) (fun c41 => ?_) (fun c41 => ?_)
            · rw [if_pos c41] at h
              exact (ih.2.2.2.2.1) q16.2.1 ad21 q16.2.2 ((kc + 2000)) ((ks + 70000)) r1 r2 i3 i4 i5 i6 i7 i8 r9 q3 q6.1 q11.1 _ _ _ e26 e25 g18 g19 hO24 n27 n28 n29 h hP hD hS (lv_sub hl (l' := [(1, .ref (ad21 r1)), (2, .ref (ad21 r2)), (3, .int i3), (4, .int i4), (5, .int i5), (6, .int i6), (7, .int i7), (8, .int i8), (9, .ref (ad21 r9)), (10, .int q3), (11, .int q6.1), (12, .int q11.1), (0, .ref b)]) [3, 4, 5, 6, 7, 8, 9, 10, 11, 2, 1, 0, 12] rfl)
            · rw [if_neg c41] at h
              refine lv_iconst (v := 0) hx hb dL_law_270 (by decide) ?_
              have hz := Option.some.inj h
              rw [← hz] at hz1
              exact absurd (show (0 : Int32) = 1 from hz1) (by decide)
        · rw [if_pos c32] at h
          refine lv_aload_n hx hb dL_law_236 rfl (lv_at hl 3 rfl) ?_
          refine lv_iload hx hb dL_law_237 (lv_at hl 8 rfl) ?_
          refine lv_iconst (v := 0) hx hb dL_law_239 (by decide) ?_
          obtain ⟨g42, h⟩ := vg_if h
          obtain ⟨q43, g44, h⟩ := vg_bind h
          refine va_calli (va_runV (As := [.int i6, .int 0]) (rest := []) ⟨hx, hb, hml, hown, hts⟩ (cm_X3_door (m0 := q16.2.2) l D tc ad21 hO24 n27 g44) (cwV 2 hts gL_law_X3_door rfl rfl rfl (by decide +kernel) ⟨(Nat.le_of_ble_eq_true rfl), (Nat.le_of_ble_eq_true rfl)⟩) ⟨qR_blind, va_recv hK hP (ci := 3) (q0 := r1) rfl (vW_k3 n27 g42), qR_pre hP hK hZ⟩ rfl rfl hl.1 rfl (lv_room (Nat.le_of_ble_eq_true rfl)) dL_law_240 ⟨vRc g18, vRs g19⟩) hS (fun q9 _ h9 => h9.elim) (fun q9 h9 => h9.elim) (fun w45 u t H1 locs ht hvm hw hB hz1 hk1 hS => ?_)
          have hP := hP.kept (fun k9 q9 hk9 => hk1 q9.1 (hP k9 q9 hk9).lt (fun h9 => h9))
          generalize H1 = H at hP hS ⊢
          clear hk1 hz1 ht hvm
          have hw : w45 = q43 := hw
          rw [hw]
          refine lv_iconst (v := 2) hx hb dL_law_243 (by decide) ?_
          refine lv_icmp_ne (tgt := 270) hx hb dL_law_244 (by decide) (fun c46 => ?_) (fun c46 => ?_)
          · rw [if_neg c46] at h
            refine lv_iconst (v := 0) hx hb dL_law_270 (by decide) ?_
            have hz := Option.some.inj h
            rw [← hz] at hz1
            exact absurd (show (0 : Int32) = 1 from hz1) (by decide)
          · rw [if_pos c46] at h
            refine lv_aload_n hx hb dL_law_247 rfl (lv_at hl 3 rfl) ?_
            refine lv_bipush (v := 7) hx hb dL_law_248 (by decide) ?_
            obtain ⟨q47, g48, h⟩ := vg_bind h
            refine va_calli (va_runV (As := [.int 7]) (rest := []) ⟨hx, hb, hml, hown, hts⟩ (cm_X3_count (m0 := q16.2.2) l D tc ad21 hO24 n27 g48) (cwV 1 hts gL_law_X3_count rfl rfl rfl (by decide +kernel) ⟨(Nat.le_of_ble_eq_true rfl), (Nat.le_of_ble_eq_true rfl)⟩) ⟨qR_blind, va_recv hK hP (ci := 3) (q0 := r1) rfl (vW_k3 n27 g42), qR_pre hP hK hZ⟩ rfl rfl hl.1 rfl (lv_room (Nat.le_of_ble_eq_true rfl)) dL_law_250 ⟨vRc g18, vRs g19⟩) hS (fun q9 _ h9 => h9.elim) (fun q9 h9 => h9.elim) (fun w49 u t H1 locs ht hvm hw hB hz1 hk1 hS => ?_)
            have hP := hP.kept (fun k9 q9 hk9 => hk1 q9.1 (hP k9 q9 hk9).lt (fun h9 => h9))
            generalize H1 = H at hP hS ⊢
            clear hk1 hz1 ht hvm
            have hw : w49 = q47 := hw
            rw [hw]
            refine lv_iload hx hb dL_law_253 (lv_at hl 2 rfl) ?_
            refine lv_icmp_lt (tgt := 270) hx hb dL_law_255 (by decide) (fun c50 => ?_) (fun c50 => ?_)
            · rw [if_pos c50] at h
              refine lv_iconst (v := 0) hx hb dL_law_270 (by decide) ?_
              have hz := Option.some.inj h
              rw [← hz] at hz1
              exact absurd (show (0 : Int32) = 1 from hz1) (by decide)
            · rw [if_neg c50] at h
              refine lv_aload_n hx hb dL_law_258 rfl (lv_at hl 3 rfl) ?_
              refine lv_iconst (v := 0) hx hb dL_law_259 (by decide) ?_
              obtain ⟨q51, g52, h⟩ := vg_bind h
              refine va_calli (va_runV (As := [.int 0]) (rest := []) ⟨hx, hb, hml, hown, hts⟩ (cm_X3_count (m0 := q16.2.2) l D tc ad21 hO24 n27 g52) (cwV 1 hts gL_law_X3_count rfl rfl rfl (by decide +kernel) ⟨(Nat.le_of_ble_eq_true rfl), (Nat.le_of_ble_eq_true rfl)⟩) ⟨qR_blind, va_recv hK hP (ci := 3) (q0 := r1) rfl (vW_k3 n27 g42), qR_pre hP hK hZ⟩ rfl rfl hl.1 rfl (lv_room (Nat.le_of_ble_eq_true rfl)) dL_law_260 ⟨vRc g18, vRs g19⟩) hS (fun q9 _ h9 => h9.elim) (fun q9 h9 => h9.elim) (fun w53 u t H1 locs ht hvm hw hB hz1 hk1 hS => ?_)
              have hP := hP.kept (fun k9 q9 hk9 => hk1 q9.1 (hP k9 q9 hk9).lt (fun h9 => h9))
              generalize H1 = H at hP hS ⊢
              clear hk1 hz1 ht hvm
              have hw : w53 = q51 := hw
              rw [hw]
              refine lv_iload hx hb dL_law_263 (lv_at hl 6 rfl) ?_
              refine lv_iconst (v := 1) hx hb dL_law_265 (by decide) ?_
              refine lv_iadd hx hb dL_law_266 ?_
              refine lv_icmp_eq (tgt := 272) hx hb dL_law_267 (by decide) (fun c54 => ?_) (fun c54 => ?_)
              · rw [if_pos c54] at h
                exact (ih.2.2.2.2.1) q16.2.1 ad21 q16.2.2 ((kc + 2000)) ((ks + 70000)) r1 r2 i3 i4 i5 i6 i7 i8 r9 q3 q6.1 q11.1 _ _ _ e26 e25 g18 g19 hO24 n27 n28 n29 h hP hD hS (lv_sub hl (l' := [(1, .ref (ad21 r1)), (2, .ref (ad21 r2)), (3, .int i3), (4, .int i4), (5, .int i5), (6, .int i6), (7, .int i7), (8, .int i8), (9, .ref (ad21 r9)), (10, .int q3), (11, .int q6.1), (12, .int q11.1), (0, .ref b)]) [3, 4, 5, 6, 7, 8, 9, 10, 11, 2, 1, 0, 12] rfl)
              · rw [if_neg c54] at h
                refine lv_iconst (v := 0) hx hb dL_law_270 (by decide) ?_
                have hz := Option.some.inj h
                rw [← hz] at hz1
                exact absurd (show (0 : Int32) = 1 from hz1) (by decide)
      · rw [if_neg c31] at h
        refine lv_aload_n hx hb dL_law_217 rfl (lv_at hl 3 rfl) ?_
        refine lv_iload hx hb dL_law_218 (lv_at hl 8 rfl) ?_
        obtain ⟨g55, h⟩ := vg_if h
        obtain ⟨q56, g57, h⟩ := vg_bind h
        have hFc := vm_free hD hS hA
        refine va_calli (va_runV (As := [.int i6]) (rest := []) ⟨hx, hb, hml, hown, hts⟩ (cm_X3_opens (m0 := q16.2.2) l D tc ad21 hO24 n27 g57) (cwV 1 hts gL_law_X3_opens rfl rfl rfl (by decide +kernel) ⟨(Nat.le_of_ble_eq_true rfl), (Nat.le_of_ble_eq_true rfl)⟩) ⟨qW_blind, va_recv hK hP (ci := 3) (q0 := r1) rfl (vW_k3 n27 g55), qW_pre hP hD hK hZ⟩ rfl rfl hl.1 rfl (lv_room (Nat.le_of_ble_eq_true rfl)) dL_law_220 ⟨vRc g18, vRs g19⟩) hS (fun q9 _ h9 => hFc q9 h9) hFc (fun w58 u t H1 locs ht hvm hw hB hz1 hk1 hS => ?_)
        obtain ⟨hO59, hP1, hK1, hD1⟩ := hB
        rw [ht] at hP1
        have hP := hP1
        have hD := hD1.weaken (fun _ q9 _ h9 => hFc q9.1 h9)
        generalize H1 = H at hP hS ⊢
        have hP : va_P D vwCl (vW tc ad21 q16.2.1 q56.2) H := hP
        have hD : va_D A (vW tc ad21 q16.2.1 q56.2) := hD
        clear hk1 hz1 ht hvm
        have hw : w58 = q56.1 := hw
        rw [hw]
        refine lv_iload hx hb dL_law_223 (lv_at hl 1 rfl) ?_
        refine lv_iconst (v := 1) hx hb dL_law_225 (by decide) ?_
        refine lv_isub hx hb dL_law_226 ?_
        refine lv_icmp_ne (tgt := 270) hx hb dL_law_227 (by decide) (fun c60 => ?_) (fun c60 => ?_)
        · rw [if_neg c60] at h
          refine lv_iconst (v := 0) hx hb dL_law_270 (by decide) ?_
          have hz := Option.some.inj h
          rw [← hz] at hz1
          exact absurd (show (0 : Int32) = 1 from hz1) (by decide)
        · rw [if_pos c60] at h
          refine lv_iload hx hb dL_law_230 (lv_at hl 1 rfl) ?_
          refine lv_iconst (v := 1) hx hb dL_law_232 (by decide) ?_
          refine lv_icmp_ne (tgt := 247) hx hb dL_law_233 (by decide) (fun c61 => ?_) (fun c61 => ?_)
          · rw [if_neg c61] at h
            refine lv_aload_n hx hb dL_law_247 rfl (lv_at hl 3 rfl) ?_
            refine lv_bipush (v := 7) hx hb dL_law_248 (by decide) ?_
            obtain ⟨g62, h⟩ := vg_if h
            obtain ⟨q63, g64, h⟩ := vg_bind h
            refine va_calli (va_runV (As := [.int 7]) (rest := []) ⟨hx, hb, hml, hown, hts⟩ (cm_X3_count (m0 := q56.2) l D tc ad21 hO59 n27 g64) (cwV 1 hts gL_law_X3_count rfl rfl rfl (by decide +kernel) ⟨(Nat.le_of_ble_eq_true rfl), (Nat.le_of_ble_eq_true rfl)⟩) ⟨qR_blind, va_recv hK hP (ci := 3) (q0 := r1) rfl (vW_k3 n27 g62), qR_pre hP hK hZ⟩ rfl rfl hl.1 rfl (lv_room (Nat.le_of_ble_eq_true rfl)) dL_law_250 ⟨vRc g18, vRs g19⟩) hS (fun q9 _ h9 => h9.elim) (fun q9 h9 => h9.elim) (fun w65 u t H1 locs ht hvm hw hB hz1 hk1 hS => ?_)
            have hP := hP.kept (fun k9 q9 hk9 => hk1 q9.1 (hP k9 q9 hk9).lt (fun h9 => h9))
            generalize H1 = H at hP hS ⊢
            clear hk1 hz1 ht hvm
            have hw : w65 = q63 := hw
            rw [hw]
            refine lv_iload hx hb dL_law_253 (lv_at hl 2 rfl) ?_
            refine lv_icmp_lt (tgt := 270) hx hb dL_law_255 (by decide) (fun c66 => ?_) (fun c66 => ?_)
            · rw [if_pos c66] at h
              refine lv_iconst (v := 0) hx hb dL_law_270 (by decide) ?_
              have hz := Option.some.inj h
              rw [← hz] at hz1
              exact absurd (show (0 : Int32) = 1 from hz1) (by decide)
            · rw [if_neg c66] at h
              refine lv_aload_n hx hb dL_law_258 rfl (lv_at hl 3 rfl) ?_
              refine lv_iconst (v := 0) hx hb dL_law_259 (by decide) ?_
              obtain ⟨q67, g68, h⟩ := vg_bind h
              refine va_calli (va_runV (As := [.int 0]) (rest := []) ⟨hx, hb, hml, hown, hts⟩ (cm_X3_count (m0 := q56.2) l D tc ad21 hO59 n27 g68) (cwV 1 hts gL_law_X3_count rfl rfl rfl (by decide +kernel) ⟨(Nat.le_of_ble_eq_true rfl), (Nat.le_of_ble_eq_true rfl)⟩) ⟨qR_blind, va_recv hK hP (ci := 3) (q0 := r1) rfl (vW_k3 n27 g62), qR_pre hP hK hZ⟩ rfl rfl hl.1 rfl (lv_room (Nat.le_of_ble_eq_true rfl)) dL_law_260 ⟨vRc g18, vRs g19⟩) hS (fun q9 _ h9 => h9.elim) (fun q9 h9 => h9.elim) (fun w69 u t H1 locs ht hvm hw hB hz1 hk1 hS => ?_)
              have hP := hP.kept (fun k9 q9 hk9 => hk1 q9.1 (hP k9 q9 hk9).lt (fun h9 => h9))
              generalize H1 = H at hP hS ⊢
              clear hk1 hz1 ht hvm
              have hw : w69 = q67 := hw
              rw [hw]
              refine lv_iload hx hb dL_law_263 (lv_at hl 6 rfl) ?_
              refine lv_iconst (v := 1) hx hb dL_law_265 (by decide) ?_
              refine lv_iadd hx hb dL_law_266 ?_
              refine lv_icmp_eq (tgt := 272) hx hb dL_law_267 (by decide) (fun c70 => ?_) (fun c70 => ?_)
              · rw [if_pos c70] at h
                exact (ih.2.2.2.2.1) q16.2.1 ad21 q56.2 ((kc + 2000)) ((ks + 70000)) r1 r2 i3 i4 i5 i6 i7 i8 r9 q3 q6.1 q11.1 _ _ _ e26 e25 g18 g19 hO59 n27 n28 n29 h hP hD hS (lv_sub hl (l' := [(1, .ref (ad21 r1)), (2, .ref (ad21 r2)), (3, .int i3), (4, .int i4), (5, .int i5), (6, .int i6), (7, .int i7), (8, .int i8), (9, .ref (ad21 r9)), (10, .int q3), (11, .int q6.1), (12, .int q11.1), (0, .ref b)]) [3, 4, 5, 6, 7, 8, 9, 10, 11, 2, 1, 0, 12] rfl)
              · rw [if_neg c70] at h
                refine lv_iconst (v := 0) hx hb dL_law_270 (by decide) ?_
                have hz := Option.some.inj h
                rw [← hz] at hz1
                exact absurd (show (0 : Int32) = 1 from hz1) (by decide)
          · rw [if_pos c61] at h
            refine lv_aload_n hx hb dL_law_236 rfl (lv_at hl 3 rfl) ?_
            refine lv_iload hx hb dL_law_237 (lv_at hl 8 rfl) ?_
            refine lv_iconst (v := 0) hx hb dL_law_239 (by decide) ?_
            obtain ⟨g71, h⟩ := vg_if h
            obtain ⟨q72, g73, h⟩ := vg_bind h
            refine va_calli (va_runV (As := [.int i6, .int 0]) (rest := []) ⟨hx, hb, hml, hown, hts⟩ (cm_X3_door (m0 := q56.2) l D tc ad21 hO59 n27 g73) (cwV 2 hts gL_law_X3_door rfl rfl rfl (by decide +kernel) ⟨(Nat.le_of_ble_eq_true rfl), (Nat.le_of_ble_eq_true rfl)⟩) ⟨qR_blind, va_recv hK hP (ci := 3) (q0 := r1) rfl (vW_k3 n27 g71), qR_pre hP hK hZ⟩ rfl rfl hl.1 rfl (lv_room (Nat.le_of_ble_eq_true rfl)) dL_law_240 ⟨vRc g18, vRs g19⟩) hS (fun q9 _ h9 => h9.elim) (fun q9 h9 => h9.elim) (fun w74 u t H1 locs ht hvm hw hB hz1 hk1 hS => ?_)
            have hP := hP.kept (fun k9 q9 hk9 => hk1 q9.1 (hP k9 q9 hk9).lt (fun h9 => h9))
            generalize H1 = H at hP hS ⊢
            clear hk1 hz1 ht hvm
            have hw : w74 = q72 := hw
            rw [hw]
            refine lv_iconst (v := 2) hx hb dL_law_243 (by decide) ?_
            refine lv_icmp_ne (tgt := 270) hx hb dL_law_244 (by decide) (fun c75 => ?_) (fun c75 => ?_)
            · rw [if_neg c75] at h
              refine lv_iconst (v := 0) hx hb dL_law_270 (by decide) ?_
              have hz := Option.some.inj h
              rw [← hz] at hz1
              exact absurd (show (0 : Int32) = 1 from hz1) (by decide)
            · rw [if_pos c75] at h
              refine lv_aload_n hx hb dL_law_247 rfl (lv_at hl 3 rfl) ?_
              refine lv_bipush (v := 7) hx hb dL_law_248 (by decide) ?_
              obtain ⟨q76, g77, h⟩ := vg_bind h
              refine va_calli (va_runV (As := [.int 7]) (rest := []) ⟨hx, hb, hml, hown, hts⟩ (cm_X3_count (m0 := q56.2) l D tc ad21 hO59 n27 g77) (cwV 1 hts gL_law_X3_count rfl rfl rfl (by decide +kernel) ⟨(Nat.le_of_ble_eq_true rfl), (Nat.le_of_ble_eq_true rfl)⟩) ⟨qR_blind, va_recv hK hP (ci := 3) (q0 := r1) rfl (vW_k3 n27 g71), qR_pre hP hK hZ⟩ rfl rfl hl.1 rfl (lv_room (Nat.le_of_ble_eq_true rfl)) dL_law_250 ⟨vRc g18, vRs g19⟩) hS (fun q9 _ h9 => h9.elim) (fun q9 h9 => h9.elim) (fun w78 u t H1 locs ht hvm hw hB hz1 hk1 hS => ?_)
              have hP := hP.kept (fun k9 q9 hk9 => hk1 q9.1 (hP k9 q9 hk9).lt (fun h9 => h9))
              generalize H1 = H at hP hS ⊢
              clear hk1 hz1 ht hvm
              have hw : w78 = q76 := hw
              rw [hw]
              refine lv_iload hx hb dL_law_253 (lv_at hl 2 rfl) ?_
              refine lv_icmp_lt (tgt := 270) hx hb dL_law_255 (by decide) (fun c79 => ?_) (fun c79 => ?_)
              · rw [if_pos c79] at h
                refine lv_iconst (v := 0) hx hb dL_law_270 (by decide) ?_
                have hz := Option.some.inj h
                rw [← hz] at hz1
                exact absurd (show (0 : Int32) = 1 from hz1) (by decide)
              · rw [if_neg c79] at h
                refine lv_aload_n hx hb dL_law_258 rfl (lv_at hl 3 rfl) ?_
                refine lv_iconst (v := 0) hx hb dL_law_259 (by decide) ?_
                obtain ⟨q80, g81, h⟩ := vg_bind h
                refine va_calli (va_runV (As := [.int 0]) (rest := []) ⟨hx, hb, hml, hown, hts⟩ (cm_X3_count (m0 := q56.2) l D tc ad21 hO59 n27 g81) (cwV 1 hts gL_law_X3_count rfl rfl rfl (by decide +kernel) ⟨(Nat.le_of_ble_eq_true rfl), (Nat.le_of_ble_eq_true rfl)⟩) ⟨qR_blind, va_recv hK hP (ci := 3) (q0 := r1) rfl (vW_k3 n27 g71), qR_pre hP hK hZ⟩ rfl rfl hl.1 rfl (lv_room (Nat.le_of_ble_eq_true rfl)) dL_law_260 ⟨vRc g18, vRs g19⟩) hS (fun q9 _ h9 => h9.elim) (fun q9 h9 => h9.elim) (fun w82 u t H1 locs ht hvm hw hB hz1 hk1 hS => ?_)
                have hP := hP.kept (fun k9 q9 hk9 => hk1 q9.1 (hP k9 q9 hk9).lt (fun h9 => h9))
                generalize H1 = H at hP hS ⊢
                clear hk1 hz1 ht hvm
                have hw : w82 = q80 := hw
                rw [hw]
                refine lv_iload hx hb dL_law_263 (lv_at hl 6 rfl) ?_
                refine lv_iconst (v := 1) hx hb dL_law_265 (by decide) ?_
                refine lv_iadd hx hb dL_law_266 ?_
                refine lv_icmp_eq (tgt := 272) hx hb dL_law_267 (by decide) (fun c83 => ?_) (fun c83 => ?_)
                · rw [if_pos c83] at h
                  exact (ih.2.2.2.2.1) q16.2.1 ad21 q56.2 ((kc + 2000)) ((ks + 70000)) r1 r2 i3 i4 i5 i6 i7 i8 r9 q3 q6.1 q11.1 _ _ _ e26 e25 g18 g19 hO59 n27 n28 n29 h hP hD hS (lv_sub hl (l' := [(1, .ref (ad21 r1)), (2, .ref (ad21 r2)), (3, .int i3), (4, .int i4), (5, .int i5), (6, .int i6), (7, .int i7), (8, .int i8), (9, .ref (ad21 r9)), (10, .int q3), (11, .int q6.1), (12, .int q11.1), (0, .ref b)]) [3, 4, 5, 6, 7, 8, 9, 10, 11, 2, 1, 0, 12] rfl)
                · rw [if_neg c83] at h
                  refine lv_iconst (v := 0) hx hb dL_law_270 (by decide) ?_
                  have hz := Option.some.inj h
                  rw [← hz] at hz1
                  exact absurd (show (0 : Int32) = 1 from hz1) (by decide)
    · rw [if_neg c30] at h
      refine lv_aload_n hx hb dL_law_200 rfl (lv_at hl 3 rfl) ?_
      refine lv_bipush (v := 8) hx hb dL_law_201 (by decide) ?_
      obtain ⟨g84, h⟩ := vg_if h
      obtain ⟨q85, g86, h⟩ := vg_bind h
      refine va_calli (va_runV (As := [.int 8]) (rest := []) ⟨hx, hb, hml, hown, hts⟩ (cm_X3_count (m0 := q16.2.2) l D tc ad21 hO24 n27 g86) (cwV 1 hts gL_law_X3_count rfl rfl rfl (by decide +kernel) ⟨(Nat.le_of_ble_eq_true rfl), (Nat.le_of_ble_eq_true rfl)⟩) ⟨qR_blind, va_recv hK hP (ci := 3) (q0 := r1) rfl (vW_k3 n27 g84), qR_pre hP hK hZ⟩ rfl rfl hl.1 rfl (lv_room (Nat.le_of_ble_eq_true rfl)) dL_law_203 ⟨vRc g18, vRs g19⟩) hS (fun q9 _ h9 => h9.elim) (fun q9 h9 => h9.elim) (fun w87 u t H1 locs ht hvm hw hB hz1 hk1 hS => ?_)
      have hP := hP.kept (fun k9 q9 hk9 => hk1 q9.1 (hP k9 q9 hk9).lt (fun h9 => h9))
      generalize H1 = H at hP hS ⊢
      clear hk1 hz1 ht hvm
      have hw : w87 = q85 := hw
      rw [hw]
      refine lv_iload hx hb dL_law_206 (lv_at hl 10 rfl) ?_
      refine lv_icmp_ne (tgt := 270) hx hb dL_law_208 (by decide) (fun c88 => ?_) (fun c88 => ?_)
      · rw [if_neg c88] at h
        refine lv_iconst (v := 0) hx hb dL_law_270 (by decide) ?_
        have hz := Option.some.inj h
        rw [← hz] at hz1
        exact absurd (show (0 : Int32) = 1 from hz1) (by decide)
      · rw [if_pos c88] at h
        refine lv_iload hx hb dL_law_211 (lv_at hl 1 rfl) ?_
        refine lv_iconst (v := 1) hx hb dL_law_213 (by decide) ?_
        refine lv_icmp_le (tgt := 230) hx hb dL_law_214 (by decide) (fun c89 => ?_) (fun c89 => ?_)
        · rw [if_pos c89] at h
          refine lv_iload hx hb dL_law_230 (lv_at hl 1 rfl) ?_
          refine lv_iconst (v := 1) hx hb dL_law_232 (by decide) ?_
          refine lv_icmp_ne (tgt := 247) hx hb dL_law_233 (by decide) (fun c90 => ?_) (fun c90 => ?_)
          · rw [if_neg c90] at h
            refine lv_aload_n hx hb dL_law_247 rfl (lv_at hl 3 rfl) ?_
            refine lv_bipush (v := 7) hx hb dL_law_248 (by decide) ?_
            obtain ⟨q91, g92, h⟩ := vg_bind h
            refine va_calli (va_runV (As := [.int 7]) (rest := []) ⟨hx, hb, hml, hown, hts⟩ (cm_X3_count (m0 := q16.2.2) l D tc ad21 hO24 n27 g92) (cwV 1 hts gL_law_X3_count rfl rfl rfl (by decide +kernel) ⟨(Nat.le_of_ble_eq_true rfl), (Nat.le_of_ble_eq_true rfl)⟩) ⟨qR_blind, va_recv hK hP (ci := 3) (q0 := r1) rfl (vW_k3 n27 g84), qR_pre hP hK hZ⟩ rfl rfl hl.1 rfl (lv_room (Nat.le_of_ble_eq_true rfl)) dL_law_250 ⟨vRc g18, vRs g19⟩) hS (fun q9 _ h9 => h9.elim) (fun q9 h9 => h9.elim) (fun w93 u t H1 locs ht hvm hw hB hz1 hk1 hS => ?_)
            have hP := hP.kept (fun k9 q9 hk9 => hk1 q9.1 (hP k9 q9 hk9).lt (fun h9 => h9))
            generalize H1 = H at hP hS ⊢
            clear hk1 hz1 ht hvm
            have hw : w93 = q91 := hw
            rw [hw]
            refine lv_iload hx hb dL_law_253 (lv_at hl 2 rfl) ?_
            refine lv_icmp_lt (tgt := 270) hx hb dL_law_255 (by decide) (fun c94 => ?_) (fun c94 => ?_)
            · rw [if_pos c94] at h
              refine lv_iconst (v := 0) hx hb dL_law_270 (by decide) ?_
              have hz := Option.some.inj h
              rw [← hz] at hz1
              exact absurd (show (0 : Int32) = 1 from hz1) (by decide)
            · rw [if_neg c94] at h
              refine lv_aload_n hx hb dL_law_258 rfl (lv_at hl 3 rfl) ?_
              refine lv_iconst (v := 0) hx hb dL_law_259 (by decide) ?_
              obtain ⟨q95, g96, h⟩ := vg_bind h
              refine va_calli (va_runV (As := [.int 0]) (rest := []) ⟨hx, hb, hml, hown, hts⟩ (cm_X3_count (m0 := q16.2.2) l D tc ad21 hO24 n27 g96) (cwV 1 hts gL_law_X3_count rfl rfl rfl (by decide +kernel) ⟨(Nat.le_of_ble_eq_true rfl), (Nat.le_of_ble_eq_true rfl)⟩) ⟨qR_blind, va_recv hK hP (ci := 3) (q0 := r1) rfl (vW_k3 n27 g84), qR_pre hP hK hZ⟩ rfl rfl hl.1 rfl (lv_room (Nat.le_of_ble_eq_true rfl)) dL_law_260 ⟨vRc g18, vRs g19⟩) hS (fun q9 _ h9 => h9.elim) (fun q9 h9 => h9.elim) (fun w97 u t H1 locs ht hvm hw hB hz1 hk1 hS => ?_)
              have hP := hP.kept (fun k9 q9 hk9 => hk1 q9.1 (hP k9 q9 hk9).lt (fun h9 => h9))
              generalize H1 = H at hP hS ⊢
              clear hk1 hz1 ht hvm
              have hw : w97 = q95 := hw
              rw [hw]
              refine lv_iload hx hb dL_law_263 (lv_at hl 6 rfl) ?_
              refine lv_iconst (v := 1) hx hb dL_law_265 (by decide) ?_
              refine lv_iadd hx hb dL_law_266 ?_
              refine lv_icmp_eq (tgt := 272) hx hb dL_law_267 (by decide) (fun c98 => ?_) (fun c98 => ?_)
              · rw [if_pos c98] at h
                exact (ih.2.2.2.2.1) q16.2.1 ad21 q16.2.2 ((kc + 2000)) ((ks + 70000)) r1 r2 i3 i4 i5 i6 i7 i8 r9 q3 q6.1 q11.1 _ _ _ e26 e25 g18 g19 hO24 n27 n28 n29 h hP hD hS (lv_sub hl (l' := [(1, .ref (ad21 r1)), (2, .ref (ad21 r2)), (3, .int i3), (4, .int i4), (5, .int i5), (6, .int i6), (7, .int i7), (8, .int i8), (9, .ref (ad21 r9)), (10, .int q3), (11, .int q6.1), (12, .int q11.1), (0, .ref b)]) [3, 4, 5, 6, 7, 8, 9, 10, 11, 2, 1, 0, 12] rfl)
              · rw [if_neg c98] at h
                refine lv_iconst (v := 0) hx hb dL_law_270 (by decide) ?_
                have hz := Option.some.inj h
                rw [← hz] at hz1
                exact absurd (show (0 : Int32) = 1 from hz1) (by decide)
          · rw [if_pos c90] at h
            refine lv_aload_n hx hb dL_law_236 rfl (lv_at hl 3 rfl) ?_
            refine lv_iload hx hb dL_law_237 (lv_at hl 8 rfl) ?_
            refine lv_iconst (v := 0) hx hb dL_law_239 (by decide) ?_
            obtain ⟨q99, g100, h⟩ := vg_bind h
            refine va_calli (va_runV (As := [.int i6, .int 0]) (rest := []) ⟨hx, hb, hml, hown, hts⟩ (cm_X3_door (m0 := q16.2.2) l D tc ad21 hO24 n27 g100) (cwV 2 hts gL_law_X3_door rfl rfl rfl (by decide +kernel) ⟨(Nat.le_of_ble_eq_true rfl), (Nat.le_of_ble_eq_true rfl)⟩) ⟨qR_blind, va_recv hK hP (ci := 3) (q0 := r1) rfl (vW_k3 n27 g84), qR_pre hP hK hZ⟩ rfl rfl hl.1 rfl (lv_room (Nat.le_of_ble_eq_true rfl)) dL_law_240 ⟨vRc g18, vRs g19⟩) hS (fun q9 _ h9 => h9.elim) (fun q9 h9 => h9.elim) (fun w101 u t H1 locs ht hvm hw hB hz1 hk1 hS => ?_)
            have hP := hP.kept (fun k9 q9 hk9 => hk1 q9.1 (hP k9 q9 hk9).lt (fun h9 => h9))
            generalize H1 = H at hP hS ⊢
            clear hk1 hz1 ht hvm
            have hw : w101 = q99 := hw
            rw [hw]
            refine lv_iconst (v := 2) hx hb dL_law_243 (by decide) ?_
            refine lv_icmp_ne (tgt := 270) hx hb dL_law_244 (by decide) (fun c102 => ?_) (fun c102 => ?_)
            · rw [if_neg c102] at h
              refine lv_iconst (v := 0) hx hb dL_law_270 (by decide) ?_
              have hz := Option.some.inj h
              rw [← hz] at hz1
              exact absurd (show (0 : Int32) = 1 from hz1) (by decide)
            · rw [if_pos c102] at h
              refine lv_aload_n hx hb dL_law_247 rfl (lv_at hl 3 rfl) ?_
              refine lv_bipush (v := 7) hx hb dL_law_248 (by decide) ?_
              obtain ⟨q103, g104, h⟩ := vg_bind h
              refine va_calli (va_runV (As := [.int 7]) (rest := []) ⟨hx, hb, hml, hown, hts⟩ (cm_X3_count (m0 := q16.2.2) l D tc ad21 hO24 n27 g104) (cwV 1 hts gL_law_X3_count rfl rfl rfl (by decide +kernel) ⟨(Nat.le_of_ble_eq_true rfl), (Nat.le_of_ble_eq_true rfl)⟩) ⟨qR_blind, va_recv hK hP (ci := 3) (q0 := r1) rfl (vW_k3 n27 g84), qR_pre hP hK hZ⟩ rfl rfl hl.1 rfl (lv_room (Nat.le_of_ble_eq_true rfl)) dL_law_250 ⟨vRc g18, vRs g19⟩) hS (fun q9 _ h9 => h9.elim) (fun q9 h9 => h9.elim) (fun w105 u t H1 locs ht hvm hw hB hz1 hk1 hS => ?_)
              have hP := hP.kept (fun k9 q9 hk9 => hk1 q9.1 (hP k9 q9 hk9).lt (fun h9 => h9))
              generalize H1 = H at hP hS ⊢
              clear hk1 hz1 ht hvm
              have hw : w105 = q103 := hw
              rw [hw]
              refine lv_iload hx hb dL_law_253 (lv_at hl 2 rfl) ?_
              refine lv_icmp_lt (tgt := 270) hx hb dL_law_255 (by decide) (fun c106 => ?_) (fun c106 => ?_)
              · rw [if_pos c106] at h
                refine lv_iconst (v := 0) hx hb dL_law_270 (by decide) ?_
                have hz := Option.some.inj h
                rw [← hz] at hz1
                exact absurd (show (0 : Int32) = 1 from hz1) (by decide)
              · rw [if_neg c106] at h
                refine lv_aload_n hx hb dL_law_258 rfl (lv_at hl 3 rfl) ?_
                refine lv_iconst (v := 0) hx hb dL_law_259 (by decide) ?_
                obtain ⟨q107, g108, h⟩ := vg_bind h
                refine va_calli (va_runV (As := [.int 0]) (rest := []) ⟨hx, hb, hml, hown, hts⟩ (cm_X3_count (m0 := q16.2.2) l D tc ad21 hO24 n27 g108) (cwV 1 hts gL_law_X3_count rfl rfl rfl (by decide +kernel) ⟨(Nat.le_of_ble_eq_true rfl), (Nat.le_of_ble_eq_true rfl)⟩) ⟨qR_blind, va_recv hK hP (ci := 3) (q0 := r1) rfl (vW_k3 n27 g84), qR_pre hP hK hZ⟩ rfl rfl hl.1 rfl (lv_room (Nat.le_of_ble_eq_true rfl)) dL_law_260 ⟨vRc g18, vRs g19⟩) hS (fun q9 _ h9 => h9.elim) (fun q9 h9 => h9.elim) (fun w109 u t H1 locs ht hvm hw hB hz1 hk1 hS => ?_)
                have hP := hP.kept (fun k9 q9 hk9 => hk1 q9.1 (hP k9 q9 hk9).lt (fun h9 => h9))
                generalize H1 = H at hP hS ⊢
                clear hk1 hz1 ht hvm
                have hw : w109 = q107 := hw
                rw [hw]
                refine lv_iload hx hb dL_law_263 (lv_at hl 6 rfl) ?_
                refine lv_iconst (v := 1) hx hb dL_law_265 (by decide) ?_
                refine lv_iadd hx hb dL_law_266 ?_
                refine lv_icmp_eq (tgt := 272) hx hb dL_law_267 (by decide) (fun c110 => ?_) (fun c110 => ?_)
                · rw [if_pos c110] at h
                  exact (ih.2.2.2.2.1) q16.2.1 ad21 q16.2.2 ((kc + 2000)) ((ks + 70000)) r1 r2 i3 i4 i5 i6 i7 i8 r9 q3 q6.1 q11.1 _ _ _ e26 e25 g18 g19 hO24 n27 n28 n29 h hP hD hS (lv_sub hl (l' := [(1, .ref (ad21 r1)), (2, .ref (ad21 r2)), (3, .int i3), (4, .int i4), (5, .int i5), (6, .int i6), (7, .int i7), (8, .int i8), (9, .ref (ad21 r9)), (10, .int q3), (11, .int q6.1), (12, .int q11.1), (0, .ref b)]) [3, 4, 5, 6, 7, 8, 9, 10, 11, 2, 1, 0, 12] rfl)
                · rw [if_neg c110] at h
                  refine lv_iconst (v := 0) hx hb dL_law_270 (by decide) ?_
                  have hz := Option.some.inj h
                  rw [← hz] at hz1
                  exact absurd (show (0 : Int32) = 1 from hz1) (by decide)
        · rw [if_neg c89] at h
          refine lv_aload_n hx hb dL_law_217 rfl (lv_at hl 3 rfl) ?_
          refine lv_iload hx hb dL_law_218 (lv_at hl 8 rfl) ?_
          obtain ⟨q111, g112, h⟩ := vg_bind h
          have hFc := vm_free hD hS hA
          refine va_calli (va_runV (As := [.int i6]) (rest := []) ⟨hx, hb, hml, hown, hts⟩ (cm_X3_opens (m0 := q16.2.2) l D tc ad21 hO24 n27 g112) (cwV 1 hts gL_law_X3_opens rfl rfl rfl (by decide +kernel) ⟨(Nat.le_of_ble_eq_true rfl), (Nat.le_of_ble_eq_true rfl)⟩) ⟨qW_blind, va_recv hK hP (ci := 3) (q0 := r1) rfl (vW_k3 n27 g84), qW_pre hP hD hK hZ⟩ rfl rfl hl.1 rfl (lv_room (Nat.le_of_ble_eq_true rfl)) dL_law_220 ⟨vRc g18, vRs g19⟩) hS (fun q9 _ h9 => hFc q9 h9) hFc (fun w113 u t H1 locs ht hvm hw hB hz1 hk1 hS => ?_)
          obtain ⟨hO114, hP1, hK1, hD1⟩ := hB
          rw [ht] at hP1
          have hP := hP1
          have hD := hD1.weaken (fun _ q9 _ h9 => hFc q9.1 h9)
          generalize H1 = H at hP hS ⊢
          have hP : va_P D vwCl (vW tc ad21 q16.2.1 q111.2) H := hP
          have hD : va_D A (vW tc ad21 q16.2.1 q111.2) := hD
          clear hk1 hz1 ht hvm
          have hw : w113 = q111.1 := hw
          rw [hw]
          refine lv_iload hx hb dL_law_223 (lv_at hl 1 rfl) ?_
          refine lv_iconst (v := 1) hx hb dL_law_225 (by decide) ?_
          refine lv_isub hx hb dL_law_226 ?_
          refine lv_icmp_ne (tgt := 270) hx hb dL_law_227 (by decide) (fun c115 => ?_) (fun c115 => ?_)
          · rw [if_neg c115] at h
            refine lv_iconst (v := 0) hx hb dL_law_270 (by decide) ?_
            have hz := Option.some.inj h
            rw [← hz] at hz1
            exact absurd (show (0 : Int32) = 1 from hz1) (by decide)
          · rw [if_pos c115] at h
            refine lv_iload hx hb dL_law_230 (lv_at hl 1 rfl) ?_
            refine lv_iconst (v := 1) hx hb dL_law_232 (by decide) ?_
            refine lv_icmp_ne (tgt := 247) hx hb dL_law_233 (by decide) (fun c116 => ?_) (fun c116 => ?_)
            · rw [if_neg c116] at h
              refine lv_aload_n hx hb dL_law_247 rfl (lv_at hl 3 rfl) ?_
              refine lv_bipush (v := 7) hx hb dL_law_248 (by decide) ?_
              obtain ⟨g117, h⟩ := vg_if h
              obtain ⟨q118, g119, h⟩ := vg_bind h
              refine va_calli (va_runV (As := [.int 7]) (rest := []) ⟨hx, hb, hml, hown, hts⟩ (cm_X3_count (m0 := q111.2) l D tc ad21 hO114 n27 g119) (cwV 1 hts gL_law_X3_count rfl rfl rfl (by decide +kernel) ⟨(Nat.le_of_ble_eq_true rfl), (Nat.le_of_ble_eq_true rfl)⟩) ⟨qR_blind, va_recv hK hP (ci := 3) (q0 := r1) rfl (vW_k3 n27 g117), qR_pre hP hK hZ⟩ rfl rfl hl.1 rfl (lv_room (Nat.le_of_ble_eq_true rfl)) dL_law_250 ⟨vRc g18, vRs g19⟩) hS (fun q9 _ h9 => h9.elim) (fun q9 h9 => h9.elim) (fun w120 u t H1 locs ht hvm hw hB hz1 hk1 hS => ?_)
              have hP := hP.kept (fun k9 q9 hk9 => hk1 q9.1 (hP k9 q9 hk9).lt (fun h9 => h9))
              generalize H1 = H at hP hS ⊢
              clear hk1 hz1 ht hvm
              have hw : w120 = q118 := hw
              rw [hw]
              refine lv_iload hx hb dL_law_253 (lv_at hl 2 rfl) ?_
              refine lv_icmp_lt (tgt := 270) hx hb dL_law_255 (by decide) (fun c121 => ?_) (fun c121 => ?_)
              · rw [if_pos c121] at h
                refine lv_iconst (v := 0) hx hb dL_law_270 (by decide) ?_
                have hz := Option.some.inj h
                rw [← hz] at hz1
                exact absurd (show (0 : Int32) = 1 from hz1) (by decide)
              · rw [if_neg c121] at h
                refine lv_aload_n hx hb dL_law_258 rfl (lv_at hl 3 rfl) ?_
                refine lv_iconst (v := 0) hx hb dL_law_259 (by decide) ?_
                obtain ⟨q122, g123, h⟩ := vg_bind h
                refine va_calli (va_runV (As := [.int 0]) (rest := []) ⟨hx, hb, hml, hown, hts⟩ (cm_X3_count (m0 := q111.2) l D tc ad21 hO114 n27 g123) (cwV 1 hts gL_law_X3_count rfl rfl rfl (by decide +kernel) ⟨(Nat.le_of_ble_eq_true rfl), (Nat.le_of_ble_eq_true rfl)⟩) ⟨qR_blind, va_recv hK hP (ci := 3) (q0 := r1) rfl (vW_k3 n27 g117), qR_pre hP hK hZ⟩ rfl rfl hl.1 rfl (lv_room (Nat.le_of_ble_eq_true rfl)) dL_law_260 ⟨vRc g18, vRs g19⟩) hS (fun q9 _ h9 => h9.elim) (fun q9 h9 => h9.elim) (fun w124 u t H1 locs ht hvm hw hB hz1 hk1 hS => ?_)
                have hP := hP.kept (fun k9 q9 hk9 => hk1 q9.1 (hP k9 q9 hk9).lt (fun h9 => h9))
                generalize H1 = H at hP hS ⊢
                clear hk1 hz1 ht hvm
                have hw : w124 = q122 := hw
                rw [hw]
                refine lv_iload hx hb dL_law_263 (lv_at hl 6 rfl) ?_
                refine lv_iconst (v := 1) hx hb dL_law_265 (by decide) ?_
                refine lv_iadd hx hb dL_law_266 ?_
                refine lv_icmp_eq (tgt := 272) hx hb dL_law_267 (by decide) (fun c125 => ?_) (fun c125 => ?_)
                · rw [if_pos c125] at h
                  exact (ih.2.2.2.2.1) q16.2.1 ad21 q111.2 ((kc + 2000)) ((ks + 70000)) r1 r2 i3 i4 i5 i6 i7 i8 r9 q3 q6.1 q11.1 _ _ _ e26 e25 g18 g19 hO114 n27 n28 n29 h hP hD hS (lv_sub hl (l' := [(1, .ref (ad21 r1)), (2, .ref (ad21 r2)), (3, .int i3), (4, .int i4), (5, .int i5), (6, .int i6), (7, .int i7), (8, .int i8), (9, .ref (ad21 r9)), (10, .int q3), (11, .int q6.1), (12, .int q11.1), (0, .ref b)]) [3, 4, 5, 6, 7, 8, 9, 10, 11, 2, 1, 0, 12] rfl)
                · rw [if_neg c125] at h
                  refine lv_iconst (v := 0) hx hb dL_law_270 (by decide) ?_
                  have hz := Option.some.inj h
                  rw [← hz] at hz1
                  exact absurd (show (0 : Int32) = 1 from hz1) (by decide)
            · rw [if_pos c116] at h
              refine lv_aload_n hx hb dL_law_236 rfl (lv_at hl 3 rfl) ?_
              refine lv_iload hx hb dL_law_237 (lv_at hl 8 rfl) ?_
              refine lv_iconst (v := 0) hx hb dL_law_239 (by decide) ?_
              obtain ⟨g126, h⟩ := vg_if h
              obtain ⟨q127, g128, h⟩ := vg_bind h
              refine va_calli (va_runV (As := [.int i6, .int 0]) (rest := []) ⟨hx, hb, hml, hown, hts⟩ (cm_X3_door (m0 := q111.2) l D tc ad21 hO114 n27 g128) (cwV 2 hts gL_law_X3_door rfl rfl rfl (by decide +kernel) ⟨(Nat.le_of_ble_eq_true rfl), (Nat.le_of_ble_eq_true rfl)⟩) ⟨qR_blind, va_recv hK hP (ci := 3) (q0 := r1) rfl (vW_k3 n27 g126), qR_pre hP hK hZ⟩ rfl rfl hl.1 rfl (lv_room (Nat.le_of_ble_eq_true rfl)) dL_law_240 ⟨vRc g18, vRs g19⟩) hS (fun q9 _ h9 => h9.elim) (fun q9 h9 => h9.elim) (fun w129 u t H1 locs ht hvm hw hB hz1 hk1 hS => ?_)
              have hP := hP.kept (fun k9 q9 hk9 => hk1 q9.1 (hP k9 q9 hk9).lt (fun h9 => h9))
              generalize H1 = H at hP hS ⊢
              clear hk1 hz1 ht hvm
              have hw : w129 = q127 := hw
              rw [hw]
              refine lv_iconst (v := 2) hx hb dL_law_243 (by decide) ?_
              refine lv_icmp_ne (tgt := 270) hx hb dL_law_244 (by decide) (fun c130 => ?_) (fun c130 => ?_)
              · rw [if_neg c130] at h
                refine lv_iconst (v := 0) hx hb dL_law_270 (by decide) ?_
                have hz := Option.some.inj h
                rw [← hz] at hz1
                exact absurd (show (0 : Int32) = 1 from hz1) (by decide)
              · rw [if_pos c130] at h
                refine lv_aload_n hx hb dL_law_247 rfl (lv_at hl 3 rfl) ?_
                refine lv_bipush (v := 7) hx hb dL_law_248 (by decide) ?_
                obtain ⟨q131, g132, h⟩ := vg_bind h
                refine va_calli (va_runV (As := [.int 7]) (rest := []) ⟨hx, hb, hml, hown, hts⟩ (cm_X3_count (m0 := q111.2) l D tc ad21 hO114 n27 g132) (cwV 1 hts gL_law_X3_count rfl rfl rfl (by decide +kernel) ⟨(Nat.le_of_ble_eq_true rfl), (Nat.le_of_ble_eq_true rfl)⟩) ⟨qR_blind, va_recv hK hP (ci := 3) (q0 := r1) rfl (vW_k3 n27 g126), qR_pre hP hK hZ⟩ rfl rfl hl.1 rfl (lv_room (Nat.le_of_ble_eq_true rfl)) dL_law_250 ⟨vRc g18, vRs g19⟩) hS (fun q9 _ h9 => h9.elim) (fun q9 h9 => h9.elim) (fun w133 u t H1 locs ht hvm hw hB hz1 hk1 hS => ?_)
                have hP := hP.kept (fun k9 q9 hk9 => hk1 q9.1 (hP k9 q9 hk9).lt (fun h9 => h9))
                generalize H1 = H at hP hS ⊢
                clear hk1 hz1 ht hvm
                have hw : w133 = q131 := hw
                rw [hw]
                refine lv_iload hx hb dL_law_253 (lv_at hl 2 rfl) ?_
                refine lv_icmp_lt (tgt := 270) hx hb dL_law_255 (by decide) (fun c134 => ?_) (fun c134 => ?_)
                · rw [if_pos c134] at h
                  refine lv_iconst (v := 0) hx hb dL_law_270 (by decide) ?_
                  have hz := Option.some.inj h
                  rw [← hz] at hz1
                  exact absurd (show (0 : Int32) = 1 from hz1) (by decide)
                · rw [if_neg c134] at h
                  refine lv_aload_n hx hb dL_law_258 rfl (lv_at hl 3 rfl) ?_
                  refine lv_iconst (v := 0) hx hb dL_law_259 (by decide) ?_
                  obtain ⟨q135, g136, h⟩ := vg_bind h
                  refine va_calli (va_runV (As := [.int 0]) (rest := []) ⟨hx, hb, hml, hown, hts⟩ (cm_X3_count (m0 := q111.2) l D tc ad21 hO114 n27 g136) (cwV 1 hts gL_law_X3_count rfl rfl rfl (by decide +kernel) ⟨(Nat.le_of_ble_eq_true rfl), (Nat.le_of_ble_eq_true rfl)⟩) ⟨qR_blind, va_recv hK hP (ci := 3) (q0 := r1) rfl (vW_k3 n27 g126), qR_pre hP hK hZ⟩ rfl rfl hl.1 rfl (lv_room (Nat.le_of_ble_eq_true rfl)) dL_law_260 ⟨vRc g18, vRs g19⟩) hS (fun q9 _ h9 => h9.elim) (fun q9 h9 => h9.elim) (fun w137 u t H1 locs ht hvm hw hB hz1 hk1 hS => ?_)
                  have hP := hP.kept (fun k9 q9 hk9 => hk1 q9.1 (hP k9 q9 hk9).lt (fun h9 => h9))
                  generalize H1 = H at hP hS ⊢
                  clear hk1 hz1 ht hvm
                  have hw : w137 = q135 := hw
                  rw [hw]
                  refine lv_iload hx hb dL_law_263 (lv_at hl 6 rfl) ?_
                  refine lv_iconst (v := 1) hx hb dL_law_265 (by decide) ?_
                  refine lv_iadd hx hb dL_law_266 ?_
                  refine lv_icmp_eq (tgt := 272) hx hb dL_law_267 (by decide) (fun c138 => ?_) (fun c138 => ?_)
                  · rw [if_pos c138] at h
                    exact (ih.2.2.2.2.1) q16.2.1 ad21 q111.2 ((kc + 2000)) ((ks + 70000)) r1 r2 i3 i4 i5 i6 i7 i8 r9 q3 q6.1 q11.1 _ _ _ e26 e25 g18 g19 hO114 n27 n28 n29 h hP hD hS (lv_sub hl (l' := [(1, .ref (ad21 r1)), (2, .ref (ad21 r2)), (3, .int i3), (4, .int i4), (5, .int i5), (6, .int i6), (7, .int i7), (8, .int i8), (9, .ref (ad21 r9)), (10, .int q3), (11, .int q6.1), (12, .int q11.1), (0, .ref b)]) [3, 4, 5, 6, 7, 8, 9, 10, 11, 2, 1, 0, 12] rfl)
                  · rw [if_neg c138] at h
                    refine lv_iconst (v := 0) hx hb dL_law_270 (by decide) ?_
                    have hz := Option.some.inj h
                    rw [← hz] at hz1
                    exact absurd (show (0 : Int32) = 1 from hz1) (by decide)
  · rw [if_neg c1] at h
    refine lv_iconst (v := 0) hx hb dL_law_129 (by decide) ?_
    refine lv_istore (lv' := [(11, .int 0), (1, .ref (adL r1)), (2, .ref (adL r2)), (3, .int i3), (4, .int i4), (5, .int i5), (6, .int i6), (7, .int i7), (8, .int i8), (9, .ref (adL r9)), (10, .int i10), (0, .ref b)]) hx hb dL_law_130 hl (by decide) rfl (fun ls hl => ?_)
    exact (ih.2.2.2.1) NL adL m1 kc ks r1 r2 i3 i4 i5 i6 i7 i8 r9 i10 (0 : Int32) _ _ _ hNN hE hc hs hO n_r1 n_r2 n_r9 h hP hD hS (lv_sub hl (l' := [(1, .ref (adL r1)), (2, .ref (adL r2)), (3, .int i3), (4, .int i4), (5, .int i5), (6, .int i6), (7, .int i7), (8, .int i8), (9, .ref (adL r9)), (10, .int i10), (11, .int 0), (0, .ref b)]) [1, 2, 3, 4, 5, 6, 7, 8, 9, 10, 0, 11] rfl)
set_option maxHeartbeats 1000000 in
set_option maxRecDepth 100000 in
theorem law_b132 {p : Program} {l : Launch} {e : Env} {s : State} {m : MethodId} {below : List Frame} {meth : Method} {c : Code} {D : va_G} {tc : Nat → ClassId} {ad : Nat → Nat} {N b L : Nat} {xs : Nat → Int32} {A : Nat → Prop} {Qf : State → Prop} {z : Int32 × Nat × vM} (hx : p.tables.exec = Jvm.exec) (hb : c.code = code) (hml : c.maxLocals = 27) (hown : s.vm.findClass RL = some m.cls) (hts : ∀ w ∈ wsL_law, w.before #[Value.ref b] s = true) (hX : va_X b L xs s s.heap) (hbl : b < s.heap.size) (hbA : ¬ A b) (hA : ∀ q : Nat, s.heap.size ≤ q → A q) (hK : va_K D vwCl (vT tc) s) (hZ : vZ tc s) (hend : ∀ (H : Heap) (locs : List Loc) (ls : Array Slot), va_S A s.heap H locs → W p l e room_1 s m #[Value.ref b] below meth c H locs room_1.cells room_1.slots Qf (F0 m 1061 ls [.int 1])) (hz1 : z.1 = 1) {n : Nat} (ih : lC_29 p l e s m below meth c D tc ad N b L xs A Qf z n ∧ lC_90 p l e s m below meth c D tc ad N b L xs A Qf z n ∧ lC_123 p l e s m below meth c D tc ad N b L xs A Qf z n ∧ lC_132 p l e s m below meth c D tc ad N b L xs A Qf z n ∧ lC_272 p l e s m below meth c D tc ad N b L xs A Qf z n ∧ lC_286 p l e s m below meth c D tc ad N b L xs A Qf z n ∧ lC_392 p l e s m below meth c D tc ad N b L xs A Qf z n ∧ lC_402 p l e s m below meth c D tc ad N b L xs A Qf z n ∧ lC_411 p l e s m below meth c D tc ad N b L xs A Qf z n ∧ lC_430 p l e s m below meth c D tc ad N b L xs A Qf z n ∧ lC_448 p l e s m below meth c D tc ad N b L xs A Qf z n ∧ lC_473 p l e s m below meth c D tc ad N b L xs A Qf z n ∧ lC_513 p l e s m below meth c D tc ad N b L xs A Qf z n ∧ lC_561 p l e s m below meth c D tc ad N b L xs A Qf z n ∧ lC_583 p l e s m below meth c D tc ad N b L xs A Qf z n ∧ lC_608 p l e s m below meth c D tc ad N b L xs A Qf z n ∧ lC_696 p l e s m below meth c D tc ad N b L xs A Qf z n ∧ lC_702 p l e s m below meth c D tc ad N b L xs A Qf z n ∧ lC_749 p l e s m below meth c D tc ad N b L xs A Qf z n ∧ lC_847 p l e s m below meth c D tc ad N b L xs A Qf z n ∧ lC_850 p l e s m below meth c D tc ad N b L xs A Qf z n ∧ lC_883 p l e s m below meth c D tc ad N b L xs A Qf z n ∧ lC_929 p l e s m below meth c D tc ad N b L xs A Qf z n ∧ lC_943 p l e s m below meth c D tc ad N b L xs A Qf z n ∧ lC_957 p l e s m below meth c D tc ad N b L xs A Qf z n ∧ lC_963 p l e s m below meth c D tc ad N b L xs A Qf z n ∧ lC_1031 p l e s m below meth c D tc ad N b L xs A Qf z n) : lC_132 p l e s m below meth c D tc ad N b L xs A Qf z (n + 1) := by
  intro NL adL m1 kc ks r1 r2 i3 i4 i5 i6 i7 i8 r9 i10 i11 H locs ls hNN hE hc hs hO n_r1 n_r2 n_r9 h hP hD hS hl
  have h : fB_L_law_132 L xs (fL_L_law L xs n) NL m1 kc ks r1 r2 i3 i4 i5 i6 i7 i8 r9 i10 i11 0 0 0 0 0 0 0 0 0 0 0 0 0 0 0 = some z := fE_L_law_132.symm.trans h
  unfold fB_L_law_132 at h
  refine lv_iload hx hb dL_law_132 (lv_at hl 10 rfl) ?_
  refine lv_bipush (v := 9) hx hb dL_law_134 (by decide) ?_
  refine lv_icmp_ge (tgt := 161) hx hb dL_law_136 (by decide) (fun c1 => ?_) (fun c1 => ?_)
  · rw [if_pos c1] at h
    refine lv_iinc (v := i10 + 1) (lv' := [(10, .int (i10 + 1)), (1, .ref (adL r1)), (2, .ref (adL r2)), (3, .int i3), (4, .int i4), (5, .int i5), (6, .int i6), (7, .int i7), (8, .int i8), (9, .ref (adL r9)), (11, .int i11), (0, .ref b)]) hx hb dL_law_161 hl (k := 9) rfl rfl (by decide) rfl (fun ls hl => ?_)
    refine lv_goto (tgt := 123) hx hb dL_law_164 (by decide) ?_
    exact (ih.2.2.1) NL adL m1 kc ks r1 r2 i3 i4 i5 i6 i7 i8 r9 (i10 + 1) _ _ _ hNN hE hc hs hO n_r1 n_r2 n_r9 h hP hD hS (lv_sub hl (l' := [(1, .ref (adL r1)), (2, .ref (adL r2)), (3, .int i3), (4, .int i4), (5, .int i5), (6, .int i6), (7, .int i7), (8, .int i8), (9, .ref (adL r9)), (10, .int (i10 + 1)), (0, .ref b)]) [1, 2, 3, 4, 5, 6, 7, 8, 9, 0, 11] rfl)
  · rw [if_neg c1] at h
    refine lv_aload hx hb dL_law_139 (lv_at hl 8 rfl) ?_
    refine lv_iload hx hb dL_law_141 (lv_at hl 9 rfl) ?_
    obtain ⟨g2, h⟩ := vg_if h
    obtain ⟨g3, h⟩ := vg_if h
    obtain ⟨y4, g5, h⟩ := vg_bind h
    have n_y4 := hO _ _ _ g5
    refine wm_aald8 hx hb hK hP n_r9 g2 (i := i10) g3 dL_law_143 ?_
    refine W.eq (g2 := F0 m 144 ls [.ref (adL y4)]) (by show F0 m 144 ls (va_rf (Option.map adL (mr m1 r9 i10.toNatClampNeg)) :: _) = _; rw [g5]; rfl) ?_
    refine lv_iload hx hb dL_law_144 (lv_at hl 10 rfl) ?_
    refine lv_aload_n hx hb dL_law_146 rfl (lv_at hl 0 rfl) ?_
    refine lv_iload hx hb dL_law_147 (lv_at hl 9 rfl) ?_
    refine lv_iload hx hb dL_law_149 (lv_at hl 10 rfl) ?_
    obtain ⟨g6, h⟩ := vg_if h
    obtain ⟨q7, g8, h⟩ := vg_bind h
    refine va_calli (va_runV (As := [.int i10, .int i11]) (rest := [.int i11, .ref (adL y4)]) ⟨hx, hb, hml, hown, hts⟩ (cm_X3_door (m0 := m1) l D tc adL hO n_r1 g8) (cwV 2 hts gL_law_X3_door rfl rfl rfl (by decide +kernel) ⟨(Nat.le_of_ble_eq_true rfl), (Nat.le_of_ble_eq_true rfl)⟩) ⟨qR_blind, va_recv hK hP (ci := 3) (q0 := r1) rfl (vW_k3 n_r1 g6), qR_pre hP hK hZ⟩ rfl rfl hl.1 rfl (lv_room (Nat.le_of_ble_eq_true rfl)) dL_law_151 ⟨vRc hc, vRs hs⟩) hS (fun q9 _ h9 => h9.elim) (fun q9 h9 => h9.elim) (fun w9 u t H1 locs ht hvm hw hB hz1 hk1 hS => ?_)
    have hP := hP.kept (fun k9 q9 hk9 => hk1 q9.1 (hP k9 q9 hk9).lt (fun h9 => h9))
    generalize H1 = H at hP hS ⊢
    clear hk1 hz1 ht hvm
    have hw : w9 = q7 := hw
    rw [hw]
    obtain ⟨g10, h⟩ := vg_if h
    obtain ⟨g11, h⟩ := vg_if h
    refine va_iast (D := D) hx hb hK hP hD hS y4 0 (vW_k6 n_y4 g10) rfl (i := i11) (x := q7) g11 dL_law_154 (fun H locs hP hD hS => ?_)
    rw [vW_p6 (m := m1) n_y4 g10] at hP hD
    have hO12 := vOK.I (a := y4) (j := i11.toNatClampNeg) (v := q7) hO
    have hP : va_P D vwCl (vW tc adL NL ((mI m1 y4 i11.toNatClampNeg q7))) H := hP
    have hD : va_D A (vW tc adL NL ((mI m1 y4 i11.toNatClampNeg q7))) := hD
    refine lv_iinc (v := i11 + 1) (lv' := [(11, .int (i11 + 1)), (1, .ref (adL r1)), (2, .ref (adL r2)), (3, .int i3), (4, .int i4), (5, .int i5), (6, .int i6), (7, .int i7), (8, .int i8), (9, .ref (adL r9)), (10, .int i10), (0, .ref b)]) hx hb dL_law_155 hl (k := 10) rfl rfl (by decide) rfl (fun ls hl => ?_)
    refine lv_goto (tgt := 132) hx hb dL_law_158 (by decide) ?_
    exact (ih.2.2.2.1) NL adL ((mI m1 y4 i11.toNatClampNeg q7)) kc ks r1 r2 i3 i4 i5 i6 i7 i8 r9 i10 (i11 + 1) _ _ _ hNN hE hc hs hO12 n_r1 n_r2 n_r9 h hP hD hS (lv_sub hl (l' := [(1, .ref (adL r1)), (2, .ref (adL r2)), (3, .int i3), (4, .int i4), (5, .int i5), (6, .int i6), (7, .int i7), (8, .int i8), (9, .ref (adL r9)), (10, .int i10), (11, .int (i11 + 1)), (0, .ref b)]) [1, 2, 3, 4, 5, 6, 7, 8, 9, 10, 0, 11] rfl)
set_option maxHeartbeats 1000000 in
set_option maxRecDepth 100000 in
theorem law_b272 {p : Program} {l : Launch} {e : Env} {s : State} {m : MethodId} {below : List Frame} {meth : Method} {c : Code} {D : va_G} {tc : Nat → ClassId} {ad : Nat → Nat} {N b L : Nat} {xs : Nat → Int32} {A : Nat → Prop} {Qf : State → Prop} {z : Int32 × Nat × vM} (hx : p.tables.exec = Jvm.exec) (hb : c.code = code) (hml : c.maxLocals = 27) (hown : s.vm.findClass RL = some m.cls) (hts : ∀ w ∈ wsL_law, w.before #[Value.ref b] s = true) (hX : va_X b L xs s s.heap) (hbl : b < s.heap.size) (hbA : ¬ A b) (hA : ∀ q : Nat, s.heap.size ≤ q → A q) (hK : va_K D vwCl (vT tc) s) (hZ : vZ tc s) (hend : ∀ (H : Heap) (locs : List Loc) (ls : Array Slot), va_S A s.heap H locs → W p l e room_1 s m #[Value.ref b] below meth c H locs room_1.cells room_1.slots Qf (F0 m 1061 ls [.int 1])) (hz1 : z.1 = 1) {n : Nat} (ih : lC_29 p l e s m below meth c D tc ad N b L xs A Qf z n ∧ lC_90 p l e s m below meth c D tc ad N b L xs A Qf z n ∧ lC_123 p l e s m below meth c D tc ad N b L xs A Qf z n ∧ lC_132 p l e s m below meth c D tc ad N b L xs A Qf z n ∧ lC_272 p l e s m below meth c D tc ad N b L xs A Qf z n ∧ lC_286 p l e s m below meth c D tc ad N b L xs A Qf z n ∧ lC_392 p l e s m below meth c D tc ad N b L xs A Qf z n ∧ lC_402 p l e s m below meth c D tc ad N b L xs A Qf z n ∧ lC_411 p l e s m below meth c D tc ad N b L xs A Qf z n ∧ lC_430 p l e s m below meth c D tc ad N b L xs A Qf z n ∧ lC_448 p l e s m below meth c D tc ad N b L xs A Qf z n ∧ lC_473 p l e s m below meth c D tc ad N b L xs A Qf z n ∧ lC_513 p l e s m below meth c D tc ad N b L xs A Qf z n ∧ lC_561 p l e s m below meth c D tc ad N b L xs A Qf z n ∧ lC_583 p l e s m below meth c D tc ad N b L xs A Qf z n ∧ lC_608 p l e s m below meth c D tc ad N b L xs A Qf z n ∧ lC_696 p l e s m below meth c D tc ad N b L xs A Qf z n ∧ lC_702 p l e s m below meth c D tc ad N b L xs A Qf z n ∧ lC_749 p l e s m below meth c D tc ad N b L xs A Qf z n ∧ lC_847 p l e s m below meth c D tc ad N b L xs A Qf z n ∧ lC_850 p l e s m below meth c D tc ad N b L xs A Qf z n ∧ lC_883 p l e s m below meth c D tc ad N b L xs A Qf z n ∧ lC_929 p l e s m below meth c D tc ad N b L xs A Qf z n ∧ lC_943 p l e s m below meth c D tc ad N b L xs A Qf z n ∧ lC_957 p l e s m below meth c D tc ad N b L xs A Qf z n ∧ lC_963 p l e s m below meth c D tc ad N b L xs A Qf z n ∧ lC_1031 p l e s m below meth c D tc ad N b L xs A Qf z n) : lC_272 p l e s m below meth c D tc ad N b L xs A Qf z (n + 1) := by
  intro NL adL m1 kc ks r1 r2 i3 i4 i5 i6 i7 i8 r9 i10 i11 i12 H locs ls hNN hE hc hs hO n_r1 n_r2 n_r9 h hP hD hS hl
  have h : fB_L_law_272 L xs (fL_L_law L xs n) NL m1 kc ks r1 r2 i3 i4 i5 i6 i7 i8 r9 i10 i11 i12 0 0 0 0 0 0 0 0 0 0 0 0 0 0 = some z := fE_L_law_272.symm.trans h
  unfold fB_L_law_272 at h
  refine lv_iconst (v := 0) hx hb dL_law_272 (by decide) ?_
  refine lv_istore (lv' := [(13, .int 0), (1, .ref (adL r1)), (2, .ref (adL r2)), (3, .int i3), (4, .int i4), (5, .int i5), (6, .int i6), (7, .int i7), (8, .int i8), (9, .ref (adL r9)), (10, .int i10), (11, .int i11), (12, .int i12), (0, .ref b)]) hx hb dL_law_273 hl (by decide) rfl (fun ls hl => ?_)
  refine lv_iconst (v := 4) hx hb dL_law_275 (by decide) ?_
  obtain ⟨g1, h⟩ := vg_if h
  obtain ⟨g2, h⟩ := vg_if h
  refine wm_new6 (n := 4) (n' := 4) hx hb (hts (.arrayClass .int) (List.mem_append_left _ (List.mem_append_left _ (List.mem_append_left _ (List.mem_of_getElem? (i := 5) rfl))))) hO hK hP hD hS hA (by decide) (by decide) (Nat.le_of_ble_eq_true rfl) (vRc g1) (vRs g2) dL_law_276 (fun ad3 H e4 hP hD hS => ?_)
  have hl : lv_has ls 27 [(13, .int 0), (1, .ref (ad3 r1)), (2, .ref (ad3 r2)), (3, .int i3), (4, .int i4), (5, .int i5), (6, .int i6), (7, .int i7), (8, .int i8), (9, .ref (ad3 r9)), (10, .int i10), (11, .int i11), (12, .int i12), (0, .ref b)] := by rw [e4 r1 n_r1, e4 r2 n_r2, e4 r9 n_r9]; exact hl
  have e5 : ∀ k, k < N → ad3 k = ad k := fun k hk => (e4 k (Nat.lt_of_lt_of_le hk hNN)).trans (hE k hk)
  have e6 : N ≤ (NL + 1) := Nat.le_trans hNN (Nat.le_succ _)
  have hO7 := vOK.N (k := 6) (n := 4) hO
  have n8 : r1 < (NL + 1) := Nat.lt_of_lt_of_le n_r1 (Nat.le_succ _)
  have n9 : r2 < (NL + 1) := Nat.lt_of_lt_of_le n_r2 (Nat.le_succ _)
  have n10 : r9 < (NL + 1) := Nat.lt_of_lt_of_le n_r9 (Nat.le_succ _)
  have hP : va_P D vwCl (vW tc ad3 ((NL + 1)) ((mN m1 NL 6 4))) H := hP
  have hD : va_D A (vW tc ad3 ((NL + 1)) ((mN m1 NL 6 4))) := hD
  refine lv_astore (lv' := [(14, .ref (ad3 NL)), (13, .int 0), (1, .ref (ad3 r1)), (2, .ref (ad3 r2)), (3, .int i3), (4, .int i4), (5, .int i5), (6, .int i6), (7, .int i7), (8, .int i8), (9, .ref (ad3 r9)), (10, .int i10), (11, .int i11), (12, .int i12), (0, .ref b)]) hx hb dL_law_278 hl (by decide) rfl (fun ls hl => ?_)
  refine lv_iconst (v := 0) hx hb dL_law_280 (by decide) ?_
  refine lv_istore (lv' := [(15, .int 0), (14, .ref (ad3 NL)), (13, .int 0), (1, .ref (ad3 r1)), (2, .ref (ad3 r2)), (3, .int i3), (4, .int i4), (5, .int i5), (6, .int i6), (7, .int i7), (8, .int i8), (9, .ref (ad3 r9)), (10, .int i10), (11, .int i11), (12, .int i12), (0, .ref b)]) hx hb dL_law_281 hl (by decide) rfl (fun ls hl => ?_)
  refine lv_iconst (v := 0) hx hb dL_law_283 (by decide) ?_
  refine lv_istore (lv' := [(16, .int 0), (15, .int 0), (14, .ref (ad3 NL)), (13, .int 0), (1, .ref (ad3 r1)), (2, .ref (ad3 r2)), (3, .int i3), (4, .int i4), (5, .int i5), (6, .int i6), (7, .int i7), (8, .int i8), (9, .ref (ad3 r9)), (10, .int i10), (11, .int i11), (12, .int i12), (0, .ref b)]) hx hb dL_law_284 hl (by decide) rfl (fun ls hl => ?_)
  exact (ih.2.2.2.2.2.1) ((NL + 1)) ad3 ((mN m1 NL 6 4)) ((kc + 1)) ((ks + 4)) r1 r2 i3 i4 i5 i6 i7 i8 r9 i10 i11 i12 (0 : Int32) NL (0 : Int32) (0 : Int32) _ _ _ e6 e5 g1 g2 hO7 n8 n9 n10 (Nat.lt_succ_self _) h hP hD hS (lv_sub hl (l' := [(1, .ref (ad3 r1)), (2, .ref (ad3 r2)), (3, .int i3), (4, .int i4), (5, .int i5), (6, .int i6), (7, .int i7), (8, .int i8), (9, .ref (ad3 r9)), (10, .int i10), (11, .int i11), (12, .int i12), (13, .int 0), (14, .ref (ad3 NL)), (15, .int 0), (16, .int 0), (0, .ref b)]) [4, 5, 6, 7, 8, 9, 10, 11, 12, 13, 14, 15, 3, 2, 1, 0, 16] rfl)
set_option maxHeartbeats 1000000 in
set_option maxRecDepth 100000 in
theorem law_b286 {p : Program} {l : Launch} {e : Env} {s : State} {m : MethodId} {below : List Frame} {meth : Method} {c : Code} {D : va_G} {tc : Nat → ClassId} {ad : Nat → Nat} {N b L : Nat} {xs : Nat → Int32} {A : Nat → Prop} {Qf : State → Prop} {z : Int32 × Nat × vM} (hx : p.tables.exec = Jvm.exec) (hb : c.code = code) (hml : c.maxLocals = 27) (hown : s.vm.findClass RL = some m.cls) (hts : ∀ w ∈ wsL_law, w.before #[Value.ref b] s = true) (hX : va_X b L xs s s.heap) (hbl : b < s.heap.size) (hbA : ¬ A b) (hA : ∀ q : Nat, s.heap.size ≤ q → A q) (hK : va_K D vwCl (vT tc) s) (hZ : vZ tc s) (hend : ∀ (H : Heap) (locs : List Loc) (ls : Array Slot), va_S A s.heap H locs → W p l e room_1 s m #[Value.ref b] below meth c H locs room_1.cells room_1.slots Qf (F0 m 1061 ls [.int 1])) (hz1 : z.1 = 1) {n : Nat} (ih : lC_29 p l e s m below meth c D tc ad N b L xs A Qf z n ∧ lC_90 p l e s m below meth c D tc ad N b L xs A Qf z n ∧ lC_123 p l e s m below meth c D tc ad N b L xs A Qf z n ∧ lC_132 p l e s m below meth c D tc ad N b L xs A Qf z n ∧ lC_272 p l e s m below meth c D tc ad N b L xs A Qf z n ∧ lC_286 p l e s m below meth c D tc ad N b L xs A Qf z n ∧ lC_392 p l e s m below meth c D tc ad N b L xs A Qf z n ∧ lC_402 p l e s m below meth c D tc ad N b L xs A Qf z n ∧ lC_411 p l e s m below meth c D tc ad N b L xs A Qf z n ∧ lC_430 p l e s m below meth c D tc ad N b L xs A Qf z n ∧ lC_448 p l e s m below meth c D tc ad N b L xs A Qf z n ∧ lC_473 p l e s m below meth c D tc ad N b L xs A Qf z n ∧ lC_513 p l e s m below meth c D tc ad N b L xs A Qf z n ∧ lC_561 p l e s m below meth c D tc ad N b L xs A Qf z n ∧ lC_583 p l e s m below meth c D tc ad N b L xs A Qf z n ∧ lC_608 p l e s m below meth c D tc ad N b L xs A Qf z n ∧ lC_696 p l e s m below meth c D tc ad N b L xs A Qf z n ∧ lC_702 p l e s m below meth c D tc ad N b L xs A Qf z n ∧ lC_749 p l e s m below meth c D tc ad N b L xs A Qf z n ∧ lC_847 p l e s m below meth c D tc ad N b L xs A Qf z n ∧ lC_850 p l e s m below meth c D tc ad N b L xs A Qf z n ∧ lC_883 p l e s m below meth c D tc ad N b L xs A Qf z n ∧ lC_929 p l e s m below meth c D tc ad N b L xs A Qf z n ∧ lC_943 p l e s m below meth c D tc ad N b L xs A Qf z n ∧ lC_957 p l e s m below meth c D tc ad N b L xs A Qf z n ∧ lC_963 p l e s m below meth c D tc ad N b L xs A Qf z n ∧ lC_1031 p l e s m below meth c D tc ad N b L xs A Qf z n) : lC_286 p l e s m below meth c D tc ad N b L xs A Qf z (n + 1) := by
  intro NL adL m1 kc ks r1 r2 i3 i4 i5 i6 i7 i8 r9 i10 i11 i12 i13 r14 i15 i16 H locs ls hNN hE hc hs hO n_r1 n_r2 n_r9 n_r14 h hP hD hS hl
  have h : fB_L_law_286 L xs (fL_L_law L xs n) NL m1 kc ks r1 r2 i3 i4 i5 i6 i7 i8 r9 i10 i11 i12 i13 r14 i15 i16 0 0 0 0 0 0 0 0 0 0 = some z := fE_L_law_286.symm.trans h
  unfold fB_L_law_286 at h
  refine lv_iload hx hb dL_law_286 (lv_at hl 15 rfl) ?_
  refine lv_iload_n hx hb dL_law_288 rfl (lv_at hl 2 rfl) ?_
  refine lv_icmp_ge (tgt := 816) hx hb dL_law_289 (by decide) (fun c1 => ?_) (fun c1 => ?_)
  · rw [if_pos c1] at h
    refine lv_iload hx hb dL_law_816 (lv_at hl 12 rfl) ?_
    refine lv_iload hx hb dL_law_818 (lv_at hl 11 rfl) ?_
    refine lv_icmp_ne (tgt := 845) hx hb dL_law_820 (by decide) (fun c2 => ?_) (fun c2 => ?_)
    · rw [if_neg c2] at h
      refine lv_iconst (v := 0) hx hb dL_law_845 (by decide) ?_
      have hz := Option.some.inj h
      rw [← hz] at hz1
      exact absurd (show (0 : Int32) = 1 from hz1) (by decide)
    · rw [if_pos c2] at h
      refine lv_aload_n hx hb dL_law_823 rfl (lv_at hl 0 rfl) ?_
      refine lv_bipush (v := 8) hx hb dL_law_824 (by decide) ?_
      obtain ⟨g3, h⟩ := vg_if h
      obtain ⟨q4, g5, h⟩ := vg_bind h
      refine va_calli (va_runV (As := [.int 8]) (rest := []) ⟨hx, hb, hml, hown, hts⟩ (cm_X3_count (m0 := m1) l D tc adL hO n_r1 g5) (cwV 1 hts gL_law_X3_count rfl rfl rfl (by decide +kernel) ⟨(Nat.le_of_ble_eq_true rfl), (Nat.le_of_ble_eq_true rfl)⟩) ⟨qR_blind, va_recv hK hP (ci := 3) (q0 := r1) rfl (vW_k3 n_r1 g3), qR_pre hP hK hZ⟩ rfl rfl hl.1 rfl (lv_room (Nat.le_of_ble_eq_true rfl)) dL_law_826 ⟨vRc hc, vRs hs⟩) hS (fun q9 _ h9 => h9.elim) (fun q9 h9 => h9.elim) (fun w6 u t H1 locs ht hvm hw hB hz1 hk1 hS => ?_)
      have hP := hP.kept (fun k9 q9 hk9 => hk1 q9.1 (hP k9 q9 hk9).lt (fun h9 => h9))
      generalize H1 = H at hP hS ⊢
      clear hk1 hz1 ht hvm
      have hw : w6 = q4 := hw
      rw [hw]
      refine lv_iload hx hb dL_law_829 (lv_at hl 14 rfl) ?_
      refine lv_icmp_ne (tgt := 845) hx hb dL_law_831 (by decide) (fun c7 => ?_) (fun c7 => ?_)
      · rw [if_neg c7] at h
        refine lv_iconst (v := 0) hx hb dL_law_845 (by decide) ?_
        have hz := Option.some.inj h
        rw [← hz] at hz1
        exact absurd (show (0 : Int32) = 1 from hz1) (by decide)
      · rw [if_pos c7] at h
        refine lv_aload_n hx hb dL_law_834 rfl (lv_at hl 0 rfl) ?_
        refine lv_bipush (v := 6) hx hb dL_law_835 (by decide) ?_
        obtain ⟨q8, g9, h⟩ := vg_bind h
        refine va_calli (va_runV (As := [.int 6]) (rest := []) ⟨hx, hb, hml, hown, hts⟩ (cm_X3_count (m0 := m1) l D tc adL hO n_r1 g9) (cwV 1 hts gL_law_X3_count rfl rfl rfl (by decide +kernel) ⟨(Nat.le_of_ble_eq_true rfl), (Nat.le_of_ble_eq_true rfl)⟩) ⟨qR_blind, va_recv hK hP (ci := 3) (q0 := r1) rfl (vW_k3 n_r1 g3), qR_pre hP hK hZ⟩ rfl rfl hl.1 rfl (lv_room (Nat.le_of_ble_eq_true rfl)) dL_law_837 ⟨vRc hc, vRs hs⟩) hS (fun q9 _ h9 => h9.elim) (fun q9 h9 => h9.elim) (fun w10 u t H1 locs ht hvm hw hB hz1 hk1 hS => ?_)
        have hP := hP.kept (fun k9 q9 hk9 => hk1 q9.1 (hP k9 q9 hk9).lt (fun h9 => h9))
        generalize H1 = H at hP hS ⊢
        clear hk1 hz1 ht hvm
        have hw : w10 = q8 := hw
        rw [hw]
        refine lv_bipush (v := 60) hx hb dL_law_840 (by decide) ?_
        refine lv_icmp_le (tgt := 847) hx hb dL_law_842 (by decide) (fun c11 => ?_) (fun c11 => ?_)
        · rw [if_pos c11] at h
          exact (ih.2.2.2.2.2.2.2.2.2.2.2.2.2.2.2.2.2.2.2.1) NL adL m1 kc ks r1 r2 i3 i4 i5 i6 i7 i8 r9 i10 i11 i12 i13 r14 i15 i16 _ _ _ hNN hE hc hs hO n_r1 n_r2 n_r9 n_r14 h hP hD hS (lv_sub hl (l' := [(1, .ref (adL r1)), (2, .ref (adL r2)), (3, .int i3), (4, .int i4), (5, .int i5), (6, .int i6), (7, .int i7), (8, .int i8), (9, .ref (adL r9)), (10, .int i10), (11, .int i11), (12, .int i12), (13, .int i13), (14, .ref (adL r14)), (15, .int i15), (16, .int i16), (0, .ref b)]) [0, 1, 2, 3, 4, 5, 6, 7, 8, 9, 10, 11, 12, 13, 14, 15, 16] rfl)
        · rw [if_neg c11] at h
          refine lv_iconst (v := 0) hx hb dL_law_845 (by decide) ?_
          have hz := Option.some.inj h
          rw [← hz] at hz1
          exact absurd (show (0 : Int32) = 1 from hz1) (by decide)
  · rw [if_neg c1] at h
    refine lv_aload_n hx hb dL_law_292 rfl (lv_at hl 0 rfl) ?_
    refine lv_iload hx hb dL_law_293 (lv_at hl 15 rfl) ?_
    refine lv_iconst (v := 0) hx hb dL_law_295 (by decide) ?_
    obtain ⟨g12, h⟩ := vg_if h
    obtain ⟨q13, g14, h⟩ := vg_bind h
    refine va_calli (va_runV (As := [.int i16, .int 0]) (rest := []) ⟨hx, hb, hml, hown, hts⟩ (cm_X3_door (m0 := m1) l D tc adL hO n_r1 g14) (cwV 2 hts gL_law_X3_door rfl rfl rfl (by decide +kernel) ⟨(Nat.le_of_ble_eq_true rfl), (Nat.le_of_ble_eq_true rfl)⟩) ⟨qR_blind, va_recv hK hP (ci := 3) (q0 := r1) rfl (vW_k3 n_r1 g12), qR_pre hP hK hZ⟩ rfl rfl hl.1 rfl (lv_room (Nat.le_of_ble_eq_true rfl)) dL_law_296 ⟨vRc hc, vRs hs⟩) hS (fun q9 _ h9 => h9.elim) (fun q9 h9 => h9.elim) (fun w15 u t H1 locs ht hvm hw hB hz1 hk1 hS => ?_)
    have hP := hP.kept (fun k9 q9 hk9 => hk1 q9.1 (hP k9 q9 hk9).lt (fun h9 => h9))
    generalize H1 = H at hP hS ⊢
    clear hk1 hz1 ht hvm
    have hw : w15 = q13 := hw
    rw [hw]
    refine lv_istore (lv' := [(17, .int q13), (1, .ref (adL r1)), (2, .ref (adL r2)), (3, .int i3), (4, .int i4), (5, .int i5), (6, .int i6), (7, .int i7), (8, .int i8), (9, .ref (adL r9)), (10, .int i10), (11, .int i11), (12, .int i12), (13, .int i13), (14, .ref (adL r14)), (15, .int i15), (16, .int i16), (0, .ref b)]) hx hb dL_law_299 hl (by decide) rfl (fun ls hl => ?_)
    refine lv_aload_n hx hb dL_law_301 rfl (lv_at hl 1 rfl) ?_
    refine lv_iload hx hb dL_law_302 (lv_at hl 16 rfl) ?_
    refine lv_iconst (v := 1) hx hb dL_law_304 (by decide) ?_
    obtain ⟨q16, g17, h⟩ := vg_bind h
    refine va_calli (va_runV (As := [.int i16, .int 1]) (rest := []) ⟨hx, hb, hml, hown, hts⟩ (cm_X3_door (m0 := m1) l D tc adL hO n_r1 g17) (cwV 2 hts gL_law_X3_door rfl rfl rfl (by decide +kernel) ⟨(Nat.le_of_ble_eq_true rfl), (Nat.le_of_ble_eq_true rfl)⟩) ⟨qR_blind, va_recv hK hP (ci := 3) (q0 := r1) rfl (vW_k3 n_r1 g12), qR_pre hP hK hZ⟩ rfl rfl hl.1 rfl (lv_room (Nat.le_of_ble_eq_true rfl)) dL_law_305 ⟨vRc hc, vRs hs⟩) hS (fun q9 _ h9 => h9.elim) (fun q9 h9 => h9.elim) (fun w18 u t H1 locs ht hvm hw hB hz1 hk1 hS => ?_)
    have hP := hP.kept (fun k9 q9 hk9 => hk1 q9.1 (hP k9 q9 hk9).lt (fun h9 => h9))
    generalize H1 = H at hP hS ⊢
    clear hk1 hz1 ht hvm
    have hw : w18 = q16 := hw
    rw [hw]
    refine lv_istore (lv' := [(18, .int q16), (17, .int q13), (1, .ref (adL r1)), (2, .ref (adL r2)), (3, .int i3), (4, .int i4), (5, .int i5), (6, .int i6), (7, .int i7), (8, .int i8), (9, .ref (adL r9)), (10, .int i10), (11, .int i11), (12, .int i12), (13, .int i13), (14, .ref (adL r14)), (15, .int i15), (16, .int i16), (0, .ref b)]) hx hb dL_law_308 hl (by decide) rfl (fun ls hl => ?_)
    refine lv_aload hx hb dL_law_310 (lv_at hl 10 rfl) ?_
    refine lv_iload hx hb dL_law_312 (lv_at hl 17 rfl) ?_
    obtain ⟨g19, h⟩ := vg_if h
    obtain ⟨g20, h⟩ := vg_if h
    obtain ⟨y21, g22, h⟩ := vg_bind h
    have n_y21 := hO _ _ _ g22
    refine wm_aald8 hx hb hK hP n_r9 g19 (i := i16) g20 dL_law_314 ?_
    refine W.eq (g2 := F0 m 315 ls [.ref (adL y21)]) (by show F0 m 315 ls (va_rf (Option.map adL (mr m1 r9 i16.toNatClampNeg)) :: _) = _; rw [g22]; rfl) ?_
    refine lv_iconst (v := 0) hx hb dL_law_315 (by decide) ?_
    obtain ⟨g23, h⟩ := vg_if h
    obtain ⟨g24, h⟩ := vg_if h
    refine va_iald (D := D) hx hb hK hP y21 0 (vW_k6 n_y21 g23) rfl (i := 0) g24 dL_law_316 ?_
    refine W.eq (g2 := F0 m 317 ls [.int (mi m1 y21 0)]) rfl ?_
    refine lv_istore (lv' := [(19, .int (mi m1 y21 0)), (18, .int q16), (17, .int q13), (1, .ref (adL r1)), (2, .ref (adL r2)), (3, .int i3), (4, .int i4), (5, .int i5), (6, .int i6), (7, .int i7), (8, .int i8), (9, .ref (adL r9)), (10, .int i10), (11, .int i11), (12, .int i12), (13, .int i13), (14, .ref (adL r14)), (15, .int i15), (16, .int i16), (0, .ref b)]) hx hb dL_law_317 hl (by decide) rfl (fun ls hl => ?_)
    refine lv_aload_n hx hb dL_law_319 rfl (lv_at hl 3 rfl) ?_
    refine lv_iload hx hb dL_law_320 (lv_at hl 18 rfl) ?_
    refine lv_bipush (v := 7) hx hb dL_law_322 (by decide) ?_
    obtain ⟨q25, g26, h⟩ := vg_bind h
    refine va_calli (va_runV (As := [.int i16, .int 7]) (rest := []) ⟨hx, hb, hml, hown, hts⟩ (cm_X3_door (m0 := m1) l D tc adL hO n_r1 g26) (cwV 2 hts gL_law_X3_door rfl rfl rfl (by decide +kernel) ⟨(Nat.le_of_ble_eq_true rfl), (Nat.le_of_ble_eq_true rfl)⟩) ⟨qR_blind, va_recv hK hP (ci := 3) (q0 := r1) rfl (vW_k3 n_r1 g12), qR_pre hP hK hZ⟩ rfl rfl hl.1 rfl (lv_room (Nat.le_of_ble_eq_true rfl)) dL_law_324 ⟨vRc hc, vRs hs⟩) hS (fun q9 _ h9 => h9.elim) (fun q9 h9 => h9.elim) (fun w27 u t H1 locs ht hvm hw hB hz1 hk1 hS => ?_)
    have hP := hP.kept (fun k9 q9 hk9 => hk1 q9.1 (hP k9 q9 hk9).lt (fun h9 => h9))
    generalize H1 = H at hP hS ⊢
    clear hk1 hz1 ht hvm
    have hw : w27 = q25 := hw
    rw [hw]
    refine lv_aload hx hb dL_law_327 (lv_at hl 11 rfl) ?_
    refine lv_iload hx hb dL_law_329 (lv_at hl 18 rfl) ?_
    obtain ⟨g28, h⟩ := vg_if h
    obtain ⟨y29, g30, h⟩ := vg_bind h
    have n_y29 := hO _ _ _ g30
    refine wm_aald8 hx hb hK hP n_r9 g19 (i := i16) g28 dL_law_331 ?_
    refine W.eq (g2 := F0 m 332 ls [.ref (adL y29), .int q25]) (by show F0 m 332 ls (va_rf (Option.map adL (mr m1 r9 i16.toNatClampNeg)) :: _) = _; rw [g30]; rfl) ?_
    refine lv_bipush (v := 7) hx hb dL_law_332 (by decide) ?_
    obtain ⟨g31, h⟩ := vg_if h
    obtain ⟨g32, h⟩ := vg_if h
    refine va_iald (D := D) hx hb hK hP y29 0 (vW_k6 n_y29 g31) rfl (i := 7) g32 dL_law_334 ?_
    refine W.eq (g2 := F0 m 335 ls [.int (mi m1 y29 7), .int q25]) rfl ?_
    refine lv_isub hx hb dL_law_335 ?_
    refine lv_istore (lv' := [(20, .int (q25 - (mi m1 y29 7))), (19, .int (mi m1 y21 0)), (18, .int q16), (17, .int q13), (1, .ref (adL r1)), (2, .ref (adL r2)), (3, .int i3), (4, .int i4), (5, .int i5), (6, .int i6), (7, .int i7), (8, .int i8), (9, .ref (adL r9)), (10, .int i10), (11, .int i11), (12, .int i12), (13, .int i13), (14, .ref (adL r14)), (15, .int i15), (16, .int i16), (0, .ref b)]) hx hb dL_law_336 hl (by decide) rfl (fun ls hl => ?_)
    refine lv_aload_n hx hb dL_law_338 rfl (lv_at hl 4 rfl) ?_
    refine lv_iload hx hb dL_law_339 (lv_at hl 19 rfl) ?_
    refine lv_bipush (v := 8) hx hb dL_law_341 (by decide) ?_
    obtain ⟨q33, g34, h⟩ := vg_bind h
    refine va_calli (va_runV (As := [.int i16, .int 8]) (rest := []) ⟨hx, hb, hml, hown, hts⟩ (cm_X3_door (m0 := m1) l D tc adL hO n_r1 g34) (cwV 2 hts gL_law_X3_door rfl rfl rfl (by decide +kernel) ⟨(Nat.le_of_ble_eq_true rfl), (Nat.le_of_ble_eq_true rfl)⟩) ⟨qR_blind, va_recv hK hP (ci := 3) (q0 := r1) rfl (vW_k3 n_r1 g12), qR_pre hP hK hZ⟩ rfl rfl hl.1 rfl (lv_room (Nat.le_of_ble_eq_true rfl)) dL_law_343 ⟨vRc hc, vRs hs⟩) hS (fun q9 _ h9 => h9.elim) (fun q9 h9 => h9.elim) (fun w35 u t H1 locs ht hvm hw hB hz1 hk1 hS => ?_)
    have hP := hP.kept (fun k9 q9 hk9 => hk1 q9.1 (hP k9 q9 hk9).lt (fun h9 => h9))
    generalize H1 = H at hP hS ⊢
    clear hk1 hz1 ht hvm
    have hw : w35 = q33 := hw
    rw [hw]
    refine lv_aload hx hb dL_law_346 (lv_at hl 12 rfl) ?_
    refine lv_iload hx hb dL_law_348 (lv_at hl 19 rfl) ?_
    obtain ⟨g36, h⟩ := vg_if h
    obtain ⟨y37, g38, h⟩ := vg_bind h
    have n_y37 := hO _ _ _ g38
    refine wm_aald8 hx hb hK hP n_r9 g19 (i := i16) g36 dL_law_350 ?_
    refine W.eq (g2 := F0 m 351 ls [.ref (adL y37), .int q33]) (by show F0 m 351 ls (va_rf (Option.map adL (mr m1 r9 i16.toNatClampNeg)) :: _) = _; rw [g38]; rfl) ?_
    refine lv_bipush (v := 8) hx hb dL_law_351 (by decide) ?_
    obtain ⟨g39, h⟩ := vg_if h
    obtain ⟨g40, h⟩ := vg_if h
    refine va_iald (D := D) hx hb hK hP y37 0 (vW_k6 n_y37 g39) rfl (i := 8) g40 dL_law_353 ?_
    refine W.eq (g2 := F0 m 354 ls [.int (mi m1 y37 8), .int q33]) rfl ?_
    refine lv_isub hx hb dL_law_354 ?_
    refine lv_istore (lv' := [(21, .int (q33 - (mi m1 y37 8))), (20, .int (q25 - (mi m1 y29 7))), (19, .int (mi m1 y21 0)), (18, .int q16), (17, .int q13), (1, .ref (adL r1)), (2, .ref (adL r2)), (3, .int i3), (4, .int i4), (5, .int i5), (6, .int i6), (7, .int i7), (8, .int i8), (9, .ref (adL r9)), (10, .int i10), (11, .int i11), (12, .int i12), (13, .int i13), (14, .ref (adL r14)), (15, .int i15), (16, .int i16), (0, .ref b)]) hx hb dL_law_355 hl (by decide) rfl (fun ls hl => ?_)
    refine lv_aload hx hb dL_law_357 (lv_at hl 18 rfl) ?_
    refine lv_iload hx hb dL_law_359 (lv_at hl 4 rfl) ?_
    refine lv_dup2_11 hx hb dL_law_361 rfl rfl ?_
    obtain ⟨g41, h⟩ := vg_if h
    obtain ⟨g42, h⟩ := vg_if h
    refine va_iald (D := D) hx hb hK hP r14 0 (vW_k6 n_r14 g41) rfl (i := q13) g42 dL_law_362 ?_
    refine lv_iconst (v := 1) hx hb dL_law_363 (by decide) ?_
    refine lv_iadd hx hb dL_law_364 ?_
    obtain ⟨g43, h⟩ := vg_if h
    refine va_iast (D := D) hx hb hK hP hD hS r14 0 (vW_k6 n_r14 g41) rfl (i := q13) (x := (mi m1 r14 q13.toNatClampNeg) + 1) g43 dL_law_365 (fun H locs hP hD hS => ?_)
    rw [vW_p6 (m := m1) n_r14 g41] at hP hD
    have hO44 := vOK.I (a := r14) (j := q13.toNatClampNeg) (v := ((mi m1 r14 q13.toNatClampNeg) + 1)) hO
    have hP : va_P D vwCl (vW tc adL NL ((mI m1 r14 q13.toNatClampNeg ((mi m1 r14 q13.toNatClampNeg) + 1)))) H := hP
    have hD : va_D A (vW tc adL NL ((mI m1 r14 q13.toNatClampNeg ((mi m1 r14 q13.toNatClampNeg) + 1)))) := hD
    refine lv_iload hx hb dL_law_366 (lv_at hl 17 rfl) ?_
    refine lv_iload hx hb dL_law_368 (lv_at hl 1 rfl) ?_
    refine lv_iadd hx hb dL_law_370 ?_
    refine lv_istore (lv' := [(13, .int (i13 + (q25 - (mi m1 y29 7)))), (21, .int (q33 - (mi m1 y37 8))), (20, .int (q25 - (mi m1 y29 7))), (19, .int (mi m1 y21 0)), (18, .int q16), (17, .int q13), (1, .ref (adL r1)), (2, .ref (adL r2)), (3, .int i3), (4, .int i4), (5, .int i5), (6, .int i6), (7, .int i7), (8, .int i8), (9, .ref (adL r9)), (10, .int i10), (11, .int i11), (12, .int i12), (14, .ref (adL r14)), (15, .int i15), (16, .int i16), (0, .ref b)]) hx hb dL_law_371 hl (by decide) rfl (fun ls hl => ?_)
    refine lv_iload hx hb dL_law_373 (lv_at hl 19 rfl) ?_
    refine lv_iload hx hb dL_law_375 (lv_at hl 5 rfl) ?_
    refine lv_iconst (v := 2) hx hb dL_law_377 (by decide) ?_
    refine lv_icmp_ne (tgt := 388) hx hb dL_law_378 (by decide) (fun c45 => ?_) (fun c45 => ?_)
    · rw [if_neg c45] at h
      refine lv_iconst (v := 0) hx hb dL_law_388 (by decide) ?_
      refine lv_iadd hx hb dL_law_389 ?_
      refine lv_istore (lv' := [(15, .int (i15 + 0)), (13, .int (i13 + (q25 - (mi m1 y29 7)))), (21, .int (q33 - (mi m1 y37 8))), (20, .int (q25 - (mi m1 y29 7))), (19, .int (mi m1 y21 0)), (18, .int q16), (17, .int q13), (1, .ref (adL r1)), (2, .ref (adL r2)), (3, .int i3), (4, .int i4), (5, .int i5), (6, .int i6), (7, .int i7), (8, .int i8), (9, .ref (adL r9)), (10, .int i10), (11, .int i11), (12, .int i12), (14, .ref (adL r14)), (16, .int i16), (0, .ref b)]) hx hb dL_law_390 hl (by decide) rfl (fun ls hl => ?_)
      exact (ih.2.2.2.2.2.2.1) NL adL ((mI m1 r14 q13.toNatClampNeg ((mi m1 r14 q13.toNatClampNeg) + 1))) kc ks r1 r2 i3 i4 i5 i6 i7 i8 r9 i10 i11 i12 (i13 + (q25 - (mi m1 y29 7))) r14 (i15 + 0) i16 q13 q16 (mi m1 y21 0) (q25 - (mi m1 y29 7)) (q33 - (mi m1 y37 8)) _ _ _ hNN hE hc hs hO44 n_r1 n_r2 n_r9 n_r14 h hP hD hS (lv_sub hl (l' := [(1, .ref (adL r1)), (2, .ref (adL r2)), (3, .int i3), (4, .int i4), (5, .int i5), (6, .int i6), (7, .int i7), (8, .int i8), (9, .ref (adL r9)), (10, .int i10), (11, .int i11), (12, .int i12), (13, .int (i13 + (q25 - (mi m1 y29 7)))), (14, .ref (adL r14)), (15, .int (i15 + 0)), (16, .int i16), (17, .int q13), (18, .int q16), (19, .int (mi m1 y21 0)), (20, .int (q25 - (mi m1 y29 7))), (21, .int (q33 - (mi m1 y37 8))), (0, .ref b)]) [7, 8, 9, 10, 11, 12, 13, 14, 15, 16, 17, 18, 1, 19, 0, 20, 6, 5, 4, 3, 2, 21] rfl)
    · rw [if_pos c45] at h
      refine lv_iconst (v := 1) hx hb dL_law_381 (by decide) ?_
      refine lv_iload hx hb dL_law_382 (lv_at hl 20 rfl) ?_
      refine lv_ishl hx hb dL_law_384 ?_
      refine lv_goto (tgt := 389) hx hb dL_law_385 (by decide) ?_
      refine lv_iadd hx hb dL_law_389 ?_
      refine lv_istore (lv' := [(15, .int (i15 + (1 <<< (i16 &&& 31)))), (13, .int (i13 + (q25 - (mi m1 y29 7)))), (21, .int (q33 - (mi m1 y37 8))), (20, .int (q25 - (mi m1 y29 7))), (19, .int (mi m1 y21 0)), (18, .int q16), (17, .int q13), (1, .ref (adL r1)), (2, .ref (adL r2)), (3, .int i3), (4, .int i4), (5, .int i5), (6, .int i6), (7, .int i7), (8, .int i8), (9, .ref (adL r9)), (10, .int i10), (11, .int i11), (12, .int i12), (14, .ref (adL r14)), (16, .int i16), (0, .ref b)]) hx hb dL_law_390 hl (by decide) rfl (fun ls hl => ?_)
      exact (ih.2.2.2.2.2.2.1) NL adL ((mI m1 r14 q13.toNatClampNeg ((mi m1 r14 q13.toNatClampNeg) + 1))) kc ks r1 r2 i3 i4 i5 i6 i7 i8 r9 i10 i11 i12 (i13 + (q25 - (mi m1 y29 7))) r14 (i15 + (1 <<< (i16 &&& 31))) i16 q13 q16 (mi m1 y21 0) (q25 - (mi m1 y29 7)) (q33 - (mi m1 y37 8)) _ _ _ hNN hE hc hs hO44 n_r1 n_r2 n_r9 n_r14 h hP hD hS (lv_sub hl (l' := [(1, .ref (adL r1)), (2, .ref (adL r2)), (3, .int i3), (4, .int i4), (5, .int i5), (6, .int i6), (7, .int i7), (8, .int i8), (9, .ref (adL r9)), (10, .int i10), (11, .int i11), (12, .int i12), (13, .int (i13 + (q25 - (mi m1 y29 7)))), (14, .ref (adL r14)), (15, .int (i15 + (1 <<< (i16 &&& 31)))), (16, .int i16), (17, .int q13), (18, .int q16), (19, .int (mi m1 y21 0)), (20, .int (q25 - (mi m1 y29 7))), (21, .int (q33 - (mi m1 y37 8))), (0, .ref b)]) [7, 8, 9, 10, 11, 12, 13, 14, 15, 16, 17, 18, 1, 19, 0, 20, 6, 5, 4, 3, 2, 21] rfl)
set_option maxHeartbeats 1000000 in
set_option maxRecDepth 100000 in
theorem law_b392 {p : Program} {l : Launch} {e : Env} {s : State} {m : MethodId} {below : List Frame} {meth : Method} {c : Code} {D : va_G} {tc : Nat → ClassId} {ad : Nat → Nat} {N b L : Nat} {xs : Nat → Int32} {A : Nat → Prop} {Qf : State → Prop} {z : Int32 × Nat × vM} (hx : p.tables.exec = Jvm.exec) (hb : c.code = code) (hml : c.maxLocals = 27) (hown : s.vm.findClass RL = some m.cls) (hts : ∀ w ∈ wsL_law, w.before #[Value.ref b] s = true) (hX : va_X b L xs s s.heap) (hbl : b < s.heap.size) (hbA : ¬ A b) (hA : ∀ q : Nat, s.heap.size ≤ q → A q) (hK : va_K D vwCl (vT tc) s) (hZ : vZ tc s) (hend : ∀ (H : Heap) (locs : List Loc) (ls : Array Slot), va_S A s.heap H locs → W p l e room_1 s m #[Value.ref b] below meth c H locs room_1.cells room_1.slots Qf (F0 m 1061 ls [.int 1])) (hz1 : z.1 = 1) {n : Nat} (ih : lC_29 p l e s m below meth c D tc ad N b L xs A Qf z n ∧ lC_90 p l e s m below meth c D tc ad N b L xs A Qf z n ∧ lC_123 p l e s m below meth c D tc ad N b L xs A Qf z n ∧ lC_132 p l e s m below meth c D tc ad N b L xs A Qf z n ∧ lC_272 p l e s m below meth c D tc ad N b L xs A Qf z n ∧ lC_286 p l e s m below meth c D tc ad N b L xs A Qf z n ∧ lC_392 p l e s m below meth c D tc ad N b L xs A Qf z n ∧ lC_402 p l e s m below meth c D tc ad N b L xs A Qf z n ∧ lC_411 p l e s m below meth c D tc ad N b L xs A Qf z n ∧ lC_430 p l e s m below meth c D tc ad N b L xs A Qf z n ∧ lC_448 p l e s m below meth c D tc ad N b L xs A Qf z n ∧ lC_473 p l e s m below meth c D tc ad N b L xs A Qf z n ∧ lC_513 p l e s m below meth c D tc ad N b L xs A Qf z n ∧ lC_561 p l e s m below meth c D tc ad N b L xs A Qf z n ∧ lC_583 p l e s m below meth c D tc ad N b L xs A Qf z n ∧ lC_608 p l e s m below meth c D tc ad N b L xs A Qf z n ∧ lC_696 p l e s m below meth c D tc ad N b L xs A Qf z n ∧ lC_702 p l e s m below meth c D tc ad N b L xs A Qf z n ∧ lC_749 p l e s m below meth c D tc ad N b L xs A Qf z n ∧ lC_847 p l e s m below meth c D tc ad N b L xs A Qf z n ∧ lC_850 p l e s m below meth c D tc ad N b L xs A Qf z n ∧ lC_883 p l e s m below meth c D tc ad N b L xs A Qf z n ∧ lC_929 p l e s m below meth c D tc ad N b L xs A Qf z n ∧ lC_943 p l e s m below meth c D tc ad N b L xs A Qf z n ∧ lC_957 p l e s m below meth c D tc ad N b L xs A Qf z n ∧ lC_963 p l e s m below meth c D tc ad N b L xs A Qf z n ∧ lC_1031 p l e s m below meth c D tc ad N b L xs A Qf z n) : lC_392 p l e s m below meth c D tc ad N b L xs A Qf z (n + 1) := by
  intro NL adL m1 kc ks r1 r2 i3 i4 i5 i6 i7 i8 r9 i10 i11 i12 i13 r14 i15 i16 i17 i18 i19 i20 i21 H locs ls hNN hE hc hs hO n_r1 n_r2 n_r9 n_r14 h hP hD hS hl
  have h : fB_L_law_392 L xs (fL_L_law L xs n) NL m1 kc ks r1 r2 i3 i4 i5 i6 i7 i8 r9 i10 i11 i12 i13 r14 i15 i16 i17 i18 i19 i20 i21 0 0 0 0 0 = some z := fE_L_law_392.symm.trans h
  unfold fB_L_law_392 at h
  refine lv_iload hx hb dL_law_392 (lv_at hl 19 rfl) ?_
  refine lv_if_lt (tgt := 471) hx hb dL_law_394 (by decide) (fun c1 => ?_) (fun c1 => ?_)
  · rw [if_pos c1] at h
    refine lv_iconst (v := 0) hx hb dL_law_471 (by decide) ?_
    have hz := Option.some.inj h
    rw [← hz] at hz1
    exact absurd (show (0 : Int32) = 1 from hz1) (by decide)
  · rw [if_neg c1] at h
    refine lv_iload hx hb dL_law_397 (lv_at hl 20 rfl) ?_
    refine lv_if_lt (tgt := 471) hx hb dL_law_399 (by decide) (fun c2 => ?_) (fun c2 => ?_)
    · rw [if_pos c2] at h
      refine lv_iconst (v := 0) hx hb dL_law_471 (by decide) ?_
      have hz := Option.some.inj h
      rw [← hz] at hz1
      exact absurd (show (0 : Int32) = 1 from hz1) (by decide)
    · rw [if_neg c2] at h
      exact (ih.2.2.2.2.2.2.2.1) NL adL m1 kc ks r1 r2 i3 i4 i5 i6 i7 i8 r9 i10 i11 i12 i13 r14 i15 i16 i17 i18 i19 i20 i21 _ _ _ hNN hE hc hs hO n_r1 n_r2 n_r9 n_r14 h hP hD hS (lv_sub hl (l' := [(1, .ref (adL r1)), (2, .ref (adL r2)), (3, .int i3), (4, .int i4), (5, .int i5), (6, .int i6), (7, .int i7), (8, .int i8), (9, .ref (adL r9)), (10, .int i10), (11, .int i11), (12, .int i12), (13, .int i13), (14, .ref (adL r14)), (15, .int i15), (16, .int i16), (17, .int i17), (18, .int i18), (19, .int i19), (20, .int i20), (21, .int i21), (0, .ref b)]) [0, 1, 2, 3, 4, 5, 6, 7, 8, 9, 10, 11, 12, 13, 14, 15, 16, 17, 18, 19, 20, 21] rfl)
set_option maxHeartbeats 1000000 in
set_option maxRecDepth 100000 in
theorem law_b402 {p : Program} {l : Launch} {e : Env} {s : State} {m : MethodId} {below : List Frame} {meth : Method} {c : Code} {D : va_G} {tc : Nat → ClassId} {ad : Nat → Nat} {N b L : Nat} {xs : Nat → Int32} {A : Nat → Prop} {Qf : State → Prop} {z : Int32 × Nat × vM} (hx : p.tables.exec = Jvm.exec) (hb : c.code = code) (hml : c.maxLocals = 27) (hown : s.vm.findClass RL = some m.cls) (hts : ∀ w ∈ wsL_law, w.before #[Value.ref b] s = true) (hX : va_X b L xs s s.heap) (hbl : b < s.heap.size) (hbA : ¬ A b) (hA : ∀ q : Nat, s.heap.size ≤ q → A q) (hK : va_K D vwCl (vT tc) s) (hZ : vZ tc s) (hend : ∀ (H : Heap) (locs : List Loc) (ls : Array Slot), va_S A s.heap H locs → W p l e room_1 s m #[Value.ref b] below meth c H locs room_1.cells room_1.slots Qf (F0 m 1061 ls [.int 1])) (hz1 : z.1 = 1) {n : Nat} (ih : lC_29 p l e s m below meth c D tc ad N b L xs A Qf z n ∧ lC_90 p l e s m below meth c D tc ad N b L xs A Qf z n ∧ lC_123 p l e s m below meth c D tc ad N b L xs A Qf z n ∧ lC_132 p l e s m below meth c D tc ad N b L xs A Qf z n ∧ lC_272 p l e s m below meth c D tc ad N b L xs A Qf z n ∧ lC_286 p l e s m below meth c D tc ad N b L xs A Qf z n ∧ lC_392 p l e s m below meth c D tc ad N b L xs A Qf z n ∧ lC_402 p l e s m below meth c D tc ad N b L xs A Qf z n ∧ lC_411 p l e s m below meth c D tc ad N b L xs A Qf z n ∧ lC_430 p l e s m below meth c D tc ad N b L xs A Qf z n ∧ lC_448 p l e s m below meth c D tc ad N b L xs A Qf z n ∧ lC_473 p l e s m below meth c D tc ad N b L xs A Qf z n ∧ lC_513 p l e s m below meth c D tc ad N b L xs A Qf z n ∧ lC_561 p l e s m below meth c D tc ad N b L xs A Qf z n ∧ lC_583 p l e s m below meth c D tc ad N b L xs A Qf z n ∧ lC_608 p l e s m below meth c D tc ad N b L xs A Qf z n ∧ lC_696 p l e s m below meth c D tc ad N b L xs A Qf z n ∧ lC_702 p l e s m below meth c D tc ad N b L xs A Qf z n ∧ lC_749 p l e s m below meth c D tc ad N b L xs A Qf z n ∧ lC_847 p l e s m below meth c D tc ad N b L xs A Qf z n ∧ lC_850 p l e s m below meth c D tc ad N b L xs A Qf z n ∧ lC_883 p l e s m below meth c D tc ad N b L xs A Qf z n ∧ lC_929 p l e s m below meth c D tc ad N b L xs A Qf z n ∧ lC_943 p l e s m below meth c D tc ad N b L xs A Qf z n ∧ lC_957 p l e s m below meth c D tc ad N b L xs A Qf z n ∧ lC_963 p l e s m below meth c D tc ad N b L xs A Qf z n ∧ lC_1031 p l e s m below meth c D tc ad N b L xs A Qf z n) : lC_402 p l e s m below meth c D tc ad N b L xs A Qf z (n + 1) := by
  intro NL adL m1 kc ks r1 r2 i3 i4 i5 i6 i7 i8 r9 i10 i11 i12 i13 r14 i15 i16 i17 i18 i19 i20 i21 H locs ls hNN hE hc hs hO n_r1 n_r2 n_r9 n_r14 h hP hD hS hl
  have h : fB_L_law_402 L xs (fL_L_law L xs n) NL m1 kc ks r1 r2 i3 i4 i5 i6 i7 i8 r9 i10 i11 i12 i13 r14 i15 i16 i17 i18 i19 i20 i21 0 0 0 0 0 = some z := fE_L_law_402.symm.trans h
  unfold fB_L_law_402 at h
  refine lv_iload hx hb dL_law_402 (lv_at hl 19 rfl) ?_
  refine lv_iload hx hb dL_law_404 (lv_at hl 20 rfl) ?_
  refine lv_iadd hx hb dL_law_406 ?_
  refine lv_iconst (v := 1) hx hb dL_law_407 (by decide) ?_
  refine lv_icmp_gt (tgt := 471) hx hb dL_law_408 (by decide) (fun c1 => ?_) (fun c1 => ?_)
  · rw [if_pos c1] at h
    refine lv_iconst (v := 0) hx hb dL_law_471 (by decide) ?_
    have hz := Option.some.inj h
    rw [← hz] at hz1
    exact absurd (show (0 : Int32) = 1 from hz1) (by decide)
  · rw [if_neg c1] at h
    exact (ih.2.2.2.2.2.2.2.2.1) NL adL m1 kc ks r1 r2 i3 i4 i5 i6 i7 i8 r9 i10 i11 i12 i13 r14 i15 i16 i17 i18 i19 i20 i21 _ _ _ hNN hE hc hs hO n_r1 n_r2 n_r9 n_r14 h hP hD hS (lv_sub hl (l' := [(1, .ref (adL r1)), (2, .ref (adL r2)), (3, .int i3), (4, .int i4), (5, .int i5), (6, .int i6), (7, .int i7), (8, .int i8), (9, .ref (adL r9)), (10, .int i10), (11, .int i11), (12, .int i12), (13, .int i13), (14, .ref (adL r14)), (15, .int i15), (16, .int i16), (17, .int i17), (18, .int i18), (19, .int i19), (20, .int i20), (21, .int i21), (0, .ref b)]) [0, 1, 2, 3, 4, 5, 6, 7, 8, 9, 10, 11, 12, 13, 14, 15, 16, 17, 18, 19, 20, 21] rfl)
set_option maxHeartbeats 1000000 in
set_option maxRecDepth 100000 in
theorem law_b411 {p : Program} {l : Launch} {e : Env} {s : State} {m : MethodId} {below : List Frame} {meth : Method} {c : Code} {D : va_G} {tc : Nat → ClassId} {ad : Nat → Nat} {N b L : Nat} {xs : Nat → Int32} {A : Nat → Prop} {Qf : State → Prop} {z : Int32 × Nat × vM} (hx : p.tables.exec = Jvm.exec) (hb : c.code = code) (hml : c.maxLocals = 27) (hown : s.vm.findClass RL = some m.cls) (hts : ∀ w ∈ wsL_law, w.before #[Value.ref b] s = true) (hX : va_X b L xs s s.heap) (hbl : b < s.heap.size) (hbA : ¬ A b) (hA : ∀ q : Nat, s.heap.size ≤ q → A q) (hK : va_K D vwCl (vT tc) s) (hZ : vZ tc s) (hend : ∀ (H : Heap) (locs : List Loc) (ls : Array Slot), va_S A s.heap H locs → W p l e room_1 s m #[Value.ref b] below meth c H locs room_1.cells room_1.slots Qf (F0 m 1061 ls [.int 1])) (hz1 : z.1 = 1) {n : Nat} (ih : lC_29 p l e s m below meth c D tc ad N b L xs A Qf z n ∧ lC_90 p l e s m below meth c D tc ad N b L xs A Qf z n ∧ lC_123 p l e s m below meth c D tc ad N b L xs A Qf z n ∧ lC_132 p l e s m below meth c D tc ad N b L xs A Qf z n ∧ lC_272 p l e s m below meth c D tc ad N b L xs A Qf z n ∧ lC_286 p l e s m below meth c D tc ad N b L xs A Qf z n ∧ lC_392 p l e s m below meth c D tc ad N b L xs A Qf z n ∧ lC_402 p l e s m below meth c D tc ad N b L xs A Qf z n ∧ lC_411 p l e s m below meth c D tc ad N b L xs A Qf z n ∧ lC_430 p l e s m below meth c D tc ad N b L xs A Qf z n ∧ lC_448 p l e s m below meth c D tc ad N b L xs A Qf z n ∧ lC_473 p l e s m below meth c D tc ad N b L xs A Qf z n ∧ lC_513 p l e s m below meth c D tc ad N b L xs A Qf z n ∧ lC_561 p l e s m below meth c D tc ad N b L xs A Qf z n ∧ lC_583 p l e s m below meth c D tc ad N b L xs A Qf z n ∧ lC_608 p l e s m below meth c D tc ad N b L xs A Qf z n ∧ lC_696 p l e s m below meth c D tc ad N b L xs A Qf z n ∧ lC_702 p l e s m below meth c D tc ad N b L xs A Qf z n ∧ lC_749 p l e s m below meth c D tc ad N b L xs A Qf z n ∧ lC_847 p l e s m below meth c D tc ad N b L xs A Qf z n ∧ lC_850 p l e s m below meth c D tc ad N b L xs A Qf z n ∧ lC_883 p l e s m below meth c D tc ad N b L xs A Qf z n ∧ lC_929 p l e s m below meth c D tc ad N b L xs A Qf z n ∧ lC_943 p l e s m below meth c D tc ad N b L xs A Qf z n ∧ lC_957 p l e s m below meth c D tc ad N b L xs A Qf z n ∧ lC_963 p l e s m below meth c D tc ad N b L xs A Qf z n ∧ lC_1031 p l e s m below meth c D tc ad N b L xs A Qf z n) : lC_411 p l e s m below meth c D tc ad N b L xs A Qf z (n + 1) := by
  intro NL adL m1 kc ks r1 r2 i3 i4 i5 i6 i7 i8 r9 i10 i11 i12 i13 r14 i15 i16 i17 i18 i19 i20 i21 H locs ls hNN hE hc hs hO n_r1 n_r2 n_r9 n_r14 h hP hD hS hl
  have h : fB_L_law_411 L xs (fL_L_law L xs n) NL m1 kc ks r1 r2 i3 i4 i5 i6 i7 i8 r9 i10 i11 i12 i13 r14 i15 i16 i17 i18 i19 i20 i21 0 0 0 0 0 = some z := fE_L_law_411.symm.trans h
  unfold fB_L_law_411 at h
  refine lv_iload hx hb dL_law_411 (lv_at hl 19 rfl) ?_
  refine lv_iconst (v := 1) hx hb dL_law_413 (by decide) ?_
  refine lv_icmp_ne (tgt := 430) hx hb dL_law_414 (by decide) (fun c1 => ?_) (fun c1 => ?_)
  · rw [if_neg c1] at h
    exact (ih.2.2.2.2.2.2.2.2.2.1) NL adL m1 kc ks r1 r2 i3 i4 i5 i6 i7 i8 r9 i10 i11 i12 i13 r14 i15 i16 i17 i18 i19 i20 i21 _ _ _ hNN hE hc hs hO n_r1 n_r2 n_r9 n_r14 h hP hD hS (lv_sub hl (l' := [(1, .ref (adL r1)), (2, .ref (adL r2)), (3, .int i3), (4, .int i4), (5, .int i5), (6, .int i6), (7, .int i7), (8, .int i8), (9, .ref (adL r9)), (10, .int i10), (11, .int i11), (12, .int i12), (13, .int i13), (14, .ref (adL r14)), (15, .int i15), (16, .int i16), (17, .int i17), (18, .int i18), (19, .int i19), (20, .int i20), (21, .int i21), (0, .ref b)]) [0, 1, 2, 3, 4, 5, 6, 7, 8, 9, 10, 11, 12, 13, 14, 15, 16, 17, 18, 19, 20, 21] rfl)
  · rw [if_pos c1] at h
    refine lv_iload hx hb dL_law_417 (lv_at hl 16 rfl) ?_
    refine lv_iconst (v := 2) hx hb dL_law_419 (by decide) ?_
    refine lv_icmp_ne (tgt := 471) hx hb dL_law_420 (by decide) (fun c2 => ?_) (fun c2 => ?_)
    · rw [if_neg c2] at h
      refine lv_iconst (v := 0) hx hb dL_law_471 (by decide) ?_
      have hz := Option.some.inj h
      rw [← hz] at hz1
      exact absurd (show (0 : Int32) = 1 from hz1) (by decide)
    · rw [if_pos c2] at h
      refine lv_iload hx hb dL_law_423 (lv_at hl 17 rfl) ?_
      refine lv_bipush (v := 12) hx hb dL_law_425 (by decide) ?_
      refine lv_icmp_ne (tgt := 471) hx hb dL_law_427 (by decide) (fun c3 => ?_) (fun c3 => ?_)
      · rw [if_neg c3] at h
        refine lv_iconst (v := 0) hx hb dL_law_471 (by decide) ?_
        have hz := Option.some.inj h
        rw [← hz] at hz1
        exact absurd (show (0 : Int32) = 1 from hz1) (by decide)
      · rw [if_pos c3] at h
        exact (ih.2.2.2.2.2.2.2.2.2.1) NL adL m1 kc ks r1 r2 i3 i4 i5 i6 i7 i8 r9 i10 i11 i12 i13 r14 i15 i16 i17 i18 i19 i20 i21 _ _ _ hNN hE hc hs hO n_r1 n_r2 n_r9 n_r14 h hP hD hS (lv_sub hl (l' := [(1, .ref (adL r1)), (2, .ref (adL r2)), (3, .int i3), (4, .int i4), (5, .int i5), (6, .int i6), (7, .int i7), (8, .int i8), (9, .ref (adL r9)), (10, .int i10), (11, .int i11), (12, .int i12), (13, .int i13), (14, .ref (adL r14)), (15, .int i15), (16, .int i16), (17, .int i17), (18, .int i18), (19, .int i19), (20, .int i20), (21, .int i21), (0, .ref b)]) [0, 1, 2, 3, 4, 5, 6, 7, 8, 9, 10, 11, 12, 13, 14, 15, 16, 17, 18, 19, 20, 21] rfl)
set_option maxHeartbeats 1000000 in
set_option maxRecDepth 100000 in
theorem law_b430 {p : Program} {l : Launch} {e : Env} {s : State} {m : MethodId} {below : List Frame} {meth : Method} {c : Code} {D : va_G} {tc : Nat → ClassId} {ad : Nat → Nat} {N b L : Nat} {xs : Nat → Int32} {A : Nat → Prop} {Qf : State → Prop} {z : Int32 × Nat × vM} (hx : p.tables.exec = Jvm.exec) (hb : c.code = code) (hml : c.maxLocals = 27) (hown : s.vm.findClass RL = some m.cls) (hts : ∀ w ∈ wsL_law, w.before #[Value.ref b] s = true) (hX : va_X b L xs s s.heap) (hbl : b < s.heap.size) (hbA : ¬ A b) (hA : ∀ q : Nat, s.heap.size ≤ q → A q) (hK : va_K D vwCl (vT tc) s) (hZ : vZ tc s) (hend : ∀ (H : Heap) (locs : List Loc) (ls : Array Slot), va_S A s.heap H locs → W p l e room_1 s m #[Value.ref b] below meth c H locs room_1.cells room_1.slots Qf (F0 m 1061 ls [.int 1])) (hz1 : z.1 = 1) {n : Nat} (ih : lC_29 p l e s m below meth c D tc ad N b L xs A Qf z n ∧ lC_90 p l e s m below meth c D tc ad N b L xs A Qf z n ∧ lC_123 p l e s m below meth c D tc ad N b L xs A Qf z n ∧ lC_132 p l e s m below meth c D tc ad N b L xs A Qf z n ∧ lC_272 p l e s m below meth c D tc ad N b L xs A Qf z n ∧ lC_286 p l e s m below meth c D tc ad N b L xs A Qf z n ∧ lC_392 p l e s m below meth c D tc ad N b L xs A Qf z n ∧ lC_402 p l e s m below meth c D tc ad N b L xs A Qf z n ∧ lC_411 p l e s m below meth c D tc ad N b L xs A Qf z n ∧ lC_430 p l e s m below meth c D tc ad N b L xs A Qf z n ∧ lC_448 p l e s m below meth c D tc ad N b L xs A Qf z n ∧ lC_473 p l e s m below meth c D tc ad N b L xs A Qf z n ∧ lC_513 p l e s m below meth c D tc ad N b L xs A Qf z n ∧ lC_561 p l e s m below meth c D tc ad N b L xs A Qf z n ∧ lC_583 p l e s m below meth c D tc ad N b L xs A Qf z n ∧ lC_608 p l e s m below meth c D tc ad N b L xs A Qf z n ∧ lC_696 p l e s m below meth c D tc ad N b L xs A Qf z n ∧ lC_702 p l e s m below meth c D tc ad N b L xs A Qf z n ∧ lC_749 p l e s m below meth c D tc ad N b L xs A Qf z n ∧ lC_847 p l e s m below meth c D tc ad N b L xs A Qf z n ∧ lC_850 p l e s m below meth c D tc ad N b L xs A Qf z n ∧ lC_883 p l e s m below meth c D tc ad N b L xs A Qf z n ∧ lC_929 p l e s m below meth c D tc ad N b L xs A Qf z n ∧ lC_943 p l e s m below meth c D tc ad N b L xs A Qf z n ∧ lC_957 p l e s m below meth c D tc ad N b L xs A Qf z n ∧ lC_963 p l e s m below meth c D tc ad N b L xs A Qf z n ∧ lC_1031 p l e s m below meth c D tc ad N b L xs A Qf z n) : lC_430 p l e s m below meth c D tc ad N b L xs A Qf z (n + 1) := by
  intro NL adL m1 kc ks r1 r2 i3 i4 i5 i6 i7 i8 r9 i10 i11 i12 i13 r14 i15 i16 i17 i18 i19 i20 i21 H locs ls hNN hE hc hs hO n_r1 n_r2 n_r9 n_r14 h hP hD hS hl
  have h : fB_L_law_430 L xs (fL_L_law L xs n) NL m1 kc ks r1 r2 i3 i4 i5 i6 i7 i8 r9 i10 i11 i12 i13 r14 i15 i16 i17 i18 i19 i20 i21 0 0 0 0 0 = some z := fE_L_law_430.symm.trans h
  unfold fB_L_law_430 at h
  refine lv_iload hx hb dL_law_430 (lv_at hl 20 rfl) ?_
  refine lv_iconst (v := 1) hx hb dL_law_432 (by decide) ?_
  refine lv_icmp_ne (tgt := 448) hx hb dL_law_433 (by decide) (fun c1 => ?_) (fun c1 => ?_)
  · rw [if_neg c1] at h
    exact (ih.2.2.2.2.2.2.2.2.2.2.1) NL adL m1 kc ks r1 r2 i3 i4 i5 i6 i7 i8 r9 i10 i11 i12 i13 r14 i15 i16 i17 i18 i19 i20 i21 _ _ _ hNN hE hc hs hO n_r1 n_r2 n_r9 n_r14 h hP hD hS (lv_sub hl (l' := [(1, .ref (adL r1)), (2, .ref (adL r2)), (3, .int i3), (4, .int i4), (5, .int i5), (6, .int i6), (7, .int i7), (8, .int i8), (9, .ref (adL r9)), (10, .int i10), (11, .int i11), (12, .int i12), (13, .int i13), (14, .ref (adL r14)), (15, .int i15), (16, .int i16), (17, .int i17), (18, .int i18), (19, .int i19), (20, .int i20), (21, .int i21), (0, .ref b)]) [0, 1, 2, 3, 4, 5, 6, 7, 8, 9, 10, 11, 12, 13, 14, 15, 16, 17, 18, 19, 20, 21] rfl)
  · rw [if_pos c1] at h
    refine lv_iload hx hb dL_law_436 (lv_at hl 16 rfl) ?_
    refine lv_iconst (v := 3) hx hb dL_law_438 (by decide) ?_
    refine lv_icmp_ne (tgt := 471) hx hb dL_law_439 (by decide) (fun c2 => ?_) (fun c2 => ?_)
    · rw [if_neg c2] at h
      refine lv_iconst (v := 0) hx hb dL_law_471 (by decide) ?_
      have hz := Option.some.inj h
      rw [← hz] at hz1
      exact absurd (show (0 : Int32) = 1 from hz1) (by decide)
    · rw [if_pos c2] at h
      refine lv_iload hx hb dL_law_442 (lv_at hl 17 rfl) ?_
      refine lv_iconst (v := 4) hx hb dL_law_444 (by decide) ?_
      refine lv_icmp_ne (tgt := 471) hx hb dL_law_445 (by decide) (fun c3 => ?_) (fun c3 => ?_)
      · rw [if_neg c3] at h
        refine lv_iconst (v := 0) hx hb dL_law_471 (by decide) ?_
        have hz := Option.some.inj h
        rw [← hz] at hz1
        exact absurd (show (0 : Int32) = 1 from hz1) (by decide)
      · rw [if_pos c3] at h
        exact (ih.2.2.2.2.2.2.2.2.2.2.1) NL adL m1 kc ks r1 r2 i3 i4 i5 i6 i7 i8 r9 i10 i11 i12 i13 r14 i15 i16 i17 i18 i19 i20 i21 _ _ _ hNN hE hc hs hO n_r1 n_r2 n_r9 n_r14 h hP hD hS (lv_sub hl (l' := [(1, .ref (adL r1)), (2, .ref (adL r2)), (3, .int i3), (4, .int i4), (5, .int i5), (6, .int i6), (7, .int i7), (8, .int i8), (9, .ref (adL r9)), (10, .int i10), (11, .int i11), (12, .int i12), (13, .int i13), (14, .ref (adL r14)), (15, .int i15), (16, .int i16), (17, .int i17), (18, .int i18), (19, .int i19), (20, .int i20), (21, .int i21), (0, .ref b)]) [0, 1, 2, 3, 4, 5, 6, 7, 8, 9, 10, 11, 12, 13, 14, 15, 16, 17, 18, 19, 20, 21] rfl)
set_option maxHeartbeats 1000000 in
set_option maxRecDepth 100000 in
theorem law_b448 {p : Program} {l : Launch} {e : Env} {s : State} {m : MethodId} {below : List Frame} {meth : Method} {c : Code} {D : va_G} {tc : Nat → ClassId} {ad : Nat → Nat} {N b L : Nat} {xs : Nat → Int32} {A : Nat → Prop} {Qf : State → Prop} {z : Int32 × Nat × vM} (hx : p.tables.exec = Jvm.exec) (hb : c.code = code) (hml : c.maxLocals = 27) (hown : s.vm.findClass RL = some m.cls) (hts : ∀ w ∈ wsL_law, w.before #[Value.ref b] s = true) (hX : va_X b L xs s s.heap) (hbl : b < s.heap.size) (hbA : ¬ A b) (hA : ∀ q : Nat, s.heap.size ≤ q → A q) (hK : va_K D vwCl (vT tc) s) (hZ : vZ tc s) (hend : ∀ (H : Heap) (locs : List Loc) (ls : Array Slot), va_S A s.heap H locs → W p l e room_1 s m #[Value.ref b] below meth c H locs room_1.cells room_1.slots Qf (F0 m 1061 ls [.int 1])) (hz1 : z.1 = 1) {n : Nat} (ih : lC_29 p l e s m below meth c D tc ad N b L xs A Qf z n ∧ lC_90 p l e s m below meth c D tc ad N b L xs A Qf z n ∧ lC_123 p l e s m below meth c D tc ad N b L xs A Qf z n ∧ lC_132 p l e s m below meth c D tc ad N b L xs A Qf z n ∧ lC_272 p l e s m below meth c D tc ad N b L xs A Qf z n ∧ lC_286 p l e s m below meth c D tc ad N b L xs A Qf z n ∧ lC_392 p l e s m below meth c D tc ad N b L xs A Qf z n ∧ lC_402 p l e s m below meth c D tc ad N b L xs A Qf z n ∧ lC_411 p l e s m below meth c D tc ad N b L xs A Qf z n ∧ lC_430 p l e s m below meth c D tc ad N b L xs A Qf z n ∧ lC_448 p l e s m below meth c D tc ad N b L xs A Qf z n ∧ lC_473 p l e s m below meth c D tc ad N b L xs A Qf z n ∧ lC_513 p l e s m below meth c D tc ad N b L xs A Qf z n ∧ lC_561 p l e s m below meth c D tc ad N b L xs A Qf z n ∧ lC_583 p l e s m below meth c D tc ad N b L xs A Qf z n ∧ lC_608 p l e s m below meth c D tc ad N b L xs A Qf z n ∧ lC_696 p l e s m below meth c D tc ad N b L xs A Qf z n ∧ lC_702 p l e s m below meth c D tc ad N b L xs A Qf z n ∧ lC_749 p l e s m below meth c D tc ad N b L xs A Qf z n ∧ lC_847 p l e s m below meth c D tc ad N b L xs A Qf z n ∧ lC_850 p l e s m below meth c D tc ad N b L xs A Qf z n ∧ lC_883 p l e s m below meth c D tc ad N b L xs A Qf z n ∧ lC_929 p l e s m below meth c D tc ad N b L xs A Qf z n ∧ lC_943 p l e s m below meth c D tc ad N b L xs A Qf z n ∧ lC_957 p l e s m below meth c D tc ad N b L xs A Qf z n ∧ lC_963 p l e s m below meth c D tc ad N b L xs A Qf z n ∧ lC_1031 p l e s m below meth c D tc ad N b L xs A Qf z n) : lC_448 p l e s m below meth c D tc ad N b L xs A Qf z (n + 1) := by
  intro NL adL m1 kc ks r1 r2 i3 i4 i5 i6 i7 i8 r9 i10 i11 i12 i13 r14 i15 i16 i17 i18 i19 i20 i21 H locs ls hNN hE hc hs hO n_r1 n_r2 n_r9 n_r14 h hP hD hS hl
  have h : fB_L_law_448 L xs (fL_L_law L xs n) NL m1 kc ks r1 r2 i3 i4 i5 i6 i7 i8 r9 i10 i11 i12 i13 r14 i15 i16 i17 i18 i19 i20 i21 0 0 0 0 0 = some z := fE_L_law_448.symm.trans h
  unfold fB_L_law_448 at h
  refine lv_iload hx hb dL_law_448 (lv_at hl 16 rfl) ?_
  refine lv_if_ne (tgt := 457) hx hb dL_law_450 (by decide) (fun c1 => ?_) (fun c1 => ?_)
  · rw [if_neg c1] at h
    refine lv_iconst (v := 0) hx hb dL_law_457 (by decide) ?_
    refine lv_iload hx hb dL_law_458 (lv_at hl 17 rfl) ?_
    refine lv_if_ne (tgt := 467) hx hb dL_law_460 (by decide) (fun c2 => ?_) (fun c2 => ?_)
    · rw [if_neg c2] at h
      refine lv_iconst (v := 0) hx hb dL_law_467 (by decide) ?_
      refine lv_icmp_eq (tgt := 473) hx hb dL_law_468 (by decide) (fun _ => ?_) (fun h9 => absurd h9 (by decide))
      exact (ih.2.2.2.2.2.2.2.2.2.2.2.1) NL adL m1 kc ks r1 r2 i3 i4 i5 i6 i7 i8 r9 i10 i11 i12 i13 r14 i15 i16 i17 i18 i19 i20 i21 _ _ _ hNN hE hc hs hO n_r1 n_r2 n_r9 n_r14 h hP hD hS (lv_sub hl (l' := [(1, .ref (adL r1)), (2, .ref (adL r2)), (3, .int i3), (4, .int i4), (5, .int i5), (6, .int i6), (7, .int i7), (8, .int i8), (9, .ref (adL r9)), (10, .int i10), (11, .int i11), (12, .int i12), (13, .int i13), (14, .ref (adL r14)), (15, .int i15), (16, .int i16), (17, .int i17), (18, .int i18), (19, .int i19), (20, .int i20), (21, .int i21), (0, .ref b)]) [0, 1, 2, 3, 4, 5, 6, 7, 8, 9, 10, 11, 12, 13, 14, 15, 16, 17, 18, 19, 20, 21] rfl)
    · rw [if_pos c2] at h
      refine lv_iconst (v := 1) hx hb dL_law_463 (by decide) ?_
      refine lv_goto (tgt := 468) hx hb dL_law_464 (by decide) ?_
      refine lv_icmp_eq (tgt := 473) hx hb dL_law_468 (by decide) (fun h9 => absurd h9 (by decide)) (fun _ => ?_)
      refine lv_iconst (v := 0) hx hb dL_law_471 (by decide) ?_
      have hz := Option.some.inj h
      rw [← hz] at hz1
      exact absurd (show (0 : Int32) = 1 from hz1) (by decide)
  · rw [if_pos c1] at h
    refine lv_iconst (v := 1) hx hb dL_law_453 (by decide) ?_
    refine lv_goto (tgt := 458) hx hb dL_law_454 (by decide) ?_
    refine lv_iload hx hb dL_law_458 (lv_at hl 17 rfl) ?_
    refine lv_if_ne (tgt := 467) hx hb dL_law_460 (by decide) (fun c3 => ?_) (fun c3 => ?_)
    · rw [if_neg c3] at h
      refine lv_iconst (v := 0) hx hb dL_law_467 (by decide) ?_
      refine lv_icmp_eq (tgt := 473) hx hb dL_law_468 (by decide) (fun h9 => absurd h9 (by decide)) (fun _ => ?_)
      refine lv_iconst (v := 0) hx hb dL_law_471 (by decide) ?_
      have hz := Option.some.inj h
      rw [← hz] at hz1
      exact absurd (show (0 : Int32) = 1 from hz1) (by decide)
    · rw [if_pos c3] at h
      refine lv_iconst (v := 1) hx hb dL_law_463 (by decide) ?_
      refine lv_goto (tgt := 468) hx hb dL_law_464 (by decide) ?_
      refine lv_icmp_eq (tgt := 473) hx hb dL_law_468 (by decide) (fun _ => ?_) (fun h9 => absurd h9 (by decide))
      exact (ih.2.2.2.2.2.2.2.2.2.2.2.1) NL adL m1 kc ks r1 r2 i3 i4 i5 i6 i7 i8 r9 i10 i11 i12 i13 r14 i15 i16 i17 i18 i19 i20 i21 _ _ _ hNN hE hc hs hO n_r1 n_r2 n_r9 n_r14 h hP hD hS (lv_sub hl (l' := [(1, .ref (adL r1)), (2, .ref (adL r2)), (3, .int i3), (4, .int i4), (5, .int i5), (6, .int i6), (7, .int i7), (8, .int i8), (9, .ref (adL r9)), (10, .int i10), (11, .int i11), (12, .int i12), (13, .int i13), (14, .ref (adL r14)), (15, .int i15), (16, .int i16), (17, .int i17), (18, .int i18), (19, .int i19), (20, .int i20), (21, .int i21), (0, .ref b)]) [0, 1, 2, 3, 4, 5, 6, 7, 8, 9, 10, 11, 12, 13, 14, 15, 16, 17, 18, 19, 20, 21] rfl)
set_option maxHeartbeats 1000000 in
set_option maxRecDepth 100000 in
theorem law_b473 {p : Program} {l : Launch} {e : Env} {s : State} {m : MethodId} {below : List Frame} {meth : Method} {c : Code} {D : va_G} {tc : Nat → ClassId} {ad : Nat → Nat} {N b L : Nat} {xs : Nat → Int32} {A : Nat → Prop} {Qf : State → Prop} {z : Int32 × Nat × vM} (hx : p.tables.exec = Jvm.exec) (hb : c.code = code) (hml : c.maxLocals = 27) (hown : s.vm.findClass RL = some m.cls) (hts : ∀ w ∈ wsL_law, w.before #[Value.ref b] s = true) (hX : va_X b L xs s s.heap) (hbl : b < s.heap.size) (hbA : ¬ A b) (hA : ∀ q : Nat, s.heap.size ≤ q → A q) (hK : va_K D vwCl (vT tc) s) (hZ : vZ tc s) (hend : ∀ (H : Heap) (locs : List Loc) (ls : Array Slot), va_S A s.heap H locs → W p l e room_1 s m #[Value.ref b] below meth c H locs room_1.cells room_1.slots Qf (F0 m 1061 ls [.int 1])) (hz1 : z.1 = 1) {n : Nat} (ih : lC_29 p l e s m below meth c D tc ad N b L xs A Qf z n ∧ lC_90 p l e s m below meth c D tc ad N b L xs A Qf z n ∧ lC_123 p l e s m below meth c D tc ad N b L xs A Qf z n ∧ lC_132 p l e s m below meth c D tc ad N b L xs A Qf z n ∧ lC_272 p l e s m below meth c D tc ad N b L xs A Qf z n ∧ lC_286 p l e s m below meth c D tc ad N b L xs A Qf z n ∧ lC_392 p l e s m below meth c D tc ad N b L xs A Qf z n ∧ lC_402 p l e s m below meth c D tc ad N b L xs A Qf z n ∧ lC_411 p l e s m below meth c D tc ad N b L xs A Qf z n ∧ lC_430 p l e s m below meth c D tc ad N b L xs A Qf z n ∧ lC_448 p l e s m below meth c D tc ad N b L xs A Qf z n ∧ lC_473 p l e s m below meth c D tc ad N b L xs A Qf z n ∧ lC_513 p l e s m below meth c D tc ad N b L xs A Qf z n ∧ lC_561 p l e s m below meth c D tc ad N b L xs A Qf z n ∧ lC_583 p l e s m below meth c D tc ad N b L xs A Qf z n ∧ lC_608 p l e s m below meth c D tc ad N b L xs A Qf z n ∧ lC_696 p l e s m below meth c D tc ad N b L xs A Qf z n ∧ lC_702 p l e s m below meth c D tc ad N b L xs A Qf z n ∧ lC_749 p l e s m below meth c D tc ad N b L xs A Qf z n ∧ lC_847 p l e s m below meth c D tc ad N b L xs A Qf z n ∧ lC_850 p l e s m below meth c D tc ad N b L xs A Qf z n ∧ lC_883 p l e s m below meth c D tc ad N b L xs A Qf z n ∧ lC_929 p l e s m below meth c D tc ad N b L xs A Qf z n ∧ lC_943 p l e s m below meth c D tc ad N b L xs A Qf z n ∧ lC_957 p l e s m below meth c D tc ad N b L xs A Qf z n ∧ lC_963 p l e s m below meth c D tc ad N b L xs A Qf z n ∧ lC_1031 p l e s m below meth c D tc ad N b L xs A Qf z n) : lC_473 p l e s m below meth c D tc ad N b L xs A Qf z (n + 1) := by
  intro NL adL m1 kc ks r1 r2 i3 i4 i5 i6 i7 i8 r9 i10 i11 i12 i13 r14 i15 i16 i17 i18 i19 i20 i21 H locs ls hNN hE hc hs hO n_r1 n_r2 n_r9 n_r14 h hP hD hS hl
  have h : fB_L_law_473 L xs (fL_L_law L xs n) NL m1 kc ks r1 r2 i3 i4 i5 i6 i7 i8 r9 i10 i11 i12 i13 r14 i15 i16 i17 i18 i19 i20 i21 0 0 0 0 0 = some z := fE_L_law_473.symm.trans h
  unfold fB_L_law_473 at h
  refine lv_iload hx hb dL_law_473 (lv_at hl 18 rfl) ?_
  refine lv_iconst (v := 1) hx hb dL_law_475 (by decide) ?_
  refine lv_icmp_le (tgt := 513) hx hb dL_law_476 (by decide) (fun c1 => ?_) (fun c1 => ?_)
  · rw [if_pos c1] at h
    exact (ih.2.2.2.2.2.2.2.2.2.2.2.2.1) NL adL m1 kc ks r1 r2 i3 i4 i5 i6 i7 i8 r9 i10 i11 i12 i13 r14 i15 i16 i17 i18 i19 i20 i21 _ _ _ hNN hE hc hs hO n_r1 n_r2 n_r9 n_r14 h hP hD hS (lv_sub hl (l' := [(1, .ref (adL r1)), (2, .ref (adL r2)), (3, .int i3), (4, .int i4), (5, .int i5), (6, .int i6), (7, .int i7), (8, .int i8), (9, .ref (adL r9)), (10, .int i10), (11, .int i11), (12, .int i12), (13, .int i13), (14, .ref (adL r14)), (15, .int i15), (16, .int i16), (17, .int i17), (18, .int i18), (19, .int i19), (20, .int i20), (21, .int i21), (0, .ref b)]) [0, 1, 2, 3, 4, 5, 6, 7, 8, 9, 10, 11, 12, 13, 14, 15, 16, 17, 18, 19, 20, 21] rfl)
  · rw [if_neg c1] at h
    refine lv_aload hx hb dL_law_479 (lv_at hl 8 rfl) ?_
    refine lv_iload hx hb dL_law_481 (lv_at hl 15 rfl) ?_
    obtain ⟨g2, h⟩ := vg_if h
    obtain ⟨g3, h⟩ := vg_if h
    obtain ⟨y4, g5, h⟩ := vg_bind h
    have n_y4 := hO _ _ _ g5
    refine wm_aald8 hx hb hK hP n_r9 g2 (i := i16) g3 dL_law_483 ?_
    refine W.eq (g2 := F0 m 484 ls [.ref (adL y4)]) (by show F0 m 484 ls (va_rf (Option.map adL (mr m1 r9 i16.toNatClampNeg)) :: _) = _; rw [g5]; rfl) ?_
    refine lv_iconst (v := 1) hx hb dL_law_484 (by decide) ?_
    obtain ⟨g6, h⟩ := vg_if h
    obtain ⟨g7, h⟩ := vg_if h
    refine va_iald (D := D) hx hb hK hP y4 0 (vW_k6 n_y4 g6) rfl (i := 1) g7 dL_law_485 ?_
    refine W.eq (g2 := F0 m 486 ls [.int (mi m1 y4 1)]) rfl ?_
    refine lv_iconst (v := 1) hx hb dL_law_486 (by decide) ?_
    refine lv_icmp_le (tgt := 513) hx hb dL_law_487 (by decide) (fun c8 => ?_) (fun c8 => ?_)
    · rw [if_pos c8] at h
      exact (ih.2.2.2.2.2.2.2.2.2.2.2.2.1) NL adL m1 kc ks r1 r2 i3 i4 i5 i6 i7 i8 r9 i10 i11 i12 i13 r14 i15 i16 i17 i18 i19 i20 i21 _ _ _ hNN hE hc hs hO n_r1 n_r2 n_r9 n_r14 h hP hD hS (lv_sub hl (l' := [(1, .ref (adL r1)), (2, .ref (adL r2)), (3, .int i3), (4, .int i4), (5, .int i5), (6, .int i6), (7, .int i7), (8, .int i8), (9, .ref (adL r9)), (10, .int i10), (11, .int i11), (12, .int i12), (13, .int i13), (14, .ref (adL r14)), (15, .int i15), (16, .int i16), (17, .int i17), (18, .int i18), (19, .int i19), (20, .int i20), (21, .int i21), (0, .ref b)]) [0, 1, 2, 3, 4, 5, 6, 7, 8, 9, 10, 11, 12, 13, 14, 15, 16, 17, 18, 19, 20, 21] rfl)
    · rw [if_neg c8] at h
      refine lv_iload hx hb dL_law_490 (lv_at hl 16 rfl) ?_
      refine lv_iload hx hb dL_law_492 (lv_at hl 18 rfl) ?_
      refine lv_icmp_ne (tgt := 511) hx hb dL_law_494 (by decide) (fun c9 => ?_) (fun c9 => ?_)
      · rw [if_neg c9] at h
        refine lv_iconst (v := 0) hx hb dL_law_511 (by decide) ?_
        have hz := Option.some.inj h
        rw [← hz] at hz1
        exact absurd (show (0 : Int32) = 1 from hz1) (by decide)
      · rw [if_pos c9] at h
        refine lv_iload hx hb dL_law_497 (lv_at hl 17 rfl) ?_
        refine lv_aload hx hb dL_law_499 (lv_at hl 8 rfl) ?_
        refine lv_iload hx hb dL_law_501 (lv_at hl 15 rfl) ?_
        obtain ⟨g10, h⟩ := vg_if h
        obtain ⟨y11, g12, h⟩ := vg_bind h
        have n_y11 := hO _ _ _ g12
        refine wm_aald8 hx hb hK hP n_r9 g2 (i := i16) g10 dL_law_503 ?_
        refine W.eq (g2 := F0 m 504 ls [.ref (adL y11), .int i18]) (by show F0 m 504 ls (va_rf (Option.map adL (mr m1 r9 i16.toNatClampNeg)) :: _) = _; rw [g12]; rfl) ?_
        refine lv_iconst (v := 1) hx hb dL_law_504 (by decide) ?_
        obtain ⟨g13, h⟩ := vg_if h
        obtain ⟨g14, h⟩ := vg_if h
        refine va_iald (D := D) hx hb hK hP y11 0 (vW_k6 n_y11 g13) rfl (i := 1) g14 dL_law_505 ?_
        refine W.eq (g2 := F0 m 506 ls [.int (mi m1 y11 1), .int i18]) rfl ?_
        refine lv_iconst (v := 1) hx hb dL_law_506 (by decide) ?_
        refine lv_isub hx hb dL_law_507 ?_
        refine lv_icmp_eq (tgt := 513) hx hb dL_law_508 (by decide) (fun c15 => ?_) (fun c15 => ?_)
        · rw [if_pos c15] at h
          exact (ih.2.2.2.2.2.2.2.2.2.2.2.2.1) NL adL m1 kc ks r1 r2 i3 i4 i5 i6 i7 i8 r9 i10 i11 i12 i13 r14 i15 i16 i17 i18 i19 i20 i21 _ _ _ hNN hE hc hs hO n_r1 n_r2 n_r9 n_r14 h hP hD hS (lv_sub hl (l' := [(1, .ref (adL r1)), (2, .ref (adL r2)), (3, .int i3), (4, .int i4), (5, .int i5), (6, .int i6), (7, .int i7), (8, .int i8), (9, .ref (adL r9)), (10, .int i10), (11, .int i11), (12, .int i12), (13, .int i13), (14, .ref (adL r14)), (15, .int i15), (16, .int i16), (17, .int i17), (18, .int i18), (19, .int i19), (20, .int i20), (21, .int i21), (0, .ref b)]) [0, 1, 2, 3, 4, 5, 6, 7, 8, 9, 10, 11, 12, 13, 14, 15, 16, 17, 18, 19, 20, 21] rfl)
        · rw [if_neg c15] at h
          refine lv_iconst (v := 0) hx hb dL_law_511 (by decide) ?_
          have hz := Option.some.inj h
          rw [← hz] at hz1
          exact absurd (show (0 : Int32) = 1 from hz1) (by decide)
set_option maxHeartbeats 1000000 in
set_option maxRecDepth 100000 in
theorem law_b513 {p : Program} {l : Launch} {e : Env} {s : State} {m : MethodId} {below : List Frame} {meth : Method} {c : Code} {D : va_G} {tc : Nat → ClassId} {ad : Nat → Nat} {N b L : Nat} {xs : Nat → Int32} {A : Nat → Prop} {Qf : State → Prop} {z : Int32 × Nat × vM} (hx : p.tables.exec = Jvm.exec) (hb : c.code = code) (hml : c.maxLocals = 27) (hown : s.vm.findClass RL = some m.cls) (hts : ∀ w ∈ wsL_law, w.before #[Value.ref b] s = true) (hX : va_X b L xs s s.heap) (hbl : b < s.heap.size) (hbA : ¬ A b) (hA : ∀ q : Nat, s.heap.size ≤ q → A q) (hK : va_K D vwCl (vT tc) s) (hZ : vZ tc s) (hend : ∀ (H : Heap) (locs : List Loc) (ls : Array Slot), va_S A s.heap H locs → W p l e room_1 s m #[Value.ref b] below meth c H locs room_1.cells room_1.slots Qf (F0 m 1061 ls [.int 1])) (hz1 : z.1 = 1) {n : Nat} (ih : lC_29 p l e s m below meth c D tc ad N b L xs A Qf z n ∧ lC_90 p l e s m below meth c D tc ad N b L xs A Qf z n ∧ lC_123 p l e s m below meth c D tc ad N b L xs A Qf z n ∧ lC_132 p l e s m below meth c D tc ad N b L xs A Qf z n ∧ lC_272 p l e s m below meth c D tc ad N b L xs A Qf z n ∧ lC_286 p l e s m below meth c D tc ad N b L xs A Qf z n ∧ lC_392 p l e s m below meth c D tc ad N b L xs A Qf z n ∧ lC_402 p l e s m below meth c D tc ad N b L xs A Qf z n ∧ lC_411 p l e s m below meth c D tc ad N b L xs A Qf z n ∧ lC_430 p l e s m below meth c D tc ad N b L xs A Qf z n ∧ lC_448 p l e s m below meth c D tc ad N b L xs A Qf z n ∧ lC_473 p l e s m below meth c D tc ad N b L xs A Qf z n ∧ lC_513 p l e s m below meth c D tc ad N b L xs A Qf z n ∧ lC_561 p l e s m below meth c D tc ad N b L xs A Qf z n ∧ lC_583 p l e s m below meth c D tc ad N b L xs A Qf z n ∧ lC_608 p l e s m below meth c D tc ad N b L xs A Qf z n ∧ lC_696 p l e s m below meth c D tc ad N b L xs A Qf z n ∧ lC_702 p l e s m below meth c D tc ad N b L xs A Qf z n ∧ lC_749 p l e s m below meth c D tc ad N b L xs A Qf z n ∧ lC_847 p l e s m below meth c D tc ad N b L xs A Qf z n ∧ lC_850 p l e s m below meth c D tc ad N b L xs A Qf z n ∧ lC_883 p l e s m below meth c D tc ad N b L xs A Qf z n ∧ lC_929 p l e s m below meth c D tc ad N b L xs A Qf z n ∧ lC_943 p l e s m below meth c D tc ad N b L xs A Qf z n ∧ lC_957 p l e s m below meth c D tc ad N b L xs A Qf z n ∧ lC_963 p l e s m below meth c D tc ad N b L xs A Qf z n ∧ lC_1031 p l e s m below meth c D tc ad N b L xs A Qf z n) : lC_513 p l e s m below meth c D tc ad N b L xs A Qf z (n + 1) := by
  intro NL adL m1 kc ks r1 r2 i3 i4 i5 i6 i7 i8 r9 i10 i11 i12 i13 r14 i15 i16 i17 i18 i19 i20 i21 H locs ls hNN hE hc hs hO n_r1 n_r2 n_r9 n_r14 h hP hD hS hl
  have h : fB_L_law_513 L xs (fL_L_law L xs n) NL m1 kc ks r1 r2 i3 i4 i5 i6 i7 i8 r9 i10 i11 i12 i13 r14 i15 i16 i17 i18 i19 i20 i21 0 0 0 0 0 = some z := fE_L_law_513.symm.trans h
  unfold fB_L_law_513 at h
  refine lv_iload hx hb dL_law_513 (lv_at hl 18 rfl) ?_
  refine lv_iconst (v := 1) hx hb dL_law_515 (by decide) ?_
  refine lv_icmp_ne (tgt := 561) hx hb dL_law_516 (by decide) (fun c1 => ?_) (fun c1 => ?_)
  · rw [if_neg c1] at h
    exact (ih.2.2.2.2.2.2.2.2.2.2.2.2.2.1) NL adL m1 kc ks r1 r2 i3 i4 i5 i6 i7 i8 r9 i10 i11 i12 i13 r14 i15 i16 i17 i18 i19 i20 i21 _ _ _ hNN hE hc hs hO n_r1 n_r2 n_r9 n_r14 h hP hD hS (lv_sub hl (l' := [(1, .ref (adL r1)), (2, .ref (adL r2)), (3, .int i3), (4, .int i4), (5, .int i5), (6, .int i6), (7, .int i7), (8, .int i8), (9, .ref (adL r9)), (10, .int i10), (11, .int i11), (12, .int i12), (13, .int i13), (14, .ref (adL r14)), (15, .int i15), (16, .int i16), (17, .int i17), (18, .int i18), (19, .int i19), (20, .int i20), (21, .int i21), (0, .ref b)]) [0, 1, 2, 3, 4, 5, 6, 7, 8, 9, 10, 11, 12, 13, 14, 15, 16, 17, 18, 19, 20, 21] rfl)
  · rw [if_pos c1] at h
    refine lv_iload hx hb dL_law_519 (lv_at hl 16 rfl) ?_
    refine lv_if_eq (tgt := 559) hx hb dL_law_521 (by decide) (fun c2 => ?_) (fun c2 => ?_)
    · rw [if_pos c2] at h
      refine lv_iconst (v := 0) hx hb dL_law_559 (by decide) ?_
      have hz := Option.some.inj h
      rw [← hz] at hz1
      exact absurd (show (0 : Int32) = 1 from hz1) (by decide)
    · rw [if_neg c2] at h
      refine lv_iload hx hb dL_law_524 (lv_at hl 16 rfl) ?_
      refine lv_iconst (v := 1) hx hb dL_law_526 (by decide) ?_
      refine lv_icmp_ne (tgt := 544) hx hb dL_law_527 (by decide) (fun c3 => ?_) (fun c3 => ?_)
      · rw [if_neg c3] at h
        refine lv_iload hx hb dL_law_544 (lv_at hl 16 rfl) ?_
        refine lv_iconst (v := 1) hx hb dL_law_546 (by decide) ?_
        refine lv_icmp_le (tgt := 561) hx hb dL_law_547 (by decide) (fun c4 => ?_) (fun c4 => ?_)
        · rw [if_pos c4] at h
          exact (ih.2.2.2.2.2.2.2.2.2.2.2.2.2.1) NL adL m1 kc ks r1 r2 i3 i4 i5 i6 i7 i8 r9 i10 i11 i12 i13 r14 i15 i16 i17 i18 i19 i20 i21 _ _ _ hNN hE hc hs hO n_r1 n_r2 n_r9 n_r14 h hP hD hS (lv_sub hl (l' := [(1, .ref (adL r1)), (2, .ref (adL r2)), (3, .int i3), (4, .int i4), (5, .int i5), (6, .int i6), (7, .int i7), (8, .int i8), (9, .ref (adL r9)), (10, .int i10), (11, .int i11), (12, .int i12), (13, .int i13), (14, .ref (adL r14)), (15, .int i15), (16, .int i16), (17, .int i17), (18, .int i18), (19, .int i19), (20, .int i20), (21, .int i21), (0, .ref b)]) [0, 1, 2, 3, 4, 5, 6, 7, 8, 9, 10, 11, 12, 13, 14, 15, 16, 17, 18, 19, 20, 21] rfl)
        · rw [if_neg c4] at h
          refine lv_iload hx hb dL_law_550 (lv_at hl 19 rfl) ?_
          refine lv_iload hx hb dL_law_552 (lv_at hl 20 rfl) ?_
          refine lv_iadd hx hb dL_law_554 ?_
          refine lv_iconst (v := 1) hx hb dL_law_555 (by decide) ?_
          refine lv_icmp_eq (tgt := 561) hx hb dL_law_556 (by decide) (fun c5 => ?_) (fun c5 => ?_)
          · rw [if_pos c5] at h
            exact (ih.2.2.2.2.2.2.2.2.2.2.2.2.2.1) NL adL m1 kc ks r1 r2 i3 i4 i5 i6 i7 i8 r9 i10 i11 i12 i13 r14 i15 i16 i17 i18 i19 i20 i21 _ _ _ hNN hE hc hs hO n_r1 n_r2 n_r9 n_r14 h hP hD hS (lv_sub hl (l' := [(1, .ref (adL r1)), (2, .ref (adL r2)), (3, .int i3), (4, .int i4), (5, .int i5), (6, .int i6), (7, .int i7), (8, .int i8), (9, .ref (adL r9)), (10, .int i10), (11, .int i11), (12, .int i12), (13, .int i13), (14, .ref (adL r14)), (15, .int i15), (16, .int i16), (17, .int i17), (18, .int i18), (19, .int i19), (20, .int i20), (21, .int i21), (0, .ref b)]) [0, 1, 2, 3, 4, 5, 6, 7, 8, 9, 10, 11, 12, 13, 14, 15, 16, 17, 18, 19, 20, 21] rfl)
          · rw [if_neg c5] at h
            refine lv_iconst (v := 0) hx hb dL_law_559 (by decide) ?_
            have hz := Option.some.inj h
            rw [← hz] at hz1
            exact absurd (show (0 : Int32) = 1 from hz1) (by decide)
      · rw [if_pos c3] at h
        refine lv_iload hx hb dL_law_530 (lv_at hl 17 rfl) ?_
        refine lv_aload hx hb dL_law_532 (lv_at hl 8 rfl) ?_
        refine lv_iload hx hb dL_law_534 (lv_at hl 15 rfl) ?_
        obtain ⟨g6, h⟩ := vg_if h
        obtain ⟨g7, h⟩ := vg_if h
        obtain ⟨y8, g9, h⟩ := vg_bind h
        have n_y8 := hO _ _ _ g9
        refine wm_aald8 hx hb hK hP n_r9 g6 (i := i16) g7 dL_law_536 ?_
        refine W.eq (g2 := F0 m 537 ls [.ref (adL y8), .int i18]) (by show F0 m 537 ls (va_rf (Option.map adL (mr m1 r9 i16.toNatClampNeg)) :: _) = _; rw [g9]; rfl) ?_
        refine lv_iconst (v := 1) hx hb dL_law_537 (by decide) ?_
        obtain ⟨g10, h⟩ := vg_if h
        obtain ⟨g11, h⟩ := vg_if h
        refine va_iald (D := D) hx hb hK hP y8 0 (vW_k6 n_y8 g10) rfl (i := 1) g11 dL_law_538 ?_
        refine W.eq (g2 := F0 m 539 ls [.int (mi m1 y8 1), .int i18]) rfl ?_
        refine lv_iconst (v := 1) hx hb dL_law_539 (by decide) ?_
        refine lv_isub hx hb dL_law_540 ?_
        refine lv_icmp_ne (tgt := 559) hx hb dL_law_541 (by decide) (fun c12 => ?_) (fun c12 => ?_)
        · rw [if_neg c12] at h
          refine lv_iconst (v := 0) hx hb dL_law_559 (by decide) ?_
          have hz := Option.some.inj h
          rw [← hz] at hz1
          exact absurd (show (0 : Int32) = 1 from hz1) (by decide)
        · rw [if_pos c12] at h
          refine lv_iload hx hb dL_law_544 (lv_at hl 16 rfl) ?_
          refine lv_iconst (v := 1) hx hb dL_law_546 (by decide) ?_
          refine lv_icmp_le (tgt := 561) hx hb dL_law_547 (by decide) (fun c13 => ?_) (fun c13 => ?_)
          · rw [if_pos c13] at h
            exact (ih.2.2.2.2.2.2.2.2.2.2.2.2.2.1) NL adL m1 kc ks r1 r2 i3 i4 i5 i6 i7 i8 r9 i10 i11 i12 i13 r14 i15 i16 i17 i18 i19 i20 i21 _ _ _ hNN hE hc hs hO n_r1 n_r2 n_r9 n_r14 h hP hD hS (lv_sub hl (l' := [(1, .ref (adL r1)), (2, .ref (adL r2)), (3, .int i3), (4, .int i4), (5, .int i5), (6, .int i6), (7, .int i7), (8, .int i8), (9, .ref (adL r9)), (10, .int i10), (11, .int i11), (12, .int i12), (13, .int i13), (14, .ref (adL r14)), (15, .int i15), (16, .int i16), (17, .int i17), (18, .int i18), (19, .int i19), (20, .int i20), (21, .int i21), (0, .ref b)]) [0, 1, 2, 3, 4, 5, 6, 7, 8, 9, 10, 11, 12, 13, 14, 15, 16, 17, 18, 19, 20, 21] rfl)
          · rw [if_neg c13] at h
            refine lv_iload hx hb dL_law_550 (lv_at hl 19 rfl) ?_
            refine lv_iload hx hb dL_law_552 (lv_at hl 20 rfl) ?_
            refine lv_iadd hx hb dL_law_554 ?_
            refine lv_iconst (v := 1) hx hb dL_law_555 (by decide) ?_
            refine lv_icmp_eq (tgt := 561) hx hb dL_law_556 (by decide) (fun c14 => ?_) (fun c14 => ?_)
            · rw [if_pos c14] at h
              exact (ih.2.2.2.2.2.2.2.2.2.2.2.2.2.1) NL adL m1 kc ks r1 r2 i3 i4 i5 i6 i7 i8 r9 i10 i11 i12 i13 r14 i15 i16 i17 i18 i19 i20 i21 _ _ _ hNN hE hc hs hO n_r1 n_r2 n_r9 n_r14 h hP hD hS (lv_sub hl (l' := [(1, .ref (adL r1)), (2, .ref (adL r2)), (3, .int i3), (4, .int i4), (5, .int i5), (6, .int i6), (7, .int i7), (8, .int i8), (9, .ref (adL r9)), (10, .int i10), (11, .int i11), (12, .int i12), (13, .int i13), (14, .ref (adL r14)), (15, .int i15), (16, .int i16), (17, .int i17), (18, .int i18), (19, .int i19), (20, .int i20), (21, .int i21), (0, .ref b)]) [0, 1, 2, 3, 4, 5, 6, 7, 8, 9, 10, 11, 12, 13, 14, 15, 16, 17, 18, 19, 20, 21] rfl)
            · rw [if_neg c14] at h
              refine lv_iconst (v := 0) hx hb dL_law_559 (by decide) ?_
              have hz := Option.some.inj h
              rw [← hz] at hz1
              exact absurd (show (0 : Int32) = 1 from hz1) (by decide)
set_option maxHeartbeats 1000000 in
set_option maxRecDepth 100000 in
theorem law_b561 {p : Program} {l : Launch} {e : Env} {s : State} {m : MethodId} {below : List Frame} {meth : Method} {c : Code} {D : va_G} {tc : Nat → ClassId} {ad : Nat → Nat} {N b L : Nat} {xs : Nat → Int32} {A : Nat → Prop} {Qf : State → Prop} {z : Int32 × Nat × vM} (hx : p.tables.exec = Jvm.exec) (hb : c.code = code) (hml : c.maxLocals = 27) (hown : s.vm.findClass RL = some m.cls) (hts : ∀ w ∈ wsL_law, w.before #[Value.ref b] s = true) (hX : va_X b L xs s s.heap) (hbl : b < s.heap.size) (hbA : ¬ A b) (hA : ∀ q : Nat, s.heap.size ≤ q → A q) (hK : va_K D vwCl (vT tc) s) (hZ : vZ tc s) (hend : ∀ (H : Heap) (locs : List Loc) (ls : Array Slot), va_S A s.heap H locs → W p l e room_1 s m #[Value.ref b] below meth c H locs room_1.cells room_1.slots Qf (F0 m 1061 ls [.int 1])) (hz1 : z.1 = 1) {n : Nat} (ih : lC_29 p l e s m below meth c D tc ad N b L xs A Qf z n ∧ lC_90 p l e s m below meth c D tc ad N b L xs A Qf z n ∧ lC_123 p l e s m below meth c D tc ad N b L xs A Qf z n ∧ lC_132 p l e s m below meth c D tc ad N b L xs A Qf z n ∧ lC_272 p l e s m below meth c D tc ad N b L xs A Qf z n ∧ lC_286 p l e s m below meth c D tc ad N b L xs A Qf z n ∧ lC_392 p l e s m below meth c D tc ad N b L xs A Qf z n ∧ lC_402 p l e s m below meth c D tc ad N b L xs A Qf z n ∧ lC_411 p l e s m below meth c D tc ad N b L xs A Qf z n ∧ lC_430 p l e s m below meth c D tc ad N b L xs A Qf z n ∧ lC_448 p l e s m below meth c D tc ad N b L xs A Qf z n ∧ lC_473 p l e s m below meth c D tc ad N b L xs A Qf z n ∧ lC_513 p l e s m below meth c D tc ad N b L xs A Qf z n ∧ lC_561 p l e s m below meth c D tc ad N b L xs A Qf z n ∧ lC_583 p l e s m below meth c D tc ad N b L xs A Qf z n ∧ lC_608 p l e s m below meth c D tc ad N b L xs A Qf z n ∧ lC_696 p l e s m below meth c D tc ad N b L xs A Qf z n ∧ lC_702 p l e s m below meth c D tc ad N b L xs A Qf z n ∧ lC_749 p l e s m below meth c D tc ad N b L xs A Qf z n ∧ lC_847 p l e s m below meth c D tc ad N b L xs A Qf z n ∧ lC_850 p l e s m below meth c D tc ad N b L xs A Qf z n ∧ lC_883 p l e s m below meth c D tc ad N b L xs A Qf z n ∧ lC_929 p l e s m below meth c D tc ad N b L xs A Qf z n ∧ lC_943 p l e s m below meth c D tc ad N b L xs A Qf z n ∧ lC_957 p l e s m below meth c D tc ad N b L xs A Qf z n ∧ lC_963 p l e s m below meth c D tc ad N b L xs A Qf z n ∧ lC_1031 p l e s m below meth c D tc ad N b L xs A Qf z n) : lC_561 p l e s m below meth c D tc ad N b L xs A Qf z (n + 1) := by
  intro NL adL m1 kc ks r1 r2 i3 i4 i5 i6 i7 i8 r9 i10 i11 i12 i13 r14 i15 i16 i17 i18 i19 i20 i21 H locs ls hNN hE hc hs hO n_r1 n_r2 n_r9 n_r14 h hP hD hS hl
  have h : fB_L_law_561 L xs (fL_L_law L xs n) NL m1 kc ks r1 r2 i3 i4 i5 i6 i7 i8 r9 i10 i11 i12 i13 r14 i15 i16 i17 i18 i19 i20 i21 0 0 0 0 0 = some z := fE_L_law_561.symm.trans h
  unfold fB_L_law_561 at h
  refine lv_iload hx hb dL_law_561 (lv_at hl 18 rfl) ?_
  refine lv_if_ne (tgt := 583) hx hb dL_law_563 (by decide) (fun c1 => ?_) (fun c1 => ?_)
  · rw [if_neg c1] at h
    exact (ih.2.2.2.2.2.2.2.2.2.2.2.2.2.2.1) NL adL m1 kc ks r1 r2 i3 i4 i5 i6 i7 i8 r9 i10 i11 i12 i13 r14 i15 i16 i17 i18 i19 i20 i21 _ _ _ hNN hE hc hs hO n_r1 n_r2 n_r9 n_r14 h hP hD hS (lv_sub hl (l' := [(1, .ref (adL r1)), (2, .ref (adL r2)), (3, .int i3), (4, .int i4), (5, .int i5), (6, .int i6), (7, .int i7), (8, .int i8), (9, .ref (adL r9)), (10, .int i10), (11, .int i11), (12, .int i12), (13, .int i13), (14, .ref (adL r14)), (15, .int i15), (16, .int i16), (17, .int i17), (18, .int i18), (19, .int i19), (20, .int i20), (21, .int i21), (0, .ref b)]) [0, 1, 2, 3, 4, 5, 6, 7, 8, 9, 10, 11, 12, 13, 14, 15, 16, 17, 18, 19, 20, 21] rfl)
  · rw [if_pos c1] at h
    refine lv_iload hx hb dL_law_566 (lv_at hl 16 rfl) ?_
    refine lv_iconst (v := 1) hx hb dL_law_568 (by decide) ?_
    refine lv_icmp_le (tgt := 583) hx hb dL_law_569 (by decide) (fun c2 => ?_) (fun c2 => ?_)
    · rw [if_pos c2] at h
      exact (ih.2.2.2.2.2.2.2.2.2.2.2.2.2.2.1) NL adL m1 kc ks r1 r2 i3 i4 i5 i6 i7 i8 r9 i10 i11 i12 i13 r14 i15 i16 i17 i18 i19 i20 i21 _ _ _ hNN hE hc hs hO n_r1 n_r2 n_r9 n_r14 h hP hD hS (lv_sub hl (l' := [(1, .ref (adL r1)), (2, .ref (adL r2)), (3, .int i3), (4, .int i4), (5, .int i5), (6, .int i6), (7, .int i7), (8, .int i8), (9, .ref (adL r9)), (10, .int i10), (11, .int i11), (12, .int i12), (13, .int i13), (14, .ref (adL r14)), (15, .int i15), (16, .int i16), (17, .int i17), (18, .int i18), (19, .int i19), (20, .int i20), (21, .int i21), (0, .ref b)]) [0, 1, 2, 3, 4, 5, 6, 7, 8, 9, 10, 11, 12, 13, 14, 15, 16, 17, 18, 19, 20, 21] rfl)
    · rw [if_neg c2] at h
      refine lv_iload hx hb dL_law_572 (lv_at hl 19 rfl) ?_
      refine lv_iload hx hb dL_law_574 (lv_at hl 20 rfl) ?_
      refine lv_iadd hx hb dL_law_576 ?_
      refine lv_iconst (v := 1) hx hb dL_law_577 (by decide) ?_
      refine lv_icmp_eq (tgt := 583) hx hb dL_law_578 (by decide) (fun c3 => ?_) (fun c3 => ?_)
      · rw [if_pos c3] at h
        exact (ih.2.2.2.2.2.2.2.2.2.2.2.2.2.2.1) NL adL m1 kc ks r1 r2 i3 i4 i5 i6 i7 i8 r9 i10 i11 i12 i13 r14 i15 i16 i17 i18 i19 i20 i21 _ _ _ hNN hE hc hs hO n_r1 n_r2 n_r9 n_r14 h hP hD hS (lv_sub hl (l' := [(1, .ref (adL r1)), (2, .ref (adL r2)), (3, .int i3), (4, .int i4), (5, .int i5), (6, .int i6), (7, .int i7), (8, .int i8), (9, .ref (adL r9)), (10, .int i10), (11, .int i11), (12, .int i12), (13, .int i13), (14, .ref (adL r14)), (15, .int i15), (16, .int i16), (17, .int i17), (18, .int i18), (19, .int i19), (20, .int i20), (21, .int i21), (0, .ref b)]) [0, 1, 2, 3, 4, 5, 6, 7, 8, 9, 10, 11, 12, 13, 14, 15, 16, 17, 18, 19, 20, 21] rfl)
      · rw [if_neg c3] at h
        refine lv_iconst (v := 0) hx hb dL_law_581 (by decide) ?_
        have hz := Option.some.inj h
        rw [← hz] at hz1
        exact absurd (show (0 : Int32) = 1 from hz1) (by decide)
set_option maxHeartbeats 1000000 in
set_option maxRecDepth 100000 in
theorem law_b583 {p : Program} {l : Launch} {e : Env} {s : State} {m : MethodId} {below : List Frame} {meth : Method} {c : Code} {D : va_G} {tc : Nat → ClassId} {ad : Nat → Nat} {N b L : Nat} {xs : Nat → Int32} {A : Nat → Prop} {Qf : State → Prop} {z : Int32 × Nat × vM} (hx : p.tables.exec = Jvm.exec) (hb : c.code = code) (hml : c.maxLocals = 27) (hown : s.vm.findClass RL = some m.cls) (hts : ∀ w ∈ wsL_law, w.before #[Value.ref b] s = true) (hX : va_X b L xs s s.heap) (hbl : b < s.heap.size) (hbA : ¬ A b) (hA : ∀ q : Nat, s.heap.size ≤ q → A q) (hK : va_K D vwCl (vT tc) s) (hZ : vZ tc s) (hend : ∀ (H : Heap) (locs : List Loc) (ls : Array Slot), va_S A s.heap H locs → W p l e room_1 s m #[Value.ref b] below meth c H locs room_1.cells room_1.slots Qf (F0 m 1061 ls [.int 1])) (hz1 : z.1 = 1) {n : Nat} (ih : lC_29 p l e s m below meth c D tc ad N b L xs A Qf z n ∧ lC_90 p l e s m below meth c D tc ad N b L xs A Qf z n ∧ lC_123 p l e s m below meth c D tc ad N b L xs A Qf z n ∧ lC_132 p l e s m below meth c D tc ad N b L xs A Qf z n ∧ lC_272 p l e s m below meth c D tc ad N b L xs A Qf z n ∧ lC_286 p l e s m below meth c D tc ad N b L xs A Qf z n ∧ lC_392 p l e s m below meth c D tc ad N b L xs A Qf z n ∧ lC_402 p l e s m below meth c D tc ad N b L xs A Qf z n ∧ lC_411 p l e s m below meth c D tc ad N b L xs A Qf z n ∧ lC_430 p l e s m below meth c D tc ad N b L xs A Qf z n ∧ lC_448 p l e s m below meth c D tc ad N b L xs A Qf z n ∧ lC_473 p l e s m below meth c D tc ad N b L xs A Qf z n ∧ lC_513 p l e s m below meth c D tc ad N b L xs A Qf z n ∧ lC_561 p l e s m below meth c D tc ad N b L xs A Qf z n ∧ lC_583 p l e s m below meth c D tc ad N b L xs A Qf z n ∧ lC_608 p l e s m below meth c D tc ad N b L xs A Qf z n ∧ lC_696 p l e s m below meth c D tc ad N b L xs A Qf z n ∧ lC_702 p l e s m below meth c D tc ad N b L xs A Qf z n ∧ lC_749 p l e s m below meth c D tc ad N b L xs A Qf z n ∧ lC_847 p l e s m below meth c D tc ad N b L xs A Qf z n ∧ lC_850 p l e s m below meth c D tc ad N b L xs A Qf z n ∧ lC_883 p l e s m below meth c D tc ad N b L xs A Qf z n ∧ lC_929 p l e s m below meth c D tc ad N b L xs A Qf z n ∧ lC_943 p l e s m below meth c D tc ad N b L xs A Qf z n ∧ lC_957 p l e s m below meth c D tc ad N b L xs A Qf z n ∧ lC_963 p l e s m below meth c D tc ad N b L xs A Qf z n ∧ lC_1031 p l e s m below meth c D tc ad N b L xs A Qf z n) : lC_583 p l e s m below meth c D tc ad N b L xs A Qf z (n + 1) := by
  intro NL adL m1 kc ks r1 r2 i3 i4 i5 i6 i7 i8 r9 i10 i11 i12 i13 r14 i15 i16 i17 i18 i19 i20 i21 H locs ls hNN hE hc hs hO n_r1 n_r2 n_r9 n_r14 h hP hD hS hl
  have h : fB_L_law_583 L xs (fL_L_law L xs n) NL m1 kc ks r1 r2 i3 i4 i5 i6 i7 i8 r9 i10 i11 i12 i13 r14 i15 i16 i17 i18 i19 i20 i21 0 0 0 0 0 = some z := fE_L_law_583.symm.trans h
  unfold fB_L_law_583 at h
  refine lv_iload hx hb dL_law_583 (lv_at hl 18 rfl) ?_
  refine lv_iconst (v := 1) hx hb dL_law_585 (by decide) ?_
  refine lv_icmp_ne (tgt := 608) hx hb dL_law_586 (by decide) (fun c1 => ?_) (fun c1 => ?_)
  · rw [if_neg c1] at h
    exact (ih.2.2.2.2.2.2.2.2.2.2.2.2.2.2.2.1) NL adL m1 kc ks r1 r2 i3 i4 i5 i6 i7 i8 r9 i10 i11 i12 i13 r14 i15 i16 i17 i18 i19 i20 i21 _ _ _ hNN hE hc hs hO n_r1 n_r2 n_r9 n_r14 h hP hD hS (lv_sub hl (l' := [(1, .ref (adL r1)), (2, .ref (adL r2)), (3, .int i3), (4, .int i4), (5, .int i5), (6, .int i6), (7, .int i7), (8, .int i8), (9, .ref (adL r9)), (10, .int i10), (11, .int i11), (12, .int i12), (13, .int i13), (14, .ref (adL r14)), (15, .int i15), (16, .int i16), (17, .int i17), (18, .int i18), (19, .int i19), (20, .int i20), (21, .int i21), (0, .ref b)]) [0, 1, 2, 3, 4, 5, 6, 7, 8, 9, 10, 11, 12, 13, 14, 15, 16, 17, 18, 19, 20, 21] rfl)
  · rw [if_pos c1] at h
    refine lv_aload hx hb dL_law_589 (lv_at hl 8 rfl) ?_
    refine lv_iload hx hb dL_law_591 (lv_at hl 15 rfl) ?_
    obtain ⟨g2, h⟩ := vg_if h
    obtain ⟨g3, h⟩ := vg_if h
    obtain ⟨y4, g5, h⟩ := vg_bind h
    have n_y4 := hO _ _ _ g5
    refine wm_aald8 hx hb hK hP n_r9 g2 (i := i16) g3 dL_law_593 ?_
    refine W.eq (g2 := F0 m 594 ls [.ref (adL y4)]) (by show F0 m 594 ls (va_rf (Option.map adL (mr m1 r9 i16.toNatClampNeg)) :: _) = _; rw [g5]; rfl) ?_
    refine lv_iconst (v := 1) hx hb dL_law_594 (by decide) ?_
    obtain ⟨g6, h⟩ := vg_if h
    obtain ⟨g7, h⟩ := vg_if h
    refine va_iald (D := D) hx hb hK hP y4 0 (vW_k6 n_y4 g6) rfl (i := 1) g7 dL_law_595 ?_
    refine W.eq (g2 := F0 m 596 ls [.int (mi m1 y4 1)]) rfl ?_
    refine lv_iconst (v := 1) hx hb dL_law_596 (by decide) ?_
    refine lv_icmp_ne (tgt := 608) hx hb dL_law_597 (by decide) (fun c8 => ?_) (fun c8 => ?_)
    · rw [if_neg c8] at h
      exact (ih.2.2.2.2.2.2.2.2.2.2.2.2.2.2.2.1) NL adL m1 kc ks r1 r2 i3 i4 i5 i6 i7 i8 r9 i10 i11 i12 i13 r14 i15 i16 i17 i18 i19 i20 i21 _ _ _ hNN hE hc hs hO n_r1 n_r2 n_r9 n_r14 h hP hD hS (lv_sub hl (l' := [(1, .ref (adL r1)), (2, .ref (adL r2)), (3, .int i3), (4, .int i4), (5, .int i5), (6, .int i6), (7, .int i7), (8, .int i8), (9, .ref (adL r9)), (10, .int i10), (11, .int i11), (12, .int i12), (13, .int i13), (14, .ref (adL r14)), (15, .int i15), (16, .int i16), (17, .int i17), (18, .int i18), (19, .int i19), (20, .int i20), (21, .int i21), (0, .ref b)]) [0, 1, 2, 3, 4, 5, 6, 7, 8, 9, 10, 11, 12, 13, 14, 15, 16, 17, 18, 19, 20, 21] rfl)
    · rw [if_pos c8] at h
      refine lv_iload hx hb dL_law_600 (lv_at hl 16 rfl) ?_
      refine lv_iconst (v := 1) hx hb dL_law_602 (by decide) ?_
      refine lv_icmp_ne (tgt := 608) hx hb dL_law_603 (by decide) (fun c9 => ?_) (fun c9 => ?_)
      · rw [if_neg c9] at h
        exact (ih.2.2.2.2.2.2.2.2.2.2.2.2.2.2.2.1) NL adL m1 kc ks r1 r2 i3 i4 i5 i6 i7 i8 r9 i10 i11 i12 i13 r14 i15 i16 i17 i18 i19 i20 i21 _ _ _ hNN hE hc hs hO n_r1 n_r2 n_r9 n_r14 h hP hD hS (lv_sub hl (l' := [(1, .ref (adL r1)), (2, .ref (adL r2)), (3, .int i3), (4, .int i4), (5, .int i5), (6, .int i6), (7, .int i7), (8, .int i8), (9, .ref (adL r9)), (10, .int i10), (11, .int i11), (12, .int i12), (13, .int i13), (14, .ref (adL r14)), (15, .int i15), (16, .int i16), (17, .int i17), (18, .int i18), (19, .int i19), (20, .int i20), (21, .int i21), (0, .ref b)]) [0, 1, 2, 3, 4, 5, 6, 7, 8, 9, 10, 11, 12, 13, 14, 15, 16, 17, 18, 19, 20, 21] rfl)
      · rw [if_pos c9] at h
        refine lv_iconst (v := 0) hx hb dL_law_606 (by decide) ?_
        have hz := Option.some.inj h
        rw [← hz] at hz1
        exact absurd (show (0 : Int32) = 1 from hz1) (by decide)
set_option maxHeartbeats 1000000 in
set_option maxRecDepth 100000 in
theorem law_b608 {p : Program} {l : Launch} {e : Env} {s : State} {m : MethodId} {below : List Frame} {meth : Method} {c : Code} {D : va_G} {tc : Nat → ClassId} {ad : Nat → Nat} {N b L : Nat} {xs : Nat → Int32} {A : Nat → Prop} {Qf : State → Prop} {z : Int32 × Nat × vM} (hx : p.tables.exec = Jvm.exec) (hb : c.code = code) (hml : c.maxLocals = 27) (hown : s.vm.findClass RL = some m.cls) (hts : ∀ w ∈ wsL_law, w.before #[Value.ref b] s = true) (hX : va_X b L xs s s.heap) (hbl : b < s.heap.size) (hbA : ¬ A b) (hA : ∀ q : Nat, s.heap.size ≤ q → A q) (hK : va_K D vwCl (vT tc) s) (hZ : vZ tc s) (hend : ∀ (H : Heap) (locs : List Loc) (ls : Array Slot), va_S A s.heap H locs → W p l e room_1 s m #[Value.ref b] below meth c H locs room_1.cells room_1.slots Qf (F0 m 1061 ls [.int 1])) (hz1 : z.1 = 1) {n : Nat} (ih : lC_29 p l e s m below meth c D tc ad N b L xs A Qf z n ∧ lC_90 p l e s m below meth c D tc ad N b L xs A Qf z n ∧ lC_123 p l e s m below meth c D tc ad N b L xs A Qf z n ∧ lC_132 p l e s m below meth c D tc ad N b L xs A Qf z n ∧ lC_272 p l e s m below meth c D tc ad N b L xs A Qf z n ∧ lC_286 p l e s m below meth c D tc ad N b L xs A Qf z n ∧ lC_392 p l e s m below meth c D tc ad N b L xs A Qf z n ∧ lC_402 p l e s m below meth c D tc ad N b L xs A Qf z n ∧ lC_411 p l e s m below meth c D tc ad N b L xs A Qf z n ∧ lC_430 p l e s m below meth c D tc ad N b L xs A Qf z n ∧ lC_448 p l e s m below meth c D tc ad N b L xs A Qf z n ∧ lC_473 p l e s m below meth c D tc ad N b L xs A Qf z n ∧ lC_513 p l e s m below meth c D tc ad N b L xs A Qf z n ∧ lC_561 p l e s m below meth c D tc ad N b L xs A Qf z n ∧ lC_583 p l e s m below meth c D tc ad N b L xs A Qf z n ∧ lC_608 p l e s m below meth c D tc ad N b L xs A Qf z n ∧ lC_696 p l e s m below meth c D tc ad N b L xs A Qf z n ∧ lC_702 p l e s m below meth c D tc ad N b L xs A Qf z n ∧ lC_749 p l e s m below meth c D tc ad N b L xs A Qf z n ∧ lC_847 p l e s m below meth c D tc ad N b L xs A Qf z n ∧ lC_850 p l e s m below meth c D tc ad N b L xs A Qf z n ∧ lC_883 p l e s m below meth c D tc ad N b L xs A Qf z n ∧ lC_929 p l e s m below meth c D tc ad N b L xs A Qf z n ∧ lC_943 p l e s m below meth c D tc ad N b L xs A Qf z n ∧ lC_957 p l e s m below meth c D tc ad N b L xs A Qf z n ∧ lC_963 p l e s m below meth c D tc ad N b L xs A Qf z n ∧ lC_1031 p l e s m below meth c D tc ad N b L xs A Qf z n) : lC_608 p l e s m below meth c D tc ad N b L xs A Qf z (n + 1) := by
  intro NL adL m1 kc ks r1 r2 i3 i4 i5 i6 i7 i8 r9 i10 i11 i12 i13 r14 i15 i16 i17 i18 i19 i20 i21 H locs ls hNN hE hc hs hO n_r1 n_r2 n_r9 n_r14 h hP hD hS hl
  have h : fB_L_law_608 L xs (fL_L_law L xs n) NL m1 kc ks r1 r2 i3 i4 i5 i6 i7 i8 r9 i10 i11 i12 i13 r14 i15 i16 i17 i18 i19 i20 i21 0 0 0 0 0 = some z := fE_L_law_608.symm.trans h
  unfold fB_L_law_608 at h
  refine lv_aload_n hx hb dL_law_608 rfl (lv_at hl 0 rfl) ?_
  refine lv_iload hx hb dL_law_609 (lv_at hl 15 rfl) ?_
  refine lv_iconst (v := 3) hx hb dL_law_611 (by decide) ?_
  obtain ⟨g1, h⟩ := vg_if h
  obtain ⟨q2, g3, h⟩ := vg_bind h
  refine va_calli (va_runV (As := [.int i16, .int 3]) (rest := []) ⟨hx, hb, hml, hown, hts⟩ (cm_X3_door (m0 := m1) l D tc adL hO n_r1 g3) (cwV 2 hts gL_law_X3_door rfl rfl rfl (by decide +kernel) ⟨(Nat.le_of_ble_eq_true rfl), (Nat.le_of_ble_eq_true rfl)⟩) ⟨qR_blind, va_recv hK hP (ci := 3) (q0 := r1) rfl (vW_k3 n_r1 g1), qR_pre hP hK hZ⟩ rfl rfl hl.1 rfl (lv_room (Nat.le_of_ble_eq_true rfl)) dL_law_612 ⟨vRc hc, vRs hs⟩) hS (fun q9 _ h9 => h9.elim) (fun q9 h9 => h9.elim) (fun w4 u t H1 locs ht hvm hw hB hz1 hk1 hS => ?_)
  have hP := hP.kept (fun k9 q9 hk9 => hk1 q9.1 (hP k9 q9 hk9).lt (fun h9 => h9))
  generalize H1 = H at hP hS ⊢
  clear hk1 hz1 ht hvm
  have hw : w4 = q2 := hw
  rw [hw]
  refine lv_istore (lv' := [(22, .int q2), (1, .ref (adL r1)), (2, .ref (adL r2)), (3, .int i3), (4, .int i4), (5, .int i5), (6, .int i6), (7, .int i7), (8, .int i8), (9, .ref (adL r9)), (10, .int i10), (11, .int i11), (12, .int i12), (13, .int i13), (14, .ref (adL r14)), (15, .int i15), (16, .int i16), (17, .int i17), (18, .int i18), (19, .int i19), (20, .int i20), (21, .int i21), (0, .ref b)]) hx hb dL_law_615 hl (by decide) rfl (fun ls hl => ?_)
  refine lv_aload_n hx hb dL_law_617 rfl (lv_at hl 1 rfl) ?_
  refine lv_iload hx hb dL_law_618 (lv_at hl 16 rfl) ?_
  refine lv_iconst (v := 4) hx hb dL_law_620 (by decide) ?_
  obtain ⟨q5, g6, h⟩ := vg_bind h
  refine va_calli (va_runV (As := [.int i16, .int 4]) (rest := []) ⟨hx, hb, hml, hown, hts⟩ (cm_X3_door (m0 := m1) l D tc adL hO n_r1 g6) (cwV 2 hts gL_law_X3_door rfl rfl rfl (by decide +kernel) ⟨(Nat.le_of_ble_eq_true rfl), (Nat.le_of_ble_eq_true rfl)⟩) ⟨qR_blind, va_recv hK hP (ci := 3) (q0 := r1) rfl (vW_k3 n_r1 g1), qR_pre hP hK hZ⟩ rfl rfl hl.1 rfl (lv_room (Nat.le_of_ble_eq_true rfl)) dL_law_621 ⟨vRc hc, vRs hs⟩) hS (fun q9 _ h9 => h9.elim) (fun q9 h9 => h9.elim) (fun w7 u t H1 locs ht hvm hw hB hz1 hk1 hS => ?_)
  have hP := hP.kept (fun k9 q9 hk9 => hk1 q9.1 (hP k9 q9 hk9).lt (fun h9 => h9))
  generalize H1 = H at hP hS ⊢
  clear hk1 hz1 ht hvm
  have hw : w7 = q5 := hw
  rw [hw]
  refine lv_istore (lv' := [(23, .int q5), (22, .int q2), (1, .ref (adL r1)), (2, .ref (adL r2)), (3, .int i3), (4, .int i4), (5, .int i5), (6, .int i6), (7, .int i7), (8, .int i8), (9, .ref (adL r9)), (10, .int i10), (11, .int i11), (12, .int i12), (13, .int i13), (14, .ref (adL r14)), (15, .int i15), (16, .int i16), (17, .int i17), (18, .int i18), (19, .int i19), (20, .int i20), (21, .int i21), (0, .ref b)]) hx hb dL_law_624 hl (by decide) rfl (fun ls hl => ?_)
  refine lv_aload_n hx hb dL_law_626 rfl (lv_at hl 2 rfl) ?_
  refine lv_iload hx hb dL_law_627 (lv_at hl 17 rfl) ?_
  refine lv_iconst (v := 5) hx hb dL_law_629 (by decide) ?_
  obtain ⟨q8, g9, h⟩ := vg_bind h
  refine va_calli (va_runV (As := [.int i16, .int 5]) (rest := []) ⟨hx, hb, hml, hown, hts⟩ (cm_X3_door (m0 := m1) l D tc adL hO n_r1 g9) (cwV 2 hts gL_law_X3_door rfl rfl rfl (by decide +kernel) ⟨(Nat.le_of_ble_eq_true rfl), (Nat.le_of_ble_eq_true rfl)⟩) ⟨qR_blind, va_recv hK hP (ci := 3) (q0 := r1) rfl (vW_k3 n_r1 g1), qR_pre hP hK hZ⟩ rfl rfl hl.1 rfl (lv_room (Nat.le_of_ble_eq_true rfl)) dL_law_630 ⟨vRc hc, vRs hs⟩) hS (fun q9 _ h9 => h9.elim) (fun q9 h9 => h9.elim) (fun w10 u t H1 locs ht hvm hw hB hz1 hk1 hS => ?_)
  have hP := hP.kept (fun k9 q9 hk9 => hk1 q9.1 (hP k9 q9 hk9).lt (fun h9 => h9))
  generalize H1 = H at hP hS ⊢
  clear hk1 hz1 ht hvm
  have hw : w10 = q8 := hw
  rw [hw]
  refine lv_istore (lv' := [(24, .int q8), (23, .int q5), (22, .int q2), (1, .ref (adL r1)), (2, .ref (adL r2)), (3, .int i3), (4, .int i4), (5, .int i5), (6, .int i6), (7, .int i7), (8, .int i8), (9, .ref (adL r9)), (10, .int i10), (11, .int i11), (12, .int i12), (13, .int i13), (14, .ref (adL r14)), (15, .int i15), (16, .int i16), (17, .int i17), (18, .int i18), (19, .int i19), (20, .int i20), (21, .int i21), (0, .ref b)]) hx hb dL_law_633 hl (by decide) rfl (fun ls hl => ?_)
  refine lv_iload hx hb dL_law_635 (lv_at hl 1 rfl) ?_
  refine lv_if_lt (tgt := 694) hx hb dL_law_637 (by decide) (fun c11 => ?_) (fun c11 => ?_)
  · rw [if_pos c11] at h
    refine lv_iconst (v := 0) hx hb dL_law_694 (by decide) ?_
    have hz := Option.some.inj h
    rw [← hz] at hz1
    exact absurd (show (0 : Int32) = 1 from hz1) (by decide)
  · rw [if_neg c11] at h
    refine lv_iload hx hb dL_law_640 (lv_at hl 1 rfl) ?_
    refine lv_iload hx hb dL_law_642 (lv_at hl 2 rfl) ?_
    refine lv_icmp_gt (tgt := 694) hx hb dL_law_644 (by decide) (fun c12 => ?_) (fun c12 => ?_)
    · rw [if_pos c12] at h
      refine lv_iconst (v := 0) hx hb dL_law_694 (by decide) ?_
      have hz := Option.some.inj h
      rw [← hz] at hz1
      exact absurd (show (0 : Int32) = 1 from hz1) (by decide)
    · rw [if_neg c12] at h
      refine lv_iload hx hb dL_law_647 (lv_at hl 0 rfl) ?_
      refine lv_if_lt (tgt := 694) hx hb dL_law_649 (by decide) (fun c13 => ?_) (fun c13 => ?_)
      · rw [if_pos c13] at h
        refine lv_iconst (v := 0) hx hb dL_law_694 (by decide) ?_
        have hz := Option.some.inj h
        rw [← hz] at hz1
        exact absurd (show (0 : Int32) = 1 from hz1) (by decide)
      · rw [if_neg c13] at h
        refine lv_iload hx hb dL_law_652 (lv_at hl 0 rfl) ?_
        refine lv_iload hx hb dL_law_654 (lv_at hl 1 rfl) ?_
        refine lv_icmp_gt (tgt := 694) hx hb dL_law_656 (by decide) (fun c14 => ?_) (fun c14 => ?_)
        · rw [if_pos c14] at h
          refine lv_iconst (v := 0) hx hb dL_law_694 (by decide) ?_
          have hz := Option.some.inj h
          rw [← hz] at hz1
          exact absurd (show (0 : Int32) = 1 from hz1) (by decide)
        · rw [if_neg c14] at h
          refine lv_iload hx hb dL_law_659 (lv_at hl 19 rfl) ?_
          refine lv_iconst (v := 1) hx hb dL_law_661 (by decide) ?_
          refine lv_icmp_eq (tgt := 681) hx hb dL_law_662 (by decide) (fun c15 => ?_) (fun c15 => ?_)
          · rw [if_pos c15] at h
            refine lv_iload hx hb dL_law_681 (lv_at hl 19 rfl) ?_
            refine lv_iconst (v := 1) hx hb dL_law_683 (by decide) ?_
            refine lv_icmp_ne (tgt := 696) hx hb dL_law_684 (by decide) (fun c16 => ?_) (fun c16 => ?_)
            · rw [if_neg c16] at h
              exact (ih.2.2.2.2.2.2.2.2.2.2.2.2.2.2.2.2.1) NL adL m1 kc ks r1 r2 i3 i4 i5 i6 i7 i8 r9 i10 i11 i12 i13 r14 i15 i16 i17 i18 i19 i20 i21 q2 q5 q8 _ _ _ hNN hE hc hs hO n_r1 n_r2 n_r9 n_r14 h hP hD hS (lv_sub hl (l' := [(1, .ref (adL r1)), (2, .ref (adL r2)), (3, .int i3), (4, .int i4), (5, .int i5), (6, .int i6), (7, .int i7), (8, .int i8), (9, .ref (adL r9)), (10, .int i10), (11, .int i11), (12, .int i12), (13, .int i13), (14, .ref (adL r14)), (15, .int i15), (16, .int i16), (17, .int i17), (18, .int i18), (19, .int i19), (20, .int i20), (21, .int i21), (22, .int q2), (23, .int q5), (24, .int q8), (0, .ref b)]) [3, 4, 5, 6, 7, 8, 9, 10, 11, 12, 13, 14, 15, 16, 17, 18, 19, 20, 21, 22, 23, 2, 1, 0, 24] rfl)
            · rw [if_pos c16] at h
              refine lv_iload hx hb dL_law_687 (lv_at hl 1 rfl) ?_
              refine lv_iload hx hb dL_law_689 (lv_at hl 2 rfl) ?_
              refine lv_icmp_ne (tgt := 696) hx hb dL_law_691 (by decide) (fun c17 => ?_) (fun c17 => ?_)
              · rw [if_neg c17] at h
                exact (ih.2.2.2.2.2.2.2.2.2.2.2.2.2.2.2.2.1) NL adL m1 kc ks r1 r2 i3 i4 i5 i6 i7 i8 r9 i10 i11 i12 i13 r14 i15 i16 i17 i18 i19 i20 i21 q2 q5 q8 _ _ _ hNN hE hc hs hO n_r1 n_r2 n_r9 n_r14 h hP hD hS (lv_sub hl (l' := [(1, .ref (adL r1)), (2, .ref (adL r2)), (3, .int i3), (4, .int i4), (5, .int i5), (6, .int i6), (7, .int i7), (8, .int i8), (9, .ref (adL r9)), (10, .int i10), (11, .int i11), (12, .int i12), (13, .int i13), (14, .ref (adL r14)), (15, .int i15), (16, .int i16), (17, .int i17), (18, .int i18), (19, .int i19), (20, .int i20), (21, .int i21), (22, .int q2), (23, .int q5), (24, .int q8), (0, .ref b)]) [3, 4, 5, 6, 7, 8, 9, 10, 11, 12, 13, 14, 15, 16, 17, 18, 19, 20, 21, 22, 23, 2, 1, 0, 24] rfl)
              · rw [if_pos c17] at h
                refine lv_iconst (v := 0) hx hb dL_law_694 (by decide) ?_
                have hz := Option.some.inj h
                rw [← hz] at hz1
                exact absurd (show (0 : Int32) = 1 from hz1) (by decide)
          · rw [if_neg c15] at h
            refine lv_iload hx hb dL_law_665 (lv_at hl 1 rfl) ?_
            refine lv_if_ne (tgt := 694) hx hb dL_law_667 (by decide) (fun c18 => ?_) (fun c18 => ?_)
            · rw [if_neg c18] at h
              refine lv_iconst (v := 0) hx hb dL_law_694 (by decide) ?_
              have hz := Option.some.inj h
              rw [← hz] at hz1
              exact absurd (show (0 : Int32) = 1 from hz1) (by decide)
            · rw [if_pos c18] at h
              refine lv_aload_n hx hb dL_law_670 rfl (lv_at hl 3 rfl) ?_
              refine lv_iload hx hb dL_law_671 (lv_at hl 18 rfl) ?_
              refine lv_bipush (v := 6) hx hb dL_law_673 (by decide) ?_
              obtain ⟨q19, g20, h⟩ := vg_bind h
              refine va_calli (va_runV (As := [.int i16, .int 6]) (rest := []) ⟨hx, hb, hml, hown, hts⟩ (cm_X3_door (m0 := m1) l D tc adL hO n_r1 g20) (cwV 2 hts gL_law_X3_door rfl rfl rfl (by decide +kernel) ⟨(Nat.le_of_ble_eq_true rfl), (Nat.le_of_ble_eq_true rfl)⟩) ⟨qR_blind, va_recv hK hP (ci := 3) (q0 := r1) rfl (vW_k3 n_r1 g1), qR_pre hP hK hZ⟩ rfl rfl hl.1 rfl (lv_room (Nat.le_of_ble_eq_true rfl)) dL_law_675 ⟨vRc hc, vRs hs⟩) hS (fun q9 _ h9 => h9.elim) (fun q9 h9 => h9.elim) (fun w21 u t H1 locs ht hvm hw hB hz1 hk1 hS => ?_)
              have hP := hP.kept (fun k9 q9 hk9 => hk1 q9.1 (hP k9 q9 hk9).lt (fun h9 => h9))
              generalize H1 = H at hP hS ⊢
              clear hk1 hz1 ht hvm
              have hw : w21 = q19 := hw
              rw [hw]
              refine lv_if_ne (tgt := 694) hx hb dL_law_678 (by decide) (fun c22 => ?_) (fun c22 => ?_)
              · rw [if_neg c22] at h
                refine lv_iconst (v := 0) hx hb dL_law_694 (by decide) ?_
                have hz := Option.some.inj h
                rw [← hz] at hz1
                exact absurd (show (0 : Int32) = 1 from hz1) (by decide)
              · rw [if_pos c22] at h
                refine lv_iload hx hb dL_law_681 (lv_at hl 19 rfl) ?_
                refine lv_iconst (v := 1) hx hb dL_law_683 (by decide) ?_
                refine lv_icmp_ne (tgt := 696) hx hb dL_law_684 (by decide) (fun c23 => ?_) (fun c23 => ?_)
                · rw [if_neg c23] at h
                  exact (ih.2.2.2.2.2.2.2.2.2.2.2.2.2.2.2.2.1) NL adL m1 kc ks r1 r2 i3 i4 i5 i6 i7 i8 r9 i10 i11 i12 i13 r14 i15 i16 i17 i18 i19 i20 i21 q2 q5 q8 _ _ _ hNN hE hc hs hO n_r1 n_r2 n_r9 n_r14 h hP hD hS (lv_sub hl (l' := [(1, .ref (adL r1)), (2, .ref (adL r2)), (3, .int i3), (4, .int i4), (5, .int i5), (6, .int i6), (7, .int i7), (8, .int i8), (9, .ref (adL r9)), (10, .int i10), (11, .int i11), (12, .int i12), (13, .int i13), (14, .ref (adL r14)), (15, .int i15), (16, .int i16), (17, .int i17), (18, .int i18), (19, .int i19), (20, .int i20), (21, .int i21), (22, .int q2), (23, .int q5), (24, .int q8), (0, .ref b)]) [3, 4, 5, 6, 7, 8, 9, 10, 11, 12, 13, 14, 15, 16, 17, 18, 19, 20, 21, 22, 23, 2, 1, 0, 24] rfl)
                · rw [if_pos c23] at h
                  refine lv_iload hx hb dL_law_687 (lv_at hl 1 rfl) ?_
                  refine lv_iload hx hb dL_law_689 (lv_at hl 2 rfl) ?_
                  refine lv_icmp_ne (tgt := 696) hx hb dL_law_691 (by decide) (fun c24 => ?_) (fun c24 => ?_)
                  · rw [if_neg c24] at h
                    exact (ih.2.2.2.2.2.2.2.2.2.2.2.2.2.2.2.2.1) NL adL m1 kc ks r1 r2 i3 i4 i5 i6 i7 i8 r9 i10 i11 i12 i13 r14 i15 i16 i17 i18 i19 i20 i21 q2 q5 q8 _ _ _ hNN hE hc hs hO n_r1 n_r2 n_r9 n_r14 h hP hD hS (lv_sub hl (l' := [(1, .ref (adL r1)), (2, .ref (adL r2)), (3, .int i3), (4, .int i4), (5, .int i5), (6, .int i6), (7, .int i7), (8, .int i8), (9, .ref (adL r9)), (10, .int i10), (11, .int i11), (12, .int i12), (13, .int i13), (14, .ref (adL r14)), (15, .int i15), (16, .int i16), (17, .int i17), (18, .int i18), (19, .int i19), (20, .int i20), (21, .int i21), (22, .int q2), (23, .int q5), (24, .int q8), (0, .ref b)]) [3, 4, 5, 6, 7, 8, 9, 10, 11, 12, 13, 14, 15, 16, 17, 18, 19, 20, 21, 22, 23, 2, 1, 0, 24] rfl)
                  · rw [if_pos c24] at h
                    refine lv_iconst (v := 0) hx hb dL_law_694 (by decide) ?_
                    have hz := Option.some.inj h
                    rw [← hz] at hz1
                    exact absurd (show (0 : Int32) = 1 from hz1) (by decide)
set_option maxHeartbeats 1000000 in
set_option maxRecDepth 100000 in
theorem law_b696 {p : Program} {l : Launch} {e : Env} {s : State} {m : MethodId} {below : List Frame} {meth : Method} {c : Code} {D : va_G} {tc : Nat → ClassId} {ad : Nat → Nat} {N b L : Nat} {xs : Nat → Int32} {A : Nat → Prop} {Qf : State → Prop} {z : Int32 × Nat × vM} (hx : p.tables.exec = Jvm.exec) (hb : c.code = code) (hml : c.maxLocals = 27) (hown : s.vm.findClass RL = some m.cls) (hts : ∀ w ∈ wsL_law, w.before #[Value.ref b] s = true) (hX : va_X b L xs s s.heap) (hbl : b < s.heap.size) (hbA : ¬ A b) (hA : ∀ q : Nat, s.heap.size ≤ q → A q) (hK : va_K D vwCl (vT tc) s) (hZ : vZ tc s) (hend : ∀ (H : Heap) (locs : List Loc) (ls : Array Slot), va_S A s.heap H locs → W p l e room_1 s m #[Value.ref b] below meth c H locs room_1.cells room_1.slots Qf (F0 m 1061 ls [.int 1])) (hz1 : z.1 = 1) {n : Nat} (ih : lC_29 p l e s m below meth c D tc ad N b L xs A Qf z n ∧ lC_90 p l e s m below meth c D tc ad N b L xs A Qf z n ∧ lC_123 p l e s m below meth c D tc ad N b L xs A Qf z n ∧ lC_132 p l e s m below meth c D tc ad N b L xs A Qf z n ∧ lC_272 p l e s m below meth c D tc ad N b L xs A Qf z n ∧ lC_286 p l e s m below meth c D tc ad N b L xs A Qf z n ∧ lC_392 p l e s m below meth c D tc ad N b L xs A Qf z n ∧ lC_402 p l e s m below meth c D tc ad N b L xs A Qf z n ∧ lC_411 p l e s m below meth c D tc ad N b L xs A Qf z n ∧ lC_430 p l e s m below meth c D tc ad N b L xs A Qf z n ∧ lC_448 p l e s m below meth c D tc ad N b L xs A Qf z n ∧ lC_473 p l e s m below meth c D tc ad N b L xs A Qf z n ∧ lC_513 p l e s m below meth c D tc ad N b L xs A Qf z n ∧ lC_561 p l e s m below meth c D tc ad N b L xs A Qf z n ∧ lC_583 p l e s m below meth c D tc ad N b L xs A Qf z n ∧ lC_608 p l e s m below meth c D tc ad N b L xs A Qf z n ∧ lC_696 p l e s m below meth c D tc ad N b L xs A Qf z n ∧ lC_702 p l e s m below meth c D tc ad N b L xs A Qf z n ∧ lC_749 p l e s m below meth c D tc ad N b L xs A Qf z n ∧ lC_847 p l e s m below meth c D tc ad N b L xs A Qf z n ∧ lC_850 p l e s m below meth c D tc ad N b L xs A Qf z n ∧ lC_883 p l e s m below meth c D tc ad N b L xs A Qf z n ∧ lC_929 p l e s m below meth c D tc ad N b L xs A Qf z n ∧ lC_943 p l e s m below meth c D tc ad N b L xs A Qf z n ∧ lC_957 p l e s m below meth c D tc ad N b L xs A Qf z n ∧ lC_963 p l e s m below meth c D tc ad N b L xs A Qf z n ∧ lC_1031 p l e s m below meth c D tc ad N b L xs A Qf z n) : lC_696 p l e s m below meth c D tc ad N b L xs A Qf z (n + 1) := by
  intro NL adL m1 kc ks r1 r2 i3 i4 i5 i6 i7 i8 r9 i10 i11 i12 i13 r14 i15 i16 i17 i18 i19 i20 i21 i22 i23 i24 H locs ls hNN hE hc hs hO n_r1 n_r2 n_r9 n_r14 h hP hD hS hl
  have h : fB_L_law_696 L xs (fL_L_law L xs n) NL m1 kc ks r1 r2 i3 i4 i5 i6 i7 i8 r9 i10 i11 i12 i13 r14 i15 i16 i17 i18 i19 i20 i21 i22 i23 i24 0 0 = some z := fE_L_law_696.symm.trans h
  unfold fB_L_law_696 at h
  refine lv_iconst (v := 0) hx hb dL_law_696 (by decide) ?_
  refine lv_istore (lv' := [(25, .int 0), (1, .ref (adL r1)), (2, .ref (adL r2)), (3, .int i3), (4, .int i4), (5, .int i5), (6, .int i6), (7, .int i7), (8, .int i8), (9, .ref (adL r9)), (10, .int i10), (11, .int i11), (12, .int i12), (13, .int i13), (14, .ref (adL r14)), (15, .int i15), (16, .int i16), (17, .int i17), (18, .int i18), (19, .int i19), (20, .int i20), (21, .int i21), (22, .int i22), (23, .int i23), (24, .int i24), (0, .ref b)]) hx hb dL_law_697 hl (by decide) rfl (fun ls hl => ?_)
  refine lv_iconst (v := 0) hx hb dL_law_699 (by decide) ?_
  refine lv_istore (lv' := [(26, .int 0), (25, .int 0), (1, .ref (adL r1)), (2, .ref (adL r2)), (3, .int i3), (4, .int i4), (5, .int i5), (6, .int i6), (7, .int i7), (8, .int i8), (9, .ref (adL r9)), (10, .int i10), (11, .int i11), (12, .int i12), (13, .int i13), (14, .ref (adL r14)), (15, .int i15), (16, .int i16), (17, .int i17), (18, .int i18), (19, .int i19), (20, .int i20), (21, .int i21), (22, .int i22), (23, .int i23), (24, .int i24), (0, .ref b)]) hx hb dL_law_700 hl (by decide) rfl (fun ls hl => ?_)
  exact (ih.2.2.2.2.2.2.2.2.2.2.2.2.2.2.2.2.2.1) NL adL m1 kc ks r1 r2 i3 i4 i5 i6 i7 i8 r9 i10 i11 i12 i13 r14 i15 i16 i17 i18 i19 i20 i21 i22 i23 i24 (0 : Int32) (0 : Int32) _ _ _ hNN hE hc hs hO n_r1 n_r2 n_r9 n_r14 h hP hD hS (lv_sub hl (l' := [(1, .ref (adL r1)), (2, .ref (adL r2)), (3, .int i3), (4, .int i4), (5, .int i5), (6, .int i6), (7, .int i7), (8, .int i8), (9, .ref (adL r9)), (10, .int i10), (11, .int i11), (12, .int i12), (13, .int i13), (14, .ref (adL r14)), (15, .int i15), (16, .int i16), (17, .int i17), (18, .int i18), (19, .int i19), (20, .int i20), (21, .int i21), (22, .int i22), (23, .int i23), (24, .int i24), (25, .int 0), (26, .int 0), (0, .ref b)]) [2, 3, 4, 5, 6, 7, 8, 9, 10, 11, 12, 13, 14, 15, 16, 17, 18, 19, 20, 21, 22, 23, 24, 25, 1, 0, 26] rfl)
set_option maxHeartbeats 1000000 in
set_option maxRecDepth 100000 in
theorem law_b702 {p : Program} {l : Launch} {e : Env} {s : State} {m : MethodId} {below : List Frame} {meth : Method} {c : Code} {D : va_G} {tc : Nat → ClassId} {ad : Nat → Nat} {N b L : Nat} {xs : Nat → Int32} {A : Nat → Prop} {Qf : State → Prop} {z : Int32 × Nat × vM} (hx : p.tables.exec = Jvm.exec) (hb : c.code = code) (hml : c.maxLocals = 27) (hown : s.vm.findClass RL = some m.cls) (hts : ∀ w ∈ wsL_law, w.before #[Value.ref b] s = true) (hX : va_X b L xs s s.heap) (hbl : b < s.heap.size) (hbA : ¬ A b) (hA : ∀ q : Nat, s.heap.size ≤ q → A q) (hK : va_K D vwCl (vT tc) s) (hZ : vZ tc s) (hend : ∀ (H : Heap) (locs : List Loc) (ls : Array Slot), va_S A s.heap H locs → W p l e room_1 s m #[Value.ref b] below meth c H locs room_1.cells room_1.slots Qf (F0 m 1061 ls [.int 1])) (hz1 : z.1 = 1) {n : Nat} (ih : lC_29 p l e s m below meth c D tc ad N b L xs A Qf z n ∧ lC_90 p l e s m below meth c D tc ad N b L xs A Qf z n ∧ lC_123 p l e s m below meth c D tc ad N b L xs A Qf z n ∧ lC_132 p l e s m below meth c D tc ad N b L xs A Qf z n ∧ lC_272 p l e s m below meth c D tc ad N b L xs A Qf z n ∧ lC_286 p l e s m below meth c D tc ad N b L xs A Qf z n ∧ lC_392 p l e s m below meth c D tc ad N b L xs A Qf z n ∧ lC_402 p l e s m below meth c D tc ad N b L xs A Qf z n ∧ lC_411 p l e s m below meth c D tc ad N b L xs A Qf z n ∧ lC_430 p l e s m below meth c D tc ad N b L xs A Qf z n ∧ lC_448 p l e s m below meth c D tc ad N b L xs A Qf z n ∧ lC_473 p l e s m below meth c D tc ad N b L xs A Qf z n ∧ lC_513 p l e s m below meth c D tc ad N b L xs A Qf z n ∧ lC_561 p l e s m below meth c D tc ad N b L xs A Qf z n ∧ lC_583 p l e s m below meth c D tc ad N b L xs A Qf z n ∧ lC_608 p l e s m below meth c D tc ad N b L xs A Qf z n ∧ lC_696 p l e s m below meth c D tc ad N b L xs A Qf z n ∧ lC_702 p l e s m below meth c D tc ad N b L xs A Qf z n ∧ lC_749 p l e s m below meth c D tc ad N b L xs A Qf z n ∧ lC_847 p l e s m below meth c D tc ad N b L xs A Qf z n ∧ lC_850 p l e s m below meth c D tc ad N b L xs A Qf z n ∧ lC_883 p l e s m below meth c D tc ad N b L xs A Qf z n ∧ lC_929 p l e s m below meth c D tc ad N b L xs A Qf z n ∧ lC_943 p l e s m below meth c D tc ad N b L xs A Qf z n ∧ lC_957 p l e s m below meth c D tc ad N b L xs A Qf z n ∧ lC_963 p l e s m below meth c D tc ad N b L xs A Qf z n ∧ lC_1031 p l e s m below meth c D tc ad N b L xs A Qf z n) : lC_702 p l e s m below meth c D tc ad N b L xs A Qf z (n + 1) := by
  intro NL adL m1 kc ks r1 r2 i3 i4 i5 i6 i7 i8 r9 i10 i11 i12 i13 r14 i15 i16 i17 i18 i19 i20 i21 i22 i23 i24 i25 i26 H locs ls hNN hE hc hs hO n_r1 n_r2 n_r9 n_r14 h hP hD hS hl
  have h : fB_L_law_702 L xs (fL_L_law L xs n) NL m1 kc ks r1 r2 i3 i4 i5 i6 i7 i8 r9 i10 i11 i12 i13 r14 i15 i16 i17 i18 i19 i20 i21 i22 i23 i24 i25 i26 = some z := fE_L_law_702.symm.trans h
  unfold fB_L_law_702 at h
  refine lv_iload hx hb dL_law_702 (lv_at hl 25 rfl) ?_
  refine lv_iload hx hb dL_law_704 (lv_at hl 21 rfl) ?_
  refine lv_icmp_ge (tgt := 737) hx hb dL_law_706 (by decide) (fun c1 => ?_) (fun c1 => ?_)
  · rw [if_pos c1] at h
    refine lv_iload hx hb dL_law_737 (lv_at hl 24 rfl) ?_
    refine lv_iload hx hb dL_law_739 (lv_at hl 22 rfl) ?_
    refine lv_icmp_eq (tgt := 746) hx hb dL_law_741 (by decide) (fun c2 => ?_) (fun c2 => ?_)
    · rw [if_pos c2] at h
      refine lv_iconst (v := 0) hx hb dL_law_746 (by decide) ?_
      refine lv_istore (lv' := [(26, .int 0), (1, .ref (adL r1)), (2, .ref (adL r2)), (3, .int i3), (4, .int i4), (5, .int i5), (6, .int i6), (7, .int i7), (8, .int i8), (9, .ref (adL r9)), (10, .int i10), (11, .int i11), (12, .int i12), (13, .int i13), (14, .ref (adL r14)), (15, .int i15), (16, .int i16), (17, .int i17), (18, .int i18), (19, .int i19), (20, .int i20), (21, .int i21), (22, .int i22), (23, .int i23), (24, .int i24), (25, .int i25), (0, .ref b)]) hx hb dL_law_747 hl (by decide) rfl (fun ls hl => ?_)
      exact (ih.2.2.2.2.2.2.2.2.2.2.2.2.2.2.2.2.2.2.1) NL adL m1 kc ks r1 r2 i3 i4 i5 i6 i7 i8 r9 i10 i11 i12 i13 r14 i15 i16 i17 i18 i19 i20 i21 i22 i23 i24 i25 (0 : Int32) _ _ _ hNN hE hc hs hO n_r1 n_r2 n_r9 n_r14 h hP hD hS (lv_sub hl (l' := [(1, .ref (adL r1)), (2, .ref (adL r2)), (3, .int i3), (4, .int i4), (5, .int i5), (6, .int i6), (7, .int i7), (8, .int i8), (9, .ref (adL r9)), (10, .int i10), (11, .int i11), (12, .int i12), (13, .int i13), (14, .ref (adL r14)), (15, .int i15), (16, .int i16), (17, .int i17), (18, .int i18), (19, .int i19), (20, .int i20), (21, .int i21), (22, .int i22), (23, .int i23), (24, .int i24), (25, .int i25), (26, .int 0), (0, .ref b)]) [1, 2, 3, 4, 5, 6, 7, 8, 9, 10, 11, 12, 13, 14, 15, 16, 17, 18, 19, 20, 21, 22, 23, 24, 25, 0, 26] rfl)
    · rw [if_neg c2] at h
      refine lv_iconst (v := 0) hx hb dL_law_744 (by decide) ?_
      have hz := Option.some.inj h
      rw [← hz] at hz1
      exact absurd (show (0 : Int32) = 1 from hz1) (by decide)
  · rw [if_neg c1] at h
    refine lv_iload hx hb dL_law_709 (lv_at hl 24 rfl) ?_
    refine lv_aload_n hx hb dL_law_711 rfl (lv_at hl 0 rfl) ?_
    refine lv_iload hx hb dL_law_712 (lv_at hl 15 rfl) ?_
    refine lv_iload hx hb dL_law_714 (lv_at hl 25 rfl) ?_
    refine lv_iconst (v := 2) hx hb dL_law_716 (by decide) ?_
    obtain ⟨g3, h⟩ := vg_if h
    obtain ⟨q4, g5, h⟩ := vg_bind h
    refine va_calli (va_runV (As := [.int i16, .int i26, .int 2]) (rest := [.int i25]) ⟨hx, hb, hml, hown, hts⟩ (cm_X3_asks (m0 := m1) l D tc adL hO n_r1 g5) (cwV 3 hts gL_law_X3_asks rfl rfl rfl (by decide +kernel) ⟨(Nat.le_of_ble_eq_true rfl), (Nat.le_of_ble_eq_true rfl)⟩) ⟨qR_blind, va_recv hK hP (ci := 3) (q0 := r1) rfl (vW_k3 n_r1 g3), qR_pre hP hK hZ⟩ rfl rfl hl.1 rfl (lv_room (Nat.le_of_ble_eq_true rfl)) dL_law_717 ⟨vRc hc, vRs hs⟩) hS (fun q9 _ h9 => h9.elim) (fun q9 h9 => h9.elim) (fun w6 u t H1 locs ht hvm hw hB hz1 hk1 hS => ?_)
    have hP := hP.kept (fun k9 q9 hk9 => hk1 q9.1 (hP k9 q9 hk9).lt (fun h9 => h9))
    generalize H1 = H at hP hS ⊢
    clear hk1 hz1 ht hvm
    have hw : w6 = q4 := hw
    rw [hw]
    refine lv_if_lt (tgt := 727) hx hb dL_law_720 (by decide) (fun c7 => ?_) (fun c7 => ?_)
    · rw [if_pos c7] at h
      refine lv_iconst (v := 0) hx hb dL_law_727 (by decide) ?_
      refine lv_iadd hx hb dL_law_728 ?_
      refine lv_istore (lv' := [(25, .int (i25 + 0)), (1, .ref (adL r1)), (2, .ref (adL r2)), (3, .int i3), (4, .int i4), (5, .int i5), (6, .int i6), (7, .int i7), (8, .int i8), (9, .ref (adL r9)), (10, .int i10), (11, .int i11), (12, .int i12), (13, .int i13), (14, .ref (adL r14)), (15, .int i15), (16, .int i16), (17, .int i17), (18, .int i18), (19, .int i19), (20, .int i20), (21, .int i21), (22, .int i22), (23, .int i23), (24, .int i24), (26, .int i26), (0, .ref b)]) hx hb dL_law_729 hl (by decide) rfl (fun ls hl => ?_)
      refine lv_iinc (v := i26 + 1) (lv' := [(26, .int (i26 + 1)), (25, .int (i25 + 0)), (1, .ref (adL r1)), (2, .ref (adL r2)), (3, .int i3), (4, .int i4), (5, .int i5), (6, .int i6), (7, .int i7), (8, .int i8), (9, .ref (adL r9)), (10, .int i10), (11, .int i11), (12, .int i12), (13, .int i13), (14, .ref (adL r14)), (15, .int i15), (16, .int i16), (17, .int i17), (18, .int i18), (19, .int i19), (20, .int i20), (21, .int i21), (22, .int i22), (23, .int i23), (24, .int i24), (0, .ref b)]) hx hb dL_law_731 hl (k := 25) rfl rfl (by decide) rfl (fun ls hl => ?_)
      refine lv_goto (tgt := 702) hx hb dL_law_734 (by decide) ?_
      exact (ih.2.2.2.2.2.2.2.2.2.2.2.2.2.2.2.2.2.1) NL adL m1 kc ks r1 r2 i3 i4 i5 i6 i7 i8 r9 i10 i11 i12 i13 r14 i15 i16 i17 i18 i19 i20 i21 i22 i23 i24 (i25 + 0) (i26 + 1) _ _ _ hNN hE hc hs hO n_r1 n_r2 n_r9 n_r14 h hP hD hS (lv_sub hl (l' := [(1, .ref (adL r1)), (2, .ref (adL r2)), (3, .int i3), (4, .int i4), (5, .int i5), (6, .int i6), (7, .int i7), (8, .int i8), (9, .ref (adL r9)), (10, .int i10), (11, .int i11), (12, .int i12), (13, .int i13), (14, .ref (adL r14)), (15, .int i15), (16, .int i16), (17, .int i17), (18, .int i18), (19, .int i19), (20, .int i20), (21, .int i21), (22, .int i22), (23, .int i23), (24, .int i24), (25, .int (i25 + 0)), (26, .int (i26 + 1)), (0, .ref b)]) [2, 3, 4, 5, 6, 7, 8, 9, 10, 11, 12, 13, 14, 15, 16, 17, 18, 19, 20, 21, 22, 23, 24, 25, 1, 0, 26] rfl)
    · rw [if_neg c7] at h
      refine lv_iconst (v := 1) hx hb dL_law_723 (by decide) ?_
      refine lv_goto (tgt := 728) hx hb dL_law_724 (by decide) ?_
      refine lv_iadd hx hb dL_law_728 ?_
      refine lv_istore (lv' := [(25, .int (i25 + 1)), (1, .ref (adL r1)), (2, .ref (adL r2)), (3, .int i3), (4, .int i4), (5, .int i5), (6, .int i6), (7, .int i7), (8, .int i8), (9, .ref (adL r9)), (10, .int i10), (11, .int i11), (12, .int i12), (13, .int i13), (14, .ref (adL r14)), (15, .int i15), (16, .int i16), (17, .int i17), (18, .int i18), (19, .int i19), (20, .int i20), (21, .int i21), (22, .int i22), (23, .int i23), (24, .int i24), (26, .int i26), (0, .ref b)]) hx hb dL_law_729 hl (by decide) rfl (fun ls hl => ?_)
      refine lv_iinc (v := i26 + 1) (lv' := [(26, .int (i26 + 1)), (25, .int (i25 + 1)), (1, .ref (adL r1)), (2, .ref (adL r2)), (3, .int i3), (4, .int i4), (5, .int i5), (6, .int i6), (7, .int i7), (8, .int i8), (9, .ref (adL r9)), (10, .int i10), (11, .int i11), (12, .int i12), (13, .int i13), (14, .ref (adL r14)), (15, .int i15), (16, .int i16), (17, .int i17), (18, .int i18), (19, .int i19), (20, .int i20), (21, .int i21), (22, .int i22), (23, .int i23), (24, .int i24), (0, .ref b)]) hx hb dL_law_731 hl (k := 25) rfl rfl (by decide) rfl (fun ls hl => ?_)
      refine lv_goto (tgt := 702) hx hb dL_law_734 (by decide) ?_
      exact (ih.2.2.2.2.2.2.2.2.2.2.2.2.2.2.2.2.2.1) NL adL m1 kc ks r1 r2 i3 i4 i5 i6 i7 i8 r9 i10 i11 i12 i13 r14 i15 i16 i17 i18 i19 i20 i21 i22 i23 i24 (i25 + 1) (i26 + 1) _ _ _ hNN hE hc hs hO n_r1 n_r2 n_r9 n_r14 h hP hD hS (lv_sub hl (l' := [(1, .ref (adL r1)), (2, .ref (adL r2)), (3, .int i3), (4, .int i4), (5, .int i5), (6, .int i6), (7, .int i7), (8, .int i8), (9, .ref (adL r9)), (10, .int i10), (11, .int i11), (12, .int i12), (13, .int i13), (14, .ref (adL r14)), (15, .int i15), (16, .int i16), (17, .int i17), (18, .int i18), (19, .int i19), (20, .int i20), (21, .int i21), (22, .int i22), (23, .int i23), (24, .int i24), (25, .int (i25 + 1)), (26, .int (i26 + 1)), (0, .ref b)]) [2, 3, 4, 5, 6, 7, 8, 9, 10, 11, 12, 13, 14, 15, 16, 17, 18, 19, 20, 21, 22, 23, 24, 25, 1, 0, 26] rfl)
set_option maxHeartbeats 1000000 in
set_option maxRecDepth 100000 in
theorem law_b749 {p : Program} {l : Launch} {e : Env} {s : State} {m : MethodId} {below : List Frame} {meth : Method} {c : Code} {D : va_G} {tc : Nat → ClassId} {ad : Nat → Nat} {N b L : Nat} {xs : Nat → Int32} {A : Nat → Prop} {Qf : State → Prop} {z : Int32 × Nat × vM} (hx : p.tables.exec = Jvm.exec) (hb : c.code = code) (hml : c.maxLocals = 27) (hown : s.vm.findClass RL = some m.cls) (hts : ∀ w ∈ wsL_law, w.before #[Value.ref b] s = true) (hX : va_X b L xs s s.heap) (hbl : b < s.heap.size) (hbA : ¬ A b) (hA : ∀ q : Nat, s.heap.size ≤ q → A q) (hK : va_K D vwCl (vT tc) s) (hZ : vZ tc s) (hend : ∀ (H : Heap) (locs : List Loc) (ls : Array Slot), va_S A s.heap H locs → W p l e room_1 s m #[Value.ref b] below meth c H locs room_1.cells room_1.slots Qf (F0 m 1061 ls [.int 1])) (hz1 : z.1 = 1) {n : Nat} (ih : lC_29 p l e s m below meth c D tc ad N b L xs A Qf z n ∧ lC_90 p l e s m below meth c D tc ad N b L xs A Qf z n ∧ lC_123 p l e s m below meth c D tc ad N b L xs A Qf z n ∧ lC_132 p l e s m below meth c D tc ad N b L xs A Qf z n ∧ lC_272 p l e s m below meth c D tc ad N b L xs A Qf z n ∧ lC_286 p l e s m below meth c D tc ad N b L xs A Qf z n ∧ lC_392 p l e s m below meth c D tc ad N b L xs A Qf z n ∧ lC_402 p l e s m below meth c D tc ad N b L xs A Qf z n ∧ lC_411 p l e s m below meth c D tc ad N b L xs A Qf z n ∧ lC_430 p l e s m below meth c D tc ad N b L xs A Qf z n ∧ lC_448 p l e s m below meth c D tc ad N b L xs A Qf z n ∧ lC_473 p l e s m below meth c D tc ad N b L xs A Qf z n ∧ lC_513 p l e s m below meth c D tc ad N b L xs A Qf z n ∧ lC_561 p l e s m below meth c D tc ad N b L xs A Qf z n ∧ lC_583 p l e s m below meth c D tc ad N b L xs A Qf z n ∧ lC_608 p l e s m below meth c D tc ad N b L xs A Qf z n ∧ lC_696 p l e s m below meth c D tc ad N b L xs A Qf z n ∧ lC_702 p l e s m below meth c D tc ad N b L xs A Qf z n ∧ lC_749 p l e s m below meth c D tc ad N b L xs A Qf z n ∧ lC_847 p l e s m below meth c D tc ad N b L xs A Qf z n ∧ lC_850 p l e s m below meth c D tc ad N b L xs A Qf z n ∧ lC_883 p l e s m below meth c D tc ad N b L xs A Qf z n ∧ lC_929 p l e s m below meth c D tc ad N b L xs A Qf z n ∧ lC_943 p l e s m below meth c D tc ad N b L xs A Qf z n ∧ lC_957 p l e s m below meth c D tc ad N b L xs A Qf z n ∧ lC_963 p l e s m below meth c D tc ad N b L xs A Qf z n ∧ lC_1031 p l e s m below meth c D tc ad N b L xs A Qf z n) : lC_749 p l e s m below meth c D tc ad N b L xs A Qf z (n + 1) := by
  intro NL adL m1 kc ks r1 r2 i3 i4 i5 i6 i7 i8 r9 i10 i11 i12 i13 r14 i15 i16 i17 i18 i19 i20 i21 i22 i23 i24 i25 i26 H locs ls hNN hE hc hs hO n_r1 n_r2 n_r9 n_r14 h hP hD hS hl
  have h : fB_L_law_749 L xs (fL_L_law L xs n) NL m1 kc ks r1 r2 i3 i4 i5 i6 i7 i8 r9 i10 i11 i12 i13 r14 i15 i16 i17 i18 i19 i20 i21 i22 i23 i24 i25 i26 = some z := fE_L_law_749.symm.trans h
  unfold fB_L_law_749 at h
  refine lv_iload hx hb dL_law_749 (lv_at hl 25 rfl) ?_
  refine lv_iload hx hb dL_law_751 (lv_at hl 21 rfl) ?_
  refine lv_icmp_ge (tgt := 810) hx hb dL_law_753 (by decide) (fun c1 => ?_) (fun c1 => ?_)
  · rw [if_pos c1] at h
    refine lv_iinc (v := i16 + 1) (lv' := [(16, .int (i16 + 1)), (1, .ref (adL r1)), (2, .ref (adL r2)), (3, .int i3), (4, .int i4), (5, .int i5), (6, .int i6), (7, .int i7), (8, .int i8), (9, .ref (adL r9)), (10, .int i10), (11, .int i11), (12, .int i12), (13, .int i13), (14, .ref (adL r14)), (15, .int i15), (17, .int i17), (18, .int i18), (19, .int i19), (20, .int i20), (21, .int i21), (22, .int i22), (23, .int i23), (24, .int i24), (25, .int i25), (26, .int i26), (0, .ref b)]) hx hb dL_law_810 hl (k := 15) rfl rfl (by decide) rfl (fun ls hl => ?_)
    refine lv_goto (tgt := 286) hx hb dL_law_813 (by decide) ?_
    exact (ih.2.2.2.2.2.1) NL adL m1 kc ks r1 r2 i3 i4 i5 i6 i7 i8 r9 i10 i11 i12 i13 r14 i15 (i16 + 1) _ _ _ hNN hE hc hs hO n_r1 n_r2 n_r9 n_r14 h hP hD hS (lv_sub hl (l' := [(1, .ref (adL r1)), (2, .ref (adL r2)), (3, .int i3), (4, .int i4), (5, .int i5), (6, .int i6), (7, .int i7), (8, .int i8), (9, .ref (adL r9)), (10, .int i10), (11, .int i11), (12, .int i12), (13, .int i13), (14, .ref (adL r14)), (15, .int i15), (16, .int (i16 + 1)), (0, .ref b)]) [1, 2, 3, 4, 5, 6, 7, 8, 9, 10, 11, 12, 13, 14, 15, 0, 26] rfl)
  · rw [if_neg c1] at h
    refine lv_aload_n hx hb dL_law_756 rfl (lv_at hl 0 rfl) ?_
    refine lv_iload hx hb dL_law_757 (lv_at hl 15 rfl) ?_
    obtain ⟨g2, h⟩ := vg_if h
    obtain ⟨q3, g4, h⟩ := vg_bind h
    refine va_calli (va_runV (As := [.int i16]) (rest := []) ⟨hx, hb, hml, hown, hts⟩ (cm_X3_reach (m0 := m1) l D tc adL hO n_r1 g4) (cwV 1 hts gL_law_X3_reach rfl rfl rfl (by decide +kernel) ⟨(Nat.le_of_ble_eq_true rfl), (Nat.le_of_ble_eq_true rfl)⟩) ⟨qR_blind, va_recv hK hP (ci := 3) (q0 := r1) rfl (vW_k3 n_r1 g2), qR_pre hP hK hZ⟩ rfl rfl hl.1 rfl (lv_room (Nat.le_of_ble_eq_true rfl)) dL_law_759 ⟨vRc hc, vRs hs⟩) hS (fun q9 _ h9 => h9.elim) (fun q9 h9 => h9.elim) (fun w5 u t H1 locs ht hvm hw hB hz1 hk1 hS => ?_)
    have hP := hP.kept (fun k9 q9 hk9 => hk1 q9.1 (hP k9 q9 hk9).lt (fun h9 => h9))
    generalize H1 = H at hP hS ⊢
    clear hk1 hz1 ht hvm
    have hw : w5 = q3 := hw
    rw [hw]
    refine lv_aload_n hx hb dL_law_762 rfl (lv_at hl 0 rfl) ?_
    refine lv_iload hx hb dL_law_763 (lv_at hl 15 rfl) ?_
    refine lv_iload hx hb dL_law_765 (lv_at hl 25 rfl) ?_
    refine lv_iconst (v := 0) hx hb dL_law_767 (by decide) ?_
    obtain ⟨q6, g7, h⟩ := vg_bind h
    refine va_calli (va_runV (As := [.int i16, .int i26, .int 0]) (rest := [.int q3]) ⟨hx, hb, hml, hown, hts⟩ (cm_X3_asks (m0 := m1) l D tc adL hO n_r1 g7) (cwV 3 hts gL_law_X3_asks rfl rfl rfl (by decide +kernel) ⟨(Nat.le_of_ble_eq_true rfl), (Nat.le_of_ble_eq_true rfl)⟩) ⟨qR_blind, va_recv hK hP (ci := 3) (q0 := r1) rfl (vW_k3 n_r1 g2), qR_pre hP hK hZ⟩ rfl rfl hl.1 rfl (lv_room (Nat.le_of_ble_eq_true rfl)) dL_law_768 ⟨vRc hc, vRs hs⟩) hS (fun q9 _ h9 => h9.elim) (fun q9 h9 => h9.elim) (fun w8 u t H1 locs ht hvm hw hB hz1 hk1 hS => ?_)
    have hP := hP.kept (fun k9 q9 hk9 => hk1 q9.1 (hP k9 q9 hk9).lt (fun h9 => h9))
    generalize H1 = H at hP hS ⊢
    clear hk1 hz1 ht hvm
    have hw : w8 = q6 := hw
    rw [hw]
    refine lv_ishr hx hb dL_law_771 ?_
    refine lv_iconst (v := 1) hx hb dL_law_772 (by decide) ?_
    refine lv_iand hx hb dL_law_773 ?_
    refine lv_if_eq (tgt := 802) hx hb dL_law_774 (by decide) (fun c9 => ?_) (fun c9 => ?_)
    · rw [if_pos c9] at h
      refine lv_iconst (v := 0) hx hb dL_law_802 (by decide) ?_
      have hz := Option.some.inj h
      rw [← hz] at hz1
      exact absurd (show (0 : Int32) = 1 from hz1) (by decide)
    · rw [if_neg c9] at h
      refine lv_aload_n hx hb dL_law_777 rfl (lv_at hl 0 rfl) ?_
      refine lv_aload_n hx hb dL_law_778 rfl (lv_at hl 0 rfl) ?_
      refine lv_iload hx hb dL_law_779 (lv_at hl 15 rfl) ?_
      refine lv_iload hx hb dL_law_781 (lv_at hl 25 rfl) ?_
      refine lv_iconst (v := 0) hx hb dL_law_783 (by decide) ?_
      obtain ⟨q10, g11, h⟩ := vg_bind h
      refine va_calli (va_runV (As := [.int i16, .int i26, .int 0]) (rest := [.ref (adL r1)]) ⟨hx, hb, hml, hown, hts⟩ (cm_X3_asks (m0 := m1) l D tc adL hO n_r1 g11) (cwV 3 hts gL_law_X3_asks rfl rfl rfl (by decide +kernel) ⟨(Nat.le_of_ble_eq_true rfl), (Nat.le_of_ble_eq_true rfl)⟩) ⟨qR_blind, va_recv hK hP (ci := 3) (q0 := r1) rfl (vW_k3 n_r1 g2), qR_pre hP hK hZ⟩ rfl rfl hl.1 rfl (lv_room (Nat.le_of_ble_eq_true rfl)) dL_law_784 ⟨vRc hc, vRs hs⟩) hS (fun q9 _ h9 => h9.elim) (fun q9 h9 => h9.elim) (fun w12 u t H1 locs ht hvm hw hB hz1 hk1 hS => ?_)
      have hP := hP.kept (fun k9 q9 hk9 => hk1 q9.1 (hP k9 q9 hk9).lt (fun h9 => h9))
      generalize H1 = H at hP hS ⊢
      clear hk1 hz1 ht hvm
      have hw : w12 = q10 := hw
      rw [hw]
      obtain ⟨q13, g14, h⟩ := vg_bind h
      refine va_calli (va_runV (As := [.int q10]) (rest := []) ⟨hx, hb, hml, hown, hts⟩ (cm_X3_reach (m0 := m1) l D tc adL hO n_r1 g14) (cwV 1 hts gL_law_X3_reach rfl rfl rfl (by decide +kernel) ⟨(Nat.le_of_ble_eq_true rfl), (Nat.le_of_ble_eq_true rfl)⟩) ⟨qR_blind, va_recv hK hP (ci := 3) (q0 := r1) rfl (vW_k3 n_r1 g2), qR_pre hP hK hZ⟩ rfl rfl hl.1 rfl (lv_room (Nat.le_of_ble_eq_true rfl)) dL_law_787 ⟨vRc hc, vRs hs⟩) hS (fun q9 _ h9 => h9.elim) (fun q9 h9 => h9.elim) (fun w15 u t H1 locs ht hvm hw hB hz1 hk1 hS => ?_)
      have hP := hP.kept (fun k9 q9 hk9 => hk1 q9.1 (hP k9 q9 hk9).lt (fun h9 => h9))
      generalize H1 = H at hP hS ⊢
      clear hk1 hz1 ht hvm
      have hw : w15 = q13 := hw
      rw [hw]
      refine lv_aload_n hx hb dL_law_790 rfl (lv_at hl 0 rfl) ?_
      refine lv_iload hx hb dL_law_791 (lv_at hl 15 rfl) ?_
      obtain ⟨q16, g17, h⟩ := vg_bind h
      refine va_calli (va_runV (As := [.int i16]) (rest := [.int q13]) ⟨hx, hb, hml, hown, hts⟩ (cm_X3_reach (m0 := m1) l D tc adL hO n_r1 g17) (cwV 1 hts gL_law_X3_reach rfl rfl rfl (by decide +kernel) ⟨(Nat.le_of_ble_eq_true rfl), (Nat.le_of_ble_eq_true rfl)⟩) ⟨qR_blind, va_recv hK hP (ci := 3) (q0 := r1) rfl (vW_k3 n_r1 g2), qR_pre hP hK hZ⟩ rfl rfl hl.1 rfl (lv_room (Nat.le_of_ble_eq_true rfl)) dL_law_793 ⟨vRc hc, vRs hs⟩) hS (fun q9 _ h9 => h9.elim) (fun q9 h9 => h9.elim) (fun w18 u t H1 locs ht hvm hw hB hz1 hk1 hS => ?_)
      have hP := hP.kept (fun k9 q9 hk9 => hk1 q9.1 (hP k9 q9 hk9).lt (fun h9 => h9))
      generalize H1 = H at hP hS ⊢
      clear hk1 hz1 ht hvm
      have hw : w18 = q16 := hw
      rw [hw]
      refine lv_iconst (v := (-1)) hx hb dL_law_796 (by decide) ?_
      refine lv_ixor hx hb dL_law_797 ?_
      refine lv_iand hx hb dL_law_798 ?_
      refine lv_if_eq (tgt := 804) hx hb dL_law_799 (by decide) (fun c19 => ?_) (fun c19 => ?_)
      · rw [if_pos c19] at h
        refine lv_iinc (v := i26 + 1) (lv' := [(26, .int (i26 + 1)), (1, .ref (adL r1)), (2, .ref (adL r2)), (3, .int i3), (4, .int i4), (5, .int i5), (6, .int i6), (7, .int i7), (8, .int i8), (9, .ref (adL r9)), (10, .int i10), (11, .int i11), (12, .int i12), (13, .int i13), (14, .ref (adL r14)), (15, .int i15), (16, .int i16), (17, .int i17), (18, .int i18), (19, .int i19), (20, .int i20), (21, .int i21), (22, .int i22), (23, .int i23), (24, .int i24), (25, .int i25), (0, .ref b)]) hx hb dL_law_804 hl (k := 25) rfl rfl (by decide) rfl (fun ls hl => ?_)
        refine lv_goto (tgt := 749) hx hb dL_law_807 (by decide) ?_
        exact (ih.2.2.2.2.2.2.2.2.2.2.2.2.2.2.2.2.2.2.1) NL adL m1 kc ks r1 r2 i3 i4 i5 i6 i7 i8 r9 i10 i11 i12 i13 r14 i15 i16 i17 i18 i19 i20 i21 i22 i23 i24 i25 (i26 + 1) _ _ _ hNN hE hc hs hO n_r1 n_r2 n_r9 n_r14 h hP hD hS (lv_sub hl (l' := [(1, .ref (adL r1)), (2, .ref (adL r2)), (3, .int i3), (4, .int i4), (5, .int i5), (6, .int i6), (7, .int i7), (8, .int i8), (9, .ref (adL r9)), (10, .int i10), (11, .int i11), (12, .int i12), (13, .int i13), (14, .ref (adL r14)), (15, .int i15), (16, .int i16), (17, .int i17), (18, .int i18), (19, .int i19), (20, .int i20), (21, .int i21), (22, .int i22), (23, .int i23), (24, .int i24), (25, .int i25), (26, .int (i26 + 1)), (0, .ref b)]) [1, 2, 3, 4, 5, 6, 7, 8, 9, 10, 11, 12, 13, 14, 15, 16, 17, 18, 19, 20, 21, 22, 23, 24, 25, 0, 26] rfl)
      · rw [if_neg c19] at h
        refine lv_iconst (v := 0) hx hb dL_law_802 (by decide) ?_
        have hz := Option.some.inj h
        rw [← hz] at hz1
        exact absurd (show (0 : Int32) = 1 from hz1) (by decide)
set_option maxHeartbeats 1000000 in
set_option maxRecDepth 100000 in
theorem law_b847 {p : Program} {l : Launch} {e : Env} {s : State} {m : MethodId} {below : List Frame} {meth : Method} {c : Code} {D : va_G} {tc : Nat → ClassId} {ad : Nat → Nat} {N b L : Nat} {xs : Nat → Int32} {A : Nat → Prop} {Qf : State → Prop} {z : Int32 × Nat × vM} (hx : p.tables.exec = Jvm.exec) (hb : c.code = code) (hml : c.maxLocals = 27) (hown : s.vm.findClass RL = some m.cls) (hts : ∀ w ∈ wsL_law, w.before #[Value.ref b] s = true) (hX : va_X b L xs s s.heap) (hbl : b < s.heap.size) (hbA : ¬ A b) (hA : ∀ q : Nat, s.heap.size ≤ q → A q) (hK : va_K D vwCl (vT tc) s) (hZ : vZ tc s) (hend : ∀ (H : Heap) (locs : List Loc) (ls : Array Slot), va_S A s.heap H locs → W p l e room_1 s m #[Value.ref b] below meth c H locs room_1.cells room_1.slots Qf (F0 m 1061 ls [.int 1])) (hz1 : z.1 = 1) {n : Nat} (ih : lC_29 p l e s m below meth c D tc ad N b L xs A Qf z n ∧ lC_90 p l e s m below meth c D tc ad N b L xs A Qf z n ∧ lC_123 p l e s m below meth c D tc ad N b L xs A Qf z n ∧ lC_132 p l e s m below meth c D tc ad N b L xs A Qf z n ∧ lC_272 p l e s m below meth c D tc ad N b L xs A Qf z n ∧ lC_286 p l e s m below meth c D tc ad N b L xs A Qf z n ∧ lC_392 p l e s m below meth c D tc ad N b L xs A Qf z n ∧ lC_402 p l e s m below meth c D tc ad N b L xs A Qf z n ∧ lC_411 p l e s m below meth c D tc ad N b L xs A Qf z n ∧ lC_430 p l e s m below meth c D tc ad N b L xs A Qf z n ∧ lC_448 p l e s m below meth c D tc ad N b L xs A Qf z n ∧ lC_473 p l e s m below meth c D tc ad N b L xs A Qf z n ∧ lC_513 p l e s m below meth c D tc ad N b L xs A Qf z n ∧ lC_561 p l e s m below meth c D tc ad N b L xs A Qf z n ∧ lC_583 p l e s m below meth c D tc ad N b L xs A Qf z n ∧ lC_608 p l e s m below meth c D tc ad N b L xs A Qf z n ∧ lC_696 p l e s m below meth c D tc ad N b L xs A Qf z n ∧ lC_702 p l e s m below meth c D tc ad N b L xs A Qf z n ∧ lC_749 p l e s m below meth c D tc ad N b L xs A Qf z n ∧ lC_847 p l e s m below meth c D tc ad N b L xs A Qf z n ∧ lC_850 p l e s m below meth c D tc ad N b L xs A Qf z n ∧ lC_883 p l e s m below meth c D tc ad N b L xs A Qf z n ∧ lC_929 p l e s m below meth c D tc ad N b L xs A Qf z n ∧ lC_943 p l e s m below meth c D tc ad N b L xs A Qf z n ∧ lC_957 p l e s m below meth c D tc ad N b L xs A Qf z n ∧ lC_963 p l e s m below meth c D tc ad N b L xs A Qf z n ∧ lC_1031 p l e s m below meth c D tc ad N b L xs A Qf z n) : lC_847 p l e s m below meth c D tc ad N b L xs A Qf z (n + 1) := by
  intro NL adL m1 kc ks r1 r2 i3 i4 i5 i6 i7 i8 r9 i10 i11 i12 i13 r14 i15 i16 H locs ls hNN hE hc hs hO n_r1 n_r2 n_r9 n_r14 h hP hD hS hl
  have h : fB_L_law_847 L xs (fL_L_law L xs n) NL m1 kc ks r1 r2 i3 i4 i5 i6 i7 i8 r9 i10 i11 i12 i13 r14 i15 i16 0 0 0 0 0 0 0 0 0 0 = some z := fE_L_law_847.symm.trans h
  unfold fB_L_law_847 at h
  refine lv_iconst (v := 0) hx hb dL_law_847 (by decide) ?_
  refine lv_istore (lv' := [(16, .int 0), (1, .ref (adL r1)), (2, .ref (adL r2)), (3, .int i3), (4, .int i4), (5, .int i5), (6, .int i6), (7, .int i7), (8, .int i8), (9, .ref (adL r9)), (10, .int i10), (11, .int i11), (12, .int i12), (13, .int i13), (14, .ref (adL r14)), (15, .int i15), (0, .ref b)]) hx hb dL_law_848 hl (by decide) rfl (fun ls hl => ?_)
  exact (ih.2.2.2.2.2.2.2.2.2.2.2.2.2.2.2.2.2.2.2.2.1) NL adL m1 kc ks r1 r2 i3 i4 i5 i6 i7 i8 r9 i10 i11 i12 i13 r14 i15 (0 : Int32) _ _ _ hNN hE hc hs hO n_r1 n_r2 n_r9 n_r14 h hP hD hS (lv_sub hl (l' := [(1, .ref (adL r1)), (2, .ref (adL r2)), (3, .int i3), (4, .int i4), (5, .int i5), (6, .int i6), (7, .int i7), (8, .int i8), (9, .ref (adL r9)), (10, .int i10), (11, .int i11), (12, .int i12), (13, .int i13), (14, .ref (adL r14)), (15, .int i15), (16, .int 0), (0, .ref b)]) [1, 2, 3, 4, 5, 6, 7, 8, 9, 10, 11, 12, 13, 14, 15, 0, 16] rfl)
set_option maxHeartbeats 1000000 in
set_option maxRecDepth 100000 in
theorem law_b850 {p : Program} {l : Launch} {e : Env} {s : State} {m : MethodId} {below : List Frame} {meth : Method} {c : Code} {D : va_G} {tc : Nat → ClassId} {ad : Nat → Nat} {N b L : Nat} {xs : Nat → Int32} {A : Nat → Prop} {Qf : State → Prop} {z : Int32 × Nat × vM} (hx : p.tables.exec = Jvm.exec) (hb : c.code = code) (hml : c.maxLocals = 27) (hown : s.vm.findClass RL = some m.cls) (hts : ∀ w ∈ wsL_law, w.before #[Value.ref b] s = true) (hX : va_X b L xs s s.heap) (hbl : b < s.heap.size) (hbA : ¬ A b) (hA : ∀ q : Nat, s.heap.size ≤ q → A q) (hK : va_K D vwCl (vT tc) s) (hZ : vZ tc s) (hend : ∀ (H : Heap) (locs : List Loc) (ls : Array Slot), va_S A s.heap H locs → W p l e room_1 s m #[Value.ref b] below meth c H locs room_1.cells room_1.slots Qf (F0 m 1061 ls [.int 1])) (hz1 : z.1 = 1) {n : Nat} (ih : lC_29 p l e s m below meth c D tc ad N b L xs A Qf z n ∧ lC_90 p l e s m below meth c D tc ad N b L xs A Qf z n ∧ lC_123 p l e s m below meth c D tc ad N b L xs A Qf z n ∧ lC_132 p l e s m below meth c D tc ad N b L xs A Qf z n ∧ lC_272 p l e s m below meth c D tc ad N b L xs A Qf z n ∧ lC_286 p l e s m below meth c D tc ad N b L xs A Qf z n ∧ lC_392 p l e s m below meth c D tc ad N b L xs A Qf z n ∧ lC_402 p l e s m below meth c D tc ad N b L xs A Qf z n ∧ lC_411 p l e s m below meth c D tc ad N b L xs A Qf z n ∧ lC_430 p l e s m below meth c D tc ad N b L xs A Qf z n ∧ lC_448 p l e s m below meth c D tc ad N b L xs A Qf z n ∧ lC_473 p l e s m below meth c D tc ad N b L xs A Qf z n ∧ lC_513 p l e s m below meth c D tc ad N b L xs A Qf z n ∧ lC_561 p l e s m below meth c D tc ad N b L xs A Qf z n ∧ lC_583 p l e s m below meth c D tc ad N b L xs A Qf z n ∧ lC_608 p l e s m below meth c D tc ad N b L xs A Qf z n ∧ lC_696 p l e s m below meth c D tc ad N b L xs A Qf z n ∧ lC_702 p l e s m below meth c D tc ad N b L xs A Qf z n ∧ lC_749 p l e s m below meth c D tc ad N b L xs A Qf z n ∧ lC_847 p l e s m below meth c D tc ad N b L xs A Qf z n ∧ lC_850 p l e s m below meth c D tc ad N b L xs A Qf z n ∧ lC_883 p l e s m below meth c D tc ad N b L xs A Qf z n ∧ lC_929 p l e s m below meth c D tc ad N b L xs A Qf z n ∧ lC_943 p l e s m below meth c D tc ad N b L xs A Qf z n ∧ lC_957 p l e s m below meth c D tc ad N b L xs A Qf z n ∧ lC_963 p l e s m below meth c D tc ad N b L xs A Qf z n ∧ lC_1031 p l e s m below meth c D tc ad N b L xs A Qf z n) : lC_850 p l e s m below meth c D tc ad N b L xs A Qf z (n + 1) := by
  intro NL adL m1 kc ks r1 r2 i3 i4 i5 i6 i7 i8 r9 i10 i11 i12 i13 r14 i15 i16 H locs ls hNN hE hc hs hO n_r1 n_r2 n_r9 n_r14 h hP hD hS hl
  have h : fB_L_law_850 L xs (fL_L_law L xs n) NL m1 kc ks r1 r2 i3 i4 i5 i6 i7 i8 r9 i10 i11 i12 i13 r14 i15 i16 0 0 0 0 0 0 0 0 0 0 = some z := fE_L_law_850.symm.trans h
  unfold fB_L_law_850 at h
  refine lv_iload hx hb dL_law_850 (lv_at hl 15 rfl) ?_
  refine lv_iconst (v := 4) hx hb dL_law_852 (by decide) ?_
  refine lv_icmp_ge (tgt := 880) hx hb dL_law_853 (by decide) (fun c1 => ?_) (fun c1 => ?_)
  · rw [if_pos c1] at h
    refine lv_iconst (v := 0) hx hb dL_law_880 (by decide) ?_
    refine lv_istore (lv' := [(16, .int 0), (1, .ref (adL r1)), (2, .ref (adL r2)), (3, .int i3), (4, .int i4), (5, .int i5), (6, .int i6), (7, .int i7), (8, .int i8), (9, .ref (adL r9)), (10, .int i10), (11, .int i11), (12, .int i12), (13, .int i13), (14, .ref (adL r14)), (15, .int i15), (0, .ref b)]) hx hb dL_law_881 hl (by decide) rfl (fun ls hl => ?_)
    exact (ih.2.2.2.2.2.2.2.2.2.2.2.2.2.2.2.2.2.2.2.2.2.1) NL adL m1 kc ks r1 r2 i3 i4 i5 i6 i7 i8 r9 i10 i11 i12 i13 r14 i15 (0 : Int32) _ _ _ hNN hE hc hs hO n_r1 n_r2 n_r9 n_r14 h hP hD hS (lv_sub hl (l' := [(1, .ref (adL r1)), (2, .ref (adL r2)), (3, .int i3), (4, .int i4), (5, .int i5), (6, .int i6), (7, .int i7), (8, .int i8), (9, .ref (adL r9)), (10, .int i10), (11, .int i11), (12, .int i12), (13, .int i13), (14, .ref (adL r14)), (15, .int i15), (16, .int 0), (0, .ref b)]) [1, 2, 3, 4, 5, 6, 7, 8, 9, 10, 11, 12, 13, 14, 15, 0, 16] rfl)
  · rw [if_neg c1] at h
    refine lv_aload_n hx hb dL_law_856 rfl (lv_at hl 0 rfl) ?_
    refine lv_iconst (v := 2) hx hb dL_law_857 (by decide) ?_
    refine lv_iload hx hb dL_law_858 (lv_at hl 15 rfl) ?_
    refine lv_iadd hx hb dL_law_860 ?_
    obtain ⟨g2, h⟩ := vg_if h
    obtain ⟨q3, g4, h⟩ := vg_bind h
    refine va_calli (va_runV (As := [.int (2 + i16)]) (rest := []) ⟨hx, hb, hml, hown, hts⟩ (cm_X3_count (m0 := m1) l D tc adL hO n_r1 g4) (cwV 1 hts gL_law_X3_count rfl rfl rfl (by decide +kernel) ⟨(Nat.le_of_ble_eq_true rfl), (Nat.le_of_ble_eq_true rfl)⟩) ⟨qR_blind, va_recv hK hP (ci := 3) (q0 := r1) rfl (vW_k3 n_r1 g2), qR_pre hP hK hZ⟩ rfl rfl hl.1 rfl (lv_room (Nat.le_of_ble_eq_true rfl)) dL_law_861 ⟨vRc hc, vRs hs⟩) hS (fun q9 _ h9 => h9.elim) (fun q9 h9 => h9.elim) (fun w5 u t H1 locs ht hvm hw hB hz1 hk1 hS => ?_)
    have hP := hP.kept (fun k9 q9 hk9 => hk1 q9.1 (hP k9 q9 hk9).lt (fun h9 => h9))
    generalize H1 = H at hP hS ⊢
    clear hk1 hz1 ht hvm
    have hw : w5 = q3 := hw
    rw [hw]
    refine lv_aload hx hb dL_law_864 (lv_at hl 13 rfl) ?_
    refine lv_iload hx hb dL_law_866 (lv_at hl 15 rfl) ?_
    obtain ⟨g6, h⟩ := vg_if h
    obtain ⟨g7, h⟩ := vg_if h
    refine va_iald (D := D) hx hb hK hP r14 0 (vW_k6 n_r14 g6) rfl (i := i16) g7 dL_law_868 ?_
    refine lv_icmp_eq (tgt := 874) hx hb dL_law_869 (by decide) (fun c8 => ?_) (fun c8 => ?_)
    · rw [if_pos c8] at h
      refine lv_iinc (v := i16 + 1) (lv' := [(16, .int (i16 + 1)), (1, .ref (adL r1)), (2, .ref (adL r2)), (3, .int i3), (4, .int i4), (5, .int i5), (6, .int i6), (7, .int i7), (8, .int i8), (9, .ref (adL r9)), (10, .int i10), (11, .int i11), (12, .int i12), (13, .int i13), (14, .ref (adL r14)), (15, .int i15), (0, .ref b)]) hx hb dL_law_874 hl (k := 15) rfl rfl (by decide) rfl (fun ls hl => ?_)
      refine lv_goto (tgt := 850) hx hb dL_law_877 (by decide) ?_
      exact (ih.2.2.2.2.2.2.2.2.2.2.2.2.2.2.2.2.2.2.2.2.1) NL adL m1 kc ks r1 r2 i3 i4 i5 i6 i7 i8 r9 i10 i11 i12 i13 r14 i15 (i16 + 1) _ _ _ hNN hE hc hs hO n_r1 n_r2 n_r9 n_r14 h hP hD hS (lv_sub hl (l' := [(1, .ref (adL r1)), (2, .ref (adL r2)), (3, .int i3), (4, .int i4), (5, .int i5), (6, .int i6), (7, .int i7), (8, .int i8), (9, .ref (adL r9)), (10, .int i10), (11, .int i11), (12, .int i12), (13, .int i13), (14, .ref (adL r14)), (15, .int i15), (16, .int (i16 + 1)), (0, .ref b)]) [1, 2, 3, 4, 5, 6, 7, 8, 9, 10, 11, 12, 13, 14, 15, 0, 16] rfl)
    · rw [if_neg c8] at h
      refine lv_iconst (v := 0) hx hb dL_law_872 (by decide) ?_
      have hz := Option.some.inj h
      rw [← hz] at hz1
      exact absurd (show (0 : Int32) = 1 from hz1) (by decide)
set_option maxHeartbeats 1000000 in
set_option maxRecDepth 100000 in
theorem law_b883 {p : Program} {l : Launch} {e : Env} {s : State} {m : MethodId} {below : List Frame} {meth : Method} {c : Code} {D : va_G} {tc : Nat → ClassId} {ad : Nat → Nat} {N b L : Nat} {xs : Nat → Int32} {A : Nat → Prop} {Qf : State → Prop} {z : Int32 × Nat × vM} (hx : p.tables.exec = Jvm.exec) (hb : c.code = code) (hml : c.maxLocals = 27) (hown : s.vm.findClass RL = some m.cls) (hts : ∀ w ∈ wsL_law, w.before #[Value.ref b] s = true) (hX : va_X b L xs s s.heap) (hbl : b < s.heap.size) (hbA : ¬ A b) (hA : ∀ q : Nat, s.heap.size ≤ q → A q) (hK : va_K D vwCl (vT tc) s) (hZ : vZ tc s) (hend : ∀ (H : Heap) (locs : List Loc) (ls : Array Slot), va_S A s.heap H locs → W p l e room_1 s m #[Value.ref b] below meth c H locs room_1.cells room_1.slots Qf (F0 m 1061 ls [.int 1])) (hz1 : z.1 = 1) {n : Nat} (ih : lC_29 p l e s m below meth c D tc ad N b L xs A Qf z n ∧ lC_90 p l e s m below meth c D tc ad N b L xs A Qf z n ∧ lC_123 p l e s m below meth c D tc ad N b L xs A Qf z n ∧ lC_132 p l e s m below meth c D tc ad N b L xs A Qf z n ∧ lC_272 p l e s m below meth c D tc ad N b L xs A Qf z n ∧ lC_286 p l e s m below meth c D tc ad N b L xs A Qf z n ∧ lC_392 p l e s m below meth c D tc ad N b L xs A Qf z n ∧ lC_402 p l e s m below meth c D tc ad N b L xs A Qf z n ∧ lC_411 p l e s m below meth c D tc ad N b L xs A Qf z n ∧ lC_430 p l e s m below meth c D tc ad N b L xs A Qf z n ∧ lC_448 p l e s m below meth c D tc ad N b L xs A Qf z n ∧ lC_473 p l e s m below meth c D tc ad N b L xs A Qf z n ∧ lC_513 p l e s m below meth c D tc ad N b L xs A Qf z n ∧ lC_561 p l e s m below meth c D tc ad N b L xs A Qf z n ∧ lC_583 p l e s m below meth c D tc ad N b L xs A Qf z n ∧ lC_608 p l e s m below meth c D tc ad N b L xs A Qf z n ∧ lC_696 p l e s m below meth c D tc ad N b L xs A Qf z n ∧ lC_702 p l e s m below meth c D tc ad N b L xs A Qf z n ∧ lC_749 p l e s m below meth c D tc ad N b L xs A Qf z n ∧ lC_847 p l e s m below meth c D tc ad N b L xs A Qf z n ∧ lC_850 p l e s m below meth c D tc ad N b L xs A Qf z n ∧ lC_883 p l e s m below meth c D tc ad N b L xs A Qf z n ∧ lC_929 p l e s m below meth c D tc ad N b L xs A Qf z n ∧ lC_943 p l e s m below meth c D tc ad N b L xs A Qf z n ∧ lC_957 p l e s m below meth c D tc ad N b L xs A Qf z n ∧ lC_963 p l e s m below meth c D tc ad N b L xs A Qf z n ∧ lC_1031 p l e s m below meth c D tc ad N b L xs A Qf z n) : lC_883 p l e s m below meth c D tc ad N b L xs A Qf z (n + 1) := by
  intro NL adL m1 kc ks r1 r2 i3 i4 i5 i6 i7 i8 r9 i10 i11 i12 i13 r14 i15 i16 H locs ls hNN hE hc hs hO n_r1 n_r2 n_r9 n_r14 h hP hD hS hl
  have h : fB_L_law_883 L xs (fL_L_law L xs n) NL m1 kc ks r1 r2 i3 i4 i5 i6 i7 i8 r9 i10 i11 i12 i13 r14 i15 i16 0 0 0 0 0 0 0 0 0 0 = some z := fE_L_law_883.symm.trans h
  unfold fB_L_law_883 at h
  refine lv_iload hx hb dL_law_883 (lv_at hl 15 rfl) ?_
  refine lv_aload_n hx hb dL_law_885 rfl (lv_at hl 0 rfl) ?_
  refine lv_bipush (v := 6) hx hb dL_law_886 (by decide) ?_
  obtain ⟨g1, h⟩ := vg_if h
  obtain ⟨q2, g3, h⟩ := vg_bind h
  refine va_calli (va_runV (As := [.int 6]) (rest := [.int i16]) ⟨hx, hb, hml, hown, hts⟩ (cm_X3_count (m0 := m1) l D tc adL hO n_r1 g3) (cwV 1 hts gL_law_X3_count rfl rfl rfl (by decide +kernel) ⟨(Nat.le_of_ble_eq_true rfl), (Nat.le_of_ble_eq_true rfl)⟩) ⟨qR_blind, va_recv hK hP (ci := 3) (q0 := r1) rfl (vW_k3 n_r1 g1), qR_pre hP hK hZ⟩ rfl rfl hl.1 rfl (lv_room (Nat.le_of_ble_eq_true rfl)) dL_law_888 ⟨vRc hc, vRs hs⟩) hS (fun q9 _ h9 => h9.elim) (fun q9 h9 => h9.elim) (fun w4 u t H1 locs ht hvm hw hB hz1 hk1 hS => ?_)
  have hP := hP.kept (fun k9 q9 hk9 => hk1 q9.1 (hP k9 q9 hk9).lt (fun h9 => h9))
  generalize H1 = H at hP hS ⊢
  clear hk1 hz1 ht hvm
  have hw : w4 = q2 := hw
  rw [hw]
  refine lv_icmp_ge (tgt := 1050) hx hb dL_law_891 (by decide) (fun c5 => ?_) (fun c5 => ?_)
  · rw [if_pos c5] at h
    refine lv_iinc (v := i4 + 1) (lv' := [(4, .int (i4 + 1)), (1, .ref (adL r1)), (2, .ref (adL r2)), (3, .int i3), (5, .int i5), (6, .int i6), (7, .int i7), (8, .int i8), (9, .ref (adL r9)), (10, .int i10), (11, .int i11), (12, .int i12), (13, .int i13), (14, .ref (adL r14)), (15, .int i15), (16, .int i16), (0, .ref b)]) hx hb dL_law_1050 hl (k := 3) rfl rfl (by decide) rfl (fun ls hl => ?_)
    refine lv_goto (tgt := 29) hx hb dL_law_1053 (by decide) ?_
    exact (ih.1) NL adL m1 kc ks r1 r2 i3 (i4 + 1) _ _ _ hNN hE hc hs hO n_r1 n_r2 h hP hD hS (lv_sub hl (l' := [(1, .ref (adL r1)), (2, .ref (adL r2)), (3, .int i3), (4, .int (i4 + 1)), (0, .ref b)]) [1, 2, 3, 0, 16] rfl)
  · rw [if_neg c5] at h
    refine lv_aload_n hx hb dL_law_894 rfl (lv_at hl 0 rfl) ?_
    refine lv_iload hx hb dL_law_895 (lv_at hl 15 rfl) ?_
    refine lv_iconst (v := 0) hx hb dL_law_897 (by decide) ?_
    obtain ⟨q6, g7, h⟩ := vg_bind h
    refine va_calli (va_runV (As := [.int i16, .int 0]) (rest := []) ⟨hx, hb, hml, hown, hts⟩ (cm_X3_voice (m0 := m1) l D tc adL hO n_r1 g7) (cwV 2 hts gL_law_X3_voice rfl rfl rfl (by decide +kernel) ⟨(Nat.le_of_ble_eq_true rfl), (Nat.le_of_ble_eq_true rfl)⟩) ⟨qR_blind, va_recv hK hP (ci := 3) (q0 := r1) rfl (vW_k3 n_r1 g1), qR_pre hP hK hZ⟩ rfl rfl hl.1 rfl (lv_room (Nat.le_of_ble_eq_true rfl)) dL_law_898 ⟨vRc hc, vRs hs⟩) hS (fun q9 _ h9 => h9.elim) (fun q9 h9 => h9.elim) (fun w8 u t H1 locs ht hvm hw hB hz1 hk1 hS => ?_)
    have hP := hP.kept (fun k9 q9 hk9 => hk1 q9.1 (hP k9 q9 hk9).lt (fun h9 => h9))
    generalize H1 = H at hP hS ⊢
    clear hk1 hz1 ht hvm
    have hw : w8 = q6 := hw
    rw [hw]
    refine lv_istore (lv' := [(17, .int q6), (1, .ref (adL r1)), (2, .ref (adL r2)), (3, .int i3), (4, .int i4), (5, .int i5), (6, .int i6), (7, .int i7), (8, .int i8), (9, .ref (adL r9)), (10, .int i10), (11, .int i11), (12, .int i12), (13, .int i13), (14, .ref (adL r14)), (15, .int i15), (16, .int i16), (0, .ref b)]) hx hb dL_law_901 hl (by decide) rfl (fun ls hl => ?_)
    refine lv_aload_n hx hb dL_law_903 rfl (lv_at hl 1 rfl) ?_
    refine lv_iload hx hb dL_law_904 (lv_at hl 16 rfl) ?_
    refine lv_iconst (v := 1) hx hb dL_law_906 (by decide) ?_
    obtain ⟨q9, g10, h⟩ := vg_bind h
    refine va_calli (va_runV (As := [.int i16, .int 1]) (rest := []) ⟨hx, hb, hml, hown, hts⟩ (cm_X3_voice (m0 := m1) l D tc adL hO n_r1 g10) (cwV 2 hts gL_law_X3_voice rfl rfl rfl (by decide +kernel) ⟨(Nat.le_of_ble_eq_true rfl), (Nat.le_of_ble_eq_true rfl)⟩) ⟨qR_blind, va_recv hK hP (ci := 3) (q0 := r1) rfl (vW_k3 n_r1 g1), qR_pre hP hK hZ⟩ rfl rfl hl.1 rfl (lv_room (Nat.le_of_ble_eq_true rfl)) dL_law_907 ⟨vRc hc, vRs hs⟩) hS (fun q9 _ h9 => h9.elim) (fun q9 h9 => h9.elim) (fun w11 u t H1 locs ht hvm hw hB hz1 hk1 hS => ?_)
    have hP := hP.kept (fun k9 q9 hk9 => hk1 q9.1 (hP k9 q9 hk9).lt (fun h9 => h9))
    generalize H1 = H at hP hS ⊢
    clear hk1 hz1 ht hvm
    have hw : w11 = q9 := hw
    rw [hw]
    refine lv_istore (lv' := [(18, .int q9), (17, .int q6), (1, .ref (adL r1)), (2, .ref (adL r2)), (3, .int i3), (4, .int i4), (5, .int i5), (6, .int i6), (7, .int i7), (8, .int i8), (9, .ref (adL r9)), (10, .int i10), (11, .int i11), (12, .int i12), (13, .int i13), (14, .ref (adL r14)), (15, .int i15), (16, .int i16), (0, .ref b)]) hx hb dL_law_910 hl (by decide) rfl (fun ls hl => ?_)
    refine lv_aload_n hx hb dL_law_912 rfl (lv_at hl 2 rfl) ?_
    refine lv_iload hx hb dL_law_913 (lv_at hl 17 rfl) ?_
    refine lv_iconst (v := 2) hx hb dL_law_915 (by decide) ?_
    obtain ⟨q12, g13, h⟩ := vg_bind h
    refine va_calli (va_runV (As := [.int i16, .int 2]) (rest := []) ⟨hx, hb, hml, hown, hts⟩ (cm_X3_voice (m0 := m1) l D tc adL hO n_r1 g13) (cwV 2 hts gL_law_X3_voice rfl rfl rfl (by decide +kernel) ⟨(Nat.le_of_ble_eq_true rfl), (Nat.le_of_ble_eq_true rfl)⟩) ⟨qR_blind, va_recv hK hP (ci := 3) (q0 := r1) rfl (vW_k3 n_r1 g1), qR_pre hP hK hZ⟩ rfl rfl hl.1 rfl (lv_room (Nat.le_of_ble_eq_true rfl)) dL_law_916 ⟨vRc hc, vRs hs⟩) hS (fun q9 _ h9 => h9.elim) (fun q9 h9 => h9.elim) (fun w14 u t H1 locs ht hvm hw hB hz1 hk1 hS => ?_)
    have hP := hP.kept (fun k9 q9 hk9 => hk1 q9.1 (hP k9 q9 hk9).lt (fun h9 => h9))
    generalize H1 = H at hP hS ⊢
    clear hk1 hz1 ht hvm
    have hw : w14 = q12 := hw
    rw [hw]
    refine lv_if_ne (tgt := 926) hx hb dL_law_919 (by decide) (fun c15 => ?_) (fun c15 => ?_)
    · rw [if_neg c15] at h
      refine lv_iconst (v := 0) hx hb dL_law_926 (by decide) ?_
      refine lv_istore (lv' := [(19, .int 0), (18, .int q9), (17, .int q6), (1, .ref (adL r1)), (2, .ref (adL r2)), (3, .int i3), (4, .int i4), (5, .int i5), (6, .int i6), (7, .int i7), (8, .int i8), (9, .ref (adL r9)), (10, .int i10), (11, .int i11), (12, .int i12), (13, .int i13), (14, .ref (adL r14)), (15, .int i15), (16, .int i16), (0, .ref b)]) hx hb dL_law_927 hl (by decide) rfl (fun ls hl => ?_)
      exact (ih.2.2.2.2.2.2.2.2.2.2.2.2.2.2.2.2.2.2.2.2.2.2.1) NL adL m1 kc ks r1 r2 i3 i4 i5 i6 i7 i8 r9 i10 i11 i12 i13 r14 i15 i16 q6 q9 (0 : Int32) _ _ _ hNN hE hc hs hO n_r1 n_r2 n_r9 n_r14 h hP hD hS (lv_sub hl (l' := [(1, .ref (adL r1)), (2, .ref (adL r2)), (3, .int i3), (4, .int i4), (5, .int i5), (6, .int i6), (7, .int i7), (8, .int i8), (9, .ref (adL r9)), (10, .int i10), (11, .int i11), (12, .int i12), (13, .int i13), (14, .ref (adL r14)), (15, .int i15), (16, .int i16), (17, .int q6), (18, .int q9), (19, .int 0), (0, .ref b)]) [3, 4, 5, 6, 7, 8, 9, 10, 11, 12, 13, 14, 15, 16, 17, 18, 2, 1, 0, 19] rfl)
    · rw [if_pos c15] at h
      refine lv_iconst (v := 1) hx hb dL_law_922 (by decide) ?_
      refine lv_goto (tgt := 927) hx hb dL_law_923 (by decide) ?_
      refine lv_istore (lv' := [(19, .int 1), (18, .int q9), (17, .int q6), (1, .ref (adL r1)), (2, .ref (adL r2)), (3, .int i3), (4, .int i4), (5, .int i5), (6, .int i6), (7, .int i7), (8, .int i8), (9, .ref (adL r9)), (10, .int i10), (11, .int i11), (12, .int i12), (13, .int i13), (14, .ref (adL r14)), (15, .int i15), (16, .int i16), (0, .ref b)]) hx hb dL_law_927 hl (by decide) rfl (fun ls hl => ?_)
      exact (ih.2.2.2.2.2.2.2.2.2.2.2.2.2.2.2.2.2.2.2.2.2.2.1) NL adL m1 kc ks r1 r2 i3 i4 i5 i6 i7 i8 r9 i10 i11 i12 i13 r14 i15 i16 q6 q9 (1 : Int32) _ _ _ hNN hE hc hs hO n_r1 n_r2 n_r9 n_r14 h hP hD hS (lv_sub hl (l' := [(1, .ref (adL r1)), (2, .ref (adL r2)), (3, .int i3), (4, .int i4), (5, .int i5), (6, .int i6), (7, .int i7), (8, .int i8), (9, .ref (adL r9)), (10, .int i10), (11, .int i11), (12, .int i12), (13, .int i13), (14, .ref (adL r14)), (15, .int i15), (16, .int i16), (17, .int q6), (18, .int q9), (19, .int 1), (0, .ref b)]) [3, 4, 5, 6, 7, 8, 9, 10, 11, 12, 13, 14, 15, 16, 17, 18, 2, 1, 0, 19] rfl)
set_option maxHeartbeats 1000000 in
set_option maxRecDepth 100000 in
theorem law_b929 {p : Program} {l : Launch} {e : Env} {s : State} {m : MethodId} {below : List Frame} {meth : Method} {c : Code} {D : va_G} {tc : Nat → ClassId} {ad : Nat → Nat} {N b L : Nat} {xs : Nat → Int32} {A : Nat → Prop} {Qf : State → Prop} {z : Int32 × Nat × vM} (hx : p.tables.exec = Jvm.exec) (hb : c.code = code) (hml : c.maxLocals = 27) (hown : s.vm.findClass RL = some m.cls) (hts : ∀ w ∈ wsL_law, w.before #[Value.ref b] s = true) (hX : va_X b L xs s s.heap) (hbl : b < s.heap.size) (hbA : ¬ A b) (hA : ∀ q : Nat, s.heap.size ≤ q → A q) (hK : va_K D vwCl (vT tc) s) (hZ : vZ tc s) (hend : ∀ (H : Heap) (locs : List Loc) (ls : Array Slot), va_S A s.heap H locs → W p l e room_1 s m #[Value.ref b] below meth c H locs room_1.cells room_1.slots Qf (F0 m 1061 ls [.int 1])) (hz1 : z.1 = 1) {n : Nat} (ih : lC_29 p l e s m below meth c D tc ad N b L xs A Qf z n ∧ lC_90 p l e s m below meth c D tc ad N b L xs A Qf z n ∧ lC_123 p l e s m below meth c D tc ad N b L xs A Qf z n ∧ lC_132 p l e s m below meth c D tc ad N b L xs A Qf z n ∧ lC_272 p l e s m below meth c D tc ad N b L xs A Qf z n ∧ lC_286 p l e s m below meth c D tc ad N b L xs A Qf z n ∧ lC_392 p l e s m below meth c D tc ad N b L xs A Qf z n ∧ lC_402 p l e s m below meth c D tc ad N b L xs A Qf z n ∧ lC_411 p l e s m below meth c D tc ad N b L xs A Qf z n ∧ lC_430 p l e s m below meth c D tc ad N b L xs A Qf z n ∧ lC_448 p l e s m below meth c D tc ad N b L xs A Qf z n ∧ lC_473 p l e s m below meth c D tc ad N b L xs A Qf z n ∧ lC_513 p l e s m below meth c D tc ad N b L xs A Qf z n ∧ lC_561 p l e s m below meth c D tc ad N b L xs A Qf z n ∧ lC_583 p l e s m below meth c D tc ad N b L xs A Qf z n ∧ lC_608 p l e s m below meth c D tc ad N b L xs A Qf z n ∧ lC_696 p l e s m below meth c D tc ad N b L xs A Qf z n ∧ lC_702 p l e s m below meth c D tc ad N b L xs A Qf z n ∧ lC_749 p l e s m below meth c D tc ad N b L xs A Qf z n ∧ lC_847 p l e s m below meth c D tc ad N b L xs A Qf z n ∧ lC_850 p l e s m below meth c D tc ad N b L xs A Qf z n ∧ lC_883 p l e s m below meth c D tc ad N b L xs A Qf z n ∧ lC_929 p l e s m below meth c D tc ad N b L xs A Qf z n ∧ lC_943 p l e s m below meth c D tc ad N b L xs A Qf z n ∧ lC_957 p l e s m below meth c D tc ad N b L xs A Qf z n ∧ lC_963 p l e s m below meth c D tc ad N b L xs A Qf z n ∧ lC_1031 p l e s m below meth c D tc ad N b L xs A Qf z n) : lC_929 p l e s m below meth c D tc ad N b L xs A Qf z (n + 1) := by
  intro NL adL m1 kc ks r1 r2 i3 i4 i5 i6 i7 i8 r9 i10 i11 i12 i13 r14 i15 i16 i17 i18 i19 H locs ls hNN hE hc hs hO n_r1 n_r2 n_r9 n_r14 h hP hD hS hl
  have h : fB_L_law_929 L xs (fL_L_law L xs n) NL m1 kc ks r1 r2 i3 i4 i5 i6 i7 i8 r9 i10 i11 i12 i13 r14 i15 i16 i17 i18 i19 0 0 0 0 0 0 0 = some z := fE_L_law_929.symm.trans h
  unfold fB_L_law_929 at h
  refine lv_iload hx hb dL_law_929 (lv_at hl 18 rfl) ?_
  refine lv_if_eq (tgt := 939) hx hb dL_law_931 (by decide) (fun c1 => ?_) (fun c1 => ?_)
  · rw [if_pos c1] at h
    refine lv_iload hx hb dL_law_939 (lv_at hl 17 rfl) ?_
    refine lv_istore (lv' := [(20, .int i18), (1, .ref (adL r1)), (2, .ref (adL r2)), (3, .int i3), (4, .int i4), (5, .int i5), (6, .int i6), (7, .int i7), (8, .int i8), (9, .ref (adL r9)), (10, .int i10), (11, .int i11), (12, .int i12), (13, .int i13), (14, .ref (adL r14)), (15, .int i15), (16, .int i16), (17, .int i17), (18, .int i18), (19, .int i19), (0, .ref b)]) hx hb dL_law_941 hl (by decide) rfl (fun ls hl => ?_)
    exact (ih.2.2.2.2.2.2.2.2.2.2.2.2.2.2.2.2.2.2.2.2.2.2.2.1) NL adL m1 kc ks r1 r2 i3 i4 i5 i6 i7 i8 r9 i10 i11 i12 i13 r14 i15 i16 i17 i18 i19 i18 _ _ _ hNN hE hc hs hO n_r1 n_r2 n_r9 n_r14 h hP hD hS (lv_sub hl (l' := [(1, .ref (adL r1)), (2, .ref (adL r2)), (3, .int i3), (4, .int i4), (5, .int i5), (6, .int i6), (7, .int i7), (8, .int i8), (9, .ref (adL r9)), (10, .int i10), (11, .int i11), (12, .int i12), (13, .int i13), (14, .ref (adL r14)), (15, .int i15), (16, .int i16), (17, .int i17), (18, .int i18), (19, .int i19), (20, .int i18), (0, .ref b)]) [1, 2, 3, 4, 5, 6, 7, 8, 9, 10, 11, 12, 13, 14, 15, 16, 17, 18, 19, 0, 20] rfl)
  · rw [if_neg c1] at h
    refine lv_iload hx hb dL_law_934 (lv_at hl 16 rfl) ?_
    refine lv_goto (tgt := 941) hx hb dL_law_936 (by decide) ?_
    refine lv_istore (lv' := [(20, .int i17), (1, .ref (adL r1)), (2, .ref (adL r2)), (3, .int i3), (4, .int i4), (5, .int i5), (6, .int i6), (7, .int i7), (8, .int i8), (9, .ref (adL r9)), (10, .int i10), (11, .int i11), (12, .int i12), (13, .int i13), (14, .ref (adL r14)), (15, .int i15), (16, .int i16), (17, .int i17), (18, .int i18), (19, .int i19), (0, .ref b)]) hx hb dL_law_941 hl (by decide) rfl (fun ls hl => ?_)
    exact (ih.2.2.2.2.2.2.2.2.2.2.2.2.2.2.2.2.2.2.2.2.2.2.2.1) NL adL m1 kc ks r1 r2 i3 i4 i5 i6 i7 i8 r9 i10 i11 i12 i13 r14 i15 i16 i17 i18 i19 i17 _ _ _ hNN hE hc hs hO n_r1 n_r2 n_r9 n_r14 h hP hD hS (lv_sub hl (l' := [(1, .ref (adL r1)), (2, .ref (adL r2)), (3, .int i3), (4, .int i4), (5, .int i5), (6, .int i6), (7, .int i7), (8, .int i8), (9, .ref (adL r9)), (10, .int i10), (11, .int i11), (12, .int i12), (13, .int i13), (14, .ref (adL r14)), (15, .int i15), (16, .int i16), (17, .int i17), (18, .int i18), (19, .int i19), (20, .int i17), (0, .ref b)]) [1, 2, 3, 4, 5, 6, 7, 8, 9, 10, 11, 12, 13, 14, 15, 16, 17, 18, 19, 0, 20] rfl)
set_option maxHeartbeats 1000000 in
set_option maxRecDepth 100000 in
theorem law_b943 {p : Program} {l : Launch} {e : Env} {s : State} {m : MethodId} {below : List Frame} {meth : Method} {c : Code} {D : va_G} {tc : Nat → ClassId} {ad : Nat → Nat} {N b L : Nat} {xs : Nat → Int32} {A : Nat → Prop} {Qf : State → Prop} {z : Int32 × Nat × vM} (hx : p.tables.exec = Jvm.exec) (hb : c.code = code) (hml : c.maxLocals = 27) (hown : s.vm.findClass RL = some m.cls) (hts : ∀ w ∈ wsL_law, w.before #[Value.ref b] s = true) (hX : va_X b L xs s s.heap) (hbl : b < s.heap.size) (hbA : ¬ A b) (hA : ∀ q : Nat, s.heap.size ≤ q → A q) (hK : va_K D vwCl (vT tc) s) (hZ : vZ tc s) (hend : ∀ (H : Heap) (locs : List Loc) (ls : Array Slot), va_S A s.heap H locs → W p l e room_1 s m #[Value.ref b] below meth c H locs room_1.cells room_1.slots Qf (F0 m 1061 ls [.int 1])) (hz1 : z.1 = 1) {n : Nat} (ih : lC_29 p l e s m below meth c D tc ad N b L xs A Qf z n ∧ lC_90 p l e s m below meth c D tc ad N b L xs A Qf z n ∧ lC_123 p l e s m below meth c D tc ad N b L xs A Qf z n ∧ lC_132 p l e s m below meth c D tc ad N b L xs A Qf z n ∧ lC_272 p l e s m below meth c D tc ad N b L xs A Qf z n ∧ lC_286 p l e s m below meth c D tc ad N b L xs A Qf z n ∧ lC_392 p l e s m below meth c D tc ad N b L xs A Qf z n ∧ lC_402 p l e s m below meth c D tc ad N b L xs A Qf z n ∧ lC_411 p l e s m below meth c D tc ad N b L xs A Qf z n ∧ lC_430 p l e s m below meth c D tc ad N b L xs A Qf z n ∧ lC_448 p l e s m below meth c D tc ad N b L xs A Qf z n ∧ lC_473 p l e s m below meth c D tc ad N b L xs A Qf z n ∧ lC_513 p l e s m below meth c D tc ad N b L xs A Qf z n ∧ lC_561 p l e s m below meth c D tc ad N b L xs A Qf z n ∧ lC_583 p l e s m below meth c D tc ad N b L xs A Qf z n ∧ lC_608 p l e s m below meth c D tc ad N b L xs A Qf z n ∧ lC_696 p l e s m below meth c D tc ad N b L xs A Qf z n ∧ lC_702 p l e s m below meth c D tc ad N b L xs A Qf z n ∧ lC_749 p l e s m below meth c D tc ad N b L xs A Qf z n ∧ lC_847 p l e s m below meth c D tc ad N b L xs A Qf z n ∧ lC_850 p l e s m below meth c D tc ad N b L xs A Qf z n ∧ lC_883 p l e s m below meth c D tc ad N b L xs A Qf z n ∧ lC_929 p l e s m below meth c D tc ad N b L xs A Qf z n ∧ lC_943 p l e s m below meth c D tc ad N b L xs A Qf z n ∧ lC_957 p l e s m below meth c D tc ad N b L xs A Qf z n ∧ lC_963 p l e s m below meth c D tc ad N b L xs A Qf z n ∧ lC_1031 p l e s m below meth c D tc ad N b L xs A Qf z n) : lC_943 p l e s m below meth c D tc ad N b L xs A Qf z (n + 1) := by
  intro NL adL m1 kc ks r1 r2 i3 i4 i5 i6 i7 i8 r9 i10 i11 i12 i13 r14 i15 i16 i17 i18 i19 i20 H locs ls hNN hE hc hs hO n_r1 n_r2 n_r9 n_r14 h hP hD hS hl
  have h : fB_L_law_943 L xs (fL_L_law L xs n) NL m1 kc ks r1 r2 i3 i4 i5 i6 i7 i8 r9 i10 i11 i12 i13 r14 i15 i16 i17 i18 i19 i20 0 0 0 0 0 0 = some z := fE_L_law_943.symm.trans h
  unfold fB_L_law_943 at h
  refine lv_iload hx hb dL_law_943 (lv_at hl 18 rfl) ?_
  refine lv_if_eq (tgt := 953) hx hb dL_law_945 (by decide) (fun c1 => ?_) (fun c1 => ?_)
  · rw [if_pos c1] at h
    refine lv_iload hx hb dL_law_953 (lv_at hl 16 rfl) ?_
    refine lv_istore (lv' := [(21, .int i17), (1, .ref (adL r1)), (2, .ref (adL r2)), (3, .int i3), (4, .int i4), (5, .int i5), (6, .int i6), (7, .int i7), (8, .int i8), (9, .ref (adL r9)), (10, .int i10), (11, .int i11), (12, .int i12), (13, .int i13), (14, .ref (adL r14)), (15, .int i15), (16, .int i16), (17, .int i17), (18, .int i18), (19, .int i19), (20, .int i20), (0, .ref b)]) hx hb dL_law_955 hl (by decide) rfl (fun ls hl => ?_)
    exact (ih.2.2.2.2.2.2.2.2.2.2.2.2.2.2.2.2.2.2.2.2.2.2.2.2.1) NL adL m1 kc ks r1 r2 i3 i4 i5 i6 i7 i8 r9 i10 i11 i12 i13 r14 i15 i16 i17 i18 i19 i20 i17 _ _ _ hNN hE hc hs hO n_r1 n_r2 n_r9 n_r14 h hP hD hS (lv_sub hl (l' := [(1, .ref (adL r1)), (2, .ref (adL r2)), (3, .int i3), (4, .int i4), (5, .int i5), (6, .int i6), (7, .int i7), (8, .int i8), (9, .ref (adL r9)), (10, .int i10), (11, .int i11), (12, .int i12), (13, .int i13), (14, .ref (adL r14)), (15, .int i15), (16, .int i16), (17, .int i17), (18, .int i18), (19, .int i19), (20, .int i20), (21, .int i17), (0, .ref b)]) [1, 2, 3, 4, 5, 6, 7, 8, 9, 10, 11, 12, 13, 14, 15, 16, 17, 18, 19, 20, 0, 21] rfl)
  · rw [if_neg c1] at h
    refine lv_iload hx hb dL_law_948 (lv_at hl 17 rfl) ?_
    refine lv_goto (tgt := 955) hx hb dL_law_950 (by decide) ?_
    refine lv_istore (lv' := [(21, .int i18), (1, .ref (adL r1)), (2, .ref (adL r2)), (3, .int i3), (4, .int i4), (5, .int i5), (6, .int i6), (7, .int i7), (8, .int i8), (9, .ref (adL r9)), (10, .int i10), (11, .int i11), (12, .int i12), (13, .int i13), (14, .ref (adL r14)), (15, .int i15), (16, .int i16), (17, .int i17), (18, .int i18), (19, .int i19), (20, .int i20), (0, .ref b)]) hx hb dL_law_955 hl (by decide) rfl (fun ls hl => ?_)
    exact (ih.2.2.2.2.2.2.2.2.2.2.2.2.2.2.2.2.2.2.2.2.2.2.2.2.1) NL adL m1 kc ks r1 r2 i3 i4 i5 i6 i7 i8 r9 i10 i11 i12 i13 r14 i15 i16 i17 i18 i19 i20 i18 _ _ _ hNN hE hc hs hO n_r1 n_r2 n_r9 n_r14 h hP hD hS (lv_sub hl (l' := [(1, .ref (adL r1)), (2, .ref (adL r2)), (3, .int i3), (4, .int i4), (5, .int i5), (6, .int i6), (7, .int i7), (8, .int i8), (9, .ref (adL r9)), (10, .int i10), (11, .int i11), (12, .int i12), (13, .int i13), (14, .ref (adL r14)), (15, .int i15), (16, .int i16), (17, .int i17), (18, .int i18), (19, .int i19), (20, .int i20), (21, .int i18), (0, .ref b)]) [1, 2, 3, 4, 5, 6, 7, 8, 9, 10, 11, 12, 13, 14, 15, 16, 17, 18, 19, 20, 0, 21] rfl)
set_option maxHeartbeats 1000000 in
set_option maxRecDepth 100000 in
theorem law_b957 {p : Program} {l : Launch} {e : Env} {s : State} {m : MethodId} {below : List Frame} {meth : Method} {c : Code} {D : va_G} {tc : Nat → ClassId} {ad : Nat → Nat} {N b L : Nat} {xs : Nat → Int32} {A : Nat → Prop} {Qf : State → Prop} {z : Int32 × Nat × vM} (hx : p.tables.exec = Jvm.exec) (hb : c.code = code) (hml : c.maxLocals = 27) (hown : s.vm.findClass RL = some m.cls) (hts : ∀ w ∈ wsL_law, w.before #[Value.ref b] s = true) (hX : va_X b L xs s s.heap) (hbl : b < s.heap.size) (hbA : ¬ A b) (hA : ∀ q : Nat, s.heap.size ≤ q → A q) (hK : va_K D vwCl (vT tc) s) (hZ : vZ tc s) (hend : ∀ (H : Heap) (locs : List Loc) (ls : Array Slot), va_S A s.heap H locs → W p l e room_1 s m #[Value.ref b] below meth c H locs room_1.cells room_1.slots Qf (F0 m 1061 ls [.int 1])) (hz1 : z.1 = 1) {n : Nat} (ih : lC_29 p l e s m below meth c D tc ad N b L xs A Qf z n ∧ lC_90 p l e s m below meth c D tc ad N b L xs A Qf z n ∧ lC_123 p l e s m below meth c D tc ad N b L xs A Qf z n ∧ lC_132 p l e s m below meth c D tc ad N b L xs A Qf z n ∧ lC_272 p l e s m below meth c D tc ad N b L xs A Qf z n ∧ lC_286 p l e s m below meth c D tc ad N b L xs A Qf z n ∧ lC_392 p l e s m below meth c D tc ad N b L xs A Qf z n ∧ lC_402 p l e s m below meth c D tc ad N b L xs A Qf z n ∧ lC_411 p l e s m below meth c D tc ad N b L xs A Qf z n ∧ lC_430 p l e s m below meth c D tc ad N b L xs A Qf z n ∧ lC_448 p l e s m below meth c D tc ad N b L xs A Qf z n ∧ lC_473 p l e s m below meth c D tc ad N b L xs A Qf z n ∧ lC_513 p l e s m below meth c D tc ad N b L xs A Qf z n ∧ lC_561 p l e s m below meth c D tc ad N b L xs A Qf z n ∧ lC_583 p l e s m below meth c D tc ad N b L xs A Qf z n ∧ lC_608 p l e s m below meth c D tc ad N b L xs A Qf z n ∧ lC_696 p l e s m below meth c D tc ad N b L xs A Qf z n ∧ lC_702 p l e s m below meth c D tc ad N b L xs A Qf z n ∧ lC_749 p l e s m below meth c D tc ad N b L xs A Qf z n ∧ lC_847 p l e s m below meth c D tc ad N b L xs A Qf z n ∧ lC_850 p l e s m below meth c D tc ad N b L xs A Qf z n ∧ lC_883 p l e s m below meth c D tc ad N b L xs A Qf z n ∧ lC_929 p l e s m below meth c D tc ad N b L xs A Qf z n ∧ lC_943 p l e s m below meth c D tc ad N b L xs A Qf z n ∧ lC_957 p l e s m below meth c D tc ad N b L xs A Qf z n ∧ lC_963 p l e s m below meth c D tc ad N b L xs A Qf z n ∧ lC_1031 p l e s m below meth c D tc ad N b L xs A Qf z n) : lC_957 p l e s m below meth c D tc ad N b L xs A Qf z (n + 1) := by
  intro NL adL m1 kc ks r1 r2 i3 i4 i5 i6 i7 i8 r9 i10 i11 i12 i13 r14 i15 i16 i17 i18 i19 i20 i21 H locs ls hNN hE hc hs hO n_r1 n_r2 n_r9 n_r14 h hP hD hS hl
  have h : fB_L_law_957 L xs (fL_L_law L xs n) NL m1 kc ks r1 r2 i3 i4 i5 i6 i7 i8 r9 i10 i11 i12 i13 r14 i15 i16 i17 i18 i19 i20 i21 0 0 0 0 0 = some z := fE_L_law_957.symm.trans h
  unfold fB_L_law_957 at h
  refine lv_iconst (v := 0) hx hb dL_law_957 (by decide) ?_
  refine lv_istore (lv' := [(22, .int 0), (1, .ref (adL r1)), (2, .ref (adL r2)), (3, .int i3), (4, .int i4), (5, .int i5), (6, .int i6), (7, .int i7), (8, .int i8), (9, .ref (adL r9)), (10, .int i10), (11, .int i11), (12, .int i12), (13, .int i13), (14, .ref (adL r14)), (15, .int i15), (16, .int i16), (17, .int i17), (18, .int i18), (19, .int i19), (20, .int i20), (21, .int i21), (0, .ref b)]) hx hb dL_law_958 hl (by decide) rfl (fun ls hl => ?_)
  refine lv_iconst (v := 0) hx hb dL_law_960 (by decide) ?_
  refine lv_istore (lv' := [(23, .int 0), (22, .int 0), (1, .ref (adL r1)), (2, .ref (adL r2)), (3, .int i3), (4, .int i4), (5, .int i5), (6, .int i6), (7, .int i7), (8, .int i8), (9, .ref (adL r9)), (10, .int i10), (11, .int i11), (12, .int i12), (13, .int i13), (14, .ref (adL r14)), (15, .int i15), (16, .int i16), (17, .int i17), (18, .int i18), (19, .int i19), (20, .int i20), (21, .int i21), (0, .ref b)]) hx hb dL_law_961 hl (by decide) rfl (fun ls hl => ?_)
  exact (ih.2.2.2.2.2.2.2.2.2.2.2.2.2.2.2.2.2.2.2.2.2.2.2.2.2.1) NL adL m1 kc ks r1 r2 i3 i4 i5 i6 i7 i8 r9 i10 i11 i12 i13 r14 i15 i16 i17 i18 i19 i20 i21 (0 : Int32) (0 : Int32) _ _ _ hNN hE hc hs hO n_r1 n_r2 n_r9 n_r14 h hP hD hS (lv_sub hl (l' := [(1, .ref (adL r1)), (2, .ref (adL r2)), (3, .int i3), (4, .int i4), (5, .int i5), (6, .int i6), (7, .int i7), (8, .int i8), (9, .ref (adL r9)), (10, .int i10), (11, .int i11), (12, .int i12), (13, .int i13), (14, .ref (adL r14)), (15, .int i15), (16, .int i16), (17, .int i17), (18, .int i18), (19, .int i19), (20, .int i20), (21, .int i21), (22, .int 0), (23, .int 0), (0, .ref b)]) [2, 3, 4, 5, 6, 7, 8, 9, 10, 11, 12, 13, 14, 15, 16, 17, 18, 19, 20, 21, 22, 1, 0, 23] rfl)
set_option maxHeartbeats 1000000 in
set_option maxRecDepth 100000 in
theorem law_b963 {p : Program} {l : Launch} {e : Env} {s : State} {m : MethodId} {below : List Frame} {meth : Method} {c : Code} {D : va_G} {tc : Nat → ClassId} {ad : Nat → Nat} {N b L : Nat} {xs : Nat → Int32} {A : Nat → Prop} {Qf : State → Prop} {z : Int32 × Nat × vM} (hx : p.tables.exec = Jvm.exec) (hb : c.code = code) (hml : c.maxLocals = 27) (hown : s.vm.findClass RL = some m.cls) (hts : ∀ w ∈ wsL_law, w.before #[Value.ref b] s = true) (hX : va_X b L xs s s.heap) (hbl : b < s.heap.size) (hbA : ¬ A b) (hA : ∀ q : Nat, s.heap.size ≤ q → A q) (hK : va_K D vwCl (vT tc) s) (hZ : vZ tc s) (hend : ∀ (H : Heap) (locs : List Loc) (ls : Array Slot), va_S A s.heap H locs → W p l e room_1 s m #[Value.ref b] below meth c H locs room_1.cells room_1.slots Qf (F0 m 1061 ls [.int 1])) (hz1 : z.1 = 1) {n : Nat} (ih : lC_29 p l e s m below meth c D tc ad N b L xs A Qf z n ∧ lC_90 p l e s m below meth c D tc ad N b L xs A Qf z n ∧ lC_123 p l e s m below meth c D tc ad N b L xs A Qf z n ∧ lC_132 p l e s m below meth c D tc ad N b L xs A Qf z n ∧ lC_272 p l e s m below meth c D tc ad N b L xs A Qf z n ∧ lC_286 p l e s m below meth c D tc ad N b L xs A Qf z n ∧ lC_392 p l e s m below meth c D tc ad N b L xs A Qf z n ∧ lC_402 p l e s m below meth c D tc ad N b L xs A Qf z n ∧ lC_411 p l e s m below meth c D tc ad N b L xs A Qf z n ∧ lC_430 p l e s m below meth c D tc ad N b L xs A Qf z n ∧ lC_448 p l e s m below meth c D tc ad N b L xs A Qf z n ∧ lC_473 p l e s m below meth c D tc ad N b L xs A Qf z n ∧ lC_513 p l e s m below meth c D tc ad N b L xs A Qf z n ∧ lC_561 p l e s m below meth c D tc ad N b L xs A Qf z n ∧ lC_583 p l e s m below meth c D tc ad N b L xs A Qf z n ∧ lC_608 p l e s m below meth c D tc ad N b L xs A Qf z n ∧ lC_696 p l e s m below meth c D tc ad N b L xs A Qf z n ∧ lC_702 p l e s m below meth c D tc ad N b L xs A Qf z n ∧ lC_749 p l e s m below meth c D tc ad N b L xs A Qf z n ∧ lC_847 p l e s m below meth c D tc ad N b L xs A Qf z n ∧ lC_850 p l e s m below meth c D tc ad N b L xs A Qf z n ∧ lC_883 p l e s m below meth c D tc ad N b L xs A Qf z n ∧ lC_929 p l e s m below meth c D tc ad N b L xs A Qf z n ∧ lC_943 p l e s m below meth c D tc ad N b L xs A Qf z n ∧ lC_957 p l e s m below meth c D tc ad N b L xs A Qf z n ∧ lC_963 p l e s m below meth c D tc ad N b L xs A Qf z n ∧ lC_1031 p l e s m below meth c D tc ad N b L xs A Qf z n) : lC_963 p l e s m below meth c D tc ad N b L xs A Qf z (n + 1) := by
  intro NL adL m1 kc ks r1 r2 i3 i4 i5 i6 i7 i8 r9 i10 i11 i12 i13 r14 i15 i16 i17 i18 i19 i20 i21 i22 i23 H locs ls hNN hE hc hs hO n_r1 n_r2 n_r9 n_r14 h hP hD hS hl
  have h : fB_L_law_963 L xs (fL_L_law L xs n) NL m1 kc ks r1 r2 i3 i4 i5 i6 i7 i8 r9 i10 i11 i12 i13 r14 i15 i16 i17 i18 i19 i20 i21 i22 i23 0 0 0 = some z := fE_L_law_963.symm.trans h
  unfold fB_L_law_963 at h
  refine lv_iload hx hb dL_law_963 (lv_at hl 22 rfl) ?_
  refine lv_aload_n hx hb dL_law_965 rfl (lv_at hl 0 rfl) ?_
  refine lv_iload hx hb dL_law_966 (lv_at hl 19 rfl) ?_
  refine lv_iconst (v := 3) hx hb dL_law_968 (by decide) ?_
  obtain ⟨g1, h⟩ := vg_if h
  obtain ⟨q2, g3, h⟩ := vg_bind h
  refine va_calli (va_runV (As := [.int i20, .int 3]) (rest := [.int i23]) ⟨hx, hb, hml, hown, hts⟩ (cm_X3_door (m0 := m1) l D tc adL hO n_r1 g3) (cwV 2 hts gL_law_X3_door rfl rfl rfl (by decide +kernel) ⟨(Nat.le_of_ble_eq_true rfl), (Nat.le_of_ble_eq_true rfl)⟩) ⟨qR_blind, va_recv hK hP (ci := 3) (q0 := r1) rfl (vW_k3 n_r1 g1), qR_pre hP hK hZ⟩ rfl rfl hl.1 rfl (lv_room (Nat.le_of_ble_eq_true rfl)) dL_law_969 ⟨vRc hc, vRs hs⟩) hS (fun q9 _ h9 => h9.elim) (fun q9 h9 => h9.elim) (fun w4 u t H1 locs ht hvm hw hB hz1 hk1 hS => ?_)
  have hP := hP.kept (fun k9 q9 hk9 => hk1 q9.1 (hP k9 q9 hk9).lt (fun h9 => h9))
  generalize H1 = H at hP hS ⊢
  clear hk1 hz1 ht hvm
  have hw : w4 = q2 := hw
  rw [hw]
  refine lv_icmp_ge (tgt := 1037) hx hb dL_law_972 (by decide) (fun c5 => ?_) (fun c5 => ?_)
  · rw [if_pos c5] at h
    refine lv_iload hx hb dL_law_1037 (lv_at hl 21 rfl) ?_
    refine lv_if_ne (tgt := 1044) hx hb dL_law_1039 (by decide) (fun c6 => ?_) (fun c6 => ?_)
    · rw [if_neg c6] at h
      refine lv_iinc (v := i16 + 1) (lv' := [(16, .int (i16 + 1)), (1, .ref (adL r1)), (2, .ref (adL r2)), (3, .int i3), (4, .int i4), (5, .int i5), (6, .int i6), (7, .int i7), (8, .int i8), (9, .ref (adL r9)), (10, .int i10), (11, .int i11), (12, .int i12), (13, .int i13), (14, .ref (adL r14)), (15, .int i15), (17, .int i17), (18, .int i18), (19, .int i19), (20, .int i20), (21, .int i21), (22, .int i22), (23, .int i23), (0, .ref b)]) hx hb dL_law_1044 hl (k := 15) rfl rfl (by decide) rfl (fun ls hl => ?_)
      refine lv_goto (tgt := 883) hx hb dL_law_1047 (by decide) ?_
      exact (ih.2.2.2.2.2.2.2.2.2.2.2.2.2.2.2.2.2.2.2.2.2.1) NL adL m1 kc ks r1 r2 i3 i4 i5 i6 i7 i8 r9 i10 i11 i12 i13 r14 i15 (i16 + 1) _ _ _ hNN hE hc hs hO n_r1 n_r2 n_r9 n_r14 h hP hD hS (lv_sub hl (l' := [(1, .ref (adL r1)), (2, .ref (adL r2)), (3, .int i3), (4, .int i4), (5, .int i5), (6, .int i6), (7, .int i7), (8, .int i8), (9, .ref (adL r9)), (10, .int i10), (11, .int i11), (12, .int i12), (13, .int i13), (14, .ref (adL r14)), (15, .int i15), (16, .int (i16 + 1)), (0, .ref b)]) [1, 2, 3, 4, 5, 6, 7, 8, 9, 10, 11, 12, 13, 14, 15, 0, 23] rfl)
    · rw [if_pos c6] at h
      refine lv_iconst (v := 0) hx hb dL_law_1042 (by decide) ?_
      have hz := Option.some.inj h
      rw [← hz] at hz1
      exact absurd (show (0 : Int32) = 1 from hz1) (by decide)
  · rw [if_neg c5] at h
    refine lv_iload hx hb dL_law_975 (lv_at hl 21 rfl) ?_
    refine lv_if_ne (tgt := 1024) hx hb dL_law_977 (by decide) (fun c7 => ?_) (fun c7 => ?_)
    · rw [if_neg c7] at h
      refine lv_iconst (v := 1) hx hb dL_law_1024 (by decide) ?_
      refine lv_goto (tgt := 1029) hx hb dL_law_1025 (by decide) ?_
      refine lv_istore (lv' := [(22, .int 1), (1, .ref (adL r1)), (2, .ref (adL r2)), (3, .int i3), (4, .int i4), (5, .int i5), (6, .int i6), (7, .int i7), (8, .int i8), (9, .ref (adL r9)), (10, .int i10), (11, .int i11), (12, .int i12), (13, .int i13), (14, .ref (adL r14)), (15, .int i15), (16, .int i16), (17, .int i17), (18, .int i18), (19, .int i19), (20, .int i20), (21, .int i21), (23, .int i23), (0, .ref b)]) hx hb dL_law_1029 hl (by decide) rfl (fun ls hl => ?_)
      exact (ih.2.2.2.2.2.2.2.2.2.2.2.2.2.2.2.2.2.2.2.2.2.2.2.2.2.2) NL adL m1 kc ks r1 r2 i3 i4 i5 i6 i7 i8 r9 i10 i11 i12 i13 r14 i15 i16 i17 i18 i19 i20 i21 (1 : Int32) i23 _ _ _ hNN hE hc hs hO n_r1 n_r2 n_r9 n_r14 h hP hD hS (lv_sub hl (l' := [(1, .ref (adL r1)), (2, .ref (adL r2)), (3, .int i3), (4, .int i4), (5, .int i5), (6, .int i6), (7, .int i7), (8, .int i8), (9, .ref (adL r9)), (10, .int i10), (11, .int i11), (12, .int i12), (13, .int i13), (14, .ref (adL r14)), (15, .int i15), (16, .int i16), (17, .int i17), (18, .int i18), (19, .int i19), (20, .int i20), (21, .int i21), (22, .int 1), (23, .int i23), (0, .ref b)]) [1, 2, 3, 4, 5, 6, 7, 8, 9, 10, 11, 12, 13, 14, 15, 16, 17, 18, 19, 20, 21, 0, 22, 23] rfl)
    · rw [if_pos c7] at h
      refine lv_aload_n hx hb dL_law_980 rfl (lv_at hl 0 rfl) ?_
      refine lv_iload hx hb dL_law_981 (lv_at hl 19 rfl) ?_
      refine lv_iload hx hb dL_law_983 (lv_at hl 22 rfl) ?_
      refine lv_iconst (v := 0) hx hb dL_law_985 (by decide) ?_
      obtain ⟨q8, g9, h⟩ := vg_bind h
      refine va_calli (va_runV (As := [.int i20, .int i23, .int 0]) (rest := []) ⟨hx, hb, hml, hown, hts⟩ (cm_X3_asks (m0 := m1) l D tc adL hO n_r1 g9) (cwV 3 hts gL_law_X3_asks rfl rfl rfl (by decide +kernel) ⟨(Nat.le_of_ble_eq_true rfl), (Nat.le_of_ble_eq_true rfl)⟩) ⟨qR_blind, va_recv hK hP (ci := 3) (q0 := r1) rfl (vW_k3 n_r1 g1), qR_pre hP hK hZ⟩ rfl rfl hl.1 rfl (lv_room (Nat.le_of_ble_eq_true rfl)) dL_law_986 ⟨vRc hc, vRs hs⟩) hS (fun q9 _ h9 => h9.elim) (fun q9 h9 => h9.elim) (fun w10 u t H1 locs ht hvm hw hB hz1 hk1 hS => ?_)
      have hP := hP.kept (fun k9 q9 hk9 => hk1 q9.1 (hP k9 q9 hk9).lt (fun h9 => h9))
      generalize H1 = H at hP hS ⊢
      clear hk1 hz1 ht hvm
      have hw : w10 = q8 := hw
      rw [hw]
      refine lv_iload hx hb dL_law_989 (lv_at hl 20 rfl) ?_
      refine lv_icmp_ne (tgt := 1028) hx hb dL_law_991 (by decide) (fun c11 => ?_) (fun c11 => ?_)
      · rw [if_neg c11] at h
        refine lv_iconst (v := 0) hx hb dL_law_1028 (by decide) ?_
        refine lv_istore (lv' := [(22, .int 0), (1, .ref (adL r1)), (2, .ref (adL r2)), (3, .int i3), (4, .int i4), (5, .int i5), (6, .int i6), (7, .int i7), (8, .int i8), (9, .ref (adL r9)), (10, .int i10), (11, .int i11), (12, .int i12), (13, .int i13), (14, .ref (adL r14)), (15, .int i15), (16, .int i16), (17, .int i17), (18, .int i18), (19, .int i19), (20, .int i20), (21, .int i21), (23, .int i23), (0, .ref b)]) hx hb dL_law_1029 hl (by decide) rfl (fun ls hl => ?_)
        exact (ih.2.2.2.2.2.2.2.2.2.2.2.2.2.2.2.2.2.2.2.2.2.2.2.2.2.2) NL adL m1 kc ks r1 r2 i3 i4 i5 i6 i7 i8 r9 i10 i11 i12 i13 r14 i15 i16 i17 i18 i19 i20 i21 (0 : Int32) i23 _ _ _ hNN hE hc hs hO n_r1 n_r2 n_r9 n_r14 h hP hD hS (lv_sub hl (l' := [(1, .ref (adL r1)), (2, .ref (adL r2)), (3, .int i3), (4, .int i4), (5, .int i5), (6, .int i6), (7, .int i7), (8, .int i8), (9, .ref (adL r9)), (10, .int i10), (11, .int i11), (12, .int i12), (13, .int i13), (14, .ref (adL r14)), (15, .int i15), (16, .int i16), (17, .int i17), (18, .int i18), (19, .int i19), (20, .int i20), (21, .int i21), (22, .int 0), (23, .int i23), (0, .ref b)]) [1, 2, 3, 4, 5, 6, 7, 8, 9, 10, 11, 12, 13, 14, 15, 16, 17, 18, 19, 20, 21, 0, 22, 23] rfl)
      · rw [if_pos c11] at h
        refine lv_aload_n hx hb dL_law_994 rfl (lv_at hl 0 rfl) ?_
        refine lv_iload hx hb dL_law_995 (lv_at hl 15 rfl) ?_
        refine lv_iconst (v := 3) hx hb dL_law_997 (by decide) ?_
        obtain ⟨q12, g13, h⟩ := vg_bind h
        refine va_calli (va_runV (As := [.int i16, .int 3]) (rest := []) ⟨hx, hb, hml, hown, hts⟩ (cm_X3_voice (m0 := m1) l D tc adL hO n_r1 g13) (cwV 2 hts gL_law_X3_voice rfl rfl rfl (by decide +kernel) ⟨(Nat.le_of_ble_eq_true rfl), (Nat.le_of_ble_eq_true rfl)⟩) ⟨qR_blind, va_recv hK hP (ci := 3) (q0 := r1) rfl (vW_k3 n_r1 g1), qR_pre hP hK hZ⟩ rfl rfl hl.1 rfl (lv_room (Nat.le_of_ble_eq_true rfl)) dL_law_998 ⟨vRc hc, vRs hs⟩) hS (fun q9 _ h9 => h9.elim) (fun q9 h9 => h9.elim) (fun w14 u t H1 locs ht hvm hw hB hz1 hk1 hS => ?_)
        have hP := hP.kept (fun k9 q9 hk9 => hk1 q9.1 (hP k9 q9 hk9).lt (fun h9 => h9))
        generalize H1 = H at hP hS ⊢
        clear hk1 hz1 ht hvm
        have hw : w14 = q12 := hw
        rw [hw]
        refine lv_iconst (v := 1) hx hb dL_law_1001 (by decide) ?_
        refine lv_icmp_lt (tgt := 1028) hx hb dL_law_1002 (by decide) (fun c15 => ?_) (fun c15 => ?_)
        · rw [if_pos c15] at h
          refine lv_iconst (v := 0) hx hb dL_law_1028 (by decide) ?_
          refine lv_istore (lv' := [(22, .int 0), (1, .ref (adL r1)), (2, .ref (adL r2)), (3, .int i3), (4, .int i4), (5, .int i5), (6, .int i6), (7, .int i7), (8, .int i8), (9, .ref (adL r9)), (10, .int i10), (11, .int i11), (12, .int i12), (13, .int i13), (14, .ref (adL r14)), (15, .int i15), (16, .int i16), (17, .int i17), (18, .int i18), (19, .int i19), (20, .int i20), (21, .int i21), (23, .int i23), (0, .ref b)]) hx hb dL_law_1029 hl (by decide) rfl (fun ls hl => ?_)
          exact (ih.2.2.2.2.2.2.2.2.2.2.2.2.2.2.2.2.2.2.2.2.2.2.2.2.2.2) NL adL m1 kc ks r1 r2 i3 i4 i5 i6 i7 i8 r9 i10 i11 i12 i13 r14 i15 i16 i17 i18 i19 i20 i21 (0 : Int32) i23 _ _ _ hNN hE hc hs hO n_r1 n_r2 n_r9 n_r14 h hP hD hS (lv_sub hl (l' := [(1, .ref (adL r1)), (2, .ref (adL r2)), (3, .int i3), (4, .int i4), (5, .int i5), (6, .int i6), (7, .int i7), (8, .int i8), (9, .ref (adL r9)), (10, .int i10), (11, .int i11), (12, .int i12), (13, .int i13), (14, .ref (adL r14)), (15, .int i15), (16, .int i16), (17, .int i17), (18, .int i18), (19, .int i19), (20, .int i20), (21, .int i21), (22, .int 0), (23, .int i23), (0, .ref b)]) [1, 2, 3, 4, 5, 6, 7, 8, 9, 10, 11, 12, 13, 14, 15, 16, 17, 18, 19, 20, 21, 0, 22, 23] rfl)
        · rw [if_neg c15] at h
          refine lv_aload_n hx hb dL_law_1005 rfl (lv_at hl 0 rfl) ?_
          refine lv_iload hx hb dL_law_1006 (lv_at hl 15 rfl) ?_
          refine lv_iconst (v := 3) hx hb dL_law_1008 (by decide) ?_
          obtain ⟨q16, g17, h⟩ := vg_bind h
          refine va_calli (va_runV (As := [.int i16, .int 3]) (rest := []) ⟨hx, hb, hml, hown, hts⟩ (cm_X3_voice (m0 := m1) l D tc adL hO n_r1 g17) (cwV 2 hts gL_law_X3_voice rfl rfl rfl (by decide +kernel) ⟨(Nat.le_of_ble_eq_true rfl), (Nat.le_of_ble_eq_true rfl)⟩) ⟨qR_blind, va_recv hK hP (ci := 3) (q0 := r1) rfl (vW_k3 n_r1 g1), qR_pre hP hK hZ⟩ rfl rfl hl.1 rfl (lv_room (Nat.le_of_ble_eq_true rfl)) dL_law_1009 ⟨vRc hc, vRs hs⟩) hS (fun q9 _ h9 => h9.elim) (fun q9 h9 => h9.elim) (fun w18 u t H1 locs ht hvm hw hB hz1 hk1 hS => ?_)
          have hP := hP.kept (fun k9 q9 hk9 => hk1 q9.1 (hP k9 q9 hk9).lt (fun h9 => h9))
          generalize H1 = H at hP hS ⊢
          clear hk1 hz1 ht hvm
          have hw : w18 = q16 := hw
          rw [hw]
          refine lv_aload_n hx hb dL_law_1012 rfl (lv_at hl 0 rfl) ?_
          refine lv_iload hx hb dL_law_1013 (lv_at hl 19 rfl) ?_
          refine lv_iload hx hb dL_law_1015 (lv_at hl 22 rfl) ?_
          refine lv_iconst (v := 1) hx hb dL_law_1017 (by decide) ?_
          obtain ⟨q19, g20, h⟩ := vg_bind h
          refine va_calli (va_runV (As := [.int i20, .int i23, .int 1]) (rest := [.int q16]) ⟨hx, hb, hml, hown, hts⟩ (cm_X3_asks (m0 := m1) l D tc adL hO n_r1 g20) (cwV 3 hts gL_law_X3_asks rfl rfl rfl (by decide +kernel) ⟨(Nat.le_of_ble_eq_true rfl), (Nat.le_of_ble_eq_true rfl)⟩) ⟨qR_blind, va_recv hK hP (ci := 3) (q0 := r1) rfl (vW_k3 n_r1 g1), qR_pre hP hK hZ⟩ rfl rfl hl.1 rfl (lv_room (Nat.le_of_ble_eq_true rfl)) dL_law_1018 ⟨vRc hc, vRs hs⟩) hS (fun q9 _ h9 => h9.elim) (fun q9 h9 => h9.elim) (fun w21 u t H1 locs ht hvm hw hB hz1 hk1 hS => ?_)
          have hP := hP.kept (fun k9 q9 hk9 => hk1 q9.1 (hP k9 q9 hk9).lt (fun h9 => h9))
          generalize H1 = H at hP hS ⊢
          clear hk1 hz1 ht hvm
          have hw : w21 = q19 := hw
          rw [hw]
          refine lv_icmp_gt (tgt := 1028) hx hb dL_law_1021 (by decide) (fun c22 => ?_) (fun c22 => ?_)
          · rw [if_pos c22] at h
            refine lv_iconst (v := 0) hx hb dL_law_1028 (by decide) ?_
            refine lv_istore (lv' := [(22, .int 0), (1, .ref (adL r1)), (2, .ref (adL r2)), (3, .int i3), (4, .int i4), (5, .int i5), (6, .int i6), (7, .int i7), (8, .int i8), (9, .ref (adL r9)), (10, .int i10), (11, .int i11), (12, .int i12), (13, .int i13), (14, .ref (adL r14)), (15, .int i15), (16, .int i16), (17, .int i17), (18, .int i18), (19, .int i19), (20, .int i20), (21, .int i21), (23, .int i23), (0, .ref b)]) hx hb dL_law_1029 hl (by decide) rfl (fun ls hl => ?_)
            exact (ih.2.2.2.2.2.2.2.2.2.2.2.2.2.2.2.2.2.2.2.2.2.2.2.2.2.2) NL adL m1 kc ks r1 r2 i3 i4 i5 i6 i7 i8 r9 i10 i11 i12 i13 r14 i15 i16 i17 i18 i19 i20 i21 (0 : Int32) i23 _ _ _ hNN hE hc hs hO n_r1 n_r2 n_r9 n_r14 h hP hD hS (lv_sub hl (l' := [(1, .ref (adL r1)), (2, .ref (adL r2)), (3, .int i3), (4, .int i4), (5, .int i5), (6, .int i6), (7, .int i7), (8, .int i8), (9, .ref (adL r9)), (10, .int i10), (11, .int i11), (12, .int i12), (13, .int i13), (14, .ref (adL r14)), (15, .int i15), (16, .int i16), (17, .int i17), (18, .int i18), (19, .int i19), (20, .int i20), (21, .int i21), (22, .int 0), (23, .int i23), (0, .ref b)]) [1, 2, 3, 4, 5, 6, 7, 8, 9, 10, 11, 12, 13, 14, 15, 16, 17, 18, 19, 20, 21, 0, 22, 23] rfl)
          · rw [if_neg c22] at h
            refine lv_iconst (v := 1) hx hb dL_law_1024 (by decide) ?_
            refine lv_goto (tgt := 1029) hx hb dL_law_1025 (by decide) ?_
            refine lv_istore (lv' := [(22, .int 1), (1, .ref (adL r1)), (2, .ref (adL r2)), (3, .int i3), (4, .int i4), (5, .int i5), (6, .int i6), (7, .int i7), (8, .int i8), (9, .ref (adL r9)), (10, .int i10), (11, .int i11), (12, .int i12), (13, .int i13), (14, .ref (adL r14)), (15, .int i15), (16, .int i16), (17, .int i17), (18, .int i18), (19, .int i19), (20, .int i20), (21, .int i21), (23, .int i23), (0, .ref b)]) hx hb dL_law_1029 hl (by decide) rfl (fun ls hl => ?_)
            exact (ih.2.2.2.2.2.2.2.2.2.2.2.2.2.2.2.2.2.2.2.2.2.2.2.2.2.2) NL adL m1 kc ks r1 r2 i3 i4 i5 i6 i7 i8 r9 i10 i11 i12 i13 r14 i15 i16 i17 i18 i19 i20 i21 (1 : Int32) i23 _ _ _ hNN hE hc hs hO n_r1 n_r2 n_r9 n_r14 h hP hD hS (lv_sub hl (l' := [(1, .ref (adL r1)), (2, .ref (adL r2)), (3, .int i3), (4, .int i4), (5, .int i5), (6, .int i6), (7, .int i7), (8, .int i8), (9, .ref (adL r9)), (10, .int i10), (11, .int i11), (12, .int i12), (13, .int i13), (14, .ref (adL r14)), (15, .int i15), (16, .int i16), (17, .int i17), (18, .int i18), (19, .int i19), (20, .int i20), (21, .int i21), (22, .int 1), (23, .int i23), (0, .ref b)]) [1, 2, 3, 4, 5, 6, 7, 8, 9, 10, 11, 12, 13, 14, 15, 16, 17, 18, 19, 20, 21, 0, 22, 23] rfl)
set_option maxHeartbeats 1000000 in
set_option maxRecDepth 100000 in
theorem law_b1031 {p : Program} {l : Launch} {e : Env} {s : State} {m : MethodId} {below : List Frame} {meth : Method} {c : Code} {D : va_G} {tc : Nat → ClassId} {ad : Nat → Nat} {N b L : Nat} {xs : Nat → Int32} {A : Nat → Prop} {Qf : State → Prop} {z : Int32 × Nat × vM} (hx : p.tables.exec = Jvm.exec) (hb : c.code = code) (hml : c.maxLocals = 27) (hown : s.vm.findClass RL = some m.cls) (hts : ∀ w ∈ wsL_law, w.before #[Value.ref b] s = true) (hX : va_X b L xs s s.heap) (hbl : b < s.heap.size) (hbA : ¬ A b) (hA : ∀ q : Nat, s.heap.size ≤ q → A q) (hK : va_K D vwCl (vT tc) s) (hZ : vZ tc s) (hend : ∀ (H : Heap) (locs : List Loc) (ls : Array Slot), va_S A s.heap H locs → W p l e room_1 s m #[Value.ref b] below meth c H locs room_1.cells room_1.slots Qf (F0 m 1061 ls [.int 1])) (hz1 : z.1 = 1) {n : Nat} (ih : lC_29 p l e s m below meth c D tc ad N b L xs A Qf z n ∧ lC_90 p l e s m below meth c D tc ad N b L xs A Qf z n ∧ lC_123 p l e s m below meth c D tc ad N b L xs A Qf z n ∧ lC_132 p l e s m below meth c D tc ad N b L xs A Qf z n ∧ lC_272 p l e s m below meth c D tc ad N b L xs A Qf z n ∧ lC_286 p l e s m below meth c D tc ad N b L xs A Qf z n ∧ lC_392 p l e s m below meth c D tc ad N b L xs A Qf z n ∧ lC_402 p l e s m below meth c D tc ad N b L xs A Qf z n ∧ lC_411 p l e s m below meth c D tc ad N b L xs A Qf z n ∧ lC_430 p l e s m below meth c D tc ad N b L xs A Qf z n ∧ lC_448 p l e s m below meth c D tc ad N b L xs A Qf z n ∧ lC_473 p l e s m below meth c D tc ad N b L xs A Qf z n ∧ lC_513 p l e s m below meth c D tc ad N b L xs A Qf z n ∧ lC_561 p l e s m below meth c D tc ad N b L xs A Qf z n ∧ lC_583 p l e s m below meth c D tc ad N b L xs A Qf z n ∧ lC_608 p l e s m below meth c D tc ad N b L xs A Qf z n ∧ lC_696 p l e s m below meth c D tc ad N b L xs A Qf z n ∧ lC_702 p l e s m below meth c D tc ad N b L xs A Qf z n ∧ lC_749 p l e s m below meth c D tc ad N b L xs A Qf z n ∧ lC_847 p l e s m below meth c D tc ad N b L xs A Qf z n ∧ lC_850 p l e s m below meth c D tc ad N b L xs A Qf z n ∧ lC_883 p l e s m below meth c D tc ad N b L xs A Qf z n ∧ lC_929 p l e s m below meth c D tc ad N b L xs A Qf z n ∧ lC_943 p l e s m below meth c D tc ad N b L xs A Qf z n ∧ lC_957 p l e s m below meth c D tc ad N b L xs A Qf z n ∧ lC_963 p l e s m below meth c D tc ad N b L xs A Qf z n ∧ lC_1031 p l e s m below meth c D tc ad N b L xs A Qf z n) : lC_1031 p l e s m below meth c D tc ad N b L xs A Qf z (n + 1) := by
  intro NL adL m1 kc ks r1 r2 i3 i4 i5 i6 i7 i8 r9 i10 i11 i12 i13 r14 i15 i16 i17 i18 i19 i20 i21 i22 i23 H locs ls hNN hE hc hs hO n_r1 n_r2 n_r9 n_r14 h hP hD hS hl
  have h : fB_L_law_1031 L xs (fL_L_law L xs n) NL m1 kc ks r1 r2 i3 i4 i5 i6 i7 i8 r9 i10 i11 i12 i13 r14 i15 i16 i17 i18 i19 i20 i21 i22 i23 0 0 0 = some z := fE_L_law_1031.symm.trans h
  unfold fB_L_law_1031 at h
  refine lv_iinc (v := i23 + 1) (lv' := [(23, .int (i23 + 1)), (1, .ref (adL r1)), (2, .ref (adL r2)), (3, .int i3), (4, .int i4), (5, .int i5), (6, .int i6), (7, .int i7), (8, .int i8), (9, .ref (adL r9)), (10, .int i10), (11, .int i11), (12, .int i12), (13, .int i13), (14, .ref (adL r14)), (15, .int i15), (16, .int i16), (17, .int i17), (18, .int i18), (19, .int i19), (20, .int i20), (21, .int i21), (22, .int i22), (0, .ref b)]) hx hb dL_law_1031 hl (k := 22) rfl rfl (by decide) rfl (fun ls hl => ?_)
  refine lv_goto (tgt := 963) hx hb dL_law_1034 (by decide) ?_
  exact (ih.2.2.2.2.2.2.2.2.2.2.2.2.2.2.2.2.2.2.2.2.2.2.2.2.2.1) NL adL m1 kc ks r1 r2 i3 i4 i5 i6 i7 i8 r9 i10 i11 i12 i13 r14 i15 i16 i17 i18 i19 i20 i21 i22 (i23 + 1) _ _ _ hNN hE hc hs hO n_r1 n_r2 n_r9 n_r14 h hP hD hS (lv_sub hl (l' := [(1, .ref (adL r1)), (2, .ref (adL r2)), (3, .int i3), (4, .int i4), (5, .int i5), (6, .int i6), (7, .int i7), (8, .int i8), (9, .ref (adL r9)), (10, .int i10), (11, .int i11), (12, .int i12), (13, .int i13), (14, .ref (adL r14)), (15, .int i15), (16, .int i16), (17, .int i17), (18, .int i18), (19, .int i19), (20, .int i20), (21, .int i21), (22, .int i22), (23, .int (i23 + 1)), (0, .ref b)]) [1, 2, 3, 4, 5, 6, 7, 8, 9, 10, 11, 12, 13, 14, 15, 16, 17, 18, 19, 20, 21, 22, 0, 23] rfl)
theorem law_cuts {p : Program} {l : Launch} {e : Env} {s : State} {m : MethodId} {below : List Frame} {meth : Method} {c : Code} {D : va_G} {tc : Nat → ClassId} {ad : Nat → Nat} {N b L : Nat} {xs : Nat → Int32} {A : Nat → Prop} {Qf : State → Prop} {z : Int32 × Nat × vM} (hx : p.tables.exec = Jvm.exec) (hb : c.code = code) (hml : c.maxLocals = 27) (hown : s.vm.findClass RL = some m.cls) (hts : ∀ w ∈ wsL_law, w.before #[Value.ref b] s = true) (hX : va_X b L xs s s.heap) (hbl : b < s.heap.size) (hbA : ¬ A b) (hA : ∀ q : Nat, s.heap.size ≤ q → A q) (hK : va_K D vwCl (vT tc) s) (hZ : vZ tc s) (hend : ∀ (H : Heap) (locs : List Loc) (ls : Array Slot), va_S A s.heap H locs → W p l e room_1 s m #[Value.ref b] below meth c H locs room_1.cells room_1.slots Qf (F0 m 1061 ls [.int 1])) (hz1 : z.1 = 1) : ∀ n : Nat, lC_29 p l e s m below meth c D tc ad N b L xs A Qf z n ∧ lC_90 p l e s m below meth c D tc ad N b L xs A Qf z n ∧ lC_123 p l e s m below meth c D tc ad N b L xs A Qf z n ∧ lC_132 p l e s m below meth c D tc ad N b L xs A Qf z n ∧ lC_272 p l e s m below meth c D tc ad N b L xs A Qf z n ∧ lC_286 p l e s m below meth c D tc ad N b L xs A Qf z n ∧ lC_392 p l e s m below meth c D tc ad N b L xs A Qf z n ∧ lC_402 p l e s m below meth c D tc ad N b L xs A Qf z n ∧ lC_411 p l e s m below meth c D tc ad N b L xs A Qf z n ∧ lC_430 p l e s m below meth c D tc ad N b L xs A Qf z n ∧ lC_448 p l e s m below meth c D tc ad N b L xs A Qf z n ∧ lC_473 p l e s m below meth c D tc ad N b L xs A Qf z n ∧ lC_513 p l e s m below meth c D tc ad N b L xs A Qf z n ∧ lC_561 p l e s m below meth c D tc ad N b L xs A Qf z n ∧ lC_583 p l e s m below meth c D tc ad N b L xs A Qf z n ∧ lC_608 p l e s m below meth c D tc ad N b L xs A Qf z n ∧ lC_696 p l e s m below meth c D tc ad N b L xs A Qf z n ∧ lC_702 p l e s m below meth c D tc ad N b L xs A Qf z n ∧ lC_749 p l e s m below meth c D tc ad N b L xs A Qf z n ∧ lC_847 p l e s m below meth c D tc ad N b L xs A Qf z n ∧ lC_850 p l e s m below meth c D tc ad N b L xs A Qf z n ∧ lC_883 p l e s m below meth c D tc ad N b L xs A Qf z n ∧ lC_929 p l e s m below meth c D tc ad N b L xs A Qf z n ∧ lC_943 p l e s m below meth c D tc ad N b L xs A Qf z n ∧ lC_957 p l e s m below meth c D tc ad N b L xs A Qf z n ∧ lC_963 p l e s m below meth c D tc ad N b L xs A Qf z n ∧ lC_1031 p l e s m below meth c D tc ad N b L xs A Qf z n := by
  intro n
  induction n with
  | zero => exact ⟨(fun _ _ _ _ _ _ _ _ _ _ _ _ _ _ _ _ _ _ _ h9 _ _ _ _ => by have h9 : (none : Option (Int32 × Nat × vM)) = some z := h9; cases h9), (fun _ _ _ _ _ _ _ _ _ _ _ _ _ _ _ _ _ _ _ _ _ _ h9 _ _ _ _ => by have h9 : (none : Option (Int32 × Nat × vM)) = some z := h9; cases h9), (fun _ _ _ _ _ _ _ _ _ _ _ _ _ _ _ _ _ _ _ _ _ _ _ _ _ _ h9 _ _ _ _ => by have h9 : (none : Option (Int32 × Nat × vM)) = some z := h9; cases h9), (fun _ _ _ _ _ _ _ _ _ _ _ _ _ _ _ _ _ _ _ _ _ _ _ _ _ _ _ h9 _ _ _ _ => by have h9 : (none : Option (Int32 × Nat × vM)) = some z := h9; cases h9), (fun _ _ _ _ _ _ _ _ _ _ _ _ _ _ _ _ _ _ _ _ _ _ _ _ _ _ _ _ h9 _ _ _ _ => by have h9 : (none : Option (Int32 × Nat × vM)) = some z := h9; cases h9), (fun _ _ _ _ _ _ _ _ _ _ _ _ _ _ _ _ _ _ _ _ _ _ _ _ _ _ _ _ _ _ _ _ _ h9 _ _ _ _ => by have h9 : (none : Option (Int32 × Nat × vM)) = some z := h9; cases h9), (fun _ _ _ _ _ _ _ _ _ _ _ _ _ _ _ _ _ _ _ _ _ _ _ _ _ _ _ _ _ _ _ _ _ _ _ _ _ _ h9 _ _ _ _ => by have h9 : (none : Option (Int32 × Nat × vM)) = some z := h9; cases h9), (fun _ _ _ _ _ _ _ _ _ _ _ _ _ _ _ _ _ _ _ _ _ _ _ _ _ _ _ _ _ _ _ _ _ _ _ _ _ _ h9 _ _ _ _ => by have h9 : (none : Option (Int32 × Nat × vM)) = some z := h9; cases h9), (fun _ _ _ _ _ _ _ _ _ _ _ _ _ _ _ _ _ _ _ _ _ _ _ _ _ _ _ _ _ _ _ _ _ _ _ _ _ _ h9 _ _ _ _ => by have h9 : (none : Option (Int32 × Nat × vM)) = some z := h9; cases h9), (fun _ _ _ _ _ _ _ _ _ _ _ _ _ _ _ _ _ _ _ _ _ _ _ _ _ _ _ _ _ _ _ _ _ _ _ _ _ _ h9 _ _ _ _ => by have h9 : (none : Option (Int32 × Nat × vM)) = some z := h9; cases h9), (fun _ _ _ _ _ _ _ _ _ _ _ _ _ _ _ _ _ _ _ _ _ _ _ _ _ _ _ _ _ _ _ _ _ _ _ _ _ _ h9 _ _ _ _ => by have h9 : (none : Option (Int32 × Nat × vM)) = some z := h9; cases h9), (fun _ _ _ _ _ _ _ _ _ _ _ _ _ _ _ _ _ _ _ _ _ _ _ _ _ _ _ _ _ _ _ _ _ _ _ _ _ _ h9 _ _ _ _ => by have h9 : (none : Option (Int32 × Nat × vM)) = some z := h9; cases h9), (fun _ _ _ _ _ _ _ _ _ _ _ _ _ _ _ _ _ _ _ _ _ _ _ _ _ _ _ _ _ _ _ _ _ _ _ _ _ _ h9 _ _ _ _ => by have h9 : (none : Option (Int32 × Nat × vM)) = some z := h9; cases h9), (fun _ _ _ _ _ _ _ _ _ _ _ _ _ _ _ _ _ _ _ _ _ _ _ _ _ _ _ _ _ _ _ _ _ _ _ _ _ _ h9 _ _ _ _ => by have h9 : (none : Option (Int32 × Nat × vM)) = some z := h9; cases h9), (fun _ _ _ _ _ _ _ _ _ _ _ _ _ _ _ _ _ _ _ _ _ _ _ _ _ _ _ _ _ _ _ _ _ _ _ _ _ _ h9 _ _ _ _ => by have h9 : (none : Option (Int32 × Nat × vM)) = some z := h9; cases h9), (fun _ _ _ _ _ _ _ _ _ _ _ _ _ _ _ _ _ _ _ _ _ _ _ _ _ _ _ _ _ _ _ _ _ _ _ _ _ _ h9 _ _ _ _ => by have h9 : (none : Option (Int32 × Nat × vM)) = some z := h9; cases h9), (fun _ _ _ _ _ _ _ _ _ _ _ _ _ _ _ _ _ _ _ _ _ _ _ _ _ _ _ _ _ _ _ _ _ _ _ _ _ _ _ _ _ h9 _ _ _ _ => by have h9 : (none : Option (Int32 × Nat × vM)) = some z := h9; cases h9), (fun _ _ _ _ _ _ _ _ _ _ _ _ _ _ _ _ _ _ _ _ _ _ _ _ _ _ _ _ _ _ _ _ _ _ _ _ _ _ _ _ _ _ _ h9 _ _ _ _ => by have h9 : (none : Option (Int32 × Nat × vM)) = some z := h9; cases h9), (fun _ _ _ _ _ _ _ _ _ _ _ _ _ _ _ _ _ _ _ _ _ _ _ _ _ _ _ _ _ _ _ _ _ _ _ _ _ _ _ _ _ _ _ h9 _ _ _ _ => by have h9 : (none : Option (Int32 × Nat × vM)) = some z := h9; cases h9), (fun _ _ _ _ _ _ _ _ _ _ _ _ _ _ _ _ _ _ _ _ _ _ _ _ _ _ _ _ _ _ _ _ _ h9 _ _ _ _ => by have h9 : (none : Option (Int32 × Nat × vM)) = some z := h9; cases h9), (fun _ _ _ _ _ _ _ _ _ _ _ _ _ _ _ _ _ _ _ _ _ _ _ _ _ _ _ _ _ _ _ _ _ h9 _ _ _ _ => by have h9 : (none : Option (Int32 × Nat × vM)) = some z := h9; cases h9), (fun _ _ _ _ _ _ _ _ _ _ _ _ _ _ _ _ _ _ _ _ _ _ _ _ _ _ _ _ _ _ _ _ _ h9 _ _ _ _ => by have h9 : (none : Option (Int32 × Nat × vM)) = some z := h9; cases h9), (fun _ _ _ _ _ _ _ _ _ _ _ _ _ _ _ _ _ _ _ _ _ _ _ _ _ _ _ _ _ _ _ _ _ _ _ _ h9 _ _ _ _ => by have h9 : (none : Option (Int32 × Nat × vM)) = some z := h9; cases h9), (fun _ _ _ _ _ _ _ _ _ _ _ _ _ _ _ _ _ _ _ _ _ _ _ _ _ _ _ _ _ _ _ _ _ _ _ _ _ h9 _ _ _ _ => by have h9 : (none : Option (Int32 × Nat × vM)) = some z := h9; cases h9), (fun _ _ _ _ _ _ _ _ _ _ _ _ _ _ _ _ _ _ _ _ _ _ _ _ _ _ _ _ _ _ _ _ _ _ _ _ _ _ h9 _ _ _ _ => by have h9 : (none : Option (Int32 × Nat × vM)) = some z := h9; cases h9), (fun _ _ _ _ _ _ _ _ _ _ _ _ _ _ _ _ _ _ _ _ _ _ _ _ _ _ _ _ _ _ _ _ _ _ _ _ _ _ _ _ h9 _ _ _ _ => by have h9 : (none : Option (Int32 × Nat × vM)) = some z := h9; cases h9), (fun _ _ _ _ _ _ _ _ _ _ _ _ _ _ _ _ _ _ _ _ _ _ _ _ _ _ _ _ _ _ _ _ _ _ _ _ _ _ _ _ h9 _ _ _ _ => by have h9 : (none : Option (Int32 × Nat × vM)) = some z := h9; cases h9)⟩
  | succ n ih => exact ⟨law_b29 hx hb hml hown hts hX hbl hbA hA hK hZ hend hz1 ih, law_b90 hx hb hml hown hts hX hbl hbA hA hK hZ hend hz1 ih, law_b123 hx hb hml hown hts hX hbl hbA hA hK hZ hend hz1 ih, law_b132 hx hb hml hown hts hX hbl hbA hA hK hZ hend hz1 ih, law_b272 hx hb hml hown hts hX hbl hbA hA hK hZ hend hz1 ih, law_b286 hx hb hml hown hts hX hbl hbA hA hK hZ hend hz1 ih, law_b392 hx hb hml hown hts hX hbl hbA hA hK hZ hend hz1 ih, law_b402 hx hb hml hown hts hX hbl hbA hA hK hZ hend hz1 ih, law_b411 hx hb hml hown hts hX hbl hbA hA hK hZ hend hz1 ih, law_b430 hx hb hml hown hts hX hbl hbA hA hK hZ hend hz1 ih, law_b448 hx hb hml hown hts hX hbl hbA hA hK hZ hend hz1 ih, law_b473 hx hb hml hown hts hX hbl hbA hA hK hZ hend hz1 ih, law_b513 hx hb hml hown hts hX hbl hbA hA hK hZ hend hz1 ih, law_b561 hx hb hml hown hts hX hbl hbA hA hK hZ hend hz1 ih, law_b583 hx hb hml hown hts hX hbl hbA hA hK hZ hend hz1 ih, law_b608 hx hb hml hown hts hX hbl hbA hA hK hZ hend hz1 ih, law_b696 hx hb hml hown hts hX hbl hbA hA hK hZ hend hz1 ih, law_b702 hx hb hml hown hts hX hbl hbA hA hK hZ hend hz1 ih, law_b749 hx hb hml hown hts hX hbl hbA hA hK hZ hend hz1 ih, law_b847 hx hb hml hown hts hX hbl hbA hA hK hZ hend hz1 ih, law_b850 hx hb hml hown hts hX hbl hbA hA hK hZ hend hz1 ih, law_b883 hx hb hml hown hts hX hbl hbA hA hK hZ hend hz1 ih, law_b929 hx hb hml hown hts hX hbl hbA hA hK hZ hend hz1 ih, law_b943 hx hb hml hown hts hX hbl hbA hA hK hZ hend hz1 ih, law_b957 hx hb hml hown hts hX hbl hbA hA hK hZ hend hz1 ih, law_b963 hx hb hml hown hts hX hbl hbA hA hK hZ hend hz1 ih, law_b1031 hx hb hml hown hts hX hbl hbA hA hK hZ hend hz1 ih⟩

set_option maxHeartbeats 1000000 in
set_option maxRecDepth 100000 in
theorem law_run {p : Program} {e : Env} {s : State} {m : MethodId} {below : List Frame} {meth : Method} {c : Code} (l : Launch) (D : va_G) (tc : Nat → ClassId) (ad : Nat → Nat) {N : Nat} {m0 : vM} {b L : Nat} {xs : Nat → Int32} {A : Nat → Prop} {Qf : State → Prop} {ls : Array Slot} (hx : p.tables.exec = Jvm.exec) (hb : c.code = code) (hml : c.maxLocals = 27) (hown : s.vm.findClass RL = some m.cls) (hts : ∀ w ∈ wsL_law, w.before #[Value.ref b] s = true) (hX : va_X b L xs s s.heap) (hbl : b < s.heap.size) (hbA : ¬ A b) (hA : ∀ q : Nat, s.heap.size ≤ q → A q) (hK : va_K D vwCl (vT tc) s) (hZ : vZ tc s) (hO : vOK N m0) (hP : va_P D vwCl (vW tc ad N m0) s.heap) (hD : va_D A (vW tc ad N m0)) (hl : lv_has ls 27 [(0, .ref b)]) (hend : ∀ (H : Heap) (locs : List Loc) (ls : Array Slot), va_S A s.heap H locs → W p l e room_1 s m #[Value.ref b] below meth c H locs room_1.cells room_1.slots Qf (F0 m 1061 ls [.int 1])) {z : Int32 × Nat × vM} (h : f_L_law L xs N m0 = some z) (hz1 : z.1 = 1) : W p l e room_1 s m #[Value.ref b] below meth c s.heap [] 0 0 Qf (F0 m 0 ls []) := by
  have hS : va_S A s.heap s.heap [] := va_S.rf
  have hl : lv_has ls 27 [(0, .ref b)] := hl
  have hL := law_cuts (p := p) (l := l) (e := e) (s := s) (m := m) (below := below) (meth := meth) (c := c) (D := D) (tc := tc) (ad := ad) (N := N) (b := b) (L := L) (xs := xs) (A := A) (Qf := Qf) (z := z) hx hb hml hown hts hX hbl hbA hA hK hZ hend hz1
  unfold f_L_law at h
  refine wm_obj3 hx hb hts inlX3 hown (hts (.classLink RL 23 RX3) (List.mem_append_left _ (List.mem_append_left _ (List.mem_append_left _ (List.mem_of_getElem? (i := 0) rfl))))) (hts (.instantiable RX3 2) (List.mem_append_left _ (List.mem_append_left _ (List.mem_append_left _ (List.mem_of_getElem? (i := 1) rfl))))) (hts (.initialized RX3) (List.mem_append_left _ (List.mem_append_left _ (List.mem_append_left _ (List.mem_of_getElem? (i := 2) rfl))))) hO hK hP hD hS hA (vRc (Nat.le_of_ble_eq_true rfl)) (vRs (Nat.le_of_ble_eq_true rfl)) dL_law_0 (fun ad1 H e2 hP hD hS => ?_)
  have e3 : ∀ k, k < N → ad1 k = ad k := fun k hk => (e2 k (Nat.lt_of_lt_of_le hk (Nat.le_refl _))).trans ((fun _ _ => rfl) k hk)
  have e4 : N ≤ (N + 1) := Nat.le_trans (Nat.le_refl _) (Nat.le_succ _)
  have hO5 := vOK.N (k := 3) (n := 0) hO
  have hP : va_P D vwCl (vW tc ad1 ((N + 1)) ((mN m0 N 3 0))) H := hP
  have hD : va_D A (vW tc ad1 ((N + 1)) ((mN m0 N 3 0))) := hD
  refine lv_dup hx hb dL_law_3 rfl ?_
  obtain ⟨q6, g7, h⟩ := vg_bind h
  have hFc := vm_free hD hS hA
  refine va_callv (va_runI (As := []) (rest := [.ref (ad1 N)]) ⟨hx, hb, hml, hown, hts⟩ (cm_X3_init (m0 := (mN m0 N 3 0)) l D tc ad1 hO5 (Nat.lt_succ_self _) g7) (cwI 0 hts gL_law_X3_init rfl rfl rfl (hts (.initialized RX3) (List.mem_append_left _ (List.mem_append_left _ (List.mem_append_left _ (List.mem_of_getElem? (i := 2) rfl))))) (hts (.methodLink RL 73 yX3_init) (List.mem_append_left _ (List.mem_append_left _ (List.mem_append_left _ (List.mem_of_getElem? (i := 6) rfl))))) (hts (.instanceMethod yX3_init) (List.mem_append_left _ (List.mem_append_left _ (List.mem_append_left _ (List.mem_of_getElem? (i := 7) rfl))))) rfl (by decide +kernel) ⟨(Nat.le_of_ble_eq_true rfl), (Nat.le_of_ble_eq_true rfl)⟩) ⟨qW_blind, qW_pre hP hD hK hZ⟩ rfl rfl hl.1 rfl (lv_room (Nat.le_of_ble_eq_true rfl)) dL_law_4 ⟨(vRc (Nat.le_of_ble_eq_true rfl)), (vRs (Nat.le_of_ble_eq_true rfl))⟩) hS (fun q9 _ h9 => hFc q9 h9) hFc (fun u t H1 locs ht hvm hw hB hz1 hk1 hS => ?_)
  obtain ⟨ad9, e10, e11, hO12, hP1, hK1, hD1⟩ := hB
  rw [ht] at hP1
  have hP := hP1
  have hD := hD1.weaken (fun _ q9 _ h9 => hFc q9.1 h9)
  generalize H1 = H at hP hS ⊢
  clear hk1 hz1 ht hvm
  have e13 : ∀ k, k < N → ad9 k = ad k := fun k hk => (e10 k (Nat.lt_of_lt_of_le hk e4)).trans (e3 k hk)
  have e14 : N ≤ q6.1 := Nat.le_trans e4 e11
  have n15 : N < q6.1 := Nat.lt_of_lt_of_le (Nat.lt_succ_self _) e11
  refine W.eq (g2 := F0 m 7 ls [.ref (ad9 N)]) (by rw [e10 N (Nat.lt_succ_self _)]) ?_
  have hP : va_P D vwCl (vW tc ad9 q6.1 q6.2) H := hP
  have hD : va_D A (vW tc ad9 q6.1 q6.2) := hD
  refine lv_astore_n (lv' := [(1, .ref (ad9 N)), (0, .ref b)]) hx hb dL_law_7 rfl hl (by decide) rfl (fun ls hl => ?_)
  refine lv_aload_n hx hb dL_law_8 rfl (lv_at hl 0 rfl) ?_
  refine lv_aload_n hx hb dL_law_9 rfl (lv_at hl 1 rfl) ?_
  obtain ⟨q16, g17, h⟩ := vg_bind h
  have hFc := vm_free hD hS hA
  refine va_callq (va_runS (As := [.ref (ad9 N), .ref b]) (rest := []) ⟨hx, hb, hml, hown, hts⟩ (cm_L_build (m0 := q6.2) l D tc ad9 hO12 n15 g17) (va_cwS 2 hts gL_law_L_build rfl rfl rfl (by decide +kernel) ⟨(Nat.le_of_ble_eq_true rfl), (Nat.le_of_ble_eq_true rfl)⟩) ⟨qX_blind, qX_pre hP hD hK hZ hX hbl hbA hS hFc⟩ rfl rfl hl.1 rfl (lv_room (Nat.le_of_ble_eq_true rfl)) dL_law_10 ⟨(vRc (Nat.le_of_ble_eq_true rfl)), (vRs (Nat.le_of_ble_eq_true rfl))⟩) hS (fun q9 _ h9 => hFc q9 h9) hFc (fun w18 u t H1 locs ht hvm hw hB hz1 hk1 hS => ?_)
  obtain ⟨e20, e21, hO22, hP1, hK1, hD1, hr2⟩ := hB
  generalize u = ad19 at *
  rw [ht] at hP1
  have hP := hP1
  have hD := hD1.weaken (fun _ q9 _ h9 => hFc q9.1 h9)
  generalize H1 = H at hP hS ⊢
  clear hk1 hz1 ht hvm
  have hl : lv_has ls 27 [(1, .ref (ad19 N)), (0, .ref b)] := by rw [e20 N n15]; exact hl
  have e23 : ∀ k, k < N → ad19 k = ad k := fun k hk => (e20 k (Nat.lt_of_lt_of_le hk e14)).trans (e13 k hk)
  have e24 : N ≤ q16.2.1 := Nat.le_trans e14 e21
  have n25 : N < q16.2.1 := Nat.lt_of_lt_of_le n15 e21
  have hw : w18 = Option.map ad19 (q16.1) := hw
  rw [hw]
  have hP : va_P D vwCl (vW tc ad19 q16.2.1 q16.2.2) H := hP
  have hD : va_D A (vW tc ad19 q16.2.1 q16.2.2) := hD
  by_cases c26 : q16.1 = none
  · rw [if_pos c26] at h
    refine W.eq (g2 := F0 m 13 ls [.null]) (by rw [c26]; rfl) ?_
    refine lv_astore_nN (lv' := [(2, .null), (1, .ref (ad19 N)), (0, .ref b)]) hx hb dL_law_13 rfl hl (by decide) rfl (fun ls hl => ?_)
    refine lv_aload_nN hx hb dL_law_14 rfl (lv_at hl 0 rfl) ?_
    refine lv_ifnonnullN hx hb dL_law_15 ?_
    refine lv_iconst (v := 0) hx hb dL_law_18 (by decide) ?_
    have hz := Option.some.inj h
    rw [← hz] at hz1
    exact absurd (show (0 : Int32) = 1 from hz1) (by decide)
  rw [if_neg c26] at h
  obtain ⟨y27, g28, h⟩ := vg_bind h
  have n_y27 := hr2 _ g28
  refine W.eq (g2 := F0 m 13 ls [.ref (ad19 y27)]) (by rw [g28]; rfl) ?_
  refine lv_astore_n (lv' := [(2, .ref (ad19 y27)), (1, .ref (ad19 N)), (0, .ref b)]) hx hb dL_law_13 rfl hl (by decide) rfl (fun ls hl => ?_)
  refine lv_aload_n hx hb dL_law_14 rfl (lv_at hl 0 rfl) ?_
  refine lv_ifnonnull (tgt := 20) hx hb dL_law_15 (by decide) ?_
  refine lv_aload_n hx hb dL_law_20 rfl (lv_at hl 0 rfl) ?_
  obtain ⟨g29, h⟩ := vg_if h
  obtain ⟨y30, g31, h⟩ := vg_bind h
  have n_y30 := hO22 _ _ _ g31
  refine va_get (D := D) (ci := 5) (v := .ref (ad19 y30)) (C := RX5) (T := TX5) (N := 4) hx hb hts inlX5 hown hK hP y27 (vW_k5 n_y27 g29) rfl 0 (by decide) (hts (.fieldLink RL 35 "VaultDoorsLaw$Sim" "doors" "[LVaultDoorsLaw$Door;") (List.mem_append_left _ (List.mem_append_left _ (List.mem_append_left _ (List.mem_of_getElem? (i := 3) rfl))))) (fun _ h9 => h9) (by show some (va_rf (Option.map ad19 (mr q16.2.2 y27 0))) = _; rw [g31]; rfl) dL_law_21 ?_
  obtain ⟨g32, h⟩ := vg_if h
  refine va_alen (D := D) hx hb hK hP y30 3 (vW_k9 n_y30 g32) rfl rfl dL_law_24 ?_
  refine lv_istore_n (lv' := [(3, .int (Int32.ofNat (ml q16.2.2 y30))), (2, .ref (ad19 y27)), (1, .ref (ad19 N)), (0, .ref b)]) hx hb dL_law_25 rfl hl (by decide) rfl (fun ls hl => ?_)
  refine lv_iconst (v := 0) hx hb dL_law_26 (by decide) ?_
  refine lv_istore (lv' := [(4, .int 0), (3, .int (Int32.ofNat (ml q16.2.2 y30))), (2, .ref (ad19 y27)), (1, .ref (ad19 N)), (0, .ref b)]) hx hb dL_law_27 hl (by decide) rfl (fun ls hl => ?_)
  exact ((hL vF).1) q16.2.1 ad19 q16.2.2 ((((0 + 1) + 148) + 91)) ((((0 + 2) + 4178) + 1860)) N y27 (Int32.ofNat (ml q16.2.2 y30)) (0 : Int32) _ _ _ e24 e23 (Nat.le_of_ble_eq_true rfl) (Nat.le_of_ble_eq_true rfl) hO22 n25 n_y27 h hP hD hS (lv_sub hl (l' := [(1, .ref (ad19 N)), (2, .ref (ad19 y27)), (3, .int (Int32.ofNat (ml q16.2.2 y30))), (4, .int 0), (0, .ref b)]) [3, 2, 1, 0, 4] rfl)
