theorem S_law {L : Nat} {xs : Nat → Int32} {m : vM} (hL : L ≤ 260) : wq (f_L_law L xs 0 m) (fun z => z.1 = xI 1) := by
  unfold f_L_law
  refine w_c S_X3init ?_
  rintro ⟨N1, m1⟩ ⟨e1, hV, h1, h3, hd⟩
  have e1 : N1 = 149 := e1
  subst e1
  refine w_c (S_Lbuild (L := L) (xs := xs) hL hV h1 h3 hd) ?_
  rintro ⟨zo, N2, m2⟩ ⟨j1, S, hB, hn1, hg, hk0⟩
  have j1 : zo = some 149 := j1
  subst j1
  dsimp only at hB ⊢
  have hh := hB
  obtain ⟨hC, hN, ⟨Z, hZ, hu⟩, E, Lw, hI⟩ := hh
  obtain ⟨⟨⟨a1, a2, a3, a4, a5, a6, a7⟩, ⟨b1, b2, b3, b4, b5⟩⟩, _⟩ := hZ
  refine w_n (by intro h; cases h) ?_
  refine w_b rfl ?_
  refine w_i a3 ?_
  refine w_b a4 ?_
  refine w_i b3 ?_
  have hn : S.1 = Z.1 := by rw [← hu]; rfl
  have h9 := L_29 (L := L) (xs := xs) (s := 149) hL hn1 50 0 rfl N2 m2 S (0 + 1 + 148 + 91) (0 + 2 + 4178 + 1860) hB rfl (by rw [hg]; rfl) ⟨by rw [hg]; exact ⟨Int.le_refl _, Int.le_refl _⟩, fun k => by have := hk0 k; omega⟩ (by omega) (by omega) vF (by unfold vF; omega)
  rw [hn] at h9
  rw [b4, xI_nat]
  exact h9
