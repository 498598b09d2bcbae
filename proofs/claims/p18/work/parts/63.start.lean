theorem vs_arr {s : State} {b : Nat} (hts : ∀ w ∈ lw_tbl, w.before #[Value.ref b] s = true) : ∃ tc : Nat → ClassId, (∀ (k : Nat) (q : ClassId × FieldType), (vT tc)[k]? = some q → ArrOfT s q.1 q.2 ∧ va_RA s q.1 q.2) ∧ vG tc s := by
  obtain ⟨c0, k0, p0, h1, h2, h3⟩ := Cond.arrayClass_spec (hts (.arrayClass .int) (by decide +kernel))
  obtain ⟨p1, c1, k1, g1, -, g3, g4, g5⟩ := Cond.arrayOver_spec (hts (.arrayOver (.object RX0)) (by decide +kernel))
  obtain ⟨p2, c2, k2, a1, -, a3, a4, a5⟩ := arrayOverA_spec (hts (.arrayOver (.array .int)) (by decide +kernel))
  obtain ⟨p3, c3, k3, b1, -, b3, b4, b5⟩ := Cond.arrayOver_spec (hts (.arrayOver (.object RX4)) (by decide +kernel))
  have e0 : p2 = c0 := Option.some.inj (a1.symm.trans h1)
  subst e0
  refine ⟨fun k => if k = 0 then p2 else if k = 1 then c1 else if k = 2 then c2 else c3, fun k q hq => ?_, k2, k0, a3, a4, h2⟩
  match k, hq with
  | 0, hq => cases hq; exact ⟨fun _ _ => ⟨(fun k h => by cases h), k0, h2, p0, h3⟩, h1⟩
  | 1, hq => cases hq; exact ⟨fun _ _ => ⟨(fun k h => by cases h), k1, g3, p1, g4⟩, k1, p1, g3, g4, g1, g5⟩
  | 2, hq => cases hq; exact ⟨fun _ _ => ⟨(fun k h => by cases h), k2, a3, p2, a4⟩, a5⟩
  | 3, hq => cases hq; exact ⟨fun _ _ => ⟨(fun k h => by cases h), k3, b3, p3, b4⟩, k3, p3, b3, b4, b1, b5⟩
  | k + 4, hq => simp [vT] at hq
def vM0 : vM := (fun _ => 0, fun _ => 0, fun _ _ => 0, fun _ _ => none)
set_option maxRecDepth 100000 in
set_option maxHeartbeats 4000000 in
theorem whole_start {p : Program} {e : Env} {s : State} {m : MethodId} {below : List Frame} {meth : Method} {c : Code} (l : Launch) (hflags : l.flags = flags0) {b L : Nat} {xs : Nat → Int32} (hL : L ≤ 260) (C0 : lw_At p s m meth c b L xs) : W p l e room_1 s m #[Value.ref b] below meth c s.heap [] 0 0 (lw_Z below #[Value.ref b] s) (entryFrame m ([Value.ref b] : List Value).toArray 27) := by
  obtain ⟨hx, hb, hr, hml, hown, hts0, hX, hbl, hlocks, hgv⟩ := id C0
  have hts1 : ∀ w ∈ wsL_law, w.before #[Value.ref b] s = true := fun w h => hts0 w (wsL_law_in w h)
  have hts := dr_words hts1 s.drawn
  have hbA : ¬ (fun q : Nat => s.heap.size ≤ q) b := Nat.not_le.mpr hbl
  have hd0 := Drawn.sameBut.refl s.drawn lw_cs
  obtain ⟨c0, iS0, hKn0⟩ := u_known (C := RX0) (T := TX0) (N := 14) (n := 14) hts0 inX0 (hts0 (.instantiable RX0 14) (by decide +kernel))
  obtain ⟨c1, iS1, hKn1⟩ := u_known (C := RX1) (T := TX1) (N := 5) (n := 5) hts0 inX1 (hts0 (.instantiable RX1 5) (by decide +kernel))
  obtain ⟨c2, iS2, hKn2⟩ := u_known (C := RX2) (T := TX2) (N := 7) (n := 7) hts0 inX2 (hts0 (.instantiable RX2 7) (by decide +kernel))
  obtain ⟨c3, iS3, hKn3⟩ := u_known (C := RX3) (T := TX3) (N := 2) (n := 2) hts0 inX3 (hts0 (.instantiable RX3 2) (by decide +kernel))
  obtain ⟨c4, iS4, hKn4⟩ := u_known (C := RX4) (T := TX4) (N := 9) (n := 9) hts0 inX4 (hts0 (.instantiable RX4 9) (by decide +kernel))
  obtain ⟨c5, iS5, hKn5⟩ := u_known (C := RX5) (T := TX5) (N := 4) (n := 4) hts0 inX5 (hts0 (.instantiable RX5 4) (by decide +kernel))
  obtain ⟨dC, dI, hKc⟩ : ∃ (dC : Nat → ClassId) (dI : Nat → Nat → Nat), ∀ (k : Nat) (q : vw_C), vwCl[k]? = some q → u_Kn s q.1 q.2.1 q.2.2 (dC k) (dI k) := by
    refine ⟨fun k => if k = 0 then c0 else if k = 1 then c1 else if k = 2 then c2 else if k = 3 then c3 else if k = 4 then c4 else c5, fun k => if k = 0 then iS0 else if k = 1 then iS1 else if k = 2 then iS2 else if k = 3 then iS3 else if k = 4 then iS4 else iS5, ?_⟩
    intro k q hq
    match k, hq with
    | 0, hq => cases hq; exact hKn0
    | 1, hq => cases hq; exact hKn1
    | 2, hq => cases hq; exact hKn2
    | 3, hq => cases hq; exact hKn3
    | 4, hq => cases hq; exact hKn4
    | 5, hq => cases hq; exact hKn5
    | k + 6, hq => simp [vwCl] at hq
  obtain ⟨tc, hT, hG⟩ := vs_arr hts0
  have hK : va_K (dC, dI) vwCl (vT tc) (s.setDrawn s.drawn) := ⟨hKc, hT⟩
  have hZ0 : vZ tc s := ⟨hG, ⟨hts0 (.arrayOver (.object RX0)) (by decide +kernel), hts0 (.arrayOver (.object RX4)) (by decide +kernel), hts0 (.arrayOver (.array .int)) (by decide +kernel)⟩, va_Nw.of rfl (hts0 (.methodLinkNest RX0 78 yX3_isIn "VaultDoors") (by decide +kernel)), va_Nw.of rfl (hts0 (.methodLinkNest RX1 19 yX2_init "VaultDoors") (by decide +kernel)), va_Nw.of rfl (hts0 (.methodLinkNest RX1 27 yX0_init "VaultDoors") (by decide +kernel)), va_Nw.of rfl (hts0 (.methodLinkNest RX2 48 yX3_isIn "VaultDoors") (by decide +kernel)), va_Nw.of rfl (hts0 (.methodLinkNest RL 11 yX5_init "VaultDoorsLaw") (by decide +kernel)), va_Nw.of rfl (hts0 (.methodLinkNest RX5 30 yX4_init "VaultDoorsLaw") (by decide +kernel))⟩
  have hZ : vZ tc (s.setDrawn s.drawn) := hZ0.same rfl
  have hO : vOK 0 vM0 := fun a j i h => by cases h
  have hP : va_P (dC, dI) vwCl (vW tc (fun _ => 0) 0 vM0) s.heap := fun k q h => by simp [vW] at h
  have hD : va_D (fun q : Nat => s.heap.size ≤ q) (vW tc (fun _ => 0) 0 vM0) := ⟨fun i j p q h => by simp [vW] at h, fun k q h => by simp [vW] at h⟩
  refine W.base ?_
  have hl := lv_entry ([.ref b]) (n := 27) (Nat.le_of_ble_eq_true rfl)
  rw [lg_entry_eq]
  generalize (lg_sl ([.ref b]) ++ List.replicate (27 - (lg_sl ([.ref b])).length) Slot.unset).toArray = ls at hl ⊢
  have hl : lv_has ls 27 [(0, .ref b)] := hl
  obtain ⟨z, hz, hz1⟩ := S_law (L := L) (xs := xs) (m := vM0) hL
  exact law_run (s := s.setDrawn s.drawn) l (dC, dI) tc (fun _ => 0) (N := 0) (m0 := vM0) (A := (fun q : Nat => s.heap.size ≤ q)) hx hb hml hown hts hX hbl hbA (fun _ h => h) hK hZ hO hP hD hl (fun H locs ls hS => va_forget (fun q hq => hS.2.2 q hq) (lw_ret hd0 hx hb hr hlocks dL_law_1061)) hz hz1
