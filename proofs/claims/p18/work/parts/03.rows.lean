/-- what the arrays of arrays need beyond va_K: the outer class's component is the class of int[] -/
def vG (tc : Nat → ClassId) (U : State) : Prop := ∃ kA k0 : Class, U.vm.classes[tc 2]? = some kA ∧ kA.kind = .array (tc 0) (.array .int) ∧ U.vm.classes[tc 0]? = some k0
theorem vG.moved {tc : Nat → ClassId} {u U : State} (hvm : u.vm.Alike U.vm) (h : vG tc u) : vG tc U := by
  obtain ⟨kA, k0, h1, h2, h3⟩ := h
  obtain ⟨kA', h4, h5⟩ := hvm.2.2 _ _ h1
  obtain ⟨k0', h6, -⟩ := hvm.2.2 _ _ h3
  exact ⟨kA', k0', h4, by rw [h5]; exact h2, h6⟩
/-- what a making of arrays of references needs of the tables -/
def vQ (U : State) : Prop := va_AO RX0 U ∧ va_AO RX4 U ∧ va_AOA .int U
theorem va_AOA.moved {t : FieldType} {u U : State} (hvm : u.vm.Alike U.vm) (h : va_AOA t u) : va_AOA t U := by
  obtain ⟨comp, c, k, hcomp, hidx, hk, hkind, hname⟩ := arrayOverA_spec (show (Cond.arrayOver (.array t)).holds #[] u none u [] = true from h)
  obtain ⟨k', hk', hek'⟩ := hvm.2.2 _ _ hk
  have hkind' : k'.kind = .array comp (.array t) := by rw [hek']; exact hkind
  have hname' : U.vm.findClass ("[" ++ (FieldType.array t).toString) = some c := by rw [hvm.findClass]; exact hname
  have hcomp' : U.vm.findClass (FieldType.array t).toString = some comp := by rw [hvm.findClass]; exact hcomp
  show (Cond.arrayOver (.array t)).holds #[] U none U [] = true
  simp only [Cond.holds, Cond.value, hcomp', Option.bind_some, beq_iff_eq]
  rw [Option.bind_eq_some_iff]
  refine ⟨c, (hvm.findIdx?_eqK _ (fun _ => rfl)).trans hidx, ?_⟩
  simp [hk', hkind', hname']
theorem vQ.moved {u U : State} (hvm : u.vm.Alike U.vm) (h : vQ u) : vQ U := ⟨va_AO.moved hvm h.1, va_AO.moved hvm h.2.1, va_AOA.moved hvm h.2.2⟩
section
variable {p : Program} {l : Launch} {e : Env} {R : Room} {s : State} {m : MethodId} {args : Array Value} {below : List Frame} {meth : Method} {c : Code} {H : Heap} {locs : List Loc} {cells slots : Nat} {Q : State → Prop}
variable {cc : ByteArray} {pc : Nat} {ls : Array Slot} {rest : List Value} {D : va_G} {A : Nat → Prop} {H0 : Heap} {tc : Nat → ClassId} {ad : Nat → Nat} {N : Nat} {M : vM}
theorem wm_asgN (vm : Vm) (k : ClassId) (n : Nat) : vm.assignableAux (n + 1) k k = true := by
  unfold Vm.assignableAux; rw [beq_self_eq_true, Bool.true_or]
theorem wm_asg (vm : Vm) (k : ClassId) : vm.assignable k k = true := wm_asgN vm k 255
theorem wm_aald8 (hexec : p.tables.exec = Jvm.exec) (hb : c.code = cc) (hK : va_K D vwCl (vT tc) s) (hP : va_P D vwCl (vW tc ad N M) H) {a : Nat} (hN : a < N) (h : mk M a = 8) {i : Int32} (hin : vin i (ml M a)) (hdg : decode cc pc = .ok (.aaload, 1))
    (kk : W p l e R s m args below meth c H locs cells slots Q (F0 m (pc + 1) ls (va_rf ((mr M a i.toNatClampNeg).map ad) :: rest))) : W p l e R s m args below meth c H locs cells slots Q (F0 m pc ls (.int i :: .ref (ad a) :: rest)) := by
  have hlt : i.toNatClampNeg < ml M a := Nat.not_le.mp fun q => hin (Or.inr q)
  exact W.aald (v := va_rf ((mr M a i.toNatClampNeg).map ad)) (ty := .array .int) hexec hb (hP a _ (vW_k8 hN h)) ((hK.2 2 _ rfl).1 (ml M a) (fun j => va_rf ((mr M a j).map ad))) rfl (fun q => by cases q) (by show ¬ (i < 0 ∨ (arrV _ _ _).slots.size ≤ _); rw [arrV_size]; exact hin) (by show (arrV _ _ _).slots[_]? = _; rw [arrV_read _ _ hlt]) rfl rfl hdg kk
theorem wm_aast8 (hexec : p.tables.exec = Jvm.exec) (hb : c.code = cc) (hG : vG tc s) (hP : va_P D vwCl (vW tc ad N M) H) (hD : va_D A (vW tc ad N M)) (hS : va_S A H0 H locs) {a v : Nat} (hN : a < N) (h : mk M a = 8) (hvN : v < N) (hv : mk M v = 6) {i : Int32} (hin : vin i (ml M a)) (hdg : decode cc pc = .ok (.aastore, 1))
    (kk : ∀ (H1 : Heap) (locs1 : List Loc), va_P D vwCl (vW tc ad N (mR M a i.toNatClampNeg (some v))) H1 → va_D A (vW tc ad N (mR M a i.toNatClampNeg (some v))) → va_S A H0 H1 locs1 → W p l e R s m args below meth c H1 locs1 cells slots Q (F0 m (pc + 1) ls rest)) : W p l e R s m args below meth c H locs cells slots Q (F0 m pc ls (.ref (ad v) :: .int i :: .ref (ad a) :: rest)) := by
  have hlt : i.toNatClampNeg < ml M a := Nat.not_le.mp fun q => hin (Or.inr q)
  have h0 : ¬ i < 0 := fun q => hin (Or.inl q)
  obtain ⟨kA, k0, g1, g2, g3⟩ := hG
  have hv9 := hP v _ (vW_k6 hvN hv)
  have ha9 := hP a _ (vW_k8 hN h)
  refine W.aast hexec hb ha9 (fun q h => by cases h) (fun h => by cases h) g1 g2 rfl g3 ⟨h0, by show _ < (arrV _ _ _).slots.size; rw [arrV_size]; exact hlt⟩ hv9 (fun q h => by cases h) g3 (wm_asg s.vm (tc 0)) rfl rfl hdg fun H1 e z oq => ?_
  have hset := vW_p8 (tc := tc) (ad := ad) (v := v) (j := i.toNatClampNeg) hN h
  refine kk H1 _ ?_ ?_ (hS.put z oq (hD.2 a _ (vW_k8 hN h)))
  · rw [← hset]
    refine hP.set hD (vW_k8 hN h) ?_ oq
    show H1[ad a]? = some (vp_cell _ _)
    rw [e]
    show some ((vp_cell _ _).setSlot _ _) = _
    rw [vp_cell_q, vp_cell_q, arrV_store]
    congr 2
    funext q
    by_cases hq : q = i.toNatClampNeg
    · subst hq
      simp [updV, va_up, va_rf]
    · simp [updV, va_up, hq]
  · rw [← hset]
    exact hD.set (vW_k8 hN h)
/-- a new cell, said by ids: the address of the new id, the others as they were -/
theorem wm_lift {k n q : Nat} {e : va_E} {H1 : Heap} (hO : vOK N M) (hw : vW tc ad N M ++ [(q, e)] = vW tc (va_up ad N q) (N + 1) (mN M N k n)) (hP : va_P D vwCl (vW tc ad N M ++ [(q, e)]) H1) (hD : va_D A (vW tc ad N M ++ [(q, e)])) :
    ∃ ad' : Nat → Nat, ad' N = q ∧ (∀ x, x < N → ad' x = ad x) ∧ va_P D vwCl (vW tc ad' (N + 1) (mN M N k n)) H1 ∧ va_D A (vW tc ad' (N + 1) (mN M N k n)) :=
  ⟨va_up ad N q, by simp [va_up], fun x hx => by simp [va_up, Nat.ne_of_lt hx], by rw [← hw]; exact hP, by rw [← hw]; exact hD⟩
theorem wm_new6 (hexec : p.tables.exec = Jvm.exec) (hb : c.code = cc) (harr : (Cond.arrayClass .int).before args s = true) (hO : vOK N M) (hK : va_K D vwCl (vT tc) s) (hP : va_P D vwCl (vW tc ad N M) H) (hD : va_D A (vW tc ad N M)) (hS : va_S A H0 H locs) (hA : ∀ q, H0.size ≤ q → A q)
    {n : Int32} {n' : Nat} (hn : ¬ n < 0) (hN : n.toNatClampNeg = n') (hbytes : n' ≤ 1000000) (hcells : cells + 1 ≤ R.cells) (hslots : slots + n' ≤ R.slots) (hdg : decode cc pc = .ok (.newarray .int, 2))
    (kk : ∀ (ad' : Nat → Nat) (H1 : Heap), (∀ x, x < N → ad' x = ad x) → va_P D vwCl (vW tc ad' (N + 1) (mN M N 6 n')) H1 → va_D A (vW tc ad' (N + 1) (mN M N 6 n')) → va_S A H0 H1 locs →
      W p l e R s m args below meth c H1 locs (cells + 1) (slots + n') Q (F0 m (pc + 2) ls (.ref (ad' N) :: rest))) : W p l e R s m args below meth c H locs cells slots Q (F0 m pc ls (.int n :: rest)) := by
  refine va_newa (D := D) (atype := .int) (ty := .int) (a0 := (n', .inl (fun _ => 0))) (N' := n') hexec hb harr rfl hK hP hD hS hA (fun _ => rfl) hn hN (by show n' * 4 ≤ _; omega) hcells hslots hdg (fun q cA H1 hK1 hP1 hD1 hS1 => ?_)
  have e1 := (hK1.2 4 (cA, .int) rfl).2
  have e2 := (hK.2 0 (tc 0, .int) rfl).2
  have e3 : cA = tc 0 := Option.some.inj (e1.symm.trans e2)
  subst e3
  obtain ⟨ad', g1, g2, g3, g4⟩ := wm_lift hO (vW_n6 hO) hP1 hD1
  rw [← g1]
  exact kk ad' H1 g2 g3 g4 hS1
theorem wm_RA {C : String} {cA cB : ClassId} (h1 : va_RA s cA (.object C)) (h2 : va_RA s cB (.object C)) : cA = cB := by
  obtain ⟨_, _, -, -, -, a1⟩ := h1
  obtain ⟨_, _, -, -, -, a2⟩ := h2
  exact Option.some.inj (a1.symm.trans a2)

theorem wm_new7 (hexec : p.tables.exec = Jvm.exec) (hb : c.code = cc) {own : String} {index : Nat} (hown : s.vm.findClass own = some m.cls) (hclink : (Cond.classLink own index RX0).before args s = true) (hQ : vQ s) (hO : vOK N M) (hK : va_K D vwCl (vT tc) s) (hP : va_P D vwCl (vW tc ad N M) H) (hD : va_D A (vW tc ad N M)) (hS : va_S A H0 H locs) (hA : ∀ q, H0.size ≤ q → A q)
    {n : Int32} {n' : Nat} (hn : ¬ n < 0) (hN : n.toNatClampNeg = n') (hbytes : n' ≤ 1000000) (hcells : cells + 1 ≤ R.cells) (hslots : slots + n' ≤ R.slots) (hdg : decode cc pc = .ok (.anewarray index, 3))
    (kk : ∀ (ad' : Nat → Nat) (H1 : Heap), (∀ x, x < N → ad' x = ad x) → va_P D vwCl (vW tc ad' (N + 1) (mN M N 7 n')) H1 → va_D A (vW tc ad' (N + 1) (mN M N 7 n')) → va_S A H0 H1 locs →
      W p l e R s m args below meth c H1 locs (cells + 1) (slots + n') Q (F0 m (pc + 3) ls (.ref (ad' N) :: rest))) : W p l e R s m args below meth c H locs cells slots Q (F0 m pc ls (.int n :: rest)) := by
  refine va_newq (D := D) (C := RX0) (N' := n') hexec hb hown hclink hQ.1 hK hP hD hS hA hn hN (by omega) hcells hslots hdg (fun q cA H1 hK1 hP1 hD1 hS1 => ?_)
  have e3 : cA = tc 1 := wm_RA (hK1.2 4 (cA, .object RX0) rfl).2 (hK.2 1 (tc 1, .object RX0) rfl).2
  subst e3
  obtain ⟨ad', g1, g2, g3, g4⟩ := wm_lift hO (vW_n7 hO) hP1 hD1
  rw [← g1]
  exact kk ad' H1 g2 g3 g4 hS1
theorem wm_new9 (hexec : p.tables.exec = Jvm.exec) (hb : c.code = cc) {own : String} {index : Nat} (hown : s.vm.findClass own = some m.cls) (hclink : (Cond.classLink own index RX4).before args s = true) (hQ : vQ s) (hO : vOK N M) (hK : va_K D vwCl (vT tc) s) (hP : va_P D vwCl (vW tc ad N M) H) (hD : va_D A (vW tc ad N M)) (hS : va_S A H0 H locs) (hA : ∀ q, H0.size ≤ q → A q)
    {n : Int32} {n' : Nat} (hn : ¬ n < 0) (hN : n.toNatClampNeg = n') (hbytes : n' ≤ 1000000) (hcells : cells + 1 ≤ R.cells) (hslots : slots + n' ≤ R.slots) (hdg : decode cc pc = .ok (.anewarray index, 3))
    (kk : ∀ (ad' : Nat → Nat) (H1 : Heap), (∀ x, x < N → ad' x = ad x) → va_P D vwCl (vW tc ad' (N + 1) (mN M N 9 n')) H1 → va_D A (vW tc ad' (N + 1) (mN M N 9 n')) → va_S A H0 H1 locs →
      W p l e R s m args below meth c H1 locs (cells + 1) (slots + n') Q (F0 m (pc + 3) ls (.ref (ad' N) :: rest))) : W p l e R s m args below meth c H locs cells slots Q (F0 m pc ls (.int n :: rest)) := by
  refine va_newq (D := D) (C := RX4) (N' := n') hexec hb hown hclink hQ.2.1 hK hP hD hS hA hn hN (by omega) hcells hslots hdg (fun q cA H1 hK1 hP1 hD1 hS1 => ?_)
  have e3 : cA = tc 3 := wm_RA (hK1.2 4 (cA, .object RX4) rfl).2 (hK.2 3 (tc 3, .object RX4) rfl).2
  subst e3
  obtain ⟨ad', g1, g2, g3, g4⟩ := wm_lift hO (vW_n9 hO) hP1 hD1
  rw [← g1]
  exact kk ad' H1 g2 g3 g4 hS1
theorem wm_new8 (hexec : p.tables.exec = Jvm.exec) (hb : c.code = cc) {own : String} {index : Nat} (hown : s.vm.findClass own = some m.cls) (hclink : (Cond.classLink own index "[I").before args s = true) (hQ : vQ s) (hO : vOK N M) (hK : va_K D vwCl (vT tc) s) (hP : va_P D vwCl (vW tc ad N M) H) (hD : va_D A (vW tc ad N M)) (hS : va_S A H0 H locs) (hA : ∀ q, H0.size ≤ q → A q)
    {n : Int32} {n' : Nat} (hn : ¬ n < 0) (hN : n.toNatClampNeg = n') (hbytes : n' ≤ 1000000) (hcells : cells + 1 ≤ R.cells) (hslots : slots + n' ≤ R.slots) (hdg : decode cc pc = .ok (.anewarray index, 3))
    (kk : ∀ (ad' : Nat → Nat) (H1 : Heap), (∀ x, x < N → ad' x = ad x) → va_P D vwCl (vW tc ad' (N + 1) (mN M N 8 n')) H1 → va_D A (vW tc ad' (N + 1) (mN M N 8 n')) → va_S A H0 H1 locs →
      W p l e R s m args below meth c H1 locs (cells + 1) (slots + n') Q (F0 m (pc + 3) ls (.ref (ad' N) :: rest))) : W p l e R s m args below meth c H locs cells slots Q (F0 m pc ls (.int n :: rest)) := by
  subst hN
  refine W.anewA (t := .int) hexec hb hown (by show (Cond.classLink own index "[I").before args s = true; exact hclink) (va_AOA.use hQ.2.2) rfl hdg rfl hn (by omega) hcells hslots fun cA kA comp f1 f2 f3 f4 => ?_
  have e2 := (hK.2 2 (tc 2, .array .int) rfl).2
  have e3 : cA = tc 2 := Option.some.inj (f1.symm.trans e2)
  subst e3
  generalize hH1 : H.push ({ cls := tc 2, slots := Array.replicate n.toNatClampNeg .null, vm := .none } : Cell) = H1
  have e1 : H1[H.size]? = some (arrV (tc 2) n.toNatClampNeg (fun _ => .null)) := by rw [← hH1, Array.getElem?_push_size, ← arrV_new]
  have o1 : ∀ q : Nat, q < H.size → H1[q]? = H[q]? := fun q hq => by rw [← hH1, Array.getElem?_push, if_neg (Nat.ne_of_lt hq)]
  have z1 : H1.size = H.size + 1 := by rw [← hH1, Array.size_push]
  have hk : ∀ (k : Nat) (x : Nat × va_E), (vW tc ad N M)[k]? = some x → H1[x.1]? = H[x.1]? := fun k x hx => o1 x.1 ((hP k x hx).lt)
  have hP1 : va_P D vwCl (vW tc ad N M ++ [(H.size, .inl (tc 2, n.toNatClampNeg, .inr (.inr (.inr (.inr (fun _ => none))))))]) H1 := (hP.kept hk).app (fun k x hx => by
    have hz : k < 1 := (List.getElem?_eq_some_iff.mp hx).1
    rw [show k = 0 by omega] at hx
    cases hx
    show H1[H.size]? = some (vp_cell _ _)
    rw [vp_cell_q]
    exact e1)
  obtain ⟨ad', g1, g2, g3, g4⟩ := wm_lift hO (vW_n8 hO) hP1 (hD.push hP rfl (hA _ hS.1))
  rw [← g1]
  exact kk ad' H1 g2 g3 g4 ⟨Nat.le_trans hS.1 (by omega), fun x h1 h2 => (o1 x (Nat.lt_of_lt_of_le h1 hS.1)).trans (hS.2.1 x h1 h2), hS.2.2⟩
theorem wm_obj0 (hexec : p.tables.exec = Jvm.exec) (hb : c.code = cc) {own : String} {index : Nat} {Ts : List Cond} (hts : ∀ w ∈ Ts, w.before args s = true) (hin : ∀ w ∈ wsX00, w ∈ Ts) (hown : s.vm.findClass own = some m.cls) (hcl : (Cond.classLink own index RX0).before args s = true) (hinst : (Cond.instantiable RX0 14).before args s = true) (hini : (Cond.initialized RX0).before args s = true)
    (hO : vOK N M) (hK : va_K D vwCl (vT tc) s) (hP : va_P D vwCl (vW tc ad N M) H) (hD : va_D A (vW tc ad N M)) (hS : va_S A H0 H locs) (hA : ∀ q, H0.size ≤ q → A q) (hcells : cells + 1 ≤ R.cells) (hslots : slots + 14 ≤ R.slots) (hdg : decode cc pc = .ok (.new index, 3))
    (kk : ∀ (ad' : Nat → Nat) (H1 : Heap), (∀ x, x < N → ad' x = ad x) → va_P D vwCl (vW tc ad' (N + 1) (mN M N 0 0)) H1 → va_D A (vW tc ad' (N + 1) (mN M N 0 0)) → va_S A H0 H1 locs →
      W p l e R s m args below meth c H1 locs (cells + 1) (slots + 14) Q (F0 m (pc + 3) ls (.ref (ad' N) :: rest))) : W p l e R s m args below meth c H locs cells slots Q (F0 m pc ls rest) := by
  refine va_new (D := D) (ci := 0) (fs := [.int 0, .int 0, .int 0, .int 0, .int 0, .int 0, .int 0, .int 0, .null, .null, .null, .int 0, .null, .null]) (C := RX0) (T := TX0) (N := 14) hexec hb hts hin tyX0 tyX0_ok hown hcl hinst hini hK hP hD hS hA rfl (by decide +kernel) hcells hslots hdg (fun q H1 hP1 hD1 hS1 => ?_)
  obtain ⟨ad', g1, g2, g3, g4⟩ := wm_lift hO (vW_n0 hO) hP1 hD1
  rw [← g1]
  exact kk ad' H1 g2 g3 g4 hS1
theorem wm_obj1 (hexec : p.tables.exec = Jvm.exec) (hb : c.code = cc) {own : String} {index : Nat} {Ts : List Cond} (hts : ∀ w ∈ Ts, w.before args s = true) (hin : ∀ w ∈ wsX10, w ∈ Ts) (hown : s.vm.findClass own = some m.cls) (hcl : (Cond.classLink own index RX1).before args s = true) (hinst : (Cond.instantiable RX1 5).before args s = true) (hini : (Cond.initialized RX1).before args s = true)
    (hO : vOK N M) (hK : va_K D vwCl (vT tc) s) (hP : va_P D vwCl (vW tc ad N M) H) (hD : va_D A (vW tc ad N M)) (hS : va_S A H0 H locs) (hA : ∀ q, H0.size ≤ q → A q) (hcells : cells + 1 ≤ R.cells) (hslots : slots + 5 ≤ R.slots) (hdg : decode cc pc = .ok (.new index, 3))
    (kk : ∀ (ad' : Nat → Nat) (H1 : Heap), (∀ x, x < N → ad' x = ad x) → va_P D vwCl (vW tc ad' (N + 1) (mN M N 1 0)) H1 → va_D A (vW tc ad' (N + 1) (mN M N 1 0)) → va_S A H0 H1 locs →
      W p l e R s m args below meth c H1 locs (cells + 1) (slots + 5) Q (F0 m (pc + 3) ls (.ref (ad' N) :: rest))) : W p l e R s m args below meth c H locs cells slots Q (F0 m pc ls rest) := by
  refine va_new (D := D) (ci := 1) (fs := [.int 0, .int 0, .null, .null, .null]) (C := RX1) (T := TX1) (N := 5) hexec hb hts hin tyX1 tyX1_ok hown hcl hinst hini hK hP hD hS hA rfl (by decide +kernel) hcells hslots hdg (fun q H1 hP1 hD1 hS1 => ?_)
  obtain ⟨ad', g1, g2, g3, g4⟩ := wm_lift hO (vW_n1 hO) hP1 hD1
  rw [← g1]
  exact kk ad' H1 g2 g3 g4 hS1
theorem wm_obj2 (hexec : p.tables.exec = Jvm.exec) (hb : c.code = cc) {own : String} {index : Nat} {Ts : List Cond} (hts : ∀ w ∈ Ts, w.before args s = true) (hin : ∀ w ∈ wsX20, w ∈ Ts) (hown : s.vm.findClass own = some m.cls) (hcl : (Cond.classLink own index RX2).before args s = true) (hinst : (Cond.instantiable RX2 7).before args s = true) (hini : (Cond.initialized RX2).before args s = true)
    (hO : vOK N M) (hK : va_K D vwCl (vT tc) s) (hP : va_P D vwCl (vW tc ad N M) H) (hD : va_D A (vW tc ad N M)) (hS : va_S A H0 H locs) (hA : ∀ q, H0.size ≤ q → A q) (hcells : cells + 1 ≤ R.cells) (hslots : slots + 7 ≤ R.slots) (hdg : decode cc pc = .ok (.new index, 3))
    (kk : ∀ (ad' : Nat → Nat) (H1 : Heap), (∀ x, x < N → ad' x = ad x) → va_P D vwCl (vW tc ad' (N + 1) (mN M N 2 0)) H1 → va_D A (vW tc ad' (N + 1) (mN M N 2 0)) → va_S A H0 H1 locs →
      W p l e R s m args below meth c H1 locs (cells + 1) (slots + 7) Q (F0 m (pc + 3) ls (.ref (ad' N) :: rest))) : W p l e R s m args below meth c H locs cells slots Q (F0 m pc ls rest) := by
  refine va_new (D := D) (ci := 2) (fs := [.int 0, .int 0, .null, .null, .null, .null, .null]) (C := RX2) (T := TX2) (N := 7) hexec hb hts hin tyX2 tyX2_ok hown hcl hinst hini hK hP hD hS hA rfl (by decide +kernel) hcells hslots hdg (fun q H1 hP1 hD1 hS1 => ?_)
  obtain ⟨ad', g1, g2, g3, g4⟩ := wm_lift hO (vW_n2 hO) hP1 hD1
  rw [← g1]
  exact kk ad' H1 g2 g3 g4 hS1
theorem wm_obj3 (hexec : p.tables.exec = Jvm.exec) (hb : c.code = cc) {own : String} {index : Nat} {Ts : List Cond} (hts : ∀ w ∈ Ts, w.before args s = true) (hin : ∀ w ∈ wsX30, w ∈ Ts) (hown : s.vm.findClass own = some m.cls) (hcl : (Cond.classLink own index RX3).before args s = true) (hinst : (Cond.instantiable RX3 2).before args s = true) (hini : (Cond.initialized RX3).before args s = true)
    (hO : vOK N M) (hK : va_K D vwCl (vT tc) s) (hP : va_P D vwCl (vW tc ad N M) H) (hD : va_D A (vW tc ad N M)) (hS : va_S A H0 H locs) (hA : ∀ q, H0.size ≤ q → A q) (hcells : cells + 1 ≤ R.cells) (hslots : slots + 2 ≤ R.slots) (hdg : decode cc pc = .ok (.new index, 3))
    (kk : ∀ (ad' : Nat → Nat) (H1 : Heap), (∀ x, x < N → ad' x = ad x) → va_P D vwCl (vW tc ad' (N + 1) (mN M N 3 0)) H1 → va_D A (vW tc ad' (N + 1) (mN M N 3 0)) → va_S A H0 H1 locs →
      W p l e R s m args below meth c H1 locs (cells + 1) (slots + 2) Q (F0 m (pc + 3) ls (.ref (ad' N) :: rest))) : W p l e R s m args below meth c H locs cells slots Q (F0 m pc ls rest) := by
  refine va_new (D := D) (ci := 3) (fs := [.null, .null]) (C := RX3) (T := TX3) (N := 2) hexec hb hts hin tyX3 tyX3_ok hown hcl hinst hini hK hP hD hS hA rfl (by decide +kernel) hcells hslots hdg (fun q H1 hP1 hD1 hS1 => ?_)
  obtain ⟨ad', g1, g2, g3, g4⟩ := wm_lift hO (vW_n3 hO) hP1 hD1
  rw [← g1]
  exact kk ad' H1 g2 g3 g4 hS1
theorem wm_obj4 (hexec : p.tables.exec = Jvm.exec) (hb : c.code = cc) {own : String} {index : Nat} {Ts : List Cond} (hts : ∀ w ∈ Ts, w.before args s = true) (hin : ∀ w ∈ wsX40, w ∈ Ts) (hown : s.vm.findClass own = some m.cls) (hcl : (Cond.classLink own index RX4).before args s = true) (hinst : (Cond.instantiable RX4 9).before args s = true) (hini : (Cond.initialized RX4).before args s = true)
    (hO : vOK N M) (hK : va_K D vwCl (vT tc) s) (hP : va_P D vwCl (vW tc ad N M) H) (hD : va_D A (vW tc ad N M)) (hS : va_S A H0 H locs) (hA : ∀ q, H0.size ≤ q → A q) (hcells : cells + 1 ≤ R.cells) (hslots : slots + 9 ≤ R.slots) (hdg : decode cc pc = .ok (.new index, 3))
    (kk : ∀ (ad' : Nat → Nat) (H1 : Heap), (∀ x, x < N → ad' x = ad x) → va_P D vwCl (vW tc ad' (N + 1) (mN M N 4 0)) H1 → va_D A (vW tc ad' (N + 1) (mN M N 4 0)) → va_S A H0 H1 locs →
      W p l e R s m args below meth c H1 locs (cells + 1) (slots + 9) Q (F0 m (pc + 3) ls (.ref (ad' N) :: rest))) : W p l e R s m args below meth c H locs cells slots Q (F0 m pc ls rest) := by
  refine va_new (D := D) (ci := 4) (fs := [.int 0, .int 0, .int 0, .int 0, .int 0, .null, .null, .int 0, .int 0]) (C := RX4) (T := TX4) (N := 9) hexec hb hts hin tyX4 tyX4_ok hown hcl hinst hini hK hP hD hS hA rfl (by decide +kernel) hcells hslots hdg (fun q H1 hP1 hD1 hS1 => ?_)
  obtain ⟨ad', g1, g2, g3, g4⟩ := wm_lift hO (vW_n4 hO) hP1 hD1
  rw [← g1]
  exact kk ad' H1 g2 g3 g4 hS1
theorem wm_obj5 (hexec : p.tables.exec = Jvm.exec) (hb : c.code = cc) {own : String} {index : Nat} {Ts : List Cond} (hts : ∀ w ∈ Ts, w.before args s = true) (hin : ∀ w ∈ wsX50, w ∈ Ts) (hown : s.vm.findClass own = some m.cls) (hcl : (Cond.classLink own index RX5).before args s = true) (hinst : (Cond.instantiable RX5 4).before args s = true) (hini : (Cond.initialized RX5).before args s = true)
    (hO : vOK N M) (hK : va_K D vwCl (vT tc) s) (hP : va_P D vwCl (vW tc ad N M) H) (hD : va_D A (vW tc ad N M)) (hS : va_S A H0 H locs) (hA : ∀ q, H0.size ≤ q → A q) (hcells : cells + 1 ≤ R.cells) (hslots : slots + 4 ≤ R.slots) (hdg : decode cc pc = .ok (.new index, 3))
    (kk : ∀ (ad' : Nat → Nat) (H1 : Heap), (∀ x, x < N → ad' x = ad x) → va_P D vwCl (vW tc ad' (N + 1) (mN M N 5 0)) H1 → va_D A (vW tc ad' (N + 1) (mN M N 5 0)) → va_S A H0 H1 locs →
      W p l e R s m args below meth c H1 locs (cells + 1) (slots + 4) Q (F0 m (pc + 3) ls (.ref (ad' N) :: rest))) : W p l e R s m args below meth c H locs cells slots Q (F0 m pc ls rest) := by
  refine va_new (D := D) (ci := 5) (fs := [.null, .null, .int 0, .int 0]) (C := RX5) (T := TX5) (N := 4) hexec hb hts hin tyX5 tyX5_ok hown hcl hinst hini hK hP hD hS hA rfl (by decide +kernel) hcells hslots hdg (fun q H1 hP1 hD1 hS1 => ?_)
  obtain ⟨ad', g1, g2, g3, g4⟩ := wm_lift hO (vW_n5 hO) hP1 hD1
  rw [← g1]
  exact kk ad' H1 g2 g3 g4 hS1
end
