theorem vs_nt {l : Launch} (h : l.flags = flags0) : l.stackTraces = false := by
  unfold Launch.stackTraces; rw [h]; decide +kernel
theorem vs_sk (w : Cond) (k : Nat) (h : tables_1[k]? = some w) : w ∈ lw_tbl := List.mem_append_right _ (List.mem_of_getElem? h)
theorem vs_O_of {s : State} {b : Nat} (hts : ∀ w ∈ lw_tbl, w.before #[Value.ref b] s = true) : vs_O s :=
  ⟨hts (.arrayOver (.object "VaultDoors$Door")) (by decide +kernel), va_Nw.of rfl (hts (.methodLinkNest RX1 19 yX2_init "VaultDoors") (by decide +kernel)), va_Nw.of rfl (hts (.methodLinkNest RX1 27 yX0_init "VaultDoors") (by decide +kernel))⟩
theorem vs_str {s : State} {b k : Nat} {tx : String} (hts : ∀ w ∈ lw_tbl, w.before #[Value.ref b] s = true) (hgv : ∀ w ∈ flatC (Jvm.Cond.and given_1 narrow_1), w.before #[Value.ref b] s = true)
    (h1 : Cond.stringRef RX3 k tx ∈ lw_tbl) (h2 : Cond.exactly (.string RX3 k) "java/lang/String" ∈ flatC (Jvm.Cond.and given_1 narrow_1)) : ∃ a : Nat, vk_R RX3 k tx a s := by
  obtain ⟨a, c0, cell, kA, ha, -⟩ := Cond.exactly_spec (hgv _ h2)
  exact ⟨a, vk_R.of (hts _ h1) ha⟩
set_option maxRecDepth 100000 in
set_option maxHeartbeats 4000000 in
theorem vs_T_of {A : Nat → Prop} {s : State} {b : Nat} (hgv : (Jvm.Cond.and given_1 narrow_1).before #[Value.ref b] s = true) (hts : ∀ w ∈ lw_tbl, w.before #[Value.ref b] s = true) (hA : ∀ a : Nat, a < s.heap.size → ¬ A a) : vs_T A s s.heap := by
  have hf := flat_of_before _ hgv
  have st : ∀ (k : Nat) (tx : String), Cond.stringRef RX3 k tx ∈ lw_tbl → Cond.exactly (.string RX3 k) "java/lang/String" ∈ flatC (Jvm.Cond.and given_1 narrow_1) → ∃ a : Nat, vk_R RX3 k tx a s := fun k tx h1 h2 => vs_str hts hf h1 h2
  have hi : (Cond.initialized Bundle.tN).before #[Value.ref b] s = true := hts _ (by decide +kernel)
  refine ⟨⟨vx_Zqof (hts _ (by decide +kernel)) hi (hf _ (by decide +kernel)) hA, vx_Zqof (hts _ (by decide +kernel)) hi (hf _ (by decide +kernel)) hA⟩, ⟨⟨va_Nw.of rfl (hts _ (by decide +kernel)), va_Nw.of rfl (hts _ (by decide +kernel)), va_Nw.of rfl (hts _ (by decide +kernel))⟩, va_Nc.of (hf _ (by decide +kernel)), va_Nc.of (hf _ (by decide +kernel)), va_Nc.of (hf _ (by decide +kernel)), va_Nc.of (hf _ (by decide +kernel)), va_Nc.of (hf _ (by decide +kernel)), va_Nc.of (hf _ (by decide +kernel)), va_Nw.of rfl (hts _ (by decide +kernel)), va_Nw.of rfl (hts _ (by decide +kernel)), va_Nw.of rfl (hts _ (by decide +kernel))⟩, ?_⟩
  intro q hq
  simp only [List.mem_cons, List.not_mem_nil, or_false] at hq
  rcases hq with rfl | rfl | rfl | rfl | rfl | rfl | rfl | rfl | rfl | rfl | rfl | rfl | rfl | rfl | rfl | rfl <;> exact st _ _ (by decide +kernel) (by decide +kernel)
