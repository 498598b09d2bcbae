section
-- ===== PART A: goes FIRST, ahead of the names: the tables' words, and 'selects' of the private methods out of them =====
/-- a private method of a class that the tables say can be made, by its rows of tables_1 -/
def lw_okq (q : MethodName × Nat) : Prop := (q.1.cls ≠ "java/lang/invoke/MethodHandle" ∧ q.1.cls ≠ "java/lang/invoke/VarHandle") ∧ Cond.instantiable q.1.cls q.2 ∈ tables_1 ∧ Cond.privateMethod q.1 ∈ tables_1 ∧ Cond.instanceMethod q.1 ∈ tables_1
theorem lw_p0 : lw_okq (⟨"VaultDoors$Vault", "doorsThat", "(I)I"⟩, 5) := ⟨⟨by decide +kernel, by decide +kernel⟩, List.mem_of_getElem? (i := 23) (by decide +kernel), List.mem_of_getElem? (i := 173) (by decide +kernel), List.mem_of_getElem? (i := 174) (by decide +kernel)⟩
theorem lw_p1 : lw_okq (⟨"VaultDoors$Door", "answersOf", "(I)I"⟩, 14) := ⟨⟨by decide +kernel, by decide +kernel⟩, List.mem_of_getElem? (i := 66) (by decide +kernel), List.mem_of_getElem? (i := 188) (by decide +kernel), List.mem_of_getElem? (i := 189) (by decide +kernel)⟩
theorem lw_p2 : lw_okq (⟨"java/lang/Throwable", "fillInStackTrace", "(I)Ljava/lang/Throwable;"⟩, 6) := ⟨⟨by decide +kernel, by decide +kernel⟩, List.mem_of_getElem? (i := 252) (by decide +kernel), List.mem_of_getElem? (i := 250) (by decide +kernel), List.mem_of_getElem? (i := 251) (by decide +kernel)⟩
theorem lw_p3 : lw_okq (⟨"VaultDoors$Vault", "wake", "(I)V"⟩, 5) := ⟨⟨by decide +kernel, by decide +kernel⟩, List.mem_of_getElem? (i := 23) (by decide +kernel), List.mem_of_getElem? (i := 372) (by decide +kernel), List.mem_of_getElem? (i := 373) (by decide +kernel)⟩
theorem lw_p4 : lw_okq (⟨"VaultDoors$Vault", "askedBy", "(I)I"⟩, 5) := ⟨⟨by decide +kernel, by decide +kernel⟩, List.mem_of_getElem? (i := 23) (by decide +kernel), List.mem_of_getElem? (i := 428) (by decide +kernel), List.mem_of_getElem? (i := 429) (by decide +kernel)⟩
theorem lw_p5 : lw_okq (⟨"VaultDoors$Voices", "moveUp", "(II)V"⟩, 7) := ⟨⟨by decide +kernel, by decide +kernel⟩, List.mem_of_getElem? (i := 31) (by decide +kernel), List.mem_of_getElem? (i := 453) (by decide +kernel), List.mem_of_getElem? (i := 454) (by decide +kernel)⟩
theorem lw_p6 : lw_okq (⟨"VaultDoors$Vault", "hear", "(IIII)V"⟩, 5) := ⟨⟨by decide +kernel, by decide +kernel⟩, List.mem_of_getElem? (i := 23) (by decide +kernel), List.mem_of_getElem? (i := 457) (by decide +kernel), List.mem_of_getElem? (i := 458) (by decide +kernel)⟩
theorem lw_p7 : lw_okq (⟨"VaultDoors$Vault", "waitOn", "(I)Z"⟩, 5) := ⟨⟨by decide +kernel, by decide +kernel⟩, List.mem_of_getElem? (i := 23) (by decide +kernel), List.mem_of_getElem? (i := 470) (by decide +kernel), List.mem_of_getElem? (i := 471) (by decide +kernel)⟩
theorem lw_p8 : lw_okq (⟨"VaultDoors$Door", "isPersuaded", "(I)Z"⟩, 14) := ⟨⟨by decide +kernel, by decide +kernel⟩, List.mem_of_getElem? (i := 66) (by decide +kernel), List.mem_of_getElem? (i := 482) (by decide +kernel), List.mem_of_getElem? (i := 483) (by decide +kernel)⟩
theorem lw_p9 : lw_okq (⟨"VaultDoors", "openedByWhisper", "(II)I"⟩, 2) := ⟨⟨by decide +kernel, by decide +kernel⟩, List.mem_of_getElem? (i := 15) (by decide +kernel), List.mem_of_getElem? (i := 526) (by decide +kernel), List.mem_of_getElem? (i := 527) (by decide +kernel)⟩
theorem lw_p10 : lw_okq (⟨"VaultDoorsModel", "fail", "(I)I"⟩, 8) := ⟨⟨by decide +kernel, by decide +kernel⟩, List.mem_of_getElem? (i := 545) (by decide +kernel), List.mem_of_getElem? (i := 587) (by decide +kernel), List.mem_of_getElem? (i := 588) (by decide +kernel)⟩
theorem lw_p11 : lw_okq (⟨"VaultDoorsModel", "isDoor", "(I)Z"⟩, 8) := ⟨⟨by decide +kernel, by decide +kernel⟩, List.mem_of_getElem? (i := 545) (by decide +kernel), List.mem_of_getElem? (i := 596) (by decide +kernel), List.mem_of_getElem? (i := 597) (by decide +kernel)⟩
theorem lw_p12 : lw_okq (⟨"VaultDoorsModel", "va", "(II)I"⟩, 8) := ⟨⟨by decide +kernel, by decide +kernel⟩, List.mem_of_getElem? (i := 545) (by decide +kernel), List.mem_of_getElem? (i := 600) (by decide +kernel), List.mem_of_getElem? (i := 601) (by decide +kernel)⟩
theorem lw_p13 : lw_okq (⟨"VaultDoorsModel", "place", "(II)I"⟩, 8) := ⟨⟨by decide +kernel, by decide +kernel⟩, List.mem_of_getElem? (i := 545) (by decide +kernel), List.mem_of_getElem? (i := 604) (by decide +kernel), List.mem_of_getElem? (i := 605) (by decide +kernel)⟩
theorem lw_p14 : lw_okq (⟨"VaultDoorsModel", "li", "(III)I"⟩, 8) := ⟨⟨by decide +kernel, by decide +kernel⟩, List.mem_of_getElem? (i := 545) (by decide +kernel), List.mem_of_getElem? (i := 608) (by decide +kernel), List.mem_of_getElem? (i := 609) (by decide +kernel)⟩
theorem lw_p15 : lw_okq (⟨"VaultDoorsModel", "setLink", "(IIII)V"⟩, 8) := ⟨⟨by decide +kernel, by decide +kernel⟩, List.mem_of_getElem? (i := 545) (by decide +kernel), List.mem_of_getElem? (i := 612) (by decide +kernel), List.mem_of_getElem? (i := 613) (by decide +kernel)⟩
def lw_privs_1 : List (MethodName × Nat) := [(⟨"VaultDoors$Vault", "doorsThat", "(I)I"⟩, 5), (⟨"VaultDoors$Door", "answersOf", "(I)I"⟩, 14), (⟨"java/lang/Throwable", "fillInStackTrace", "(I)Ljava/lang/Throwable;"⟩, 6), (⟨"VaultDoors$Vault", "wake", "(I)V"⟩, 5), (⟨"VaultDoors$Vault", "askedBy", "(I)I"⟩, 5), (⟨"VaultDoors$Voices", "moveUp", "(II)V"⟩, 7), (⟨"VaultDoors$Vault", "hear", "(IIII)V"⟩, 5), (⟨"VaultDoors$Vault", "waitOn", "(I)Z"⟩, 5), (⟨"VaultDoors$Door", "isPersuaded", "(I)Z"⟩, 14), (⟨"VaultDoors", "openedByWhisper", "(II)I"⟩, 2), (⟨"VaultDoorsModel", "fail", "(I)I"⟩, 8), (⟨"VaultDoorsModel", "isDoor", "(I)Z"⟩, 8), (⟨"VaultDoorsModel", "va", "(II)I"⟩, 8), (⟨"VaultDoorsModel", "place", "(II)I"⟩, 8), (⟨"VaultDoorsModel", "li", "(III)I"⟩, 8), (⟨"VaultDoorsModel", "setLink", "(IIII)V"⟩, 8)]
theorem lw_r1 : ∀ q ∈ lw_privs_1, lw_okq q := List.forall_mem_cons.mpr ⟨lw_p0, List.forall_mem_cons.mpr ⟨lw_p1, List.forall_mem_cons.mpr ⟨lw_p2, List.forall_mem_cons.mpr ⟨lw_p3, List.forall_mem_cons.mpr ⟨lw_p4, List.forall_mem_cons.mpr ⟨lw_p5, List.forall_mem_cons.mpr ⟨lw_p6, List.forall_mem_cons.mpr ⟨lw_p7, List.forall_mem_cons.mpr ⟨lw_p8, List.forall_mem_cons.mpr ⟨lw_p9, List.forall_mem_cons.mpr ⟨lw_p10, List.forall_mem_cons.mpr ⟨lw_p11, List.forall_mem_cons.mpr ⟨lw_p12, List.forall_mem_cons.mpr ⟨lw_p13, List.forall_mem_cons.mpr ⟨lw_p14, List.forall_mem_cons.mpr ⟨lw_p15, fun _ h => absurd h List.not_mem_nil⟩⟩⟩⟩⟩⟩⟩⟩⟩⟩⟩⟩⟩⟩⟩⟩
theorem lw_p16 : lw_okq (⟨"VaultDoorsModel", "put", "(III)V"⟩, 8) := ⟨⟨by decide +kernel, by decide +kernel⟩, List.mem_of_getElem? (i := 545) (by decide +kernel), List.mem_of_getElem? (i := 616) (by decide +kernel), List.mem_of_getElem? (i := 617) (by decide +kernel)⟩
theorem lw_p17 : lw_okq (⟨"VaultDoorsModel", "wake", "(I)V"⟩, 8) := ⟨⟨by decide +kernel, by decide +kernel⟩, List.mem_of_getElem? (i := 545) (by decide +kernel), List.mem_of_getElem? (i := 628) (by decide +kernel), List.mem_of_getElem? (i := 629) (by decide +kernel)⟩
theorem lw_p18 : lw_okq (⟨"VaultDoorsModel", "state", "(III)V"⟩, 8) := ⟨⟨by decide +kernel, by decide +kernel⟩, List.mem_of_getElem? (i := 545) (by decide +kernel), List.mem_of_getElem? (i := 632) (by decide +kernel), List.mem_of_getElem? (i := 633) (by decide +kernel)⟩
theorem lw_p19 : lw_okq (⟨"VaultDoorsModel", "send", "(IIII)V"⟩, 8) := ⟨⟨by decide +kernel, by decide +kernel⟩, List.mem_of_getElem? (i := 545) (by decide +kernel), List.mem_of_getElem? (i := 636) (by decide +kernel), List.mem_of_getElem? (i := 637) (by decide +kernel)⟩
theorem lw_p20 : lw_okq (⟨"VaultDoorsModel", "turn", "(IZ)V"⟩, 8) := ⟨⟨by decide +kernel, by decide +kernel⟩, List.mem_of_getElem? (i := 545) (by decide +kernel), List.mem_of_getElem? (i := 640) (by decide +kernel), List.mem_of_getElem? (i := 641) (by decide +kernel)⟩
theorem lw_p21 : lw_okq (⟨"VaultDoorsModel", "doorTold", "(II)I"⟩, 8) := ⟨⟨by decide +kernel, by decide +kernel⟩, List.mem_of_getElem? (i := 545) (by decide +kernel), List.mem_of_getElem? (i := 648) (by decide +kernel), List.mem_of_getElem? (i := 649) (by decide +kernel)⟩
theorem lw_p22 : lw_okq (⟨"VaultDoorsModel", "answers", "(IZ)I"⟩, 8) := ⟨⟨by decide +kernel, by decide +kernel⟩, List.mem_of_getElem? (i := 545) (by decide +kernel), List.mem_of_getElem? (i := 652) (by decide +kernel), List.mem_of_getElem? (i := 653) (by decide +kernel)⟩
theorem lw_p23 : lw_okq (⟨"VaultDoorsModel", "asked", "(III)I"⟩, 8) := ⟨⟨by decide +kernel, by decide +kernel⟩, List.mem_of_getElem? (i := 545) (by decide +kernel), List.mem_of_getElem? (i := 660) (by decide +kernel), List.mem_of_getElem? (i := 661) (by decide +kernel)⟩
theorem lw_p24 : lw_okq (⟨"VaultDoorsModel", "counted", "(I)I"⟩, 8) := ⟨⟨by decide +kernel, by decide +kernel⟩, List.mem_of_getElem? (i := 545) (by decide +kernel), List.mem_of_getElem? (i := 672) (by decide +kernel), List.mem_of_getElem? (i := 673) (by decide +kernel)⟩
theorem lw_p25 : lw_okq (⟨"VaultDoorsModel", "openOnes", "()I"⟩, 8) := ⟨⟨by decide +kernel, by decide +kernel⟩, List.mem_of_getElem? (i := 545) (by decide +kernel), List.mem_of_getElem? (i := 676) (by decide +kernel), List.mem_of_getElem? (i := 677) (by decide +kernel)⟩
theorem lw_p26 : lw_okq (⟨"VaultDoorsModel", "tickOn", "()I"⟩, 8) := ⟨⟨by decide +kernel, by decide +kernel⟩, List.mem_of_getElem? (i := 545) (by decide +kernel), List.mem_of_getElem? (i := 688) (by decide +kernel), List.mem_of_getElem? (i := 689) (by decide +kernel)⟩
theorem lw_p27 : lw_okq (⟨"VaultDoorsModel", "listen", "()V"⟩, 8) := ⟨⟨by decide +kernel, by decide +kernel⟩, List.mem_of_getElem? (i := 545) (by decide +kernel), List.mem_of_getElem? (i := 692) (by decide +kernel), List.mem_of_getElem? (i := 693) (by decide +kernel)⟩
theorem lw_p28 : lw_okq (⟨"VaultDoorsModel", "hear", "(I)V"⟩, 8) := ⟨⟨by decide +kernel, by decide +kernel⟩, List.mem_of_getElem? (i := 545) (by decide +kernel), List.mem_of_getElem? (i := 696) (by decide +kernel), List.mem_of_getElem? (i := 697) (by decide +kernel)⟩
theorem lw_p29 : lw_okq (⟨"VaultDoorsModel", "decide", "(I)Z"⟩, 8) := ⟨⟨by decide +kernel, by decide +kernel⟩, List.mem_of_getElem? (i := 545) (by decide +kernel), List.mem_of_getElem? (i := 700) (by decide +kernel), List.mem_of_getElem? (i := 701) (by decide +kernel)⟩
theorem lw_p30 : lw_okq (⟨"VaultDoorsModel", "says", "(I)Z"⟩, 8) := ⟨⟨by decide +kernel, by decide +kernel⟩, List.mem_of_getElem? (i := 545) (by decide +kernel), List.mem_of_getElem? (i := 704) (by decide +kernel), List.mem_of_getElem? (i := 705) (by decide +kernel)⟩
theorem lw_p31 : lw_okq (⟨"VaultDoorsModel", "kept", "()[[I"⟩, 8) := ⟨⟨by decide +kernel, by decide +kernel⟩, List.mem_of_getElem? (i := 545) (by decide +kernel), List.mem_of_getElem? (i := 712) (by decide +kernel), List.mem_of_getElem? (i := 713) (by decide +kernel)⟩
def lw_privs_2 : List (MethodName × Nat) := [(⟨"VaultDoorsModel", "put", "(III)V"⟩, 8), (⟨"VaultDoorsModel", "wake", "(I)V"⟩, 8), (⟨"VaultDoorsModel", "state", "(III)V"⟩, 8), (⟨"VaultDoorsModel", "send", "(IIII)V"⟩, 8), (⟨"VaultDoorsModel", "turn", "(IZ)V"⟩, 8), (⟨"VaultDoorsModel", "doorTold", "(II)I"⟩, 8), (⟨"VaultDoorsModel", "answers", "(IZ)I"⟩, 8), (⟨"VaultDoorsModel", "asked", "(III)I"⟩, 8), (⟨"VaultDoorsModel", "counted", "(I)I"⟩, 8), (⟨"VaultDoorsModel", "openOnes", "()I"⟩, 8), (⟨"VaultDoorsModel", "tickOn", "()I"⟩, 8), (⟨"VaultDoorsModel", "listen", "()V"⟩, 8), (⟨"VaultDoorsModel", "hear", "(I)V"⟩, 8), (⟨"VaultDoorsModel", "decide", "(I)Z"⟩, 8), (⟨"VaultDoorsModel", "says", "(I)Z"⟩, 8), (⟨"VaultDoorsModel", "kept", "()[[I"⟩, 8)]
theorem lw_r2 : ∀ q ∈ lw_privs_2, lw_okq q := List.forall_mem_cons.mpr ⟨lw_p16, List.forall_mem_cons.mpr ⟨lw_p17, List.forall_mem_cons.mpr ⟨lw_p18, List.forall_mem_cons.mpr ⟨lw_p19, List.forall_mem_cons.mpr ⟨lw_p20, List.forall_mem_cons.mpr ⟨lw_p21, List.forall_mem_cons.mpr ⟨lw_p22, List.forall_mem_cons.mpr ⟨lw_p23, List.forall_mem_cons.mpr ⟨lw_p24, List.forall_mem_cons.mpr ⟨lw_p25, List.forall_mem_cons.mpr ⟨lw_p26, List.forall_mem_cons.mpr ⟨lw_p27, List.forall_mem_cons.mpr ⟨lw_p28, List.forall_mem_cons.mpr ⟨lw_p29, List.forall_mem_cons.mpr ⟨lw_p30, List.forall_mem_cons.mpr ⟨lw_p31, fun _ h => absurd h List.not_mem_nil⟩⟩⟩⟩⟩⟩⟩⟩⟩⟩⟩⟩⟩⟩⟩⟩
theorem lw_p32 : lw_okq (⟨"VaultDoorsModel", "bringBack", "([[I)V"⟩, 8) := ⟨⟨by decide +kernel, by decide +kernel⟩, List.mem_of_getElem? (i := 545) (by decide +kernel), List.mem_of_getElem? (i := 724) (by decide +kernel), List.mem_of_getElem? (i := 725) (by decide +kernel)⟩
theorem lw_p33 : lw_okq (⟨"VaultDoorsModel", "all", "()[[I"⟩, 8) := ⟨⟨by decide +kernel, by decide +kernel⟩, List.mem_of_getElem? (i := 545) (by decide +kernel), List.mem_of_getElem? (i := 728) (by decide +kernel), List.mem_of_getElem? (i := 729) (by decide +kernel)⟩
theorem lw_p34 : lw_okq (⟨"VaultDoorsModel", "opened", "(II)I"⟩, 8) := ⟨⟨by decide +kernel, by decide +kernel⟩, List.mem_of_getElem? (i := 545) (by decide +kernel), List.mem_of_getElem? (i := 736) (by decide +kernel), List.mem_of_getElem? (i := 737) (by decide +kernel)⟩
def lw_privs_3 : List (MethodName × Nat) := [(⟨"VaultDoorsModel", "bringBack", "([[I)V"⟩, 8), (⟨"VaultDoorsModel", "all", "()[[I"⟩, 8), (⟨"VaultDoorsModel", "opened", "(II)I"⟩, 8)]
theorem lw_r3 : ∀ q ∈ lw_privs_3, lw_okq q := List.forall_mem_cons.mpr ⟨lw_p32, List.forall_mem_cons.mpr ⟨lw_p33, List.forall_mem_cons.mpr ⟨lw_p34, fun _ h => absurd h List.not_mem_nil⟩⟩⟩
def lw_privs : List (MethodName × Nat) := lw_privs_1 ++ (lw_privs_2 ++ (lw_privs_3))
def lw_tbl : List Cond := k2_sels lw_privs ++ tables_1
theorem lw_privs_ok : ∀ q ∈ lw_privs, lw_okq q := by
  show ∀ q ∈ lw_privs_1 ++ (lw_privs_2 ++ (lw_privs_3)), lw_okq q
  exact List.forall_mem_append.mpr ⟨lw_r1, List.forall_mem_append.mpr ⟨lw_r2, lw_r3⟩⟩
/-- the streams that the claim lets the run draw from -/
abbrev lw_cs : List Choice := [Jvm.Choice.named "NaN.bits"]
theorem lw_bits : nanBits ∈ lw_cs := by first | decide | exact List.mem_cons_self | simp [lw_cs, nanBits]

/-! ===== BEGIN words of one list among another's, by their places ===== -/
theorem goodIn_r {big : List Cond} (ws : List Cond) (ps : List Nat) (hp : ws = ps.filterMap (fun i => big[i]?)) (h : ws.all goodWord = true) : GoodIn big ws := by
  intro w hw
  have h1 := List.all_eq_true.mp h w hw
  rw [hp] at hw
  obtain ⟨i, -, hi⟩ := List.mem_filterMap.mp hw
  have hm : w ∈ big := by first | exact List.mem_of_getElem? hi | exact List.getElem?_mem hi
  exact ⟨hm, good_of_word h1⟩
theorem goodIn_app {big a b : List Cond} (ha : GoodIn big a) (hb : GoodIn big b) : GoodIn big (a ++ b) := fun w h => (List.mem_append.mp h).elim (ha w) (hb w)
theorem goodIn_ca {big a b : List Cond} {c : Cond} (ha : GoodIn big (c :: a)) (hb : GoodIn big b) : GoodIn big (c :: (a ++ b)) := fun w h => (List.mem_cons.mp h).elim (fun e => ha w (List.mem_cons.mpr (Or.inl e))) (fun h => (List.mem_append.mp h).elim (fun h => ha w (List.mem_cons.mpr (Or.inr h))) (hb w))
theorem goodIn_sub {big ws : List Cond} (hm : ∀ w ∈ ws, w ∈ big) (h : ws.all goodWord = true) : GoodIn big ws := fun w hw => ⟨hm w hw, good_of_word (List.all_eq_true.mp h w hw)⟩
/-! ===== END ===== -/

/-! ===== BEGIN exceptions that leave a method, and their catching by the caller (launches without stack traces) ===== -/
section VXA
/-! The laws vx_back, vx_callV, vx_callS, vx_callSW, vx_throw0, vx_throwS follow proofs of the library, with one case more: JvmDerived/Free/Laws.lean (Back.of_free), Shelf42/LK1.lean (callV, callS), Shelf/KitTraced.lean (throwNew0V, throwNewS). -/
/-- where a method has thrown q: the class by its name, the cell, what was written, the world -/
def vx_T (XC : String → State → State → Prop) (st : State) (q : Addr) (t : State) (mc ms : Nat) (free : Addr → Prop) : Prop :=
  ∃ (E : String) (ce : Cell) (L : List Loc), XC E st t ∧ t.heap[q]? = some ce ∧ ce.vm = .none ∧ st.vm.findClass E = some ce.cls ∧ st.WarmedH t.vm ∧ st.sameButNew ({ t with vm := st.vm } : State) L mc ms ∧ ∀ z ∈ L, free z.base
def vx_Q (Qc : Array Value → State → Outcome → State → Prop) (XC : String → State → State → Prop) (mc ms : Nat) (free : Addr → Prop) : Array Value → State → Outcome → State → Prop := fun a st o t =>
  (Qc a st o t ∧ ∃ L, FrameEnd st o t L mc ms ∧ ∀ q ∈ L, free q.base) ∨ ∃ q, o = .threw q ∧ vx_T XC st q t mc ms free
/-- a callee that returns or throws -/
def vx_Met (l : Launch) (y : MethodName) (ws : List Cond) (rm : Room) (Pc : Array Value → State → Prop) (Qc : Array Value → State → Outcome → State → Prop) (XC : String → State → State → Prop) (mc ms : Nat) (free : Addr → Prop) : Prop :=
  MetFree l y (headSpec ws rm) Pc (fun _ _ _ _ _ => True) (vx_Q Qc XC mc ms free)
def vx_Post (XC : String → State → State → Prop) (mc ms : Nat) (free : Addr → Prop) : Pt → Array Value → Addr → Pt → Prop := fun A a q B =>
  ∃ (g : JFrame) (mk : MethodId) (t : State) (L : List Loc) (E : String) (ce : Cell), B.U.heap = t.heap ∧ B.U.vm = t.vm ∧ XC E (A.U.calling g mk a) t ∧ t.heap[q]? = some ce ∧ ce.vm = .none ∧ A.U.vm.findClass E = some ce.cls ∧ B.locs = A.locs ++ L ∧ (∀ z ∈ L, free z.base) ∧ B.cells = A.cells + mc ∧ B.slots = A.slots + ms
def vx_Back (l : Launch) (R : Room) (p : Program) (e : Env) (below : List Frame) (s : State) (sargs : Array Value) (y : MethodName) (len W9 : Nat)
    (Pre : Pt → Array Value → Prop) (Post : Pt → Array Value → Option Value → Pt → Prop) (PostX : Pt → Array Value → Addr → Pt → Prop) : Prop :=
  ∀ (m : MethodId) (meth : Method) (c : Code) (A : Pt) (g : JFrame) (ig : Instr) (mk : MethodId) (a : Array Value),
    Stand p l e R s m sargs below meth c A.U A.locs A.cells A.slots → g.method = m → g.locals.size = c.maxLocals → decode c.code g.pc = .ok (ig, len) →
    2 * g.monitorRoom + (g.stack.map fun v => v.category).sum ≤ W9 → A.U.methodNamed? y = some mk → Pre A a →
    (∃ (v : Option Value) (B : Pt), Stand p l e R s m sargs below meth c B.U B.locs B.cells B.slots ∧ Post A a v B ∧
      Steps p.tables e below (doInvoke e (A.U.setTop g) [] mk a).1 (B.U.setTop { g with pc := g.pc + len, stack := v.toList ++ g.stack })) ∨
    (∃ (q : Addr) (B : Pt), Stand p l e R s m sargs below meth c B.U B.locs B.cells B.slots ∧ PostX A a q B ∧
      Steps p.tables e below (doInvoke e (A.U.setTop g) [] mk a).1 ((B.U.setTop g).pushFrame (.throwing q)))
section Payer
variable {l : Launch} {R : Room} {p : Program} {e : Env} {below : List Frame} {s : State} {sargs : Array Value} {y : MethodName} {len W9 : Nat}
theorem vx_back {ws : List Cond} {rm : Room} {Pc : Array Value → State → Prop} {Qc : Array Value → State → Outcome → State → Prop} {XC : String → State → State → Prop} {mc ms : Nat} {free : Addr → Prop} {bytes : ByteArray} {maxL : Nat} {ret : Option FieldType}
    (hM : vx_Met l y ws rm Pc Qc XC mc ms free) (hblind : FrameBlind Pc) (hrc : rm.cells = mc) (hrs : rm.slots = ms)
    (hframes : rm.frames + 1 ≤ R.frames) (hlocals : W9 + (maxL + 11) + rm.locals ≤ R.locals)
    (hws : ∀ w ∈ ws, ∀ a' U, s.WarmedH U.vm → w.before a' U = true) (hcode : Cond.code y bytes maxL ret ∈ ws) (hinit : ∀ a' U, s.WarmedH U.vm → (Cond.initialized y.cls).before a' U = true) :
    vx_Back l R p e below s sargs y len W9 (PreOf R mc ms Pc) (PostOf Qc mc ms free) (vx_Post XC mc ms free) := by
  intro m meth c A g ig mk a X hg hsize hdg hW hn hp
  have h1 : (headSpec ws rm).pre.before a A.U = true := atoms_intro fun w hw => hws w hw _ _ X.warmed
  have h2 : (Cond.code y bytes maxL ret).before a A.U = true := hws _ hcode _ _ X.warmed
  have h3 : (Cond.initialized y.cls).before a A.U = true := hinit _ _ X.warmed
  have h4 : A.cells + (headSpec ws rm).room.cells ≤ R.cells := by rw [show (headSpec ws rm).room.cells = mc from hrc]; exact hp.1
  have h5 : A.slots + (headSpec ws rm).room.slots ≤ R.slots := by rw [show (headSpec ws rm).room.slots = ms from hrs]; exact hp.2.1
  have hPc : Pc a (A.U.calling g mk a) := hblind _ _ _ _ hp.2.2
  obtain ⟨U, Ls, c0, s0⟩ := A
  dsimp only [Pt.U, Pt.locs, Pt.cells, Pt.slots] at h1 h2 h3 h4 h5 X hn hPc ⊢
  obtain ⟨methY, cY, hmY, hcY, -, hlY, -, -, -, -⟩ := Cond.code_spec hn h2
  obtain ⟨kY, hkY, -⟩ := className_of_methodNamed hn
  have hinitY : kY.init = .initialized := Cond.initialized_spec (findClass_of_methodNamed hn) hkY h3
  have h : At U g.method c below := by rw [hg]; exact X.here
  have hlocals9 : W9 + (maxL + 11) + (headSpec ws rm).room.locals ≤ R.locals := hlocals
  have happ : (headSpec ws rm).appliesLoose y e.platform (U.calling g mk a) = true :=
    Spec.appliesLoose_calling (g := g) h hdg hn hkY hinitY
      (X.room_calling (g := g) (R' := (headSpec ws rm).room) hsize hmY hcY hframes (by rw [hlY]; omega) h4 h5) h1
  obtain ⟨mid, hmid⟩ := h.above
  have hfr : (U.setTop g).frames = (.java g :: mid) ++ below := by rw [State.frames_setTop' g h.top, hmid]; rfl
  obtain ⟨o, s₂, hsteps, -, hend, hq⟩ := Steps.callFree hM p X.admits X.cas X.clock (acts := []) hfr happ hPc trivial
  have hq' : vx_Q Qc XC mc ms free a (U.calling g mk a) o s₂ := hq
  rw [State.frames_setTop' g h.top] at hend
  obtain ⟨g₀, hg0⟩ := Option.isSome_iff_exists.mp h.top
  obtain ⟨r, hr⟩ := State.topJava?_eq_some.mp hg0
  have hr' : (({ U with heap := s₂.heap, slotsUsed := s₂.slotsUsed } : State).setVm s₂.vm).frames = .java g₀ :: r := hr
  rcases hq' with ⟨hqc, L, hfe, hL⟩ | ⟨q, rfl, E, ce, L, hx, hce, hcv, hcl, hW₂, hsm, hL⟩
  · obtain ⟨⟨v, rfl⟩, hW₂, e2, q2, q3, q4, q5, q6⟩ := id hfe
    have e3 : s₂ = ({ (U.calling g mk a).setFrames s₂.frames with heap := s₂.heap, slotsUsed := s₂.slotsUsed } : State).setVm s₂.vm := by
      have : s₂ = ({ s₂ with vm := (U.calling g mk a).vm } : State).setVm s₂.vm := rfl
      rw [e2] at this
      exact this
    obtain ⟨c₂, i₂, len₂, hc₂, hd₂, hf₂⟩ := hend
    have hW' : U.WarmedH s₂.vm := hW₂
    have hcc : c₂ = c := by
      have h1 : s₂.code? g.method = U.code? g.method := by
        rw [State.code?_eq, State.code?_eq, hW'.alike.method?]
      exact Option.some.inj (hc₂.symm.trans (h1.trans h.code))
    subst hcc
    have hlen : len₂ = len := by rw [hdg] at hd₂; cases hd₂; rfl
    subst hlen
    have hs₂ : s₂ = (({ U with heap := s₂.heap, slotsUsed := s₂.slotsUsed } : State).setVm s₂.vm).setTop { g with pc := g.pc + len₂, stack := v.toList ++ g.stack } := by
      refine e3.trans ?_
      rw [hf₂, State.calling_eq h.top, State.setFrames_setFrames, State.setTop_of_frames _ hr', hr]
      rfl
    have hsame : U.sameButNew ({ U with heap := s₂.heap, slotsUsed := s₂.slotsUsed } : State) L mc ms := by
      refine ⟨?_, q2, q3, q4, q5, q6⟩
      obtain ⟨t, ht, -⟩ := State.frames_cons hr
      show ({ U with heap := s₂.heap, slotsUsed := s₂.slotsUsed } : State) = { U.setFrames U.frames with heap := s₂.heap, slotsUsed := s₂.slotsUsed }
      rw [State.setFrames_self ht]
    subst hg
    refine Or.inl ⟨v, ⟨(({ U with heap := s₂.heap, slotsUsed := s₂.slotsUsed } : State).setVm s₂.vm), Ls ++ L, c0 + mc, s0 + ms⟩,
      ⟨X.admits, X.cas, X.clock, X.frames, X.room, X.hears, X.method, X.code, (X.here.setHeapUsed s₂.heap s₂.slotsUsed).setVm hW'.alike, X.tail, State.WarmedH.trans X.warmed hW', X.limits, X.bytes, X.same.trans (hsame.setVm s.vm)⟩,
      ⟨g, mk, s₂, L, rfl, rfl, hqc, rfl, hL, rfl, rfl⟩, ?_⟩
    show Steps p.tables e below _ ((({ U with heap := s₂.heap, slotsUsed := s₂.slotsUsed } : State).setVm s₂.vm).setTop { g with pc := g.pc + len₂, stack := v.toList ++ g.stack })
    rw [← hs₂]
    exact hsteps
  · obtain ⟨e2, q2, q3, q4, q5, q6⟩ := id hsm
    have e3 : s₂ = ({ (U.calling g mk a).setFrames s₂.frames with heap := s₂.heap, slotsUsed := s₂.slotsUsed } : State).setVm s₂.vm := by
      have : s₂ = ({ s₂ with vm := (U.calling g mk a).vm } : State).setVm s₂.vm := rfl
      rw [e2] at this
      exact this
    have hf₂ : s₂.frames = .throwing q :: .java g :: U.frames.tail := hend
    have hW' : U.WarmedH s₂.vm := hW₂
    have hs₂ : s₂ = ((({ U with heap := s₂.heap, slotsUsed := s₂.slotsUsed } : State).setVm s₂.vm).setTop g).pushFrame (.throwing q) := by
      refine e3.trans ?_
      rw [hf₂, State.calling_eq h.top, State.setFrames_setFrames, State.pushFrame, State.frames_setTop _ hr', State.setTop_of_frames _ hr', State.setFrames_setFrames, hr]
      rfl
    have hsame : U.sameButNew ({ U with heap := s₂.heap, slotsUsed := s₂.slotsUsed } : State) L mc ms := by
      refine ⟨?_, q2, q3, q4, q5, q6⟩
      obtain ⟨t, ht, -⟩ := State.frames_cons hr
      show ({ U with heap := s₂.heap, slotsUsed := s₂.slotsUsed } : State) = { U.setFrames U.frames with heap := s₂.heap, slotsUsed := s₂.slotsUsed }
      rw [State.setFrames_self ht]
    subst hg
    refine Or.inr ⟨q, ⟨(({ U with heap := s₂.heap, slotsUsed := s₂.slotsUsed } : State).setVm s₂.vm), Ls ++ L, c0 + mc, s0 + ms⟩,
      ⟨X.admits, X.cas, X.clock, X.frames, X.room, X.hears, X.method, X.code, (X.here.setHeapUsed s₂.heap s₂.slotsUsed).setVm hW'.alike, X.tail, State.WarmedH.trans X.warmed hW', X.limits, X.bytes, X.same.trans (hsame.setVm s.vm)⟩,
      ⟨g, mk, s₂, L, E, ce, rfl, rfl, hx, hce, hcv, hcl, rfl, hL, rfl, rfl⟩, ?_⟩
    show Steps p.tables e below _ (((({ U with heap := s₂.heap, slotsUsed := s₂.slotsUsed } : State).setVm s₂.vm).setTop g).pushFrame (.throwing q))
    rw [← hs₂]
    exact hsteps
end Payer
section Calls
variable {p : Program} {l : Launch} {e : Env} {R : Room} {s : State} {m : MethodId} {args : Array Value} {below : List Frame} {meth : Method} {c : Code} {T : State} {locs : List Loc} {cells slots : Nat}
theorem vx_callV (X : Stand p l e R s m args below meth c T locs cells slots) (hexec : p.tables.exec = Jvm.exec) {own C : String} {index : Nat} {y : MethodName} {bytes : ByteArray} {maxL : Nat} {ret : Option FieldType}
    (hown : s.vm.findClass own = some m.cls) (hlink : (Cond.methodLink own index y).before args s = true) (hinst : (Cond.instanceMethod y).before args s = true) (hsel : (Cond.selects C y y).before args s = true)
    (hcode : (Cond.code y bytes maxL ret).before args s = true) (hy : y.cls ≠ "java/lang/invoke/MethodHandle" ∧ y.cls ≠ "java/lang/invoke/VarHandle")
    {W9 : Nat} {Pre : Pt → Array Value → Prop} {Post : Pt → Array Value → Option Value → Pt → Prop} {PostX : Pt → Array Value → Addr → Pt → Prop} (hK : vx_Back l R p e below s args y 3 W9 Pre Post PostX)
    {b : Addr} {cellB : Cell} (hcell : T.heap[b]? = some cellB) (hobj : cellB.vm.isStatics = false) (hcls : s.vm.findClass C = some cellB.cls)
    {g : JFrame} (hg : g.method = m) (hsize : g.locals.size = c.maxLocals) {argsL rest : List Value} (hlen : ∀ sig, parseMethodDescriptor y.desc = some sig → argsL.length = sig.parameters.length)
    (hstack : g.stack = argsL.reverse ++ .ref b :: rest) (hW : 2 * g.monitorRoom + (rest.map fun v => v.category).sum ≤ W9) (hdg : decode c.code g.pc = .ok (.invokevirtual index, 3))
    (hpre : ∀ vm₁, s.WarmedH vm₁ → Pre ⟨T.setVm vm₁, locs, cells, slots⟩ (Value.ref b :: argsL).toArray) :
    (∃ (v : Option Value) (vm₁ : Vm) (B : Pt), s.WarmedH vm₁ ∧ Stand p l e R s m args below meth c B.U B.locs B.cells B.slots ∧ Post ⟨T.setVm vm₁, locs, cells, slots⟩ (Value.ref b :: argsL).toArray v B ∧
      ∀ target, Steps p.tables e below (B.U.setTop { g with pc := g.pc + 3, stack := v.toList ++ rest }) target → Steps p.tables e below (T.setTop g) target) ∨
    (∃ (q : Addr) (vm₁ : Vm) (B : Pt), s.WarmedH vm₁ ∧ Stand p l e R s m args below meth c B.U B.locs B.cells B.slots ∧ PostX ⟨T.setVm vm₁, locs, cells, slots⟩ (Value.ref b :: argsL).toArray q B ∧
      Steps p.tables e below (T.setTop g) ((B.U.setTop { g with stack := rest }).pushFrame (.throwing q))) := by
  obtain ⟨mk, methM, hnamed, hmethM, hstM, habM⟩ := Cond.instanceMethod_spec hinst
  obtain ⟨methM', cM, hmethM', -, -, -, -, -, -, hsigM⟩ := Cond.code_spec hnamed hcode
  cases hmethM.symm.trans hmethM'
  obtain ⟨c2, r2, m2, q1, q2, q3, q4, kP, hkP, hkPi⟩ := Cond.selects_spec hsel
  cases hcls.symm.trans q1
  cases (State.methodFound?_of_named hnamed hy).symm.trans q2
  cases hnamed.symm.trans q3
  have hselP : selectMethod e.platform s.vm cellB.cls mk = .method mk := by rw [Launch.admits_selectMethod X.admits]; exact q4
  obtain ⟨vm₁, X₁, hstep₁⟩ := X.invokevirtual hexec hown hlink hnamed hmethM hstM hkP hkPi hy (a := b) (cell := cellB) hcell
    (fun z h => by rw [h] at hobj; cases hobj) hselP hmethM habM hkP hkPi (g := g) hg (argsL := argsL) (rest := rest) (hlen _ hsigM) hstack hdg
  rcases hK m meth c ⟨T.setVm vm₁, locs, cells, slots⟩ { g with stack := rest } (.invokevirtual index) mk (Value.ref b :: argsL).toArray X₁ hg hsize hdg hW (X₁.named hnamed) (hpre vm₁ X₁.warmed) with ⟨v, B, X', hpost, hsteps⟩ | ⟨q, B, X', hpost, hsteps⟩
  · exact Or.inl ⟨v, vm₁, B, X₁.warmed, X', hpost, fun target h => hstep₁ _ fun acts => by rw [doInvoke_state]; exact hsteps.trans h⟩
  · exact Or.inr ⟨q, vm₁, B, X₁.warmed, X', hpost, hstep₁ _ fun acts => by rw [doInvoke_state]; exact hsteps⟩
theorem vx_callS (X : Stand p l e R s m args below meth c T locs cells slots) (hexec : p.tables.exec = Jvm.exec) {own : String} {index : Nat} {y : MethodName} {bytes : ByteArray} {maxL : Nat} {ret : Option FieldType}
    (hown : s.vm.findClass own = some m.cls) (hlink : (Cond.methodLink own index y).before args s = true) (hstat : (Cond.static y).before args s = true) (hinit : (Cond.initialized y.cls).before args s = true)
    (hcode : (Cond.code y bytes maxL ret).before args s = true) (hy : y.cls ≠ "java/lang/invoke/MethodHandle" ∧ y.cls ≠ "java/lang/invoke/VarHandle")
    {W9 : Nat} {Pre : Pt → Array Value → Prop} {Post : Pt → Array Value → Option Value → Pt → Prop} {PostX : Pt → Array Value → Addr → Pt → Prop} (hK : vx_Back l R p e below s args y 3 W9 Pre Post PostX)
    {g : JFrame} (hg : g.method = m) (hsize : g.locals.size = c.maxLocals) {argsL rest : List Value} (hlen : ∀ sig, parseMethodDescriptor y.desc = some sig → argsL.length = sig.parameters.length)
    (hstack : g.stack = argsL.reverse ++ rest) (hW : 2 * g.monitorRoom + (rest.map fun v => v.category).sum ≤ W9) (hdg : decode c.code g.pc = .ok (.invokestatic index, 3))
    (hpre : ∀ vm₁, s.WarmedH vm₁ → Pre ⟨T.setVm vm₁, locs, cells, slots⟩ argsL.toArray) :
    (∃ (v : Option Value) (vm₁ : Vm) (B : Pt), s.WarmedH vm₁ ∧ Stand p l e R s m args below meth c B.U B.locs B.cells B.slots ∧ Post ⟨T.setVm vm₁, locs, cells, slots⟩ argsL.toArray v B ∧
      ∀ target, Steps p.tables e below (B.U.setTop { g with pc := g.pc + 3, stack := v.toList ++ rest }) target → Steps p.tables e below (T.setTop g) target) ∨
    (∃ (q : Addr) (vm₁ : Vm) (B : Pt), s.WarmedH vm₁ ∧ Stand p l e R s m args below meth c B.U B.locs B.cells B.slots ∧ PostX ⟨T.setVm vm₁, locs, cells, slots⟩ argsL.toArray q B ∧
      Steps p.tables e below (T.setTop g) ((B.U.setTop { g with stack := rest }).pushFrame (.throwing q))) := by
  obtain ⟨mk, hnamed⟩ := Cond.code_named hcode
  obtain ⟨methM, cM, hmethM, -, -, -, -, -, -, hsigM⟩ := Cond.code_spec hnamed hcode
  have hstatic : methM.isStatic = true := Cond.static_spec hnamed hmethM hstat
  obtain ⟨kP, hkP, -⟩ := className_of_methodNamed hnamed
  have hinitP : kP.init = .initialized := Cond.initialized_spec (findClass_of_methodNamed hnamed) hkP hinit
  obtain ⟨vm₁, X₁, hstep₁⟩ := X.invokestatic hexec hown hlink hnamed hmethM hstatic hkP hinitP hy (g := g) hg (argsL := argsL) (rest := rest) (hlen _ hsigM) hstack hdg
  rcases hK m meth c ⟨T.setVm vm₁, locs, cells, slots⟩ { g with stack := rest } (.invokestatic index) mk argsL.toArray X₁ hg hsize hdg hW (X₁.named hnamed) (hpre vm₁ X₁.warmed) with ⟨v, B, X', hpost, hsteps⟩ | ⟨q, B, X', hpost, hsteps⟩
  · exact Or.inl ⟨v, vm₁, B, X₁.warmed, X', hpost, fun target h => hstep₁ _ fun acts => by rw [doInvoke_state]; exact hsteps.trans h⟩
  · exact Or.inr ⟨q, vm₁, B, X₁.warmed, X', hpost, hstep₁ _ fun acts => by rw [doInvoke_state]; exact hsteps⟩
end Calls
theorem vx_cls {s : State} {T : State} {vm₁ : Vm} {E : String} {k : ClassId} (hW : s.WarmedH vm₁) (h : (T.setVm vm₁).vm.findClass E = some k) : s.vm.findClass E = some k := by
  have h1 : vm₁.findClass E = some k := h
  rw [hW.alike.findClass] at h1
  exact h1
/-- the method's frame g, with q thrown over it -/
def vx_W (p : Program) (l : Launch) (e : Env) (R : Room) (s : State) (m : MethodId) (args : Array Value) (below : List Frame) (meth : Method) (c : Code) (H : Heap) (locs : List Loc) (cells slots : Nat) (Q : State → Prop) (g : JFrame) (q : Addr) : Prop :=
  ∀ T : State, T.heap = H → Stand p l e R s m args below meth c T locs cells slots → ∃ t, Steps p.tables e below ((T.setTop g).pushFrame (.throwing q)) t ∧ Q t
def vx_Run (p : Program) (l : Launch) (e : Env) (R : Room) (s : State) (m : MethodId) (args : Array Value) (below : List Frame) (meth : Method) (c : Code) (H : Heap) (locs : List Loc) (cells slots mc ms : Nat) (g : JFrame) (rest : List Value) (Qa : State → Outcome → State → Prop) (XC : String → State → State → Prop) (free : Addr → Prop) : Prop :=
  ∀ T : State, T.heap = H → Stand p l e R s m args below meth c T locs cells slots →
    (∃ (v : Option Value) (st₀ t T' : State) (L : List Loc), st₀.heap = H ∧ Stand p l e R s m args below meth c T' (locs ++ L) (cells + mc) (slots + ms) ∧ (∀ q ∈ L, free q.base) ∧ T'.heap = t.heap ∧ T'.vm = t.vm ∧ Qa st₀ (.returned v) t ∧
      Goes p e below T g T' { g with pc := g.pc + 3, stack := v.toList ++ rest }) ∨
    (∃ (q : Addr) (st₀ t T' : State) (L : List Loc) (E : String) (ce : Cell), st₀.heap = H ∧ Stand p l e R s m args below meth c T' (locs ++ L) (cells + mc) (slots + ms) ∧ (∀ z ∈ L, free z.base) ∧ T'.heap = t.heap ∧ T'.vm = t.vm ∧ XC E st₀ t ∧ t.heap[q]? = some ce ∧ ce.vm = .none ∧ s.vm.findClass E = some ce.cls ∧
      Steps p.tables e below (T.setTop g) ((T'.setTop { g with stack := rest }).pushFrame (.throwing q)))
def vx_X {S : Type} (px : S → Prop) (B : String → S → State → Prop) (A : Nat → Prop) : String → State → State → Prop := fun E st t => ∃ u : S, px u ∧ B E u t ∧ va_F A st t
section Runs
variable {p : Program} {l : Launch} {e : Env} {R : Room} {s : State} {m : MethodId} {args : Array Value} {below : List Frame} {meth : Method} {c : Code} {H : Heap} {locs : List Loc} {cells slots : Nat}
variable {y : MethodName} {bytes cc : ByteArray} {maxL nL mc ms n index : Nat} {ret : Option FieldType} {ws : List Cond} {rm : Room} {Pc : Array Value → State → Prop} {Qc : Array Value → State → Outcome → State → Prop} {XC : String → State → State → Prop} {free : Addr → Prop} {Ts : List Cond} {own C : String} {b : Addr} {As rest : List Value} {g : JFrame}
theorem vx_callBack (cb : CallB R s args own index y bytes maxL ret ws rm mc ms n) (hM : vx_Met l y ws rm Pc Qc XC mc ms free) (hbl : FrameBlind Pc) : vx_Back l R p e below s args y 3 8 (PreOf R mc ms Pc) (PostOf Qc mc ms free) (vx_Post XC mc ms free) := by
  obtain ⟨hrc, hrs, hfr, hlo, hws, hcw, -, hini, -⟩ := cb
  exact vx_back (bytes := bytes) (maxL := maxL) (ret := ret) hM hbl hrc hrs hfr hlo hws hcw (fun a' U hW => word_at hW (Or.inl (by first | rfl | simp [Cond.onTables, Cond.keeps, Cond.steady])) hini)
theorem vx_runV (S : CallFix p m c cc nL s args Ts own) (hM : vx_Met l y ws rm Pc Qc XC mc ms free) (cw : CallW R s args own C index y bytes maxL ret ws rm mc ms n) (hp : PreV s H C b Pc As)
    (hg : g.method = m) (hn : As.length = n) (hsize : g.locals.size = nL) (hstack : g.stack = As.reverse ++ .ref b :: rest) (hW : 2 * g.monitorRoom + (rest.map fun v => v.category).sum ≤ 8) (hdg : decode cc g.pc = .ok (.invokevirtual index, 3)) (hf : cells + mc ≤ R.cells ∧ slots + ms ≤ R.slots) :
    vx_Run p l e R s m args below meth c H locs cells slots mc ms g rest (Qc (Value.ref b :: As).toArray) XC free := by
  have hK : vx_Back l R p e below s args y 3 8 (PreOf R mc ms Pc) (PostOf Qc mc ms free) (vx_Post XC mc ms free) := vx_callBack cw.1 hM hp.1
  obtain ⟨⟨-, -, -, -, -, -, hcode, -, hy, hlen, hl⟩, hin, hse⟩ := cw
  obtain ⟨hx, hb, hml, ho, -⟩ := S
  obtain ⟨-, ⟨cellB, hcB, hoB, hclB⟩, hPc⟩ := hp
  intro T hT X
  rcases vx_callV X hx (C := C) (bytes := bytes) (maxL := maxL) (ret := ret) ho hl hin hse hcode hy hK (by rw [hT]; exact hcB) hoB hclB hg (hsize.trans hml.symm) (argsL := As) (rest := rest) (fun sig h => hn.trans (hlen sig h)) hstack hW (by rw [hb]; exact hdg)
    (fun vm₁ hW₁ => ⟨hf.1, hf.2, hPc (T.setVm vm₁) hT hW₁⟩) with ⟨v, vm₁, ⟨U', l2, c2, s2⟩, hW₁, X', ⟨g', mk, t, L, e1, e2, hq, h1, hL, h2, h3⟩, st⟩ | ⟨q, vm₁, ⟨U', l2, c2, s2⟩, hW₁, X', ⟨g', mk, t, L, E, ce, e1, e2, hq, hce, hcv, hcl, h1, hL, h2, h3⟩, st⟩
  · dsimp only [Pt.U, Pt.locs, Pt.cells, Pt.slots] at X' e1 e2 h1 h2 h3 st
    subst h1; subst h2; subst h3
    exact Or.inl ⟨v, (T.setVm vm₁).calling g' mk (Value.ref b :: As).toArray, t, U', L, hT, X', hL, e1, e2, hq, st⟩
  · dsimp only [Pt.U, Pt.locs, Pt.cells, Pt.slots] at X' e1 e2 h1 h2 h3 st hcl
    subst h1; subst h2; subst h3
    exact Or.inr ⟨q, (T.setVm vm₁).calling g' mk (Value.ref b :: As).toArray, t, U', L, E, ce, hT, X', hL, e1, e2, hq, hce, hcv, vx_cls hW₁ hcl, st⟩
theorem vx_runS (S : CallFix p m c cc nL s args Ts own) (hM : vx_Met l y ws rm Pc Qc XC mc ms free) (cw : CallB R s args own index y bytes maxL ret ws rm mc ms n ∧ (Cond.static y).before args s = true) (hp : PreS s H Pc As)
    (hg : g.method = m) (hn : As.length = n) (hsize : g.locals.size = nL) (hstack : g.stack = As.reverse ++ rest) (hW : 2 * g.monitorRoom + (rest.map fun v => v.category).sum ≤ 8) (hdg : decode cc g.pc = .ok (.invokestatic index, 3)) (hf : cells + mc ≤ R.cells ∧ slots + ms ≤ R.slots) :
    vx_Run p l e R s m args below meth c H locs cells slots mc ms g rest (Qc As.toArray) XC free := by
  have hK : vx_Back l R p e below s args y 3 8 (PreOf R mc ms Pc) (PostOf Qc mc ms free) (vx_Post XC mc ms free) := vx_callBack cw.1 hM hp.1
  obtain ⟨⟨-, -, -, -, -, -, hcode, hini, hy, hlen, hl⟩, hstt⟩ := cw
  obtain ⟨hx, hb, hml, ho, -⟩ := S
  intro T hT X
  rcases vx_callS X hx (bytes := bytes) (maxL := maxL) (ret := ret) ho hl hstt hini hcode hy hK hg (hsize.trans hml.symm) (argsL := As) (rest := rest) (fun sig h => hn.trans (hlen sig h)) hstack hW (by rw [hb]; exact hdg)
    (fun vm₁ hW₁ => ⟨hf.1, hf.2, hp.2 (T.setVm vm₁) hT hW₁⟩) with ⟨v, vm₁, ⟨U', l2, c2, s2⟩, hW₁, X', ⟨g', mk, t, L, e1, e2, hq, h1, hL, h2, h3⟩, st⟩ | ⟨q, vm₁, ⟨U', l2, c2, s2⟩, hW₁, X', ⟨g', mk, t, L, E, ce, e1, e2, hq, hce, hcv, hcl, h1, hL, h2, h3⟩, st⟩
  · dsimp only [Pt.U, Pt.locs, Pt.cells, Pt.slots] at X' e1 e2 h1 h2 h3 st
    subst h1; subst h2; subst h3
    exact Or.inl ⟨v, (T.setVm vm₁).calling g' mk As.toArray, t, U', L, hT, X', hL, e1, e2, hq, st⟩
  · dsimp only [Pt.U, Pt.locs, Pt.cells, Pt.slots] at X' e1 e2 h1 h2 h3 st hcl
    subst h1; subst h2; subst h3
    exact Or.inr ⟨q, (T.setVm vm₁).calling g' mk As.toArray, t, U', L, E, ce, hT, X', hL, e1, e2, hq, hce, hcv, vx_cls hW₁ hcl, st⟩
end Runs
section Rows
variable {p : Program} {l : Launch} {e : Env} {R : Room} {s : State} {m : MethodId} {args : Array Value} {below : List Frame} {meth : Method} {c : Code} {H : Heap} {locs : List Loc} {cells slots : Nat} {Q : State → Prop}
variable {mc ms : Nat} {free : Addr → Prop} {A0 A1 : Nat → Prop} {H0 : Heap} {a : Array Value} {pc : Nat} {ls : Array Slot} {st0 rest : List Value}
theorem vx_keep {st₀ t T' : State} {L : List Loc} (h0 : st₀.heap = H) (e1 : T'.heap = t.heap) (hS : va_S A0 H0 H locs) (hA : ∀ q, q < H.size → A1 q → A0 q) (hf : ∀ q, free q → A0 q) (hL : ∀ q ∈ L, free q.base) (hF : va_F A1 st₀ t) :
    H.size ≤ T'.heap.size ∧ (∀ q : Nat, q < H.size → ¬ A1 q → T'.heap[q]? = H[q]?) ∧ va_S A0 H0 T'.heap (locs ++ L) := by
  obtain ⟨hz, hk⟩ := hF
  rw [h0] at hz hk
  exact ⟨by rw [e1]; exact hz, fun q h1 h2 => by rw [e1]; exact hk q h1 h2,
    ⟨Nat.le_trans hS.1 (by rw [e1]; exact hz), fun q h1 h2 => by rw [e1, hk q (Nat.lt_of_lt_of_le h1 hS.1) (fun z => h2 (hA q (Nat.lt_of_lt_of_le h1 hS.1) z))]; exact hS.2.1 q h1 h2, fun q hq => by
      rcases List.mem_append.mp hq with h | h
      · exact hS.2.2 q h
      · exact hf _ (hL q h)⟩⟩
theorem vx_calli {S SX : Type} {post : Int32 → S → Prop} {px : SX → Prop} {B : S → State → Prop} {BX : String → SX → State → Prop} {AX : Nat → Prop} (hr : vx_Run p l e R s m args below meth c H locs cells slots mc ms (F0 m pc ls st0) rest (va_Qi post B A1 a) (vx_X px BX AX) free) (hS : va_S A0 H0 H locs) (hA : ∀ q, q < H.size → A1 q → A0 q) (hf : ∀ q, free q → A0 q) (hAX : ∀ q, q < H.size → AX q → A0 q)
    (kx : ∀ (E : String) (ce : Cell) (q9 : Addr) (u : SX) (t : State) (H1 : Heap) (locs1 : List Loc), t.heap = H1 → s.vm.Alike t.vm → px u → BX E u t → H.size ≤ H1.size → (∀ q : Nat, q < H.size → ¬ AX q → H1[q]? = H[q]?) → va_S A0 H0 H1 locs1 → H1[q9]? = some ce → ce.vm = .none → s.vm.findClass E = some ce.cls → vx_W p l e R s m args below meth c H1 locs1 (cells + mc) (slots + ms) Q (F0 m pc ls rest) q9)
    (kk : ∀ (r : Int32) (u : S) (t : State) (H1 : Heap) (locs1 : List Loc), t.heap = H1 → s.vm.Alike t.vm → post r u → B u t → H.size ≤ H1.size → (∀ q : Nat, q < H.size → ¬ A1 q → H1[q]? = H[q]?) → va_S A0 H0 H1 locs1 → W p l e R s m args below meth c H1 locs1 (cells + mc) (slots + ms) Q (F0 m (pc + 3) ls (.int r :: rest))) : W p l e R s m args below meth c H locs cells slots Q (F0 m pc ls st0) := by
  intro T hT X
  rcases hr T hT X with ⟨v, st₀, t, T', L, h0, X', hL, e1, e2, ⟨⟨r, u, hv, hp, hb⟩, hF⟩, st⟩ | ⟨q, st₀, t, T', L, E, ce, h0, X', hL, e1, e2, ⟨u, hp, hb, hF⟩, hce, hcv, hcl, st⟩
  · cases hv
    obtain ⟨k1, k2, k3⟩ := vx_keep h0 e1 hS hA hf hL hF
    obtain ⟨t2, a1, b1⟩ := kk r u t T'.heap (locs ++ L) e1.symm (by rw [← e2]; exact X'.warmed.alike) hp hb k1 k2 k3 T' rfl X'
    exact ⟨t2, st t2 a1, b1⟩
  · obtain ⟨k1, k2, k3⟩ := vx_keep h0 e1 hS hAX hf hL hF
    obtain ⟨t2, a1, b1⟩ := kx E ce q u t T'.heap (locs ++ L) e1.symm (by rw [← e2]; exact X'.warmed.alike) hp hb k1 k2 k3 (by rw [e1]; exact hce) hcv hcl T' rfl X'
    exact ⟨t2, st.trans a1, b1⟩
theorem vx_calll {S SX : Type} {post : Int64 → S → Prop} {px : SX → Prop} {B : S → State → Prop} {BX : String → SX → State → Prop} {AX : Nat → Prop} (hr : vx_Run p l e R s m args below meth c H locs cells slots mc ms (F0 m pc ls st0) rest (va_Ql post B A1 a) (vx_X px BX AX) free) (hS : va_S A0 H0 H locs) (hA : ∀ q, q < H.size → A1 q → A0 q) (hf : ∀ q, free q → A0 q) (hAX : ∀ q, q < H.size → AX q → A0 q)
    (kx : ∀ (E : String) (ce : Cell) (q9 : Addr) (u : SX) (t : State) (H1 : Heap) (locs1 : List Loc), t.heap = H1 → s.vm.Alike t.vm → px u → BX E u t → H.size ≤ H1.size → (∀ q : Nat, q < H.size → ¬ AX q → H1[q]? = H[q]?) → va_S A0 H0 H1 locs1 → H1[q9]? = some ce → ce.vm = .none → s.vm.findClass E = some ce.cls → vx_W p l e R s m args below meth c H1 locs1 (cells + mc) (slots + ms) Q (F0 m pc ls rest) q9)
    (kk : ∀ (r : Int64) (u : S) (t : State) (H1 : Heap) (locs1 : List Loc), t.heap = H1 → s.vm.Alike t.vm → post r u → B u t → H.size ≤ H1.size → (∀ q : Nat, q < H.size → ¬ A1 q → H1[q]? = H[q]?) → va_S A0 H0 H1 locs1 → W p l e R s m args below meth c H1 locs1 (cells + mc) (slots + ms) Q (F0 m (pc + 3) ls (.long r :: rest))) : W p l e R s m args below meth c H locs cells slots Q (F0 m pc ls st0) := by
  intro T hT X
  rcases hr T hT X with ⟨v, st₀, t, T', L, h0, X', hL, e1, e2, ⟨⟨r, u, hv, hp, hb⟩, hF⟩, st⟩ | ⟨q, st₀, t, T', L, E, ce, h0, X', hL, e1, e2, ⟨u, hp, hb, hF⟩, hce, hcv, hcl, st⟩
  · cases hv
    obtain ⟨k1, k2, k3⟩ := vx_keep h0 e1 hS hA hf hL hF
    obtain ⟨t2, a1, b1⟩ := kk r u t T'.heap (locs ++ L) e1.symm (by rw [← e2]; exact X'.warmed.alike) hp hb k1 k2 k3 T' rfl X'
    exact ⟨t2, st t2 a1, b1⟩
  · obtain ⟨k1, k2, k3⟩ := vx_keep h0 e1 hS hAX hf hL hF
    obtain ⟨t2, a1, b1⟩ := kx E ce q u t T'.heap (locs ++ L) e1.symm (by rw [← e2]; exact X'.warmed.alike) hp hb k1 k2 k3 (by rw [e1]; exact hce) hcv hcl T' rfl X'
    exact ⟨t2, st.trans a1, b1⟩
theorem vx_callf {S SX : Type} {post : UInt32 → S → Prop} {px : SX → Prop} {B : S → State → Prop} {BX : String → SX → State → Prop} {AX : Nat → Prop} (hr : vx_Run p l e R s m args below meth c H locs cells slots mc ms (F0 m pc ls st0) rest (va_Qf post B A1 a) (vx_X px BX AX) free) (hS : va_S A0 H0 H locs) (hA : ∀ q, q < H.size → A1 q → A0 q) (hf : ∀ q, free q → A0 q) (hAX : ∀ q, q < H.size → AX q → A0 q)
    (kx : ∀ (E : String) (ce : Cell) (q9 : Addr) (u : SX) (t : State) (H1 : Heap) (locs1 : List Loc), t.heap = H1 → s.vm.Alike t.vm → px u → BX E u t → H.size ≤ H1.size → (∀ q : Nat, q < H.size → ¬ AX q → H1[q]? = H[q]?) → va_S A0 H0 H1 locs1 → H1[q9]? = some ce → ce.vm = .none → s.vm.findClass E = some ce.cls → vx_W p l e R s m args below meth c H1 locs1 (cells + mc) (slots + ms) Q (F0 m pc ls rest) q9)
    (kk : ∀ (r : UInt32) (u : S) (t : State) (H1 : Heap) (locs1 : List Loc), t.heap = H1 → s.vm.Alike t.vm → post r u → B u t → H.size ≤ H1.size → (∀ q : Nat, q < H.size → ¬ A1 q → H1[q]? = H[q]?) → va_S A0 H0 H1 locs1 → W p l e R s m args below meth c H1 locs1 (cells + mc) (slots + ms) Q (F0 m (pc + 3) ls (.float r :: rest))) : W p l e R s m args below meth c H locs cells slots Q (F0 m pc ls st0) := by
  intro T hT X
  rcases hr T hT X with ⟨v, st₀, t, T', L, h0, X', hL, e1, e2, ⟨⟨r, u, hv, hp, hb⟩, hF⟩, st⟩ | ⟨q, st₀, t, T', L, E, ce, h0, X', hL, e1, e2, ⟨u, hp, hb, hF⟩, hce, hcv, hcl, st⟩
  · cases hv
    obtain ⟨k1, k2, k3⟩ := vx_keep h0 e1 hS hA hf hL hF
    obtain ⟨t2, a1, b1⟩ := kk r u t T'.heap (locs ++ L) e1.symm (by rw [← e2]; exact X'.warmed.alike) hp hb k1 k2 k3 T' rfl X'
    exact ⟨t2, st t2 a1, b1⟩
  · obtain ⟨k1, k2, k3⟩ := vx_keep h0 e1 hS hAX hf hL hF
    obtain ⟨t2, a1, b1⟩ := kx E ce q u t T'.heap (locs ++ L) e1.symm (by rw [← e2]; exact X'.warmed.alike) hp hb k1 k2 k3 (by rw [e1]; exact hce) hcv hcl T' rfl X'
    exact ⟨t2, st.trans a1, b1⟩
theorem vx_calld {S SX : Type} {post : UInt64 → S → Prop} {px : SX → Prop} {B : S → State → Prop} {BX : String → SX → State → Prop} {AX : Nat → Prop} (hr : vx_Run p l e R s m args below meth c H locs cells slots mc ms (F0 m pc ls st0) rest (va_Qd post B A1 a) (vx_X px BX AX) free) (hS : va_S A0 H0 H locs) (hA : ∀ q, q < H.size → A1 q → A0 q) (hf : ∀ q, free q → A0 q) (hAX : ∀ q, q < H.size → AX q → A0 q)
    (kx : ∀ (E : String) (ce : Cell) (q9 : Addr) (u : SX) (t : State) (H1 : Heap) (locs1 : List Loc), t.heap = H1 → s.vm.Alike t.vm → px u → BX E u t → H.size ≤ H1.size → (∀ q : Nat, q < H.size → ¬ AX q → H1[q]? = H[q]?) → va_S A0 H0 H1 locs1 → H1[q9]? = some ce → ce.vm = .none → s.vm.findClass E = some ce.cls → vx_W p l e R s m args below meth c H1 locs1 (cells + mc) (slots + ms) Q (F0 m pc ls rest) q9)
    (kk : ∀ (r : UInt64) (u : S) (t : State) (H1 : Heap) (locs1 : List Loc), t.heap = H1 → s.vm.Alike t.vm → post r u → B u t → H.size ≤ H1.size → (∀ q : Nat, q < H.size → ¬ A1 q → H1[q]? = H[q]?) → va_S A0 H0 H1 locs1 → W p l e R s m args below meth c H1 locs1 (cells + mc) (slots + ms) Q (F0 m (pc + 3) ls (.double r :: rest))) : W p l e R s m args below meth c H locs cells slots Q (F0 m pc ls st0) := by
  intro T hT X
  rcases hr T hT X with ⟨v, st₀, t, T', L, h0, X', hL, e1, e2, ⟨⟨r, u, hv, hp, hb⟩, hF⟩, st⟩ | ⟨q, st₀, t, T', L, E, ce, h0, X', hL, e1, e2, ⟨u, hp, hb, hF⟩, hce, hcv, hcl, st⟩
  · cases hv
    obtain ⟨k1, k2, k3⟩ := vx_keep h0 e1 hS hA hf hL hF
    obtain ⟨t2, a1, b1⟩ := kk r u t T'.heap (locs ++ L) e1.symm (by rw [← e2]; exact X'.warmed.alike) hp hb k1 k2 k3 T' rfl X'
    exact ⟨t2, st t2 a1, b1⟩
  · obtain ⟨k1, k2, k3⟩ := vx_keep h0 e1 hS hAX hf hL hF
    obtain ⟨t2, a1, b1⟩ := kx E ce q u t T'.heap (locs ++ L) e1.symm (by rw [← e2]; exact X'.warmed.alike) hp hb k1 k2 k3 (by rw [e1]; exact hce) hcv hcl T' rfl X'
    exact ⟨t2, st.trans a1, b1⟩
theorem vx_callv {S SX : Type} {post : S → Prop} {px : SX → Prop} {B : S → State → Prop} {BX : String → SX → State → Prop} {AX : Nat → Prop} (hr : vx_Run p l e R s m args below meth c H locs cells slots mc ms (F0 m pc ls st0) rest (va_Qv post B A1 a) (vx_X px BX AX) free) (hS : va_S A0 H0 H locs) (hA : ∀ q, q < H.size → A1 q → A0 q) (hf : ∀ q, free q → A0 q) (hAX : ∀ q, q < H.size → AX q → A0 q)
    (kx : ∀ (E : String) (ce : Cell) (q9 : Addr) (u : SX) (t : State) (H1 : Heap) (locs1 : List Loc), t.heap = H1 → s.vm.Alike t.vm → px u → BX E u t → H.size ≤ H1.size → (∀ q : Nat, q < H.size → ¬ AX q → H1[q]? = H[q]?) → va_S A0 H0 H1 locs1 → H1[q9]? = some ce → ce.vm = .none → s.vm.findClass E = some ce.cls → vx_W p l e R s m args below meth c H1 locs1 (cells + mc) (slots + ms) Q (F0 m pc ls rest) q9)
    (kk : ∀ (u : S) (t : State) (H1 : Heap) (locs1 : List Loc), t.heap = H1 → s.vm.Alike t.vm → post u → B u t → H.size ≤ H1.size → (∀ q : Nat, q < H.size → ¬ A1 q → H1[q]? = H[q]?) → va_S A0 H0 H1 locs1 → W p l e R s m args below meth c H1 locs1 (cells + mc) (slots + ms) Q (F0 m (pc + 3) ls (rest))) : W p l e R s m args below meth c H locs cells slots Q (F0 m pc ls st0) := by
  intro T hT X
  rcases hr T hT X with ⟨v, st₀, t, T', L, h0, X', hL, e1, e2, ⟨⟨u, hv, hp, hb⟩, hF⟩, st⟩ | ⟨q, st₀, t, T', L, E, ce, h0, X', hL, e1, e2, ⟨u, hp, hb, hF⟩, hce, hcv, hcl, st⟩
  · cases hv
    obtain ⟨k1, k2, k3⟩ := vx_keep h0 e1 hS hA hf hL hF
    obtain ⟨t2, a1, b1⟩ := kk u t T'.heap (locs ++ L) e1.symm (by rw [← e2]; exact X'.warmed.alike) hp hb k1 k2 k3 T' rfl X'
    exact ⟨t2, st t2 a1, b1⟩
  · obtain ⟨k1, k2, k3⟩ := vx_keep h0 e1 hS hAX hf hL hF
    obtain ⟨t2, a1, b1⟩ := kx E ce q u t T'.heap (locs ++ L) e1.symm (by rw [← e2]; exact X'.warmed.alike) hp hb k1 k2 k3 (by rw [e1]; exact hce) hcv hcl T' rfl X'
    exact ⟨t2, st.trans a1, b1⟩
/-- caught by the row x of this method's table; the rows ahead don't take it -/
theorem vx_catch {own name : String} {E : String} {ce : Cell} {q : Addr} (hown : s.vm.findClass own = some m.cls) (pre : List ExceptionTableEntry) (x : ExceptionTableEntry) (suf : List ExceptionTableEntry) (hsplit : c.exceptionTable.toList = pre ++ x :: suf)
    (hpass : ∀ z ∈ pre, covers z pc = false ∨ (z.catchType ≠ 0 ∧ ∃ nm : String, (Cond.classLink own z.catchType nm).before args s = true ∧ va_Nc E nm s)) (hx : covers x pc = true) (h0 : x.catchType ≠ 0)
    (hlink : (Cond.classLink own x.catchType name).before args s = true) (hcast : (Cond.castable E name).before args s = true) (hcell : H[q]? = some ce) (hv : ce.vm = .none) (hcl : s.vm.findClass E = some ce.cls)
    (kk : W p l e R s m args below meth c H locs cells slots Q (F0 m x.handlerPc ls [.ref q])) : vx_W p l e R s m args below meth c H locs cells slots Q (F0 m pc ls rest) q := by
  intro T hT X
  have hpl : e.platform.magicAccessors = ({} : Platform).magicAccessors := by rw [X.admits.platform]
  obtain ⟨c3, c4, hc3, hc4, hasg⟩ := Cond.castable_spec hcast
  cases Option.some.inj (hc3.symm.trans hcl)
  obtain ⟨c5, hc5, hcl5⟩ := Cond.classLink_spec hown hlink e.platform hpl
  cases Option.some.inj (hc4.symm.trans hc5)
  obtain ⟨vm', X', st⟩ := X.thenCaughtThrough q (g := F0 m pc ls rest) rfl (Steps.refl _) (by rw [hT]; exact hcell) (by rw [hv]; rfl) (by obtain ⟨k9, h9, -⟩ := Vm.findClass_spec hcl; exact ⟨k9, h9⟩) pre x suf hsplit
    (fun z hz => by
      rcases hpass z hz with h | ⟨hz0, nm, hl1, hn1⟩
      · exact Or.inl h
      · obtain ⟨c6, hc6, hcl6⟩ := Cond.classLink_spec hown hl1 e.platform hpl
        obtain ⟨a8, b8, h1, h2, h3⟩ := hn1
        cases Option.some.inj (h1.symm.trans hcl)
        cases Option.some.inj (h2.symm.trans hc6)
        exact Or.inr ⟨hz0, _, hcl6, h3⟩) hx (Or.inr ⟨h0, c4, hcl5, hasg⟩)
  obtain ⟨t, a1, b1⟩ := kk (T.setVm vm') hT X'
  exact ⟨t, st.trans a1, b1⟩
end Rows
section Ends
variable {p : Program} {l : Launch} {e : Env} {R : Room} {s : State} {m : MethodId} {args : Array Value} {below : List Frame} {meth : Method} {c : Code} {H : Heap} {locs : List Loc} {cells slots : Nat} {Q : State → Prop}
variable {mc ms : Nat} {free : Addr → Prop} {A0 A1 : Nat → Prop} {H0 : Heap} {a : Array Value} {ls : Array Slot} {st0 rest : List Value}
variable {Qc : Array Value → State → Outcome → State → Prop} {XC : String → State → State → Prop}
/-- what a body that may throw owes at its end -/
def vx_MQ (below : List Frame) (Qc : Array Value → State → Outcome → State → Prop) (XC : String → State → State → Prop) (a : Array Value) (s : State) (mc ms : Nat) (free : Addr → Prop) : State → Prop := fun t =>
  ∃ o, t.status = .running ∧ Ended t below o ∧ vx_Q Qc XC mc ms free a s o t
theorem vx_ret {g : JFrame} {mc ms : Nat} (k : W p l e R s m args below meth c H locs cells slots (MQ below Qc args s mc ms free) g) : W p l e R s m args below meth c H locs cells slots (vx_MQ below Qc XC args s mc ms free) g := by
  intro T hT X
  obtain ⟨t, a1, o, b1, b2, b3, b4⟩ := k T hT X
  exact ⟨t, a1, o, b1, b2, Or.inl ⟨b3, b4⟩⟩
/-- not caught here: it goes on to the caller -/
theorem vx_widen {g : JFrame} {q : Addr} {k n : Nat} (h1 : cells ≤ k) (h2 : slots ≤ n) (kk : vx_W p l e R s m args below meth c H locs k n Q g q) : vx_W p l e R s m args below meth c H locs cells slots Q g q := fun T hT X => kk T hT (stand_widen X h1 h2)
theorem vx_out {pc : Nat} {E : String} {ce : Cell} {q : Addr} {mc ms : Nat} (hout : ∀ x ∈ c.exceptionTable.toList, covers x pc = false) (hlocks : meth.locks = false) (hcell : H[q]? = some ce) (hv : ce.vm = .none) (hcl : s.vm.findClass E = some ce.cls)
    (hx : ∀ t : State, t.heap = H → s.vm.Alike t.vm → XC E s t) (hf : ∀ z ∈ locs, free z.base) (hc : cells ≤ mc) (hs : slots ≤ ms) :
    vx_W p l e R s m args below meth c H locs cells slots (vx_MQ below Qc XC args s mc ms free) (F0 m pc ls rest) q := by
  intro T hT X
  obtain ⟨st1, hrun, hend, hW, hsm⟩ := X.leaveThrown q (g := F0 m pc ls rest) rfl rfl rfl hout hlocks
  have hcell9 : (T.setFrames (.throwing q :: below)).heap[q]? = some ce := by
    show T.heap[q]? = some ce
    rw [hT]; exact hcell
  exact ⟨_, st1, .threw q, hrun, hend, Or.inr ⟨q, rfl, E, ce, locs, hx _ hT hW.alike, hcell9, hv, hcl, hW, hsm.mono hc hs, hf⟩⟩
theorem vx_frame {U : State} {k n : Nat} (h : s.sameButNew ({ U with vm := s.vm } : State) locs k n) : s.heap.size ≤ U.heap.size ∧ ∀ q : Nat, q < s.heap.size → (∀ z ∈ locs, z.base ≠ q) → U.heap[q]? = s.heap[q]? := by
  obtain ⟨-, h2, -, -, -, h6⟩ := h
  refine ⟨h2, fun q hq hz => ?_⟩
  obtain ⟨c9, e1, e2, e3, e4⟩ := h6 q _ (Array.getElem?_eq_getElem hq)
  have hs : c9.slots = (s.heap[q]).slots := Array.ext_getElem? fun i => e4 i fun hm => hz _ hm rfl
  have h9 : c9 = s.heap[q] := by
    rw [hs] at e2
    exact e2
  have e5 : U.heap[q]? = some c9 := e1
  rw [e5, h9, Array.getElem?_eq_getElem hq]
/-- the words of a throw but the four that speak of the heap -/
def vx_no (w : Cond) : Bool := decide (w ≠ .isRef (.static Bundle.tN "UNASSIGNED_STACK" Bundle.steD)) && decide (w ≠ .isRef (.static Bundle.tN "SUPPRESSED_SENTINEL" Bundle.listD)) && decide (w ≠ .laysStatic Bundle.tN "UNASSIGNED_STACK" Bundle.steD) && decide (w ≠ .laysStatic Bundle.tN "SUPPRESSED_SENTINEL" Bundle.listD)
def vx_at0 (own : String) (ic : Nat) (X : String) (names : List String) : List Cond := (Bundle.ownAtoms0 own ic X names).filter vx_no
def vx_atS (own : String) (ic : Nat) (X : String) (names : List String) : List Cond := (Bundle.ownAtoms own ic X names).filter vx_no
/-- a word that the tables alone decide, or a good one -/
def vx_ot (w : Cond) : Bool := w.onTables || goodWord w
theorem vx_ot_at {args a' : Array Value} {s U : State} {w : Cond} (hW : s.WarmedH U.vm) (hvm : s.vm = U.vm) (hg : vx_ot w = true) (h : w.before args s = true) : w.before a' U = true := by
  simp only [vx_ot, Bool.or_eq_true] at hg
  rcases hg with hg | hg
  · exact va_tabs hg hvm h
  · exact word_at hW (good_of_word hg) h
/-- a list's words: the good ones out of the method's own list, the others by premises of their own -/
theorem vx_hat {args : Array Value} {s : State} {L B : List Cond} (h1 : ∀ w ∈ L.filter goodWord, w.before args s = true) (h2 : ∀ w ∈ L.filter (fun w => !goodWord w), w ∈ B) (h3 : ∀ w ∈ B, w.before args s = true) : ∀ w ∈ L, w.before args s = true := by
  intro w hw
  by_cases g : goodWord w = true
  · exact h1 w (List.mem_filter.mpr ⟨hw, g⟩)
  · refine h3 w (h2 w (List.mem_filter.mpr ⟨hw, ?_⟩))
    show (!goodWord w) = true
    cases hgw : goodWord w
    · rfl
    · exact absurd hgw g
theorem vx_c {args : Array Value} {s : State} {w : Cond} {B : List Cond} (h : w.before args s = true) (t : ∀ w ∈ B, w.before args s = true) : ∀ w' ∈ w :: B, w'.before args s = true := fun w' h' => (List.mem_cons.mp h').elim (fun e => by rw [e]; exact h) (t w')
theorem vx_n {args : Array Value} {s : State} : ∀ w ∈ ([] : List Cond), w.before args s = true := fun _ h => nomatch h
theorem vx_own {args : Array Value} {s : State} {L : List Cond} (h1 : ∀ w ∈ L.filter vx_no, w.before args s = true)
    (hU : (Cond.isRef (.static Bundle.tN "UNASSIGNED_STACK" Bundle.steD)).before args s = true) (hN : (Cond.isRef (.static Bundle.tN "SUPPRESSED_SENTINEL" Bundle.listD)).before args s = true)
    (lU : (Cond.laysStatic Bundle.tN "UNASSIGNED_STACK" Bundle.steD).before args s = true) (lN : (Cond.laysStatic Bundle.tN "SUPPRESSED_SENTINEL" Bundle.listD).before args s = true) : ∀ w ∈ L, w.before args s = true := by
  intro w hw
  by_cases e1 : w = .isRef (.static Bundle.tN "UNASSIGNED_STACK" Bundle.steD)
  · rw [e1]; exact hU
  · by_cases e2 : w = .isRef (.static Bundle.tN "SUPPRESSED_SENTINEL" Bundle.listD)
    · rw [e2]; exact hN
    · by_cases e3 : w = .laysStatic Bundle.tN "UNASSIGNED_STACK" Bundle.steD
      · rw [e3]; exact lU
      · by_cases e4 : w = .laysStatic Bundle.tN "SUPPRESSED_SENTINEL" Bundle.listD
        · rw [e4]; exact lN
        · exact h1 w (List.mem_filter.mpr ⟨hw, by unfold vx_no; rw [decide_eq_true e1, decide_eq_true e2, decide_eq_true e3, decide_eq_true e4]; rfl⟩)
/-- where a static field lies, its class's statics cell in H -/
def vx_L (C n d : String) (A : Nat → Prop) (U : State) (H : Heap) : Prop := ∃ (c : ClassId) (k : Class) (i : Nat) (f : Field) (a : Nat) (cell : Cell), U.vm.findClass C = some c ∧ U.fieldFound? C n d = some (c, k, i, f) ∧ f.isStatic = true ∧ k.statics = some a ∧ H[a]? = some cell ∧ cell.vm.isStatics = true ∧ cell.cls = c ∧ f.slot < cell.slots.size ∧ k.staticTypes[f.slot]? = some f.type ∧ ¬ A a
theorem vx_L.moved {C n d : String} {A : Nat → Prop} {u U : State} {H : Heap} (hvm : u.vm.Alike U.vm) (h : vx_L C n d A u H) : vx_L C n d A U H := by
  obtain ⟨c, k, i, f, a, cell, h1, h2, h3, h4, h5, h6, h7, h8, h9, h10⟩ := h
  obtain ⟨k', hi', he⟩ := State.fieldFound?_setVm hvm h2
  exact ⟨c, k', i, f, a, cell, by rw [hvm.findClass]; exact h1, hi', h3, by rw [he]; exact h4, h5, h6, h7, h8, by rw [he]; exact h9, h10⟩
theorem vx_L.kept {C n d : String} {A : Nat → Prop} {U : State} {H H1 : Heap} (h : vx_L C n d A U H) (hq : ∀ a : Nat, a < H.size → ¬ A a → H1[a]? = H[a]?) : vx_L C n d A U H1 := by
  obtain ⟨c, k, i, f, a, cell, h1, h2, h3, h4, h5, h6, h7, h8, h9, h10⟩ := h
  exact ⟨c, k, i, f, a, cell, h1, h2, h3, h4, by rw [hq a (Array.getElem?_eq_some_iff.mp h5).1 h10]; exact h5, h6, h7, h8, h9, h10⟩
theorem vx_L.narrow {C n d : String} {A B : Nat → Prop} {U : State} {H : Heap} (h : vx_L C n d A U H) (hAB : ∀ q, B q → A q) : vx_L C n d B U H := by
  obtain ⟨c, k, i, f, a, cell, h1, h2, h3, h4, h5, h6, h7, h8, h9, h10⟩ := h
  exact ⟨c, k, i, f, a, cell, h1, h2, h3, h4, h5, h6, h7, h8, h9, fun z => h10 (hAB _ z)⟩
theorem vx_L.word {C n d : String} {A : Nat → Prop} {s : State} {args : Array Value} (h : vx_L C n d A s s.heap) : (Cond.laysStatic C n d).before args s = true := by
  obtain ⟨c, k, i, f, a, cell, h1, h2, h3, h4, h5, h6, h7, h8, h9, -⟩ := h
  show (Cond.laysStatic C n d).holds args s none s [] = true
  exact Cond.laysStatic_of h1 h2 h3 h4 h5 h6 h7 h8 h9
/-- .. and what it holds: null or some reference -/
def vx_Zq (C n d : String) (A : Nat → Prop) (U : State) (H : Heap) : Prop := va_Zq C n d A U H ∧ vx_L C n d A U H
theorem vx_Zq.moved {C n d : String} {A : Nat → Prop} {u U : State} {H : Heap} (hvm : u.vm.Alike U.vm) (h : vx_Zq C n d A u H) : vx_Zq C n d A U H := ⟨va_Zq.moved hvm h.1, vx_L.moved hvm h.2⟩
theorem vx_Zq.kept {C n d : String} {A : Nat → Prop} {U : State} {H H1 : Heap} (h : vx_Zq C n d A U H) (hq : ∀ a : Nat, a < H.size → ¬ A a → H1[a]? = H[a]?) : vx_Zq C n d A U H1 := ⟨va_Zq.kept h.1 hq, vx_L.kept h.2 hq⟩
theorem vx_Zq.narrow {C n d : String} {A B : Nat → Prop} {U : State} {H : Heap} (h : vx_Zq C n d A U H) (hAB : ∀ q, B q → A q) : vx_Zq C n d B U H := ⟨va_Zq.narrow h.1 hAB, vx_L.narrow h.2 hAB⟩
theorem vx_Zqof {args : Array Value} {s : State} {C n d : String} {A : Nat → Prop} (hl : (Cond.laysStatic C n d).before args s = true) (hini : (Cond.initialized C).before args s = true) (h : (Cond.isRef (.static C n d)).before args s = true) (hA : ∀ a : Nat, a < s.heap.size → ¬ A a) : vx_Zq C n d A s s.heap := by
  refine ⟨va_Zqof hl hini h hA, ?_⟩
  obtain ⟨c, k, i, f, a, cell, h1, h2, h3, h4, h5, h6, h7, h8, h9⟩ := Cond.laysStatic_spec hl
  exact ⟨c, k, i, f, a, cell, h1, h2, h3, h4, h5, h6, h7, h8, h9, hA a (Array.getElem?_eq_some_iff.mp h5).1⟩
theorem vx_isRef {C n d : String} {v : Value} {A : Nat → Prop} {s : State} {args : Array Value} (h : va_Z C n d v A s s.heap) (hv : v.isRef = true) : (Cond.isRef (.static C n d)).before args s = true := by
  obtain ⟨cf, kf, fi, f, a, cell, h1, h2, h3, h4, h5, h6, h7, -⟩ := h
  have he : (Term.static C n d).eval args s none [] s = some v := by
    simp [Term.eval, State.fieldNamed?, h1, h2, h4, h5, h6, h7]
  simp only [Cond.before, Cond.holds, Cond.value, he]
  cases v <;> simp_all [Value.isRef]
theorem vx_isRefq {C n d : String} {A : Nat → Prop} {s : State} {args : Array Value} (h : va_Zq C n d A s s.heap) : (Cond.isRef (.static C n d)).before args s = true := by
  rcases h with h | ⟨t, h⟩
  · exact vx_isRef h rfl
  · exact vx_isRef h rfl
/-- the same frame, seen from here: as if the method were called anew in this heap -/
theorem vx_rebase {T : State} (X : Stand p l e R s m args below meth c T locs cells slots) {R' : Room} (hf : R'.frames ≤ R.frames) (hl : R'.locals ≤ R.locals) (hc : cells + R'.cells ≤ R.cells) (hs : slots + R'.slots ≤ R.slots) :
    Stand p l e R' ((T.setVm s.vm).setFrames (.invoking m args :: below)) m args below meth c T [] 0 0 := by
  have htop : (T.setVm s.vm).topJava?.isSome := X.here.top
  have hF : ((T.setVm s.vm).setFrames (.invoking m args :: below)).frames = .invoking m args :: below := State.frames_setFrames _ (State.cur_lt_of_top htop)
  obtain ⟨g₀, hg0⟩ := Option.isSome_iff_exists.mp htop
  obtain ⟨r, hr⟩ := State.topJava?_eq_some.mp hg0
  have hl9 : e.platform.stackLimits (T.setVm s.vm).me = e.platform.stackLimits s.me := X.limits
  have hb9 : (T.setVm s.vm).me.stackBytes = s.me.stackBytes := X.bytes
  refine ⟨X.admits, X.cas, X.clock, hF, ?_, X.hears, X.method, X.code, X.here, X.tail, X.warmed, ?_, ?_, ?_⟩
  · have h := X.room
    have hU : ((T.setVm s.vm).setFrames (.invoking m args :: below)).localsInUse = s.localsInUse := by
      rw [State.localsInUse_invoking hF (meth := meth) (c := c) X.method X.code, State.localsInUse_invoking X.frames X.method X.code]
    simp only [State.hasRoom, Bool.and_eq_true, decide_eq_true_eq] at h ⊢
    obtain ⟨⟨⟨⟨h1, h2, h3, h4, h5, h6⟩, h7⟩, h8⟩, h9⟩ := h
    rw [X.frames, List.length_cons] at h2 h3
    have q1 := X.heapSize
    have q2 := X.used
    simp only [hF, hU, List.length_cons, State.stackLimits_setFrames, State.stackBytes_setFrames, hl9, hb9]
    refine ⟨⟨⟨⟨by omega, by omega, by omega, by omega, by omega, h6⟩, ?_⟩, ?_⟩, X.book⟩
    · show T.heap.size + R'.cells ≤ e.platform.maxCells
      omega
    · show T.slotsUsed + R'.slots ≤ e.platform.maxSlots
      omega
  · rw [State.stackLimits_setFrames]; rfl
  · rw [State.stackBytes_setFrames]; rfl
  · refine ⟨?_, Nat.le_refl _, Nat.le_refl _, ?_, ?_, fun a c9 h9 => ⟨c9, h9, rfl, rfl, fun _ _ => rfl⟩⟩
    · obtain ⟨t, ht, -⟩ := State.frames_cons hr
      show T.setVm s.vm = { ((T.setVm s.vm).setFrames (.invoking m args :: below)).setFrames (T.setVm s.vm).frames with heap := T.heap, slotsUsed := T.slotsUsed }
      rw [State.setFrames_setFrames, State.setFrames_self ht]
      rfl
    · show T.slotsUsed = T.slotsUsed + ((T.heap.toList.drop T.heap.size).map (·.slots.size)).sum
      rw [List.drop_eq_nil_of_le (Nat.le_of_eq Array.length_toList)]
      rfl
    · show ((T.heap.toList.drop T.heap.size).map (·.slots.size)).sum ≤ 0
      rw [List.drop_eq_nil_of_le (Nat.le_of_eq Array.length_toList)]
      exact Nat.le_refl _
/-- 'throw new E()': new; dup; invokespecial; athrow -/
theorem vx_throw0 {cc : ByteArray} {pc : Nat} (hexec : p.tables.exec = Jvm.exec) (hb : c.code = cc) (hl : l.stackTraces = false) {own cls : String} {names : List String} {ik ic mc ms : Nat} {A : Nat → Prop}
    (hown : s.vm.findClass own = some m.cls) (hcls : Bundle.fit cls = true) (hnames : ∀ n ∈ names, Bundle.fit n = true)
    (hk : (Cond.classLink own ik cls).before args s = true) (hini : (Cond.initialized cls).before args s = true) (hat : ∀ w ∈ vx_at0 own ic cls names, w.before args s = true)
    (hgood : ∀ w ∈ Cond.classLink own ik cls :: Cond.initialized cls :: vx_at0 own ic cls names, vx_ot w = true)
    (hU : vx_Zq Bundle.tN "UNASSIGNED_STACK" Bundle.steD A s s.heap) (hN : vx_Zq Bundle.tN "SUPPRESSED_SENTINEL" Bundle.listD A s s.heap) (hS : va_S A s.heap H locs) (hsize : ls.size = c.maxLocals)
    (d0 : decode cc pc = .ok (.new ik, 3)) (d3 : decode cc (pc + 3) = .ok (.dup, 1)) (d4 : decode cc (pc + 4) = .ok (.invokespecial ic, 3)) (d7 : decode cc (pc + 7) = .ok (.athrow, 1))
    (hout : ∀ x ∈ c.exceptionTable.toList, covers x (pc + 7) = false)
    (hRframes : names.length + 3 < R.frames) (hRlocals : (rest.map fun v => v.category).sum + (13 * (names.length + 1) + 42) ≤ R.locals) (hRcells : cells + 1 ≤ R.cells) (hRslots : slots + 6 ≤ R.slots) (hlocks : meth.locks = false)
    (hx : ∀ t : State, s.vm.Alike t.vm → H.size ≤ t.heap.size → (∀ q : Nat, q < H.size → t.heap[q]? = H[q]?) → XC cls s t)
    (hf : ∀ z ∈ locs, free z.base) (hc : cells + 1 ≤ mc) (hs : slots + 6 ≤ ms) :
    W p l e R s m args below meth c H locs cells slots (vx_MQ below Qc XC args s mc ms free) (F0 m pc ls rest) := by
  intro T hT X
  have htr : e.platform.stackTraces = false := (show e.platform.stackTraces = l.stackTraces by rw [X.admits.platform]).trans hl
  have Y := vx_rebase X (R' := { frames := R.frames, locals := R.locals, cells := 1, slots := 6 }) (Nat.le_refl _) (Nat.le_refl _) hRcells hRslots
  obtain ⟨s', hA⟩ : ∃ z, z = (T.setVm s.vm).setFrames (.invoking m args :: below) := ⟨_, rfl⟩
  rw [← hA] at Y
  have hvm : s'.vm = s.vm := by rw [hA]; rfl
  have hhp : s'.heap = H := by rw [hA]; exact hT
  have hW0 : s.WarmedH s'.vm := by rw [hvm]; exact State.WarmedH.refl s
  have hat' : ∀ w ∈ vx_at0 own ic cls names, w.before args s' = true := fun w hw => vx_ot_at hW0 hvm.symm (hgood w (List.mem_cons_of_mem _ (List.mem_cons_of_mem _ hw))) (hat w hw)
  have hk' : (Cond.classLink own ik cls).before args s' = true := vx_ot_at hW0 hvm.symm (hgood _ List.mem_cons_self) hk
  have hini' : (Cond.initialized cls).before args s' = true := vx_ot_at hW0 hvm.symm (hgood _ (List.mem_cons_of_mem _ List.mem_cons_self)) hini
  have hU' : vx_Zq Bundle.tN "UNASSIGNED_STACK" Bundle.steD A s' s'.heap := by rw [hhp]; exact vx_Zq.moved hW0.alike (hU.kept hS.2.1)
  have hN' : vx_Zq Bundle.tN "SUPPRESSED_SENTINEL" Bundle.listD A s' s'.heap := by rw [hhp]; exact vx_Zq.moved hW0.alike (hN.kept hS.2.1)
  have h : ∀ w ∈ Bundle.ownAtoms0 own ic cls names, w.before args s' = true := vx_own hat' (vx_isRefq hU'.1) (vx_isRefq hN'.1) hU'.2.word hN'.2.word
  have hown' : s'.vm.findClass own = some m.cls := by rw [hvm]; exact hown
  have hins : (Cond.instantiable cls 6).before args s' = true := h _ (by simp [Bundle.ownAtoms0])
  obtain ⟨vm₁, cX, kX, hfX, hkX, -, -, X₁, st1⟩ := Y.newCold hexec (own := own) (C := cls) (index := ik) (n := 6) hown' hk' hins hini'
    (g := F0 m pc ls rest) rfl (by rw [hb]; exact d0) (Nat.le_refl _) (Nat.le_refl _)
  generalize hT1 : (T.setVm vm₁).pushCell { cls := cX, slots := kX.instanceTypes.map defaultValue, vm := .none } = T1 at X₁ st1
  have hcat : (Value.ref T.heap.size).category = 1 := rfl
  have hcellA : T1.heap[T.heap.size]? = some (freshCell cX kX) := by rw [← hT1]; exact State.heap_pushCell_size _ _
  have d3' : decode c.code (pc + 3) = .ok (.dup, 1) := by rw [hb]; exact d3
  obtain ⟨U, hsteps, hrun, hend, hW, hsame, ce, hce, hO⟩ := X₁.ctorThrow0 hexec htr (own := own) (cls := cls) (names := names) (ic := ic) hown' hcls hnames h (fun x hx => nomatch hx) hfX hkX hcellA (by rw [hhp, hT]; exact Nat.le_refl _)
    (g := { method := m, pc := pc + 4, locals := ls, stack := .ref T.heap.size :: .ref T.heap.size :: rest, locked := none }) rfl hsize rfl rfl (rest := rest) rfl
    (by rw [hb]; exact d4) (by rw [hb]; exact d7) hout hRframes (by simp only [List.map_cons, List.sum_cons, hcat]; omega) hlocks
  obtain ⟨f1, f2⟩ := vx_frame hsame
  rw [hhp] at f1 f2
  have hWs : s.WarmedH U.vm := State.WarmedH.trans hW0 hW
  have hcl : s.vm.findClass cls = some ce.cls := by
    have h9 := hO.cls
    rw [hvm] at h9
    exact h9
  have hall : s.sameButNew ({ U with vm := s.vm } : State) locs mc ms := by
    subst hA
    obtain ⟨e1, e2⟩ := hsame
    rw [State.setFrames_setFrames] at e1
    have h2 : (T.setVm s.vm).sameButNew ({ U with vm := s.vm } : State) [] (0 + 1) (0 + 6) := ⟨e1, e2⟩
    have h3 := X.same.trans h2
    rw [List.append_nil] at h3
    exact h3.mono hc hs
  refine ⟨U, ?_, .threw T.heap.size, hrun, hend, Or.inr ⟨T.heap.size, rfl, cls, ce, locs, hx U hWs.alike f1 (fun q hq => f2 q hq (fun z hz => nomatch hz)), hce, hO.vm, hcl, hWs, hall, hf⟩⟩
  refine st1 _ ?_
  show Steps p.tables e below (T1.setTop { method := m, pc := pc + 3, locals := ls, stack := .ref T.heap.size :: rest, locked := none }) _
  jvm_step X₁.here [X₁.here.top, hexec, d3', Value.category]
  exact hsteps
/-- 'throw new E("text")': new; dup; ldc; invokespecial; athrow -/
theorem vx_throwS {cc : ByteArray} {pc : Nat} (hexec : p.tables.exec = Jvm.exec) (hb : c.code = cc) (hl : l.stackTraces = false) {own cls text : String} {names : List String} {ik is ic mc ms sa : Nat} {A : Nat → Prop}
    (hown : s.vm.findClass own = some m.cls) (hcls : Bundle.fit cls = true) (hnames : ∀ n ∈ names, Bundle.fit n = true)
    (hk : (Cond.classLink own ik cls).before args s = true) (hini : (Cond.initialized cls).before args s = true) (hstr : vk_R own is text sa s) (hat : ∀ w ∈ vx_atS own ic cls names, w.before args s = true)
    (hgood : ∀ w ∈ Cond.classLink own ik cls :: Cond.initialized cls :: vx_atS own ic cls names, vx_ot w = true)
    (hU : vx_Zq Bundle.tN "UNASSIGNED_STACK" Bundle.steD A s s.heap) (hN : vx_Zq Bundle.tN "SUPPRESSED_SENTINEL" Bundle.listD A s s.heap) (hS : va_S A s.heap H locs) (hsize : ls.size = c.maxLocals)
    (d0 : decode cc pc = .ok (.new ik, 3)) (d3 : decode cc (pc + 3) = .ok (.dup, 1)) (d4 : decode cc (pc + 4) = .ok (.ldc is, 2)) (d6 : decode cc (pc + 6) = .ok (.invokespecial ic, 3)) (d9 : decode cc (pc + 9) = .ok (.athrow, 1))
    (hout : ∀ x ∈ c.exceptionTable.toList, covers x (pc + 9) = false)
    (hRframes : names.length + 3 < R.frames) (hRlocals : (rest.map fun v => v.category).sum + (13 * (names.length + 1) + 43) ≤ R.locals) (hRcells : cells + 1 ≤ R.cells) (hRslots : slots + 6 ≤ R.slots) (hlocks : meth.locks = false)
    (hx : ∀ t : State, s.vm.Alike t.vm → H.size ≤ t.heap.size → (∀ q : Nat, q < H.size → t.heap[q]? = H[q]?) → XC cls s t)
    (hf : ∀ z ∈ locs, free z.base) (hc : cells + 1 ≤ mc) (hs : slots + 6 ≤ ms) :
    W p l e R s m args below meth c H locs cells slots (vx_MQ below Qc XC args s mc ms free) (F0 m pc ls rest) := by
  intro T hT X
  have htr : e.platform.stackTraces = false := (show e.platform.stackTraces = l.stackTraces by rw [X.admits.platform]).trans hl
  have Y := vx_rebase X (R' := { frames := R.frames, locals := R.locals, cells := 1, slots := 6 }) (Nat.le_refl _) (Nat.le_refl _) hRcells hRslots
  obtain ⟨s', hA⟩ : ∃ z, z = (T.setVm s.vm).setFrames (.invoking m args :: below) := ⟨_, rfl⟩
  rw [← hA] at Y
  have hvm : s'.vm = s.vm := by rw [hA]; rfl
  have hhp : s'.heap = H := by rw [hA]; exact hT
  have hW0 : s.WarmedH s'.vm := by rw [hvm]; exact State.WarmedH.refl s
  have hat' : ∀ w ∈ vx_atS own ic cls names, w.before args s' = true := fun w hw => vx_ot_at hW0 hvm.symm (hgood w (List.mem_cons_of_mem _ (List.mem_cons_of_mem _ hw))) (hat w hw)
  have hk' : (Cond.classLink own ik cls).before args s' = true := vx_ot_at hW0 hvm.symm (hgood _ List.mem_cons_self) hk
  have hini' : (Cond.initialized cls).before args s' = true := vx_ot_at hW0 hvm.symm (hgood _ (List.mem_cons_of_mem _ List.mem_cons_self)) hini
  have hU' : vx_Zq Bundle.tN "UNASSIGNED_STACK" Bundle.steD A s' s'.heap := by rw [hhp]; exact vx_Zq.moved hW0.alike (hU.kept hS.2.1)
  have hN' : vx_Zq Bundle.tN "SUPPRESSED_SENTINEL" Bundle.listD A s' s'.heap := by rw [hhp]; exact vx_Zq.moved hW0.alike (hN.kept hS.2.1)
  have h : ∀ w ∈ Bundle.ownAtoms own ic cls names, w.before args s' = true := vx_own hat' (vx_isRefq hU'.1) (vx_isRefq hN'.1) hU'.2.word hN'.2.word
  have hown' : s'.vm.findClass own = some m.cls := by rw [hvm]; exact hown
  have hins : (Cond.instantiable cls 6).before args s' = true := h _ (by simp [Bundle.ownAtoms])
  obtain ⟨vm₁, cX, kX, hfX, hkX, -, -, X₁, st1⟩ := Y.newCold hexec (own := own) (C := cls) (index := ik) (n := 6) hown' hk' hins hini'
    (g := F0 m pc ls rest) rfl (by rw [hb]; exact d0) (Nat.le_refl _) (Nat.le_refl _)
  generalize hT1 : (T.setVm vm₁).pushCell { cls := cX, slots := kX.instanceTypes.map defaultValue, vm := .none } = T1 at X₁ st1
  have hcat : (Value.ref T.heap.size).category = 1 := rfl
  have hcellA : T1.heap[T.heap.size]? = some (freshCell cX kX) := by rw [← hT1]; exact State.heap_pushCell_size _ _
  have d3' : decode c.code (pc + 3) = .ok (.dup, 1) := by rw [hb]; exact d3
  have d4' : decode c.code (pc + 4) = .ok (.ldc is, 2) := by rw [hb]; exact d4
  have hstr' : vk_R own is text sa s' := vk_R.warm hW0 hstr
  obtain ⟨U, hsteps, hrun, hend, hW, hsame, ce, hce, hO⟩ := X₁.ctorThrowS hexec htr (own := own) (cls := cls) (names := names) (ic := ic) hown' hcls hnames h (fun x hx => nomatch hx) hfX hkX hcellA (by rw [hhp, hT]; exact Nat.le_refl _) (msg := .ref sa) rfl
    (g := { method := m, pc := pc + 6, locals := ls, stack := .ref sa :: .ref T.heap.size :: .ref T.heap.size :: rest, locked := none }) rfl hsize rfl rfl (rest := rest) rfl
    (by rw [hb]; exact d6) (by rw [hb]; exact d9) hout hRframes (by simp only [List.map_cons, List.sum_cons, hcat]; omega) hlocks
  obtain ⟨f1, f2⟩ := vx_frame hsame
  rw [hhp] at f1 f2
  have hWs : s.WarmedH U.vm := State.WarmedH.trans hW0 hW
  have hcl : s.vm.findClass cls = some ce.cls := by
    have h9 := hO.cls
    rw [hvm] at h9
    exact h9
  have hall : s.sameButNew ({ U with vm := s.vm } : State) locs mc ms := by
    subst hA
    obtain ⟨e1, e2⟩ := hsame
    rw [State.setFrames_setFrames] at e1
    have h2 : (T.setVm s.vm).sameButNew ({ U with vm := s.vm } : State) [] (0 + 1) (0 + 6) := ⟨e1, e2⟩
    have h3 := X.same.trans h2
    rw [List.append_nil] at h3
    exact h3.mono hc hs
  refine ⟨U, ?_, .threw T.heap.size, hrun, hend, Or.inr ⟨T.heap.size, rfl, cls, ce, locs, hx U hWs.alike f1 (fun q hq => f2 q hq (fun z hz => nomatch hz)), hce, hO.vm, hcl, hWs, hall, hf⟩⟩
  refine st1 _ ?_
  show Steps p.tables e below (T1.setTop { method := m, pc := pc + 3, locals := ls, stack := .ref T.heap.size :: rest, locked := none }) _
  jvm_step X₁.here [X₁.here.top, hexec, d3', Value.category]
  exact X₁.ldcString hexec (own := own) (text := text) (index := is) (a := sa) hown' hstr'.1 hstr'.2
    (g := { method := m, pc := pc + 4, locals := ls, stack := .ref T.heap.size :: .ref T.heap.size :: rest, locked := none }) rfl d4' _ hsteps
/-- 'throw new E("text")', the text by a wide index -/
theorem vx_throwSW {cc : ByteArray} {pc : Nat} (hexec : p.tables.exec = Jvm.exec) (hb : c.code = cc) (hl : l.stackTraces = false) {own cls text : String} {names : List String} {ik is ic mc ms sa : Nat} {A : Nat → Prop}
    (hown : s.vm.findClass own = some m.cls) (hcls : Bundle.fit cls = true) (hnames : ∀ n ∈ names, Bundle.fit n = true)
    (hk : (Cond.classLink own ik cls).before args s = true) (hini : (Cond.initialized cls).before args s = true) (hstr : vk_R own is text sa s) (hat : ∀ w ∈ vx_atS own ic cls names, w.before args s = true)
    (hgood : ∀ w ∈ Cond.classLink own ik cls :: Cond.initialized cls :: vx_atS own ic cls names, vx_ot w = true)
    (hU : vx_Zq Bundle.tN "UNASSIGNED_STACK" Bundle.steD A s s.heap) (hN : vx_Zq Bundle.tN "SUPPRESSED_SENTINEL" Bundle.listD A s s.heap) (hS : va_S A s.heap H locs) (hsize : ls.size = c.maxLocals)
    (d0 : decode cc pc = .ok (.new ik, 3)) (d3 : decode cc (pc + 3) = .ok (.dup, 1)) (d4 : decode cc (pc + 4) = .ok (.ldc_w is, 3)) (d7 : decode cc (pc + 7) = .ok (.invokespecial ic, 3)) (d10 : decode cc (pc + 10) = .ok (.athrow, 1))
    (hout : ∀ x ∈ c.exceptionTable.toList, covers x (pc + 10) = false)
    (hRframes : names.length + 3 < R.frames) (hRlocals : (rest.map fun v => v.category).sum + (13 * (names.length + 1) + 43) ≤ R.locals) (hRcells : cells + 1 ≤ R.cells) (hRslots : slots + 6 ≤ R.slots) (hlocks : meth.locks = false)
    (hx : ∀ t : State, s.vm.Alike t.vm → H.size ≤ t.heap.size → (∀ q : Nat, q < H.size → t.heap[q]? = H[q]?) → XC cls s t)
    (hf : ∀ z ∈ locs, free z.base) (hc : cells + 1 ≤ mc) (hs : slots + 6 ≤ ms) :
    W p l e R s m args below meth c H locs cells slots (vx_MQ below Qc XC args s mc ms free) (F0 m pc ls rest) := by
  intro T hT X
  have htr : e.platform.stackTraces = false := (show e.platform.stackTraces = l.stackTraces by rw [X.admits.platform]).trans hl
  have Y := vx_rebase X (R' := { frames := R.frames, locals := R.locals, cells := 1, slots := 6 }) (Nat.le_refl _) (Nat.le_refl _) hRcells hRslots
  obtain ⟨s', hA⟩ : ∃ z, z = (T.setVm s.vm).setFrames (.invoking m args :: below) := ⟨_, rfl⟩
  rw [← hA] at Y
  have hvm : s'.vm = s.vm := by rw [hA]; rfl
  have hhp : s'.heap = H := by rw [hA]; exact hT
  have hW0 : s.WarmedH s'.vm := by rw [hvm]; exact State.WarmedH.refl s
  have hat' : ∀ w ∈ vx_atS own ic cls names, w.before args s' = true := fun w hw => vx_ot_at hW0 hvm.symm (hgood w (List.mem_cons_of_mem _ (List.mem_cons_of_mem _ hw))) (hat w hw)
  have hk' : (Cond.classLink own ik cls).before args s' = true := vx_ot_at hW0 hvm.symm (hgood _ List.mem_cons_self) hk
  have hini' : (Cond.initialized cls).before args s' = true := vx_ot_at hW0 hvm.symm (hgood _ (List.mem_cons_of_mem _ List.mem_cons_self)) hini
  have hU' : vx_Zq Bundle.tN "UNASSIGNED_STACK" Bundle.steD A s' s'.heap := by rw [hhp]; exact vx_Zq.moved hW0.alike (hU.kept hS.2.1)
  have hN' : vx_Zq Bundle.tN "SUPPRESSED_SENTINEL" Bundle.listD A s' s'.heap := by rw [hhp]; exact vx_Zq.moved hW0.alike (hN.kept hS.2.1)
  have h : ∀ w ∈ Bundle.ownAtoms own ic cls names, w.before args s' = true := vx_own hat' (vx_isRefq hU'.1) (vx_isRefq hN'.1) hU'.2.word hN'.2.word
  have hown' : s'.vm.findClass own = some m.cls := by rw [hvm]; exact hown
  have hins : (Cond.instantiable cls 6).before args s' = true := h _ (by simp [Bundle.ownAtoms])
  obtain ⟨vm₁, cX, kX, hfX, hkX, -, -, X₁, st1⟩ := Y.newCold hexec (own := own) (C := cls) (index := ik) (n := 6) hown' hk' hins hini'
    (g := F0 m pc ls rest) rfl (by rw [hb]; exact d0) (Nat.le_refl _) (Nat.le_refl _)
  generalize hT1 : (T.setVm vm₁).pushCell { cls := cX, slots := kX.instanceTypes.map defaultValue, vm := .none } = T1 at X₁ st1
  have hcat : (Value.ref T.heap.size).category = 1 := rfl
  have hcellA : T1.heap[T.heap.size]? = some (freshCell cX kX) := by rw [← hT1]; exact State.heap_pushCell_size _ _
  have d3' : decode c.code (pc + 3) = .ok (.dup, 1) := by rw [hb]; exact d3
  have d4' : decode c.code (pc + 4) = .ok (.ldc_w is, 3) := by rw [hb]; exact d4
  have hstr' : vk_R own is text sa s' := vk_R.warm hW0 hstr
  obtain ⟨U, hsteps, hrun, hend, hW, hsame, ce, hce, hO⟩ := X₁.ctorThrowS hexec htr (own := own) (cls := cls) (names := names) (ic := ic) hown' hcls hnames h (fun x hx => nomatch hx) hfX hkX hcellA (by rw [hhp, hT]; exact Nat.le_refl _) (msg := .ref sa) rfl
    (g := { method := m, pc := pc + 7, locals := ls, stack := .ref sa :: .ref T.heap.size :: .ref T.heap.size :: rest, locked := none }) rfl hsize rfl rfl (rest := rest) rfl
    (by rw [hb]; exact d7) (by rw [hb]; exact d10) hout hRframes (by simp only [List.map_cons, List.sum_cons, hcat]; omega) hlocks
  obtain ⟨f1, f2⟩ := vx_frame hsame
  rw [hhp] at f1 f2
  have hWs : s.WarmedH U.vm := State.WarmedH.trans hW0 hW
  have hcl : s.vm.findClass cls = some ce.cls := by
    have h9 := hO.cls
    rw [hvm] at h9
    exact h9
  have hall : s.sameButNew ({ U with vm := s.vm } : State) locs mc ms := by
    subst hA
    obtain ⟨e1, e2⟩ := hsame
    rw [State.setFrames_setFrames] at e1
    have h2 : (T.setVm s.vm).sameButNew ({ U with vm := s.vm } : State) [] (0 + 1) (0 + 6) := ⟨e1, e2⟩
    have h3 := X.same.trans h2
    rw [List.append_nil] at h3
    exact h3.mono hc hs
  refine ⟨U, ?_, .threw T.heap.size, hrun, hend, Or.inr ⟨T.heap.size, rfl, cls, ce, locs, hx U hWs.alike f1 (fun q hq => f2 q hq (fun z hz => nomatch hz)), hce, hO.vm, hcl, hWs, hall, hf⟩⟩
  refine st1 _ ?_
  show Steps p.tables e below (T1.setTop { method := m, pc := pc + 3, locals := ls, stack := .ref T.heap.size :: rest, locked := none }) _
  jvm_step X₁.here [X₁.here.top, hexec, d3', Value.category]
  exact X₁.ldcStringW hexec (own := own) (text := text) (index := is) (a := sa) hown' hstr'.1 hstr'.2
    (g := { method := m, pc := pc + 4, locals := ls, stack := .ref T.heap.size :: .ref T.heap.size :: rest, locked := none }) rfl d4' _ hsteps
end Ends
section Bodies
variable {l : Launch}
theorem vx_ofW {y : MethodName} {ws ws' : List Cond} {rm : Room} {Pc : Array Value → State → Prop} {Qc : Array Value → State → Outcome → State → Prop} {XC : String → State → State → Prop} {mc ms : Nat} {free : Addr → Prop} {cc : ByteArray} {maxL : Nat} {ret : Option FieldType}
    (hy : plainName y.cls = true) (hw : ws = Cond.code y cc maxL ret :: ws')
    (body : ∀ p e s m args below meth c s₁, BodyLoose p l y (headSpec ws rm) cc maxL ret e s m args below meth c s₁ → c.maxLocals = maxL → (∀ x ∈ c.exceptionTable.toList, False) → Pc args s →
      W p l e (headSpec ws rm).room s m args below meth c s.heap [] 0 0 (vx_MQ below Qc XC args s mc ms free) (entryFrame m args maxL)) : vx_Met l y ws rm Pc Qc XC mc ms free := by
  refine MetFree.of_bodyS (code := cc) (maxLocals := maxL) (ret := ret) hy ?_ ?_
  · intro args s m h hn
    obtain ⟨meth, c, h1, h2, h3, h4, h5, h6, -, -⟩ := Cond.code_spec hn (atoms_spec (ws := ws) h _ (by rw [hw]; exact List.mem_cons_self))
    exact ⟨meth, c, h1, h2, h3, h4, h5, h6⟩
  · intro p e s m args below meth c s₁ B hml hP _
    have hh0 : s₁.heap = s.heap := by rw [B.state]; rfl
    have ht : ∀ x ∈ c.exceptionTable.toList, False := by
      obtain ⟨meth9, c9, h1, h2, -, -, -, -, h7, -⟩ := Cond.code_spec B.named (atoms_spec (ws := ws) B.pre _ (by rw [hw]; exact List.mem_cons_self))
      cases Option.some.inj (h1.symm.trans B.method)
      cases Option.some.inj (h2.symm.trans (Stand.of_body B).code)
      intro x hx
      rw [Array.isEmpty_iff.mp h7] at hx
      cases hx
    obtain ⟨t, a1, o, b1, b2, b3⟩ := body p e s m args below meth c s₁ B hml ht hP s₁ hh0 (Stand.of_body B)
    exact ⟨t, o, a1, b1, b2, b3⟩
/-- the table of a body with handlers -/
theorem vx_table {p : Program} {x y : MethodName} {S : Spec} {cc bytes : ByteArray} {maxL maxL' : Nat} {ret ret' : Option FieldType} {e : Env} {s s₁ : State} {m : MethodId} {args : Array Value} {below : List Frame} {meth : Method} {c : Code} {hh : List (Nat × Nat × Nat × Nat)}
    (B : BodyLoose p l y S cc maxL ret e s m args below meth c s₁) (h : (Cond.codeWith y bytes maxL' ret' hh).before args s = true) : c.exceptionTable.toList = tableOf hh := by
  obtain ⟨m9, meth9, c9, hn9, h1, h2, -, -, h6, -⟩ := Cond.codeWith_spec h
  cases Option.some.inj (hn9.symm.trans B.named)
  cases Option.some.inj (h1.symm.trans B.method)
  cases Option.some.inj (h2.symm.trans (Stand.of_body B).code)
  rw [← h6, table_eq]
end Bodies
end VXA
/-! ===== END ===== -/
/-! ===== BEGIN a static call of a method with an exception table ===== -/
section VXS
variable {p : Program} {l : Launch} {e : Env} {R : Room} {s : State} {m : MethodId} {args : Array Value} {below : List Frame} {meth : Method} {c : Code} {T : State} {H : Heap} {locs : List Loc} {cells slots : Nat}
abbrev vx_CSW (R : Room) (s : State) (args : Array Value) (own : String) (index : Nat) (y : MethodName) (bytes : ByteArray) (maxL : Nat) (ret : Option FieldType) (hh : List (Nat × Nat × Nat × Nat)) (ws : List Cond) (rm : Room) (mc ms n : Nat) : Prop :=
  (rm.cells = mc ∧ rm.slots = ms ∧ rm.frames + 1 ≤ R.frames ∧ 8 + (maxL + 11) + rm.locals ≤ R.locals ∧ (∀ w ∈ ws, ∀ (a' : Array Value) (U : State), s.WarmedH U.vm → w.before a' U = true) ∧ Cond.codeWith y bytes maxL ret hh ∈ ws) ∧
  (Cond.codeWith y bytes maxL ret hh).before args s = true ∧ (Cond.initialized y.cls).before args s = true ∧ (y.cls ≠ "java/lang/invoke/MethodHandle" ∧ y.cls ≠ "java/lang/invoke/VarHandle") ∧
  (∀ sig, parseMethodDescriptor y.desc = some sig → n = sig.parameters.length) ∧ (Cond.methodLink own index y).before args s = true ∧ (Cond.static y).before args s = true
theorem vx_cwSW {own : String} {index maxL mc ms : Nat} {y : MethodName} {bytes : ByteArray} {ret : Option FieldType} {hh : List (Nat × Nat × Nat × Nat)} {Ts ws ws' : List Cond} {rm : Room} (n : Nat) (ht : ∀ w ∈ Ts, w.before args s = true) (hT : GoodIn Ts (va_wsS own index y ws)) (hw : ws = Cond.codeWith y bytes maxL ret hh :: ws') (hrc : rm.cells = mc) (hrs : rm.slots = ms)
    (hd : y.cls ≠ "java/lang/invoke/MethodHandle" ∧ y.cls ≠ "java/lang/invoke/VarHandle" ∧ (parseMethodDescriptor y.desc).map (fun d => d.parameters.length) = some n) (hR : rm.frames + 1 ≤ R.frames ∧ 8 + (maxL + 11) + rm.locals ≤ R.locals) :
    vx_CSW R s args own index y bytes maxL ret hh ws rm mc ms n := by
  have ok : ∀ w ∈ va_wsS own index y ws, w.before args s = true := fun w h => ht w (hT w h).1
  have hG : GoodIn Ts ws := fun w h => hT w (by unfold va_wsS; exact List.mem_append_right _ h)
  have hc : Cond.codeWith y bytes maxL ret hh ∈ ws := by rw [hw]; exact List.mem_cons_self
  refine ⟨⟨hrc, hrs, hR.1, hR.2, pay_in ht hG, hc⟩, ht _ (hG _ hc).1, ok _ (by simp [va_wsS]), ⟨hd.1, hd.2.1⟩, fun sig h => ?_, ok _ (by simp [va_wsS]), ok _ (by simp [va_wsS])⟩
  have h2 := hd.2.2
  rw [h] at h2
  exact (Option.some.inj h2).symm
theorem vx_callSW (X : Stand p l e R s m args below meth c T locs cells slots) (hexec : p.tables.exec = Jvm.exec) {own : String} {index : Nat} {y : MethodName} {bytes : ByteArray} {maxL : Nat} {ret : Option FieldType} {hh : List (Nat × Nat × Nat × Nat)}
    (hown : s.vm.findClass own = some m.cls) (hlink : (Cond.methodLink own index y).before args s = true) (hstat : (Cond.static y).before args s = true) (hinit : (Cond.initialized y.cls).before args s = true)
    (hcode : (Cond.codeWith y bytes maxL ret hh).before args s = true) (hy : y.cls ≠ "java/lang/invoke/MethodHandle" ∧ y.cls ≠ "java/lang/invoke/VarHandle")
    {W9 : Nat} {Pre : Pt → Array Value → Prop} {Post : Pt → Array Value → Option Value → Pt → Prop} (hK : Back l R p e below s args y 3 W9 Pre Post)
    {g : JFrame} (hg : g.method = m) (hsize : g.locals.size = c.maxLocals) {argsL rest : List Value} (hlen : ∀ sig, parseMethodDescriptor y.desc = some sig → argsL.length = sig.parameters.length)
    (hstack : g.stack = argsL.reverse ++ rest) (hW : 2 * g.monitorRoom + (rest.map fun v => v.category).sum ≤ W9) (hdg : decode c.code g.pc = .ok (.invokestatic index, 3))
    (hpre : ∀ vm₁, s.WarmedH vm₁ → Pre ⟨T.setVm vm₁, locs, cells, slots⟩ argsL.toArray) :
    ∃ (v : Option Value) (vm₁ : Vm) (B : Pt), s.WarmedH vm₁ ∧ Stand p l e R s m args below meth c B.U B.locs B.cells B.slots ∧ Post ⟨T.setVm vm₁, locs, cells, slots⟩ argsL.toArray v B ∧
      ∀ target, Steps p.tables e below (B.U.setTop { g with pc := g.pc + 3, stack := v.toList ++ rest }) target → Steps p.tables e below (T.setTop g) target := by
  obtain ⟨mk, methM, cM, hnamed, hmethM, -, -, -, -, -, -, hsigM⟩ := Cond.codeWith_spec hcode
  have hstatic : methM.isStatic = true := Cond.static_spec hnamed hmethM hstat
  obtain ⟨kP, hkP, -⟩ := className_of_methodNamed hnamed
  have hinitP : kP.init = .initialized := Cond.initialized_spec (findClass_of_methodNamed hnamed) hkP hinit
  obtain ⟨vm₁, X₁, hstep₁⟩ := X.invokestatic hexec hown hlink hnamed hmethM hstatic hkP hinitP hy (g := g) hg (argsL := argsL) (rest := rest) (hlen _ hsigM) hstack hdg
  obtain ⟨v, B, X', hpost, hsteps⟩ := hK m meth c ⟨T.setVm vm₁, locs, cells, slots⟩ { g with stack := rest } (.invokestatic index) mk argsL.toArray X₁ hg hsize hdg hW (X₁.named hnamed) (hpre vm₁ X₁.warmed)
  exact ⟨v, vm₁, B, X₁.warmed, X', hpost, fun target h => hstep₁ _ fun acts => by rw [doInvoke_state]; exact hsteps.trans h⟩
theorem vx_runSW {y : MethodName} {bytes cc : ByteArray} {maxL nL mc ms n index : Nat} {ret : Option FieldType} {hh : List (Nat × Nat × Nat × Nat)} {ws : List Cond} {rm : Room} {Pc : Array Value → State → Prop} {Qc : Array Value → State → Outcome → State → Prop} {free : Addr → Prop} {Ts : List Cond} {own : String} {As rest : List Value} {g : JFrame}
    (S : CallFix p m c cc nL s args Ts own) (hM : Met l y ws rm Pc Qc mc ms free) (cw : vx_CSW R s args own index y bytes maxL ret hh ws rm mc ms n) (hp : PreS s H Pc As)
    (hg : g.method = m) (hn : As.length = n) (hsize : g.locals.size = nL) (hstack : g.stack = As.reverse ++ rest) (hW : 2 * g.monitorRoom + (rest.map fun v => v.category).sum ≤ 8) (hdg : decode cc g.pc = .ok (.invokestatic index, 3)) (hf : cells + mc ≤ R.cells ∧ slots + ms ≤ R.slots) :
    va_Run p l e R s m args below meth c H locs cells slots mc ms g rest (Qc As.toArray) (free) := by
  obtain ⟨⟨hrc, hrs, hfr, hlo, hws, hcw⟩, hcode, hini, hy, hlen, hl, hstt⟩ := cw
  have hK : Back l R p e below s args y 3 8 (PreOf R mc ms Pc) (PostOf Qc mc ms free) := va_backW (hh := hh) (bytes := bytes) (maxL := maxL) (ret := ret) hM hp.1 hrc hrs hfr hlo hws hcw (fun a' U hW => word_at hW (Or.inl (by first | rfl | simp [Cond.onTables, Cond.keeps, Cond.steady])) hini)
  obtain ⟨hx, hb, hml, ho, -⟩ := S
  intro T hT X
  obtain ⟨v, vm₁, ⟨U', l2, c2, s2⟩, hW₁, X', ⟨g', mk, t, L, e1, e2, hq, h1, hL, h2, h3⟩, st⟩ := vx_callSW X hx (hh := hh) (bytes := bytes) (maxL := maxL) (ret := ret) ho hl hstt hini hcode hy hK hg (hsize.trans hml.symm) (argsL := As) (rest := rest) (fun sig h => hn.trans (hlen sig h)) hstack hW (by rw [hb]; exact hdg)
    (fun vm₁ hW₁ => ⟨hf.1, hf.2, hp.2 (T.setVm vm₁) hT hW₁⟩)
  dsimp only [Pt.U, Pt.locs, Pt.cells, Pt.slots] at X' e1 e2 h1 h2 h3 st
  subst h1; subst h2; subst h3
  exact ⟨v, (T.setVm vm₁).calling g' mk As.toArray, t, U', L, hT, X', hL, e1, e2, hq, st⟩
/-- not caught here, past rows that name other classes: it goes on to the caller -/
theorem vx_outP {p : Program} {l : Launch} {e : Env} {R : Room} {s : State} {m : MethodId} {args : Array Value} {below : List Frame} {meth : Method} {c : Code} {H : Heap} {locs : List Loc} {cells slots : Nat} {free : Addr → Prop} {ls : Array Slot} {rest : List Value} {Qc : Array Value → State → Outcome → State → Prop} {XC : String → State → State → Prop}
    {pc : Nat} {own E : String} {ce : Cell} {q : Addr} {mc ms : Nat} (hown : s.vm.findClass own = some m.cls) (hlocks : meth.locks = false)
    (hpass : ∀ z ∈ c.exceptionTable.toList, covers z pc = false ∨ (z.catchType ≠ 0 ∧ ∃ nm : String, (Cond.classLink own z.catchType nm).before args s = true ∧ va_Nc E nm s)) (hcell : H[q]? = some ce) (hv : ce.vm = .none) (hcl : s.vm.findClass E = some ce.cls)
    (hx : ∀ t : State, t.heap = H → s.vm.Alike t.vm → XC E s t) (hf : ∀ z ∈ locs, free z.base) (hc : cells ≤ mc) (hs : slots ≤ ms) :
    vx_W p l e R s m args below meth c H locs cells slots (vx_MQ below Qc XC args s mc ms free) (F0 m pc ls rest) q := by
  intro T hT X
  have hpl : e.platform.magicAccessors = ({} : Platform).magicAccessors := by rw [X.admits.platform]
  obtain ⟨vm', hW', X', st⟩ := X.outThrough hlocks q (g := F0 m pc ls rest) rfl rfl rfl (cell := ce) (by rw [hT]; exact hcell) (by rw [hv]; rfl)
    (by obtain ⟨k9, h9, -⟩ := Vm.findClass_spec hcl; exact ⟨k9, h9⟩) (fun z hz => by
      rcases hpass z hz with h | ⟨hz0, nm, hl1, hn1⟩
      · exact Or.inl h
      · obtain ⟨c6, hc6, hcl6⟩ := Cond.classLink_spec hown hl1 e.platform hpl
        obtain ⟨a8, b8, h1, h2, h3⟩ := hn1
        cases Option.some.inj (h1.symm.trans hcl)
        cases Option.some.inj (h2.symm.trans hc6)
        exact Or.inr ⟨hz0, _, hcl6, h3⟩)
  obtain ⟨g₀, hfr⟩ := X'.frames_eq
  have hcell9 : ((T.setVm vm').setFrames (.throwing q :: below)).heap[q]? = some ce := by
    show T.heap[q]? = some ce
    rw [hT]; exact hcell
  have hend : Ended ((T.setVm vm').setFrames (.throwing q :: below)) below (.threw q) := State.frames_setFrames _ (State.cur_lt_of_frames hfr)
  refine ⟨(T.setVm vm').setFrames (.throwing q :: below), ?_, .threw q, X'.here.running, hend, Or.inr ⟨q, rfl, E, ce, locs, hx _ hT (X'.ends _).1.alike, hcell9, hv, hcl, (X'.ends _).1, (X'.ends _).2.mono hc hs, hf⟩⟩
  rw [X.pushThrowing_eq]
  exact st
/-- a thing of a world lies in the heap -/
theorem vx_lt {D : va_G} {cl : List vw_C} {ws : va_W} {H1 : Heap} (h : va_P D cl ws H1) {k : Nat} {q : Nat × va_E} (hk : ws[k]? = some q) : q.1 < H1.size := (h k q hk).lt
end VXS
/-! ===== END ===== -/
/-! ===== BEGIN methods with a table of their own: called by a name, returning or throwing ===== -/
section VXH
/-! vx_backW, vx_callVX, vx_callSX, vx_callVW, vx_runVW, vx_runVX, vx_runSX, vx_ofWH follow the same proofs as their sisters above (Free/Laws.lean, Shelf42/LK1.lean); vx_outP calls Shelf42/NT130.lean (outThrough). -/
section
variable {l : Launch} {R : Room} {p : Program} {e : Env} {below : List Frame} {s : State} {sargs : Array Value} {y : MethodName} {len W9 : Nat}
theorem vx_backW {ws : List Cond} {rm : Room} {Pc : Array Value → State → Prop} {Qc : Array Value → State → Outcome → State → Prop} {XC : String → State → State → Prop} {mc ms : Nat} {free : Addr → Prop} {bytes : ByteArray} {maxL : Nat} {ret : Option FieldType} {hh : List (Nat × Nat × Nat × Nat)}
    (hM : vx_Met l y ws rm Pc Qc XC mc ms free) (hblind : FrameBlind Pc) (hrc : rm.cells = mc) (hrs : rm.slots = ms)
    (hframes : rm.frames + 1 ≤ R.frames) (hlocals : W9 + (maxL + 11) + rm.locals ≤ R.locals)
    (hws : ∀ w ∈ ws, ∀ a' U, s.WarmedH U.vm → w.before a' U = true) (hcode : Cond.codeWith y bytes maxL ret hh ∈ ws) (hinit : ∀ a' U, s.WarmedH U.vm → (Cond.initialized y.cls).before a' U = true) :
    vx_Back l R p e below s sargs y len W9 (PreOf R mc ms Pc) (PostOf Qc mc ms free) (vx_Post XC mc ms free) := by
  intro m meth c A g ig mk a X hg hsize hdg hW hn hp
  have h1 : (headSpec ws rm).pre.before a A.U = true := atoms_intro fun w hw => hws w hw _ _ X.warmed
  have h2 : (Cond.codeWith y bytes maxL ret hh).before a A.U = true := hws _ hcode _ _ X.warmed
  have h3 : (Cond.initialized y.cls).before a A.U = true := hinit _ _ X.warmed
  have h4 : A.cells + (headSpec ws rm).room.cells ≤ R.cells := by rw [show (headSpec ws rm).room.cells = mc from hrc]; exact hp.1
  have h5 : A.slots + (headSpec ws rm).room.slots ≤ R.slots := by rw [show (headSpec ws rm).room.slots = ms from hrs]; exact hp.2.1
  have hPc : Pc a (A.U.calling g mk a) := hblind _ _ _ _ hp.2.2
  obtain ⟨U, Ls, c0, s0⟩ := A
  dsimp only [Pt.U, Pt.locs, Pt.cells, Pt.slots] at h1 h2 h3 h4 h5 X hn hPc ⊢
  obtain ⟨m9, methY, cY, hn9, hmY, hcY, -, hlY, -⟩ := Cond.codeWith_spec h2
  cases Option.some.inj (hn9.symm.trans hn)
  obtain ⟨kY, hkY, -⟩ := className_of_methodNamed hn
  have hinitY : kY.init = .initialized := Cond.initialized_spec (findClass_of_methodNamed hn) hkY h3
  have h : At U g.method c below := by rw [hg]; exact X.here
  have hlocals9 : W9 + (maxL + 11) + (headSpec ws rm).room.locals ≤ R.locals := hlocals
  have happ : (headSpec ws rm).appliesLoose y e.platform (U.calling g mk a) = true :=
    Spec.appliesLoose_calling (g := g) h hdg hn hkY hinitY
      (X.room_calling (g := g) (R' := (headSpec ws rm).room) hsize hmY hcY hframes (by rw [hlY]; omega) h4 h5) h1
  obtain ⟨mid, hmid⟩ := h.above
  have hfr : (U.setTop g).frames = (.java g :: mid) ++ below := by rw [State.frames_setTop' g h.top, hmid]; rfl
  obtain ⟨o, s₂, hsteps, -, hend, hq⟩ := Steps.callFree hM p X.admits X.cas X.clock (acts := []) hfr happ hPc trivial
  have hq' : vx_Q Qc XC mc ms free a (U.calling g mk a) o s₂ := hq
  rw [State.frames_setTop' g h.top] at hend
  obtain ⟨g₀, hg0⟩ := Option.isSome_iff_exists.mp h.top
  obtain ⟨r, hr⟩ := State.topJava?_eq_some.mp hg0
  have hr' : (({ U with heap := s₂.heap, slotsUsed := s₂.slotsUsed } : State).setVm s₂.vm).frames = .java g₀ :: r := hr
  rcases hq' with ⟨hqc, L, hfe, hL⟩ | ⟨q, rfl, E, ce, L, hx, hce, hcv, hcl, hW₂, hsm, hL⟩
  · obtain ⟨⟨v, rfl⟩, hW₂, e2, q2, q3, q4, q5, q6⟩ := id hfe
    have e3 : s₂ = ({ (U.calling g mk a).setFrames s₂.frames with heap := s₂.heap, slotsUsed := s₂.slotsUsed } : State).setVm s₂.vm := by
      have : s₂ = ({ s₂ with vm := (U.calling g mk a).vm } : State).setVm s₂.vm := rfl
      rw [e2] at this
      exact this
    obtain ⟨c₂, i₂, len₂, hc₂, hd₂, hf₂⟩ := hend
    have hW' : U.WarmedH s₂.vm := hW₂
    have hcc : c₂ = c := by
      have h1 : s₂.code? g.method = U.code? g.method := by
        rw [State.code?_eq, State.code?_eq, hW'.alike.method?]
      exact Option.some.inj (hc₂.symm.trans (h1.trans h.code))
    subst hcc
    have hlen : len₂ = len := by rw [hdg] at hd₂; cases hd₂; rfl
    subst hlen
    have hs₂ : s₂ = (({ U with heap := s₂.heap, slotsUsed := s₂.slotsUsed } : State).setVm s₂.vm).setTop { g with pc := g.pc + len₂, stack := v.toList ++ g.stack } := by
      refine e3.trans ?_
      rw [hf₂, State.calling_eq h.top, State.setFrames_setFrames, State.setTop_of_frames _ hr', hr]
      rfl
    have hsame : U.sameButNew ({ U with heap := s₂.heap, slotsUsed := s₂.slotsUsed } : State) L mc ms := by
      refine ⟨?_, q2, q3, q4, q5, q6⟩
      obtain ⟨t, ht, -⟩ := State.frames_cons hr
      show ({ U with heap := s₂.heap, slotsUsed := s₂.slotsUsed } : State) = { U.setFrames U.frames with heap := s₂.heap, slotsUsed := s₂.slotsUsed }
      rw [State.setFrames_self ht]
    subst hg
    refine Or.inl ⟨v, ⟨(({ U with heap := s₂.heap, slotsUsed := s₂.slotsUsed } : State).setVm s₂.vm), Ls ++ L, c0 + mc, s0 + ms⟩,
      ⟨X.admits, X.cas, X.clock, X.frames, X.room, X.hears, X.method, X.code, (X.here.setHeapUsed s₂.heap s₂.slotsUsed).setVm hW'.alike, X.tail, State.WarmedH.trans X.warmed hW', X.limits, X.bytes, X.same.trans (hsame.setVm s.vm)⟩,
      ⟨g, mk, s₂, L, rfl, rfl, hqc, rfl, hL, rfl, rfl⟩, ?_⟩
    show Steps p.tables e below _ ((({ U with heap := s₂.heap, slotsUsed := s₂.slotsUsed } : State).setVm s₂.vm).setTop { g with pc := g.pc + len₂, stack := v.toList ++ g.stack })
    rw [← hs₂]
    exact hsteps
  · obtain ⟨e2, q2, q3, q4, q5, q6⟩ := id hsm
    have e3 : s₂ = ({ (U.calling g mk a).setFrames s₂.frames with heap := s₂.heap, slotsUsed := s₂.slotsUsed } : State).setVm s₂.vm := by
      have : s₂ = ({ s₂ with vm := (U.calling g mk a).vm } : State).setVm s₂.vm := rfl
      rw [e2] at this
      exact this
    have hf₂ : s₂.frames = .throwing q :: .java g :: U.frames.tail := hend
    have hW' : U.WarmedH s₂.vm := hW₂
    have hs₂ : s₂ = ((({ U with heap := s₂.heap, slotsUsed := s₂.slotsUsed } : State).setVm s₂.vm).setTop g).pushFrame (.throwing q) := by
      refine e3.trans ?_
      rw [hf₂, State.calling_eq h.top, State.setFrames_setFrames, State.pushFrame, State.frames_setTop _ hr', State.setTop_of_frames _ hr', State.setFrames_setFrames, hr]
      rfl
    have hsame : U.sameButNew ({ U with heap := s₂.heap, slotsUsed := s₂.slotsUsed } : State) L mc ms := by
      refine ⟨?_, q2, q3, q4, q5, q6⟩
      obtain ⟨t, ht, -⟩ := State.frames_cons hr
      show ({ U with heap := s₂.heap, slotsUsed := s₂.slotsUsed } : State) = { U.setFrames U.frames with heap := s₂.heap, slotsUsed := s₂.slotsUsed }
      rw [State.setFrames_self ht]
    subst hg
    refine Or.inr ⟨q, ⟨(({ U with heap := s₂.heap, slotsUsed := s₂.slotsUsed } : State).setVm s₂.vm), Ls ++ L, c0 + mc, s0 + ms⟩,
      ⟨X.admits, X.cas, X.clock, X.frames, X.room, X.hears, X.method, X.code, (X.here.setHeapUsed s₂.heap s₂.slotsUsed).setVm hW'.alike, X.tail, State.WarmedH.trans X.warmed hW', X.limits, X.bytes, X.same.trans (hsame.setVm s.vm)⟩,
      ⟨g, mk, s₂, L, E, ce, rfl, rfl, hx, hce, hcv, hcl, rfl, hL, rfl, rfl⟩, ?_⟩
    show Steps p.tables e below _ (((({ U with heap := s₂.heap, slotsUsed := s₂.slotsUsed } : State).setVm s₂.vm).setTop g).pushFrame (.throwing q))
    rw [← hs₂]
    exact hsteps
end
variable {p : Program} {l : Launch} {e : Env} {R : Room} {s : State} {m : MethodId} {args : Array Value} {below : List Frame} {meth : Method} {c : Code} {T : State} {H : Heap} {locs : List Loc} {cells slots : Nat}
theorem vx_callVX (X : Stand p l e R s m args below meth c T locs cells slots) (hexec : p.tables.exec = Jvm.exec) {own C : String} {index : Nat} {y : MethodName} {bytes : ByteArray} {maxL : Nat} {ret : Option FieldType} {hh : List (Nat × Nat × Nat × Nat)}
    (hown : s.vm.findClass own = some m.cls) (hlink : (Cond.methodLink own index y).before args s = true) (hinst : (Cond.instanceMethod y).before args s = true) (hsel : (Cond.selects C y y).before args s = true)
    (hcode : (Cond.codeWith y bytes maxL ret hh).before args s = true) (hy : y.cls ≠ "java/lang/invoke/MethodHandle" ∧ y.cls ≠ "java/lang/invoke/VarHandle")
    {W9 : Nat} {Pre : Pt → Array Value → Prop} {Post : Pt → Array Value → Option Value → Pt → Prop} {PostX : Pt → Array Value → Addr → Pt → Prop} (hK : vx_Back l R p e below s args y 3 W9 Pre Post PostX)
    {b : Addr} {cellB : Cell} (hcell : T.heap[b]? = some cellB) (hobj : cellB.vm.isStatics = false) (hcls : s.vm.findClass C = some cellB.cls)
    {g : JFrame} (hg : g.method = m) (hsize : g.locals.size = c.maxLocals) {argsL rest : List Value} (hlen : ∀ sig, parseMethodDescriptor y.desc = some sig → argsL.length = sig.parameters.length)
    (hstack : g.stack = argsL.reverse ++ .ref b :: rest) (hW : 2 * g.monitorRoom + (rest.map fun v => v.category).sum ≤ W9) (hdg : decode c.code g.pc = .ok (.invokevirtual index, 3))
    (hpre : ∀ vm₁, s.WarmedH vm₁ → Pre ⟨T.setVm vm₁, locs, cells, slots⟩ (Value.ref b :: argsL).toArray) :
    (∃ (v : Option Value) (vm₁ : Vm) (B : Pt), s.WarmedH vm₁ ∧ Stand p l e R s m args below meth c B.U B.locs B.cells B.slots ∧ Post ⟨T.setVm vm₁, locs, cells, slots⟩ (Value.ref b :: argsL).toArray v B ∧
      ∀ target, Steps p.tables e below (B.U.setTop { g with pc := g.pc + 3, stack := v.toList ++ rest }) target → Steps p.tables e below (T.setTop g) target) ∨
    (∃ (q : Addr) (vm₁ : Vm) (B : Pt), s.WarmedH vm₁ ∧ Stand p l e R s m args below meth c B.U B.locs B.cells B.slots ∧ PostX ⟨T.setVm vm₁, locs, cells, slots⟩ (Value.ref b :: argsL).toArray q B ∧
      Steps p.tables e below (T.setTop g) ((B.U.setTop { g with stack := rest }).pushFrame (.throwing q))) := by
  obtain ⟨mk, methM, hnamed, hmethM, hstM, habM⟩ := Cond.instanceMethod_spec hinst
  obtain ⟨m8, methM', cM, hn8, hmethM', -, -, -, -, -, -, hsigM⟩ := Cond.codeWith_spec hcode
  cases Option.some.inj (hn8.symm.trans hnamed)
  cases hmethM.symm.trans hmethM'
  obtain ⟨c2, r2, m2, q1, q2, q3, q4, kP, hkP, hkPi⟩ := Cond.selects_spec hsel
  cases hcls.symm.trans q1
  cases (State.methodFound?_of_named hnamed hy).symm.trans q2
  cases hnamed.symm.trans q3
  have hselP : selectMethod e.platform s.vm cellB.cls mk = .method mk := by rw [Launch.admits_selectMethod X.admits]; exact q4
  obtain ⟨vm₁, X₁, hstep₁⟩ := X.invokevirtual hexec hown hlink hnamed hmethM hstM hkP hkPi hy (a := b) (cell := cellB) hcell
    (fun z h => by rw [h] at hobj; cases hobj) hselP hmethM habM hkP hkPi (g := g) hg (argsL := argsL) (rest := rest) (hlen _ hsigM) hstack hdg
  rcases hK m meth c ⟨T.setVm vm₁, locs, cells, slots⟩ { g with stack := rest } (.invokevirtual index) mk (Value.ref b :: argsL).toArray X₁ hg hsize hdg hW (X₁.named hnamed) (hpre vm₁ X₁.warmed) with ⟨v, B, X', hpost, hsteps⟩ | ⟨q, B, X', hpost, hsteps⟩
  · exact Or.inl ⟨v, vm₁, B, X₁.warmed, X', hpost, fun target h => hstep₁ _ fun acts => by rw [doInvoke_state]; exact hsteps.trans h⟩
  · exact Or.inr ⟨q, vm₁, B, X₁.warmed, X', hpost, hstep₁ _ fun acts => by rw [doInvoke_state]; exact hsteps⟩
theorem vx_callSX (X : Stand p l e R s m args below meth c T locs cells slots) (hexec : p.tables.exec = Jvm.exec) {own : String} {index : Nat} {y : MethodName} {bytes : ByteArray} {maxL : Nat} {ret : Option FieldType} {hh : List (Nat × Nat × Nat × Nat)}
    (hown : s.vm.findClass own = some m.cls) (hlink : (Cond.methodLink own index y).before args s = true) (hstat : (Cond.static y).before args s = true) (hinit : (Cond.initialized y.cls).before args s = true)
    (hcode : (Cond.codeWith y bytes maxL ret hh).before args s = true) (hy : y.cls ≠ "java/lang/invoke/MethodHandle" ∧ y.cls ≠ "java/lang/invoke/VarHandle")
    {W9 : Nat} {Pre : Pt → Array Value → Prop} {Post : Pt → Array Value → Option Value → Pt → Prop} {PostX : Pt → Array Value → Addr → Pt → Prop} (hK : vx_Back l R p e below s args y 3 W9 Pre Post PostX)
    {g : JFrame} (hg : g.method = m) (hsize : g.locals.size = c.maxLocals) {argsL rest : List Value} (hlen : ∀ sig, parseMethodDescriptor y.desc = some sig → argsL.length = sig.parameters.length)
    (hstack : g.stack = argsL.reverse ++ rest) (hW : 2 * g.monitorRoom + (rest.map fun v => v.category).sum ≤ W9) (hdg : decode c.code g.pc = .ok (.invokestatic index, 3))
    (hpre : ∀ vm₁, s.WarmedH vm₁ → Pre ⟨T.setVm vm₁, locs, cells, slots⟩ argsL.toArray) :
    (∃ (v : Option Value) (vm₁ : Vm) (B : Pt), s.WarmedH vm₁ ∧ Stand p l e R s m args below meth c B.U B.locs B.cells B.slots ∧ Post ⟨T.setVm vm₁, locs, cells, slots⟩ argsL.toArray v B ∧
      ∀ target, Steps p.tables e below (B.U.setTop { g with pc := g.pc + 3, stack := v.toList ++ rest }) target → Steps p.tables e below (T.setTop g) target) ∨
    (∃ (q : Addr) (vm₁ : Vm) (B : Pt), s.WarmedH vm₁ ∧ Stand p l e R s m args below meth c B.U B.locs B.cells B.slots ∧ PostX ⟨T.setVm vm₁, locs, cells, slots⟩ argsL.toArray q B ∧
      Steps p.tables e below (T.setTop g) ((B.U.setTop { g with stack := rest }).pushFrame (.throwing q))) := by
  obtain ⟨mk, methM, cM, hnamed, hmethM, -, -, -, -, -, -, hsigM⟩ := Cond.codeWith_spec hcode
  have hstatic : methM.isStatic = true := Cond.static_spec hnamed hmethM hstat
  obtain ⟨kP, hkP, -⟩ := className_of_methodNamed hnamed
  have hinitP : kP.init = .initialized := Cond.initialized_spec (findClass_of_methodNamed hnamed) hkP hinit
  obtain ⟨vm₁, X₁, hstep₁⟩ := X.invokestatic hexec hown hlink hnamed hmethM hstatic hkP hinitP hy (g := g) hg (argsL := argsL) (rest := rest) (hlen _ hsigM) hstack hdg
  rcases hK m meth c ⟨T.setVm vm₁, locs, cells, slots⟩ { g with stack := rest } (.invokestatic index) mk argsL.toArray X₁ hg hsize hdg hW (X₁.named hnamed) (hpre vm₁ X₁.warmed) with ⟨v, B, X', hpost, hsteps⟩ | ⟨q, B, X', hpost, hsteps⟩
  · exact Or.inl ⟨v, vm₁, B, X₁.warmed, X', hpost, fun target h => hstep₁ _ fun acts => by rw [doInvoke_state]; exact hsteps.trans h⟩
  · exact Or.inr ⟨q, vm₁, B, X₁.warmed, X', hpost, hstep₁ _ fun acts => by rw [doInvoke_state]; exact hsteps⟩
theorem vx_callVW (X : Stand p l e R s m args below meth c T locs cells slots) (hexec : p.tables.exec = Jvm.exec) {own C : String} {index : Nat} {y : MethodName} {bytes : ByteArray} {maxL : Nat} {ret : Option FieldType} {hh : List (Nat × Nat × Nat × Nat)}
    (hown : s.vm.findClass own = some m.cls) (hlink : (Cond.methodLink own index y).before args s = true) (hinst : (Cond.instanceMethod y).before args s = true) (hsel : (Cond.selects C y y).before args s = true)
    (hcode : (Cond.codeWith y bytes maxL ret hh).before args s = true) (hy : y.cls ≠ "java/lang/invoke/MethodHandle" ∧ y.cls ≠ "java/lang/invoke/VarHandle")
    {W9 : Nat} {Pre : Pt → Array Value → Prop} {Post : Pt → Array Value → Option Value → Pt → Prop} (hK : Back l R p e below s args y 3 W9 Pre Post)
    {b : Addr} {cellB : Cell} (hcell : T.heap[b]? = some cellB) (hobj : cellB.vm.isStatics = false) (hcls : s.vm.findClass C = some cellB.cls)
    {g : JFrame} (hg : g.method = m) (hsize : g.locals.size = c.maxLocals) {argsL rest : List Value} (hlen : ∀ sig, parseMethodDescriptor y.desc = some sig → argsL.length = sig.parameters.length)
    (hstack : g.stack = argsL.reverse ++ .ref b :: rest) (hW : 2 * g.monitorRoom + (rest.map fun v => v.category).sum ≤ W9) (hdg : decode c.code g.pc = .ok (.invokevirtual index, 3))
    (hpre : ∀ vm₁, s.WarmedH vm₁ → Pre ⟨T.setVm vm₁, locs, cells, slots⟩ (Value.ref b :: argsL).toArray) :
    ∃ (v : Option Value) (vm₁ : Vm) (B : Pt), s.WarmedH vm₁ ∧ Stand p l e R s m args below meth c B.U B.locs B.cells B.slots ∧ Post ⟨T.setVm vm₁, locs, cells, slots⟩ (Value.ref b :: argsL).toArray v B ∧
      ∀ target, Steps p.tables e below (B.U.setTop { g with pc := g.pc + 3, stack := v.toList ++ rest }) target → Steps p.tables e below (T.setTop g) target := by
  obtain ⟨mk, methM, hnamed, hmethM, hstM, habM⟩ := Cond.instanceMethod_spec hinst
  obtain ⟨m8, methM', cM, hn8, hmethM', -, -, -, -, -, -, hsigM⟩ := Cond.codeWith_spec hcode
  cases Option.some.inj (hn8.symm.trans hnamed)
  cases hmethM.symm.trans hmethM'
  obtain ⟨c2, r2, m2, q1, q2, q3, q4, kP, hkP, hkPi⟩ := Cond.selects_spec hsel
  cases hcls.symm.trans q1
  cases (State.methodFound?_of_named hnamed hy).symm.trans q2
  cases hnamed.symm.trans q3
  have hselP : selectMethod e.platform s.vm cellB.cls mk = .method mk := by rw [Launch.admits_selectMethod X.admits]; exact q4
  obtain ⟨vm₁, X₁, hstep₁⟩ := X.invokevirtual hexec hown hlink hnamed hmethM hstM hkP hkPi hy (a := b) (cell := cellB) hcell
    (fun z h => by rw [h] at hobj; cases hobj) hselP hmethM habM hkP hkPi (g := g) hg (argsL := argsL) (rest := rest) (hlen _ hsigM) hstack hdg
  obtain ⟨v, B, X', hpost, hsteps⟩ := hK m meth c ⟨T.setVm vm₁, locs, cells, slots⟩ { g with stack := rest } (.invokevirtual index) mk (Value.ref b :: argsL).toArray X₁ hg hsize hdg hW (X₁.named hnamed) (hpre vm₁ X₁.warmed)
  exact ⟨v, vm₁, B, X₁.warmed, X', hpost, fun target h => hstep₁ _ fun acts => by rw [doInvoke_state]; exact hsteps.trans h⟩
abbrev vx_CVW (R : Room) (s : State) (args : Array Value) (own C : String) (index : Nat) (y : MethodName) (bytes : ByteArray) (maxL : Nat) (ret : Option FieldType) (hh : List (Nat × Nat × Nat × Nat)) (ws : List Cond) (rm : Room) (mc ms n : Nat) : Prop :=
  (rm.cells = mc ∧ rm.slots = ms ∧ rm.frames + 1 ≤ R.frames ∧ 8 + (maxL + 11) + rm.locals ≤ R.locals ∧ (∀ w ∈ ws, ∀ (a' : Array Value) (U : State), s.WarmedH U.vm → w.before a' U = true) ∧ Cond.codeWith y bytes maxL ret hh ∈ ws) ∧
  (Cond.codeWith y bytes maxL ret hh).before args s = true ∧ (Cond.initialized y.cls).before args s = true ∧ (y.cls ≠ "java/lang/invoke/MethodHandle" ∧ y.cls ≠ "java/lang/invoke/VarHandle") ∧
  (∀ sig, parseMethodDescriptor y.desc = some sig → n = sig.parameters.length) ∧ (Cond.methodLink own index y).before args s = true ∧ (Cond.instanceMethod y).before args s = true ∧ (Cond.selects C y y).before args s = true
theorem vx_cwVW {own C : String} {index maxL mc ms : Nat} {y : MethodName} {bytes : ByteArray} {ret : Option FieldType} {hh : List (Nat × Nat × Nat × Nat)} {Ts ws ws' : List Cond} {rm : Room} (n : Nat) (ht : ∀ w ∈ Ts, w.before args s = true) (hT : GoodIn Ts (wsV own index C y ws)) (hw : ws = Cond.codeWith y bytes maxL ret hh :: ws') (hrc : rm.cells = mc) (hrs : rm.slots = ms)
    (hd : y.cls = C ∧ y.cls ≠ "java/lang/invoke/MethodHandle" ∧ y.cls ≠ "java/lang/invoke/VarHandle" ∧ (parseMethodDescriptor y.desc).map (fun d => d.parameters.length) = some n) (hR : rm.frames + 1 ≤ R.frames ∧ 8 + (maxL + 11) + rm.locals ≤ R.locals) :
    vx_CVW R s args own C index y bytes maxL ret hh ws rm mc ms n := by
  obtain ⟨hC, hd⟩ := hd
  subst hC
  have ok : ∀ w ∈ wsV own index y.cls y ws, w.before args s = true := fun w h => ht w (hT w h).1
  have hG : GoodIn Ts ws := fun w h => hT w (by unfold wsV; exact List.mem_append_right _ h)
  have hc : Cond.codeWith y bytes maxL ret hh ∈ ws := by rw [hw]; exact List.mem_cons_self
  refine ⟨⟨hrc, hrs, hR.1, hR.2, pay_in ht hG, hc⟩, ht _ (hG _ hc).1, ok _ (by simp [wsV]), ⟨hd.1, hd.2.1⟩, fun sig h => ?_, ok _ (by simp [wsV]), ok _ (by simp [wsV]), ok _ (by simp [wsV])⟩
  have h2 := hd.2.2
  rw [h] at h2
  exact (Option.some.inj h2).symm
theorem vx_runVW {y : MethodName} {bytes cc : ByteArray} {maxL nL mc ms n index : Nat} {ret : Option FieldType} {hh : List (Nat × Nat × Nat × Nat)} {ws : List Cond} {rm : Room} {Pc : Array Value → State → Prop} {Qc : Array Value → State → Outcome → State → Prop} {free : Addr → Prop} {Ts : List Cond} {own C : String} {b : Addr} {As rest : List Value} {g : JFrame}
    (S : CallFix p m c cc nL s args Ts own) (hM : Met l y ws rm Pc Qc mc ms free) (cw : vx_CVW R s args own C index y bytes maxL ret hh ws rm mc ms n) (hp : PreV s H C b Pc As)
    (hg : g.method = m) (hn : As.length = n) (hsize : g.locals.size = nL) (hstack : g.stack = As.reverse ++ .ref b :: rest) (hW : 2 * g.monitorRoom + (rest.map fun v => v.category).sum ≤ 8) (hdg : decode cc g.pc = .ok (.invokevirtual index, 3)) (hf : cells + mc ≤ R.cells ∧ slots + ms ≤ R.slots) :
    va_Run p l e R s m args below meth c H locs cells slots mc ms g rest (Qc (Value.ref b :: As).toArray) free := by
  obtain ⟨⟨hrc, hrs, hfr, hlo, hws, hcw⟩, hcode, hini, hy, hlen, hl, hin, hse⟩ := cw
  have hK : Back l R p e below s args y 3 8 (PreOf R mc ms Pc) (PostOf Qc mc ms free) := va_backW (hh := hh) (bytes := bytes) (maxL := maxL) (ret := ret) hM hp.1 hrc hrs hfr hlo hws hcw (fun a' U hW => word_at hW (Or.inl (by first | rfl | simp [Cond.onTables, Cond.keeps, Cond.steady])) hini)
  obtain ⟨hx, hb, hml, ho, -⟩ := S
  obtain ⟨-, ⟨cellB, hcB, hoB, hclB⟩, hPc⟩ := hp
  intro T hT X
  obtain ⟨v, vm₁, ⟨U', l2, c2, s2⟩, hW₁, X', ⟨g', mk, t, L, e1, e2, hq, h1, hL, h2, h3⟩, st⟩ := vx_callVW X hx (C := C) (hh := hh) (bytes := bytes) (maxL := maxL) (ret := ret) ho hl hin hse hcode hy hK (by rw [hT]; exact hcB) hoB hclB hg (hsize.trans hml.symm) (argsL := As) (rest := rest) (fun sig h => hn.trans (hlen sig h)) hstack hW (by rw [hb]; exact hdg)
    (fun vm₁ hW₁ => ⟨hf.1, hf.2, hPc (T.setVm vm₁) hT hW₁⟩)
  dsimp only [Pt.U, Pt.locs, Pt.cells, Pt.slots] at X' e1 e2 h1 h2 h3 st
  subst h1; subst h2; subst h3
  exact ⟨v, (T.setVm vm₁).calling g' mk (Value.ref b :: As).toArray, t, U', L, hT, X', hL, e1, e2, hq, st⟩
section
variable {y : MethodName} {bytes cc : ByteArray} {maxL nL mc ms n index : Nat} {ret : Option FieldType} {ws : List Cond} {rm : Room} {Pc : Array Value → State → Prop} {Qc : Array Value → State → Outcome → State → Prop} {XC : String → State → State → Prop} {free : Addr → Prop} {Ts : List Cond} {own C : String} {b : Addr} {As rest : List Value} {g : JFrame}
theorem vx_runVX {hh : List (Nat × Nat × Nat × Nat)} (S : CallFix p m c cc nL s args Ts own) (hM : vx_Met l y ws rm Pc Qc XC mc ms free) (cw : vx_CVW R s args own C index y bytes maxL ret hh ws rm mc ms n) (hp : PreV s H C b Pc As)
    (hg : g.method = m) (hn : As.length = n) (hsize : g.locals.size = nL) (hstack : g.stack = As.reverse ++ .ref b :: rest) (hW : 2 * g.monitorRoom + (rest.map fun v => v.category).sum ≤ 8) (hdg : decode cc g.pc = .ok (.invokevirtual index, 3)) (hf : cells + mc ≤ R.cells ∧ slots + ms ≤ R.slots) :
    vx_Run p l e R s m args below meth c H locs cells slots mc ms g rest (Qc (Value.ref b :: As).toArray) XC free := by
  obtain ⟨⟨hrc, hrs, hfr, hlo, hws, hcw⟩, hcode, hini, hy, hlen, hl, hin, hse⟩ := cw
  have hK : vx_Back l R p e below s args y 3 8 (PreOf R mc ms Pc) (PostOf Qc mc ms free) (vx_Post XC mc ms free) := vx_backW (hh := hh) (bytes := bytes) (maxL := maxL) (ret := ret) hM hp.1 hrc hrs hfr hlo hws hcw (fun a' U hW => word_at hW (Or.inl (by first | rfl | simp [Cond.onTables, Cond.keeps, Cond.steady])) hini)
  obtain ⟨hx, hb, hml, ho, -⟩ := S
  obtain ⟨-, ⟨cellB, hcB, hoB, hclB⟩, hPc⟩ := hp
  intro T hT X
  rcases vx_callVX X hx (C := C) (hh := hh) (bytes := bytes) (maxL := maxL) (ret := ret) ho hl hin hse hcode hy hK (by rw [hT]; exact hcB) hoB hclB hg (hsize.trans hml.symm) (argsL := As) (rest := rest) (fun sig h => hn.trans (hlen sig h)) hstack hW (by rw [hb]; exact hdg)
    (fun vm₁ hW₁ => ⟨hf.1, hf.2, hPc (T.setVm vm₁) hT hW₁⟩) with ⟨v, vm₁, ⟨U', l2, c2, s2⟩, hW₁, X', ⟨g', mk, t, L, e1, e2, hq, h1, hL, h2, h3⟩, st⟩ | ⟨q, vm₁, ⟨U', l2, c2, s2⟩, hW₁, X', ⟨g', mk, t, L, E, ce, e1, e2, hq, hce, hcv, hcl, h1, hL, h2, h3⟩, st⟩
  · dsimp only [Pt.U, Pt.locs, Pt.cells, Pt.slots] at X' e1 e2 h1 h2 h3 st
    subst h1; subst h2; subst h3
    exact Or.inl ⟨v, (T.setVm vm₁).calling g' mk (Value.ref b :: As).toArray, t, U', L, hT, X', hL, e1, e2, hq, st⟩
  · dsimp only [Pt.U, Pt.locs, Pt.cells, Pt.slots] at X' e1 e2 h1 h2 h3 st hcl
    subst h1; subst h2; subst h3
    exact Or.inr ⟨q, (T.setVm vm₁).calling g' mk (Value.ref b :: As).toArray, t, U', L, E, ce, hT, X', hL, e1, e2, hq, hce, hcv, vx_cls hW₁ hcl, st⟩
theorem vx_runSX {hh : List (Nat × Nat × Nat × Nat)} (S : CallFix p m c cc nL s args Ts own) (hM : vx_Met l y ws rm Pc Qc XC mc ms free) (cw : vx_CSW R s args own index y bytes maxL ret hh ws rm mc ms n) (hp : PreS s H Pc As)
    (hg : g.method = m) (hn : As.length = n) (hsize : g.locals.size = nL) (hstack : g.stack = As.reverse ++ rest) (hW : 2 * g.monitorRoom + (rest.map fun v => v.category).sum ≤ 8) (hdg : decode cc g.pc = .ok (.invokestatic index, 3)) (hf : cells + mc ≤ R.cells ∧ slots + ms ≤ R.slots) :
    vx_Run p l e R s m args below meth c H locs cells slots mc ms g rest (Qc As.toArray) XC free := by
  obtain ⟨⟨hrc, hrs, hfr, hlo, hws, hcw⟩, hcode, hini, hy, hlen, hl, hstt⟩ := cw
  have hK : vx_Back l R p e below s args y 3 8 (PreOf R mc ms Pc) (PostOf Qc mc ms free) (vx_Post XC mc ms free) := vx_backW (hh := hh) (bytes := bytes) (maxL := maxL) (ret := ret) hM hp.1 hrc hrs hfr hlo hws hcw (fun a' U hW => word_at hW (Or.inl (by first | rfl | simp [Cond.onTables, Cond.keeps, Cond.steady])) hini)
  obtain ⟨hx, hb, hml, ho, -⟩ := S
  intro T hT X
  rcases vx_callSX X hx (hh := hh) (bytes := bytes) (maxL := maxL) (ret := ret) ho hl hstt hini hcode hy hK hg (hsize.trans hml.symm) (argsL := As) (rest := rest) (fun sig h => hn.trans (hlen sig h)) hstack hW (by rw [hb]; exact hdg)
    (fun vm₁ hW₁ => ⟨hf.1, hf.2, hp.2 (T.setVm vm₁) hT hW₁⟩) with ⟨v, vm₁, ⟨U', l2, c2, s2⟩, hW₁, X', ⟨g', mk, t, L, e1, e2, hq, h1, hL, h2, h3⟩, st⟩ | ⟨q, vm₁, ⟨U', l2, c2, s2⟩, hW₁, X', ⟨g', mk, t, L, E, ce, e1, e2, hq, hce, hcv, hcl, h1, hL, h2, h3⟩, st⟩
  · dsimp only [Pt.U, Pt.locs, Pt.cells, Pt.slots] at X' e1 e2 h1 h2 h3 st
    subst h1; subst h2; subst h3
    exact Or.inl ⟨v, (T.setVm vm₁).calling g' mk As.toArray, t, U', L, hT, X', hL, e1, e2, hq, st⟩
  · dsimp only [Pt.U, Pt.locs, Pt.cells, Pt.slots] at X' e1 e2 h1 h2 h3 st hcl
    subst h1; subst h2; subst h3
    exact Or.inr ⟨q, (T.setVm vm₁).calling g' mk As.toArray, t, U', L, E, ce, hT, X', hL, e1, e2, hq, hce, hcv, vx_cls hW₁ hcl, st⟩
end
end VXH
theorem vx_ofWH {l : Launch} {y : MethodName} {ws ws' : List Cond} {rm : Room} {Pc : Array Value → State → Prop} {Qc : Array Value → State → Outcome → State → Prop} {XC : String → State → State → Prop} {mc ms : Nat} {free : Addr → Prop} {cc : ByteArray} {maxL : Nat} {ret : Option FieldType} {hh : List (Nat × Nat × Nat × Nat)}
    (hy : plainName y.cls = true) (hw : ws = Cond.codeWith y cc maxL ret hh :: ws')
    (body : ∀ p e s m args below meth c s₁, BodyLoose p l y (headSpec ws rm) cc maxL ret e s m args below meth c s₁ → c.maxLocals = maxL → Pc args s →
      W p l e (headSpec ws rm).room s m args below meth c s.heap [] 0 0 (vx_MQ below Qc XC args s mc ms free) (entryFrame m args maxL)) : vx_Met l y ws rm Pc Qc XC mc ms free := by
  refine MetFree.of_bodyS (code := cc) (maxLocals := maxL) (ret := ret) hy ?_ ?_
  · intro args s m h hn
    obtain ⟨m9, meth, c, hn9, h1, h2, h3, h4, -, h5, h6, -⟩ := Cond.codeWith_spec (atoms_spec (ws := ws) h _ (by rw [hw]; exact List.mem_cons_self))
    cases hn.symm.trans hn9
    exact ⟨meth, c, h1, h2, h3, h4, h5, h6⟩
  · intro p e s m args below meth c s₁ B hml hP _
    have hh0 : s₁.heap = s.heap := by rw [B.state]; rfl
    obtain ⟨t, a1, o, b1, b2, b3⟩ := body p e s m args below meth c s₁ B hml hP s₁ hh0 (Stand.of_body B)
    exact ⟨t, o, a1, b1, b2, b3⟩
/-! ===== END ===== -/
end
section
/-! ===== BEGIN printed: names, fields, word lists, decode rows ===== -/
def RX0 : String := "VaultDoors$Door"
def TX0 : u_T := fun k => match k with
  | 0 => ("VaultDoors$Door", "secret", "I", false)
  | 1 => ("VaultDoors$Door", "patience", "I", false)
  | 2 => ("VaultDoors$Door", "rule", "I", false)
  | 3 => ("VaultDoors$Door", "state", "I", false)
  | 4 => ("VaultDoors$Door", "left", "I", false)
  | 5 => ("VaultDoors$Door", "opened", "I", false)
  | 6 => ("VaultDoors$Door", "barred", "I", false)
  | 7 => ("VaultDoors$Door", "asked", "I", false)
  | 8 => ("VaultDoors$Door", "other", "[I", true)
  | 9 => ("VaultDoors$Door", "distance", "[I", true)
  | 10 => ("VaultDoors$Door", "answer", "[I", true)
  | 11 => ("VaultDoors$Door", "remembered", "I", false)
  | 12 => ("VaultDoors$Door", "asker", "[I", true)
  | _ => ("VaultDoors$Door", "askerDistance", "[I", true)
def tyX0 : Nat → FieldType := fun k => match k with
  | 0 => .int
  | 1 => .int
  | 2 => .int
  | 3 => .int
  | 4 => .int
  | 5 => .int
  | 6 => .int
  | 7 => .int
  | 8 => .array .int
  | 9 => .array .int
  | 10 => .array .int
  | 11 => .int
  | 12 => .array .int
  | _ => .array .int
abbrev wsX00 : List Cond := u_ws RX0 TX0 14
theorem nmX0 : ∀ a, a < 14 → ∀ b, b < 14 → a ≠ b → (TX0 a).2.1 ≠ (TX0 b).2.1 := by decide +kernel
theorem tyX0_ok : ∀ k, k < 14 → parseFieldDescriptor (TX0 k).2.2.1 = some (tyX0 k) := by decide +kernel
abbrev cX0_init : ByteArray := prog_2_method_1_code
def yX0_init : MethodName := ⟨RX0, "<init>", "()V"⟩
abbrev cX0_copyFrom : ByteArray := prog_2_method_2_code
def yX0_copyFrom : MethodName := ⟨RX0, "copyFrom", "(LVaultDoors$Door;)V"⟩
abbrev cX0_placeOf : ByteArray := prog_2_method_3_code
def yX0_placeOf : MethodName := ⟨RX0, "placeOf", "(I)I"⟩
abbrev cX0_addAsked : ByteArray := prog_2_method_4_code
def yX0_addAsked : MethodName := ⟨RX0, "addAsked", "(II)V"⟩
abbrev cX0_startWaiting : ByteArray := prog_2_method_5_code
def yX0_startWaiting : MethodName := ⟨RX0, "startWaiting", "()V"⟩
abbrev cX0_open : ByteArray := prog_2_method_6_code
def yX0_open : MethodName := ⟨RX0, "open", "()V"⟩
abbrev cX0_bar : ByteArray := prog_2_method_7_code
def yX0_bar : MethodName := ⟨RX0, "bar", "()V"⟩
abbrev cX0_spendTime : ByteArray := prog_2_method_8_code
def yX0_spendTime : MethodName := ⟨RX0, "spendTime", "()V"⟩
abbrev cX0_takeAnswer : ByteArray := prog_2_method_9_code
def yX0_takeAnswer : MethodName := ⟨RX0, "takeAnswer", "(II)V"⟩
abbrev cX0_remember : ByteArray := prog_2_method_10_code
def yX0_remember : MethodName := ⟨RX0, "remember", "(II)V"⟩
abbrev cX0_forget : ByteArray := prog_2_method_11_code
def yX0_forget : MethodName := ⟨RX0, "forget", "()V"⟩
abbrev cX0_isReadyToDecide : ByteArray := prog_2_method_12_code
def yX0_isReadyToDecide : MethodName := ⟨RX0, "isReadyToDecide", "()Z"⟩
abbrev cX0_decide : ByteArray := prog_2_method_13_code
def yX0_decide : MethodName := ⟨RX0, "decide", "()V"⟩
abbrev cX0_isPersuaded : ByteArray := prog_2_method_14_code
def yX0_isPersuaded : MethodName := ⟨RX0, "isPersuaded", "(I)Z"⟩
abbrev cX0_answersOf : ByteArray := prog_2_method_15_code
def yX0_answersOf : MethodName := ⟨RX0, "answersOf", "(I)I"⟩
abbrev cX0_fact : ByteArray := prog_2_method_16_code
def yX0_fact : MethodName := ⟨RX0, "fact", "(I)I"⟩
abbrev cX0_askedFact : ByteArray := prog_2_method_17_code
def yX0_askedFact : MethodName := ⟨RX0, "askedFact", "(II)I"⟩
def RX1 : String := "VaultDoors$Vault"
def TX1 : u_T := fun k => match k with
  | 0 => ("VaultDoors$Vault", "tick", "I", false)
  | 1 => ("VaultDoors$Vault", "doorCount", "I", false)
  | 2 => ("VaultDoors$Vault", "doors", "[LVaultDoors$Door;", true)
  | 3 => ("VaultDoors$Vault", "voices", "LVaultDoors$Voices;", true)
  | _ => ("VaultDoors$Vault", "arrived", "LVaultDoors$Voices;", true)
def tyX1 : Nat → FieldType := fun k => match k with
  | 0 => .int
  | 1 => .int
  | 2 => .array (.object "VaultDoors$Door")
  | 3 => .object "VaultDoors$Voices"
  | _ => .object "VaultDoors$Voices"
abbrev wsX10 : List Cond := u_ws RX1 TX1 5
theorem nmX1 : ∀ a, a < 5 → ∀ b, b < 5 → a ≠ b → (TX1 a).2.1 ≠ (TX1 b).2.1 := by decide +kernel
theorem tyX1_ok : ∀ k, k < 5 → parseFieldDescriptor (TX1 k).2.2.1 = some (tyX1 k) := by decide +kernel
abbrev cX1_init : ByteArray := prog_3_method_1_code
def yX1_init : MethodName := ⟨RX1, "<init>", "()V"⟩
abbrev cX1_copyFrom : ByteArray := prog_3_method_2_code
def yX1_copyFrom : MethodName := ⟨RX1, "copyFrom", "(LVaultDoors$Vault;)V"⟩
abbrev cX1_isDoor : ByteArray := prog_3_method_3_code
def yX1_isDoor : MethodName := ⟨RX1, "isDoor", "(I)Z"⟩
abbrev cX1_addDoor : ByteArray := prog_3_method_4_code
def yX1_addDoor : MethodName := ⟨RX1, "addDoor", "(III)I"⟩
abbrev cX1_hearToken : ByteArray := prog_3_method_5_code
def yX1_hearToken : MethodName := ⟨RX1, "hearToken", "(II)Z"⟩
abbrev cX1_tickOn : ByteArray := prog_3_method_6_code
def yX1_tickOn : MethodName := ⟨RX1, "tickOn", "()I"⟩
abbrev cX1_hear : ByteArray := prog_3_method_7_code
def yX1_hear : MethodName := ⟨RX1, "hear", "(IIII)V"⟩
abbrev cX1_wake : ByteArray := prog_3_method_8_code
def yX1_wake : MethodName := ⟨RX1, "wake", "(I)V"⟩
abbrev cX1_waitOn : ByteArray := prog_3_method_9_code
def yX1_waitOn : MethodName := ⟨RX1, "waitOn", "(I)Z"⟩
abbrev cX1_openDoors : ByteArray := prog_3_method_10_code
def yX1_openDoors : MethodName := ⟨RX1, "openDoors", "()I"⟩
abbrev cX1_doorsThat : ByteArray := prog_3_method_11_code
def yX1_doorsThat : MethodName := ⟨RX1, "doorsThat", "(I)I"⟩
abbrev cX1_fact : ByteArray := prog_3_method_12_code
def yX1_fact : MethodName := ⟨RX1, "fact", "(I)I"⟩
abbrev cX1_reachedFrom : ByteArray := prog_3_method_13_code
def yX1_reachedFrom : MethodName := ⟨RX1, "reachedFrom", "(I)I"⟩
abbrev cX1_askedBy : ByteArray := prog_3_method_14_code
def yX1_askedBy : MethodName := ⟨RX1, "askedBy", "(I)I"⟩
def RX2 : String := "VaultDoors$Voices"
def TX2 : u_T := fun k => match k with
  | 0 => ("VaultDoors$Voices", "size", "I", false)
  | 1 => ("VaultDoors$Voices", "lost", "I", false)
  | 2 => ("VaultDoors$Voices", "from", "[I", true)
  | 3 => ("VaultDoors$Voices", "to", "[I", true)
  | 4 => ("VaultDoors$Voices", "kind", "[I", true)
  | 5 => ("VaultDoors$Voices", "left", "[I", true)
  | _ => ("VaultDoors$Voices", "distance", "[I", true)
def tyX2 : Nat → FieldType := fun k => match k with
  | 0 => .int
  | 1 => .int
  | 2 => .array .int
  | 3 => .array .int
  | 4 => .array .int
  | 5 => .array .int
  | _ => .array .int
abbrev wsX20 : List Cond := u_ws RX2 TX2 7
theorem nmX2 : ∀ a, a < 7 → ∀ b, b < 7 → a ≠ b → (TX2 a).2.1 ≠ (TX2 b).2.1 := by decide +kernel
theorem tyX2_ok : ∀ k, k < 7 → parseFieldDescriptor (TX2 k).2.2.1 = some (tyX2 k) := by decide +kernel
abbrev cX2_init : ByteArray := prog_4_method_1_code
def yX2_init : MethodName := ⟨RX2, "<init>", "()V"⟩
abbrev cX2_copyFrom : ByteArray := prog_4_method_2_code
def yX2_copyFrom : MethodName := ⟨RX2, "copyFrom", "(LVaultDoors$Voices;)V"⟩
abbrev cX2_add : ByteArray := prog_4_method_3_code
def yX2_add : MethodName := ⟨RX2, "add", "(IIII)V"⟩
abbrev cX2_moveOn : ByteArray := prog_4_method_4_code
def yX2_moveOn : MethodName := ⟨RX2, "moveOn", "(LVaultDoors$Voices;)V"⟩
abbrev cX2_moveUp : ByteArray := prog_4_method_5_code
def yX2_moveUp : MethodName := ⟨RX2, "moveUp", "(II)V"⟩
abbrev cX2_fact : ByteArray := prog_4_method_6_code
def yX2_fact : MethodName := ⟨RX2, "fact", "(II)I"⟩
def RX3 : String := "VaultDoors"
def TX3 : u_T := fun k => match k with
  | 0 => ("VaultDoors", "vault", "LVaultDoors$Vault;", true)
  | _ => ("VaultDoors", "trial", "LVaultDoors$Vault;", true)
def tyX3 : Nat → FieldType := fun k => match k with
  | 0 => .object "VaultDoors$Vault"
  | _ => .object "VaultDoors$Vault"
abbrev wsX30 : List Cond := u_ws RX3 TX3 2
theorem nmX3 : ∀ a, a < 2 → ∀ b, b < 2 → a ≠ b → (TX3 a).2.1 ≠ (TX3 b).2.1 := by decide +kernel
theorem tyX3_ok : ∀ k, k < 2 → parseFieldDescriptor (TX3 k).2.2.1 = some (tyX3 k) := by decide +kernel
abbrev cX3_init : ByteArray := prog_1_method_1_code
def yX3_init : MethodName := ⟨RX3, "<init>", "()V"⟩
abbrev cX3_build : ByteArray := prog_1_method_2_code
def yX3_build : MethodName := ⟨RX3, "build", "(III)I"⟩
abbrev cX3_ask : ByteArray := prog_1_method_3_code
def yX3_ask : MethodName := ⟨RX3, "ask", "(III)I"⟩
abbrev cX3_set : ByteArray := prog_1_method_4_code
def yX3_set : MethodName := ⟨RX3, "set", "(III)I"⟩
abbrev cX3_whisper : ByteArray := prog_1_method_5_code
def yX3_whisper : MethodName := ⟨RX3, "whisper", "(II)Z"⟩
abbrev cX3_door : ByteArray := prog_1_method_6_code
def yX3_door : MethodName := ⟨RX3, "door", "(II)I"⟩
abbrev cX3_asks : ByteArray := prog_1_method_7_code
def yX3_asks : MethodName := ⟨RX3, "asks", "(III)I"⟩
abbrev cX3_voice : ByteArray := prog_1_method_8_code
def yX3_voice : MethodName := ⟨RX3, "voice", "(II)I"⟩
abbrev cX3_count : ByteArray := prog_1_method_9_code
def yX3_count : MethodName := ⟨RX3, "count", "(I)I"⟩
abbrev cX3_reach : ByteArray := prog_1_method_10_code
def yX3_reach : MethodName := ⟨RX3, "reach", "(I)I"⟩
abbrev cX3_pass : ByteArray := prog_1_method_11_code
def yX3_pass : MethodName := ⟨RX3, "pass", "(I)I"⟩
abbrev cX3_opens : ByteArray := prog_1_method_12_code
def yX3_opens : MethodName := ⟨RX3, "opens", "(I)I"⟩
abbrev cX3_would : ByteArray := prog_1_method_13_code
def yX3_would : MethodName := ⟨RX3, "would", "(II)I"⟩
abbrev cX3_best : ByteArray := prog_1_method_14_code
def yX3_best : MethodName := ⟨RX3, "best", "(I)I"⟩
abbrev cX3_mean : ByteArray := prog_1_method_15_code
def yX3_mean : MethodName := ⟨RX3, "mean", "()D"⟩
abbrev cX3_digest : ByteArray := prog_1_method_16_code
def yX3_digest : MethodName := ⟨RX3, "digest", "()J"⟩
abbrev cX3_digestOfDoor : ByteArray := prog_1_method_17_code
def yX3_digestOfDoor : MethodName := ⟨RX3, "digestOfDoor", "(JLVaultDoors$Door;)J"⟩
abbrev cX3_openedByWhisper : ByteArray := prog_1_method_18_code
def yX3_openedByWhisper : MethodName := ⟨RX3, "openedByWhisper", "(II)I"⟩
abbrev cX3_isIn : ByteArray := prog_1_method_19_code
def yX3_isIn : MethodName := ⟨RX3, "isIn", "(III)Z"⟩
abbrev cX3_isPatience : ByteArray := prog_1_method_20_code
def yX3_isPatience : MethodName := ⟨RX3, "isPatience", "(I)Z"⟩
abbrev cX3_isRule : ByteArray := prog_1_method_21_code
def yX3_isRule : MethodName := ⟨RX3, "isRule", "(I)Z"⟩
def RX4 : String := "VaultDoorsModel"
def TX4 : u_T := fun k => match k with
  | 0 => ("VaultDoorsModel", "thrown", "I", false)
  | 1 => ("VaultDoorsModel", "doors", "I", false)
  | 2 => ("VaultDoorsModel", "vault", "[I", true)
  | 3 => ("VaultDoorsModel", "links", "[I", true)
  | 4 => ("VaultDoorsModel", "memory", "[I", true)
  | 5 => ("VaultDoorsModel", "voices", "[I", true)
  | 6 => ("VaultDoorsModel", "numbers", "[I", true)
  | _ => ("VaultDoorsModel", "heard", "[I", true)
def tyX4 : Nat → FieldType := fun k => match k with
  | 0 => .int
  | 1 => .int
  | 2 => .array .int
  | 3 => .array .int
  | 4 => .array .int
  | 5 => .array .int
  | 6 => .array .int
  | _ => .array .int
abbrev wsX40 : List Cond := u_ws RX4 TX4 8
theorem nmX4 : ∀ a, a < 8 → ∀ b, b < 8 → a ≠ b → (TX4 a).2.1 ≠ (TX4 b).2.1 := by decide +kernel
theorem tyX4_ok : ∀ k, k < 8 → parseFieldDescriptor (TX4 k).2.2.1 = some (tyX4 k) := by decide +kernel
abbrev cX4_init : ByteArray := prog_6_method_1_code
def yX4_init : MethodName := ⟨RX4, "<init>", "()V"⟩
abbrev cX4_thrown : ByteArray := prog_6_method_2_code
def yX4_thrown : MethodName := ⟨RX4, "thrown", "()I"⟩
abbrev cX4_fail : ByteArray := prog_6_method_3_code
def yX4_fail : MethodName := ⟨RX4, "fail", "(I)I"⟩
abbrev cX4_isIn : ByteArray := prog_6_method_4_code
def yX4_isIn : MethodName := ⟨RX4, "isIn", "(III)Z"⟩
abbrev cX4_isDoor : ByteArray := prog_6_method_5_code
def yX4_isDoor : MethodName := ⟨RX4, "isDoor", "(I)Z"⟩
abbrev cX4_va : ByteArray := prog_6_method_6_code
def yX4_va : MethodName := ⟨RX4, "va", "(II)I"⟩
abbrev cX4_put : ByteArray := prog_6_method_7_code
def yX4_put : MethodName := ⟨RX4, "put", "(III)V"⟩
abbrev cX4_li : ByteArray := prog_6_method_8_code
def yX4_li : MethodName := ⟨RX4, "li", "(III)I"⟩
abbrev cX4_setLink : ByteArray := prog_6_method_9_code
def yX4_setLink : MethodName := ⟨RX4, "setLink", "(IIII)V"⟩
abbrev cX4_build : ByteArray := prog_6_method_10_code
def yX4_build : MethodName := ⟨RX4, "build", "(III)I"⟩
abbrev cX4_place : ByteArray := prog_6_method_11_code
def yX4_place : MethodName := ⟨RX4, "place", "(II)I"⟩
abbrev cX4_ask : ByteArray := prog_6_method_12_code
def yX4_ask : MethodName := ⟨RX4, "ask", "(III)I"⟩
abbrev cX4_set : ByteArray := prog_6_method_13_code
def yX4_set : MethodName := ⟨RX4, "set", "(III)I"⟩
abbrev cX4_send : ByteArray := prog_6_method_14_code
def yX4_send : MethodName := ⟨RX4, "send", "(IIII)V"⟩
abbrev cX4_wake : ByteArray := prog_6_method_15_code
def yX4_wake : MethodName := ⟨RX4, "wake", "(I)V"⟩
abbrev cX4_state : ByteArray := prog_6_method_16_code
def yX4_state : MethodName := ⟨RX4, "state", "(III)V"⟩
abbrev cX4_turn : ByteArray := prog_6_method_17_code
def yX4_turn : MethodName := ⟨RX4, "turn", "(IZ)V"⟩
abbrev cX4_whisper : ByteArray := prog_6_method_18_code
def yX4_whisper : MethodName := ⟨RX4, "whisper", "(II)Z"⟩
abbrev cX4_answers : ByteArray := prog_6_method_19_code
def yX4_answers : MethodName := ⟨RX4, "answers", "(IZ)I"⟩
abbrev cX4_doorTold : ByteArray := prog_6_method_20_code
def yX4_doorTold : MethodName := ⟨RX4, "doorTold", "(II)I"⟩
abbrev cX4_door : ByteArray := prog_6_method_21_code
def yX4_door : MethodName := ⟨RX4, "door", "(II)I"⟩
abbrev cX4_asked : ByteArray := prog_6_method_22_code
def yX4_asked : MethodName := ⟨RX4, "asked", "(III)I"⟩
abbrev cX4_asks : ByteArray := prog_6_method_23_code
def yX4_asks : MethodName := ⟨RX4, "asks", "(III)I"⟩
abbrev cX4_voice : ByteArray := prog_6_method_24_code
def yX4_voice : MethodName := ⟨RX4, "voice", "(II)I"⟩
abbrev cX4_openOnes : ByteArray := prog_6_method_25_code
def yX4_openOnes : MethodName := ⟨RX4, "openOnes", "()I"⟩
abbrev cX4_counted : ByteArray := prog_6_method_26_code
def yX4_counted : MethodName := ⟨RX4, "counted", "(I)I"⟩
abbrev cX4_count : ByteArray := prog_6_method_27_code
def yX4_count : MethodName := ⟨RX4, "count", "(I)I"⟩
abbrev cX4_reach : ByteArray := prog_6_method_28_code
def yX4_reach : MethodName := ⟨RX4, "reach", "(I)I"⟩
abbrev cX4_hear : ByteArray := prog_6_method_29_code
def yX4_hear : MethodName := ⟨RX4, "hear", "(I)V"⟩
abbrev cX4_says : ByteArray := prog_6_method_30_code
def yX4_says : MethodName := ⟨RX4, "says", "(I)Z"⟩
abbrev cX4_decide : ByteArray := prog_6_method_31_code
def yX4_decide : MethodName := ⟨RX4, "decide", "(I)Z"⟩
abbrev cX4_listen : ByteArray := prog_6_method_32_code
def yX4_listen : MethodName := ⟨RX4, "listen", "()V"⟩
abbrev cX4_tickOn : ByteArray := prog_6_method_33_code
def yX4_tickOn : MethodName := ⟨RX4, "tickOn", "()I"⟩
abbrev cX4_pass : ByteArray := prog_6_method_34_code
def yX4_pass : MethodName := ⟨RX4, "pass", "(I)I"⟩
abbrev cX4_all : ByteArray := prog_6_method_35_code
def yX4_all : MethodName := ⟨RX4, "all", "()[[I"⟩
abbrev cX4_kept : ByteArray := prog_6_method_36_code
def yX4_kept : MethodName := ⟨RX4, "kept", "()[[I"⟩
abbrev cX4_bringBack : ByteArray := prog_6_method_37_code
def yX4_bringBack : MethodName := ⟨RX4, "bringBack", "([[I)V"⟩
abbrev cX4_opens : ByteArray := prog_6_method_38_code
def yX4_opens : MethodName := ⟨RX4, "opens", "(I)I"⟩
abbrev cX4_opened : ByteArray := prog_6_method_39_code
def yX4_opened : MethodName := ⟨RX4, "opened", "(II)I"⟩
abbrev cX4_would : ByteArray := prog_6_method_40_code
def yX4_would : MethodName := ⟨RX4, "would", "(II)I"⟩
abbrev cX4_best : ByteArray := prog_6_method_41_code
def yX4_best : MethodName := ⟨RX4, "best", "(I)I"⟩
abbrev cX4_mean : ByteArray := prog_6_method_42_code
def yX4_mean : MethodName := ⟨RX4, "mean", "()D"⟩
abbrev cX4_digest : ByteArray := prog_6_method_43_code
def yX4_digest : MethodName := ⟨RX4, "digest", "()J"⟩
def RJx8e188 : String := "java/lang/Cloneable"
def TJx8e188 : u_T := fun k => match k with
  | _ => ("", "", "", false)
def tyJx8e188 : Nat → FieldType := fun k => match k with
  | _ => .int
abbrev wsJx8e1880 : List Cond := u_ws RJx8e188 TJx8e188 0
theorem nmJx8e188 : ∀ a, a < 0 → ∀ b, b < 0 → a ≠ b → (TJx8e188 a).2.1 ≠ (TJx8e188 b).2.1 := by decide +kernel
theorem tyJx8e188_ok : ∀ k, k < 0 → parseFieldDescriptor (TJx8e188 k).2.2.1 = some (tyJx8e188 k) := by decide +kernel
def RJ6 : String := "java/lang/Integer"
def TJ6 : u_T := fun k => match k with
  | _ => ("", "", "", false)
def tyJ6 : Nat → FieldType := fun k => match k with
  | _ => .int
abbrev wsJ60 : List Cond := u_ws RJ6 TJ6 0
theorem nmJ6 : ∀ a, a < 0 → ∀ b, b < 0 → a ≠ b → (TJ6 a).2.1 ≠ (TJ6 b).2.1 := by decide +kernel
theorem tyJ6_ok : ∀ k, k < 0 → parseFieldDescriptor (TJ6 k).2.2.1 = some (tyJ6 k) := by decide +kernel
abbrev cJ6_bitCount_0f7a4 : ByteArray := prog_12_method_49_code
def yJ6_bitCount_0f7a4 : MethodName := ⟨RJ6, "bitCount", "(I)I"⟩
def RJ0 : String := "java/lang/String"
def TJ0 : u_T := fun k => match k with
  | _ => ("", "", "", false)
def tyJ0 : Nat → FieldType := fun k => match k with
  | _ => .int
abbrev wsJ00 : List Cond := u_ws RJ0 TJ0 0
theorem nmJ0 : ∀ a, a < 0 → ∀ b, b < 0 → a ≠ b → (TJ0 a).2.1 ≠ (TJ0 b).2.1 := by decide +kernel
theorem tyJ0_ok : ∀ k, k < 0 → parseFieldDescriptor (TJ0 k).2.2.1 = some (tyJ0 k) := by decide +kernel
def RJ10 : String := "java/lang/System"
def TJ10 : u_T := fun k => match k with
  | _ => ("", "", "", false)
def tyJ10 : Nat → FieldType := fun k => match k with
  | _ => .int
abbrev wsJ100 : List Cond := u_ws RJ10 TJ10 0
theorem nmJ10 : ∀ a, a < 0 → ∀ b, b < 0 → a ≠ b → (TJ10 a).2.1 ≠ (TJ10 b).2.1 := by decide +kernel
theorem tyJ10_ok : ∀ k, k < 0 → parseFieldDescriptor (TJ10 k).2.2.1 = some (tyJ10 k) := by decide +kernel
def RL : String := "VaultDoorsLaw"
abbrev cL_build : ByteArray := method_3_code
def yL_build : MethodName := ⟨RL, "build", "(LVaultDoors;III[J)I"⟩
abbrev cL_ask : ByteArray := method_4_code
def yL_ask : MethodName := ⟨RL, "ask", "(LVaultDoors;III[J)I"⟩
abbrev cL_set : ByteArray := method_5_code
def yL_set : MethodName := ⟨RL, "set", "(LVaultDoors;III[J)I"⟩
abbrev cL_whisper : ByteArray := method_6_code
def yL_whisper : MethodName := ⟨RL, "whisper", "(LVaultDoors;II[J)I"⟩
abbrev cL_door : ByteArray := method_7_code
def yL_door : MethodName := ⟨RL, "door", "(LVaultDoors;II[J)I"⟩
abbrev cL_asks : ByteArray := method_8_code
def yL_asks : MethodName := ⟨RL, "asks", "(LVaultDoors;III[J)I"⟩
abbrev cL_voice : ByteArray := method_9_code
def yL_voice : MethodName := ⟨RL, "voice", "(LVaultDoors;II[J)I"⟩
abbrev cL_count : ByteArray := method_10_code
def yL_count : MethodName := ⟨RL, "count", "(LVaultDoors;I[J)I"⟩
abbrev cL_reach : ByteArray := method_11_code
def yL_reach : MethodName := ⟨RL, "reach", "(LVaultDoors;I[J)I"⟩
abbrev cL_pass : ByteArray := method_12_code
def yL_pass : MethodName := ⟨RL, "pass", "(LVaultDoors;I[J)I"⟩
abbrev cL_opens : ByteArray := method_13_code
def yL_opens : MethodName := ⟨RL, "opens", "(LVaultDoors;I[J)I"⟩
abbrev cL_would : ByteArray := method_14_code
def yL_would : MethodName := ⟨RL, "would", "(LVaultDoors;II[J)I"⟩
abbrev cL_best : ByteArray := method_15_code
def yL_best : MethodName := ⟨RL, "best", "(LVaultDoors;I[J)I"⟩
abbrev cL_law : ByteArray := code
def yL_law : MethodName := ⟨RL, "law", "([I)Z"⟩
def wsX0_init : List Cond := .code yX0_init cX0_init 1 none :: ([.methodLink RX0 3 objectInit, .instanceMethod objectInit, .code objectInit ⟨#[0xb1]⟩ 1 none, .arrayClass .int, .fieldLink RX0 9 "VaultDoors$Door" "other" "[I", .fieldLink RX0 15 "VaultDoors$Door" "distance" "[I", .fieldLink RX0 18 "VaultDoors$Door" "answer" "[I", .fieldLink RX0 21 "VaultDoors$Door" "asker" "[I", .fieldLink RX0 24 "VaultDoors$Door" "askerDistance" "[I"] ++ wsX00)
def wsX0_copyFrom : List Cond := .code yX0_copyFrom cX0_copyFrom 2 none :: ([.fieldLink RX0 27 "VaultDoors$Door" "secret" "I", .fieldLink RX0 31 "VaultDoors$Door" "patience" "I", .fieldLink RX0 34 "VaultDoors$Door" "rule" "I", .fieldLink RX0 37 "VaultDoors$Door" "state" "I", .fieldLink RX0 40 "VaultDoors$Door" "left" "I", .fieldLink RX0 43 "VaultDoors$Door" "opened" "I", .fieldLink RX0 46 "VaultDoors$Door" "barred" "I", .fieldLink RX0 49 "VaultDoors$Door" "asked" "I", .fieldLink RX0 9 "VaultDoors$Door" "other" "[I", .methodLink RX0 52 arraycopyName, .native arraycopyName, .static arraycopyName, .initialized "java/lang/System", .fieldLink RX0 15 "VaultDoors$Door" "distance" "[I", .fieldLink RX0 18 "VaultDoors$Door" "answer" "[I", .fieldLink RX0 58 "VaultDoors$Door" "remembered" "I", .fieldLink RX0 21 "VaultDoors$Door" "asker" "[I", .fieldLink RX0 24 "VaultDoors$Door" "askerDistance" "[I"] ++ wsX00)
def wsX0_placeOf : List Cond := .code yX0_placeOf cX0_placeOf 3 (some .int) :: ([.fieldLink RX0 49 "VaultDoors$Door" "asked" "I", .fieldLink RX0 9 "VaultDoors$Door" "other" "[I"] ++ wsX00)
def wsX0_addAsked : List Cond := .code yX0_addAsked cX0_addAsked 3 none :: ([.fieldLink RX0 49 "VaultDoors$Door" "asked" "I", .fieldLink RX0 9 "VaultDoors$Door" "other" "[I", .fieldLink RX0 15 "VaultDoors$Door" "distance" "[I", .fieldLink RX0 18 "VaultDoors$Door" "answer" "[I"] ++ wsX00)
def wsX0_startWaiting : List Cond := .code yX0_startWaiting cX0_startWaiting 1 none :: ([.fieldLink RX0 37 "VaultDoors$Door" "state" "I", .fieldLink RX0 31 "VaultDoors$Door" "patience" "I", .fieldLink RX0 40 "VaultDoors$Door" "left" "I"] ++ wsX00)
def wsX0_open : List Cond := .code yX0_open cX0_open 1 none :: ([.fieldLink RX0 37 "VaultDoors$Door" "state" "I", .fieldLink RX0 40 "VaultDoors$Door" "left" "I", .fieldLink RX0 43 "VaultDoors$Door" "opened" "I"] ++ wsX00)
def wsX0_bar : List Cond := .code yX0_bar cX0_bar 1 none :: ([.fieldLink RX0 37 "VaultDoors$Door" "state" "I", .fieldLink RX0 40 "VaultDoors$Door" "left" "I", .fieldLink RX0 46 "VaultDoors$Door" "barred" "I"] ++ wsX00)
def wsX0_spendTime : List Cond := .code yX0_spendTime cX0_spendTime 1 none :: ([.fieldLink RX0 37 "VaultDoors$Door" "state" "I", .fieldLink RX0 40 "VaultDoors$Door" "left" "I"] ++ wsX00)
def wsX0_takeAnswer : List Cond := .code yX0_takeAnswer cX0_takeAnswer 4 none :: ([.fieldLink RX0 37 "VaultDoors$Door" "state" "I", .fieldLink RX0 18 "VaultDoors$Door" "answer" "[I", .methodLink RX0 61 yX0_placeOf, .instanceMethod yX0_placeOf, .selects RX0 yX0_placeOf yX0_placeOf, .initialized RX0, .code yX0_placeOf cX0_placeOf 3 (some .int), .fieldLink RX0 49 "VaultDoors$Door" "asked" "I", .fieldLink RX0 9 "VaultDoors$Door" "other" "[I"] ++ wsX00)
def wsX0_remember : List Cond := .code yX0_remember cX0_remember 3 none :: ([.fieldLink RX0 58 "VaultDoors$Door" "remembered" "I", .fieldLink RX0 21 "VaultDoors$Door" "asker" "[I", .fieldLink RX0 24 "VaultDoors$Door" "askerDistance" "[I"] ++ wsX00)
def wsX0_forget : List Cond := .code yX0_forget cX0_forget 2 none :: ([.fieldLink RX0 58 "VaultDoors$Door" "remembered" "I", .fieldLink RX0 49 "VaultDoors$Door" "asked" "I", .fieldLink RX0 18 "VaultDoors$Door" "answer" "[I"] ++ wsX00)
def wsX0_answersOf : List Cond := .code yX0_answersOf cX0_answersOf 4 (some .int) :: ([.fieldLink RX0 49 "VaultDoors$Door" "asked" "I", .fieldLink RX0 18 "VaultDoors$Door" "answer" "[I"] ++ wsX00)
def wsX0_isReadyToDecide : List Cond := .code yX0_isReadyToDecide cX0_isReadyToDecide 1 (some .boolean) :: ([.fieldLink RX0 40 "VaultDoors$Door" "left" "I", .fieldLink RX0 49 "VaultDoors$Door" "asked" "I", .methodLink RX0 65 yX0_answersOf, .instanceMethod yX0_answersOf, .selects RX0 yX0_answersOf yX0_answersOf, .initialized RX0, .code yX0_answersOf cX0_answersOf 4 (some .int), .fieldLink RX0 18 "VaultDoors$Door" "answer" "[I"] ++ wsX00)
def wsX0_isPersuaded : List Cond := .code yX0_isPersuaded cX0_isPersuaded 2 (some .boolean) :: ([.fieldLink RX0 34 "VaultDoors$Door" "rule" "I", .fieldLink RX0 49 "VaultDoors$Door" "asked" "I"] ++ wsX00)
def wsX0_decide : List Cond := .code yX0_decide cX0_decide 1 none :: ([.methodLink RX0 65 yX0_answersOf, .instanceMethod yX0_answersOf, .selects RX0 yX0_answersOf yX0_answersOf, .initialized RX0, .code yX0_answersOf cX0_answersOf 4 (some .int), .fieldLink RX0 49 "VaultDoors$Door" "asked" "I", .fieldLink RX0 18 "VaultDoors$Door" "answer" "[I", .methodLink RX0 68 yX0_isPersuaded, .instanceMethod yX0_isPersuaded, .selects RX0 yX0_isPersuaded yX0_isPersuaded, .code yX0_isPersuaded cX0_isPersuaded 2 (some .boolean), .fieldLink RX0 34 "VaultDoors$Door" "rule" "I", .methodLink RX0 72 yX0_open, .instanceMethod yX0_open, .selects RX0 yX0_open yX0_open, .code yX0_open cX0_open 1 none, .fieldLink RX0 37 "VaultDoors$Door" "state" "I", .fieldLink RX0 40 "VaultDoors$Door" "left" "I", .fieldLink RX0 43 "VaultDoors$Door" "opened" "I", .methodLink RX0 75 yX0_bar, .instanceMethod yX0_bar, .selects RX0 yX0_bar yX0_bar, .code yX0_bar cX0_bar 1 none, .fieldLink RX0 46 "VaultDoors$Door" "barred" "I"] ++ wsX00)
def wsX0_fact : List Cond := .code yX0_fact cX0_fact 2 (some .int) :: ([.fieldLink RX0 37 "VaultDoors$Door" "state" "I", .fieldLink RX0 40 "VaultDoors$Door" "left" "I", .fieldLink RX0 34 "VaultDoors$Door" "rule" "I", .fieldLink RX0 49 "VaultDoors$Door" "asked" "I", .fieldLink RX0 58 "VaultDoors$Door" "remembered" "I", .fieldLink RX0 43 "VaultDoors$Door" "opened" "I", .fieldLink RX0 46 "VaultDoors$Door" "barred" "I", .methodLink RX0 65 yX0_answersOf, .instanceMethod yX0_answersOf, .selects RX0 yX0_answersOf yX0_answersOf, .initialized RX0, .code yX0_answersOf cX0_answersOf 4 (some .int), .fieldLink RX0 18 "VaultDoors$Door" "answer" "[I"] ++ wsX00)
def wsX3_isIn : List Cond := .code yX3_isIn cX3_isIn 3 (some .boolean) :: ([])
def wsX0_askedFact : List Cond := .code yX0_askedFact cX0_askedFact 3 (some .int) :: ([.fieldLink RX0 49 "VaultDoors$Door" "asked" "I", .fieldLink RX0 9 "VaultDoors$Door" "other" "[I", .fieldLink RX0 15 "VaultDoors$Door" "distance" "[I", .fieldLink RX0 18 "VaultDoors$Door" "answer" "[I", .static yX3_isIn, .initialized RX3, .code yX3_isIn cX3_isIn 3 (some .boolean)] ++ wsX00)
def wsX2_init : List Cond := .code yX2_init cX2_init 1 none :: ([.methodLink RX2 3 objectInit, .instanceMethod objectInit, .code objectInit ⟨#[0xb1]⟩ 1 none, .arrayClass .int, .fieldLink RX2 9 "VaultDoors$Voices" "from" "[I", .fieldLink RX2 15 "VaultDoors$Voices" "to" "[I", .fieldLink RX2 18 "VaultDoors$Voices" "kind" "[I", .fieldLink RX2 21 "VaultDoors$Voices" "left" "[I", .fieldLink RX2 24 "VaultDoors$Voices" "distance" "[I"] ++ wsX20)
def wsX1_init_r1 : List Cond := [Cond.methodLink RX1 3 objectInit, Cond.instanceMethod objectInit, Cond.code objectInit ⟨#[0xb1]⟩ 1 none, Cond.classLink RX1 9 RX0, Cond.fieldLink RX1 11 "VaultDoors$Vault" "doors" "[LVaultDoors$Door;", Cond.classLink RX1 17 RX2, Cond.instantiable RX2 7, Cond.initialized RX2, Cond.fieldLink RX1 20 "VaultDoors$Vault" "voices" "LVaultDoors$Voices;", Cond.fieldLink RX1 24 "VaultDoors$Vault" "arrived" "LVaultDoors$Voices;", Cond.instantiable RX0 14, Cond.initialized RX0, Cond.instanceMethod yX2_init, Cond.code yX2_init cX2_init 1 none, Cond.methodLink RX2 3 objectInit, Cond.arrayClass .int, Cond.fieldLink RX2 9 "VaultDoors$Voices" "from" "[I", Cond.fieldLink RX2 15 "VaultDoors$Voices" "to" "[I", Cond.fieldLink RX2 18 "VaultDoors$Voices" "kind" "[I", Cond.fieldLink RX2 21 "VaultDoors$Voices" "left" "[I", Cond.fieldLink RX2 24 "VaultDoors$Voices" "distance" "[I", Cond.instanceMethod yX0_init, Cond.code yX0_init cX0_init 1 none, Cond.methodLink RX0 3 objectInit]
def wsX1_init_r2 : List Cond := [Cond.fieldLink RX0 9 "VaultDoors$Door" "other" "[I", Cond.fieldLink RX0 15 "VaultDoors$Door" "distance" "[I", Cond.fieldLink RX0 18 "VaultDoors$Door" "answer" "[I", Cond.fieldLink RX0 21 "VaultDoors$Door" "asker" "[I", Cond.fieldLink RX0 24 "VaultDoors$Door" "askerDistance" "[I"]
def wsX1_init : List Cond := .code yX1_init cX1_init 2 none :: ((wsX1_init_r1 ++ wsX1_init_r2) ++ wsX10 ++ wsX20 ++ wsX00)
def wsX2_copyFrom : List Cond := .code yX2_copyFrom cX2_copyFrom 2 none :: ([.fieldLink RX2 27 "VaultDoors$Voices" "size" "I", .fieldLink RX2 31 "VaultDoors$Voices" "lost" "I", .fieldLink RX2 9 "VaultDoors$Voices" "from" "[I", .methodLink RX2 34 arraycopyName, .native arraycopyName, .static arraycopyName, .initialized "java/lang/System", .fieldLink RX2 15 "VaultDoors$Voices" "to" "[I", .fieldLink RX2 18 "VaultDoors$Voices" "kind" "[I", .fieldLink RX2 21 "VaultDoors$Voices" "left" "[I", .fieldLink RX2 24 "VaultDoors$Voices" "distance" "[I"] ++ wsX20)
def wsX1_copyFrom_r1 : List Cond := [Cond.fieldLink RX1 28 "VaultDoors$Vault" "tick" "I", Cond.fieldLink RX1 32 "VaultDoors$Vault" "doorCount" "I", Cond.fieldLink RX1 11 "VaultDoors$Vault" "doors" "[LVaultDoors$Door;", Cond.fieldLink RX1 20 "VaultDoors$Vault" "voices" "LVaultDoors$Voices;", Cond.methodLink RX1 35 yX0_copyFrom, Cond.instanceMethod yX0_copyFrom, Cond.selects RX0 yX0_copyFrom yX0_copyFrom, Cond.initialized RX0, Cond.code yX0_copyFrom cX0_copyFrom 2 none, Cond.fieldLink RX0 27 "VaultDoors$Door" "secret" "I", Cond.fieldLink RX0 31 "VaultDoors$Door" "patience" "I", Cond.fieldLink RX0 34 "VaultDoors$Door" "rule" "I", Cond.fieldLink RX0 37 "VaultDoors$Door" "state" "I", Cond.fieldLink RX0 40 "VaultDoors$Door" "left" "I", Cond.fieldLink RX0 43 "VaultDoors$Door" "opened" "I", Cond.fieldLink RX0 46 "VaultDoors$Door" "barred" "I", Cond.fieldLink RX0 49 "VaultDoors$Door" "asked" "I", Cond.fieldLink RX0 9 "VaultDoors$Door" "other" "[I", Cond.methodLink RX0 52 arraycopyName, Cond.native arraycopyName, Cond.static arraycopyName, Cond.initialized "java/lang/System", Cond.fieldLink RX0 15 "VaultDoors$Door" "distance" "[I", Cond.fieldLink RX0 18 "VaultDoors$Door" "answer" "[I"]
def wsX1_copyFrom_r2 : List Cond := [Cond.fieldLink RX0 58 "VaultDoors$Door" "remembered" "I", Cond.fieldLink RX0 21 "VaultDoors$Door" "asker" "[I", Cond.fieldLink RX0 24 "VaultDoors$Door" "askerDistance" "[I", Cond.methodLink RX1 39 yX2_copyFrom, Cond.instanceMethod yX2_copyFrom, Cond.selects RX2 yX2_copyFrom yX2_copyFrom, Cond.initialized RX2, Cond.code yX2_copyFrom cX2_copyFrom 2 none, Cond.fieldLink RX2 27 "VaultDoors$Voices" "size" "I", Cond.fieldLink RX2 31 "VaultDoors$Voices" "lost" "I", Cond.fieldLink RX2 9 "VaultDoors$Voices" "from" "[I", Cond.methodLink RX2 34 arraycopyName, Cond.fieldLink RX2 15 "VaultDoors$Voices" "to" "[I", Cond.fieldLink RX2 18 "VaultDoors$Voices" "kind" "[I", Cond.fieldLink RX2 21 "VaultDoors$Voices" "left" "[I", Cond.fieldLink RX2 24 "VaultDoors$Voices" "distance" "[I"]
def wsX1_copyFrom : List Cond := .code yX1_copyFrom cX1_copyFrom 3 none :: ((wsX1_copyFrom_r1 ++ wsX1_copyFrom_r2) ++ wsX10 ++ wsX00 ++ wsX20)
def wsX1_isDoor : List Cond := .code yX1_isDoor cX1_isDoor 2 (some .boolean) :: ([.fieldLink RX1 32 "VaultDoors$Vault" "doorCount" "I"] ++ wsX10)
def wsX1_addDoor : List Cond := .code yX1_addDoor cX1_addDoor 5 (some .int) :: ([.fieldLink RX1 32 "VaultDoors$Vault" "doorCount" "I", .fieldLink RX1 11 "VaultDoors$Vault" "doors" "[LVaultDoors$Door;", .fieldLink RX1 42 "VaultDoors$Door" "secret" "I", .fieldLink RX1 45 "VaultDoors$Door" "patience" "I", .fieldLink RX1 48 "VaultDoors$Door" "rule" "I"] ++ wsX10 ++ wsX00)
def wsX2_add : List Cond := .code yX2_add cX2_add 5 none :: ([.fieldLink RX2 27 "VaultDoors$Voices" "size" "I", .fieldLink RX2 31 "VaultDoors$Voices" "lost" "I", .fieldLink RX2 9 "VaultDoors$Voices" "from" "[I", .fieldLink RX2 15 "VaultDoors$Voices" "to" "[I", .fieldLink RX2 18 "VaultDoors$Voices" "kind" "[I", .fieldLink RX2 21 "VaultDoors$Voices" "left" "[I", .fieldLink RX2 24 "VaultDoors$Voices" "distance" "[I"] ++ wsX20)
def wsX1_wake_r1 : List Cond := [Cond.fieldLink RX1 11 "VaultDoors$Vault" "doors" "[LVaultDoors$Door;", Cond.fieldLink RX1 107 "VaultDoors$Door" "asked" "I", Cond.fieldLink RX1 20 "VaultDoors$Vault" "voices" "LVaultDoors$Voices;", Cond.fieldLink RX1 110 "VaultDoors$Door" "other" "[I", Cond.fieldLink RX1 113 "VaultDoors$Door" "distance" "[I", Cond.methodLink RX1 104 yX0_startWaiting, Cond.instanceMethod yX0_startWaiting, Cond.selects RX0 yX0_startWaiting yX0_startWaiting, Cond.initialized RX0, Cond.code yX0_startWaiting cX0_startWaiting 1 none, Cond.fieldLink RX0 37 "VaultDoors$Door" "state" "I", Cond.fieldLink RX0 31 "VaultDoors$Door" "patience" "I", Cond.fieldLink RX0 40 "VaultDoors$Door" "left" "I", Cond.methodLink RX1 98 yX2_add, Cond.instanceMethod yX2_add, Cond.selects RX2 yX2_add yX2_add, Cond.initialized RX2, Cond.code yX2_add cX2_add 5 none, Cond.fieldLink RX2 27 "VaultDoors$Voices" "size" "I", Cond.fieldLink RX2 31 "VaultDoors$Voices" "lost" "I", Cond.fieldLink RX2 9 "VaultDoors$Voices" "from" "[I", Cond.fieldLink RX2 15 "VaultDoors$Voices" "to" "[I", Cond.fieldLink RX2 18 "VaultDoors$Voices" "kind" "[I", Cond.fieldLink RX2 21 "VaultDoors$Voices" "left" "[I"]
def wsX1_wake_r2 : List Cond := [Cond.fieldLink RX2 24 "VaultDoors$Voices" "distance" "[I"]
def wsX1_wake : List Cond := .code yX1_wake cX1_wake 4 none :: ((wsX1_wake_r1 ++ wsX1_wake_r2) ++ wsX10 ++ wsX00 ++ wsX20)
def wsX1_hearToken_r1 : List Cond := [Cond.fieldLink RX1 11 "VaultDoors$Vault" "doors" "[LVaultDoors$Door;", Cond.fieldLink RX1 55 "VaultDoors$Door" "state" "I", Cond.fieldLink RX1 42 "VaultDoors$Door" "secret" "I", Cond.methodLink RX1 51 yX1_isDoor, Cond.instanceMethod yX1_isDoor, Cond.selects RX1 yX1_isDoor yX1_isDoor, Cond.initialized RX1, Cond.code yX1_isDoor cX1_isDoor 2 (some .boolean), Cond.fieldLink RX1 32 "VaultDoors$Vault" "doorCount" "I", Cond.methodLink RX1 58 yX0_bar, Cond.instanceMethod yX0_bar, Cond.selects RX0 yX0_bar yX0_bar, Cond.initialized RX0, Cond.code yX0_bar cX0_bar 1 none, Cond.fieldLink RX0 37 "VaultDoors$Door" "state" "I", Cond.fieldLink RX0 40 "VaultDoors$Door" "left" "I", Cond.fieldLink RX0 46 "VaultDoors$Door" "barred" "I", Cond.methodLink RX1 61 yX1_wake, Cond.instanceMethod yX1_wake, Cond.selects RX1 yX1_wake yX1_wake, Cond.code yX1_wake cX1_wake 4 none, Cond.fieldLink RX1 107 "VaultDoors$Door" "asked" "I", Cond.fieldLink RX1 20 "VaultDoors$Vault" "voices" "LVaultDoors$Voices;", Cond.fieldLink RX1 110 "VaultDoors$Door" "other" "[I"]
def wsX1_hearToken_r2 : List Cond := [Cond.fieldLink RX1 113 "VaultDoors$Door" "distance" "[I", Cond.methodLink RX1 104 yX0_startWaiting, Cond.instanceMethod yX0_startWaiting, Cond.selects RX0 yX0_startWaiting yX0_startWaiting, Cond.code yX0_startWaiting cX0_startWaiting 1 none, Cond.fieldLink RX0 31 "VaultDoors$Door" "patience" "I", Cond.methodLink RX1 98 yX2_add, Cond.instanceMethod yX2_add, Cond.selects RX2 yX2_add yX2_add, Cond.initialized RX2, Cond.code yX2_add cX2_add 5 none, Cond.fieldLink RX2 27 "VaultDoors$Voices" "size" "I", Cond.fieldLink RX2 31 "VaultDoors$Voices" "lost" "I", Cond.fieldLink RX2 9 "VaultDoors$Voices" "from" "[I", Cond.fieldLink RX2 15 "VaultDoors$Voices" "to" "[I", Cond.fieldLink RX2 18 "VaultDoors$Voices" "kind" "[I", Cond.fieldLink RX2 21 "VaultDoors$Voices" "left" "[I", Cond.fieldLink RX2 24 "VaultDoors$Voices" "distance" "[I"]
def wsX1_hearToken : List Cond := .code yX1_hearToken cX1_hearToken 3 (some .boolean) :: ((wsX1_hearToken_r1 ++ wsX1_hearToken_r2) ++ wsX10 ++ wsX00 ++ wsX20)
def wsX2_moveUp : List Cond := .code yX2_moveUp cX2_moveUp 3 none :: ([.fieldLink RX2 9 "VaultDoors$Voices" "from" "[I", .fieldLink RX2 15 "VaultDoors$Voices" "to" "[I", .fieldLink RX2 18 "VaultDoors$Voices" "kind" "[I", .fieldLink RX2 21 "VaultDoors$Voices" "left" "[I", .fieldLink RX2 24 "VaultDoors$Voices" "distance" "[I"] ++ wsX20)
def wsX2_moveOn : List Cond := .code yX2_moveOn cX2_moveOn 4 none :: ([.fieldLink RX2 27 "VaultDoors$Voices" "size" "I", .fieldLink RX2 21 "VaultDoors$Voices" "left" "[I", .fieldLink RX2 9 "VaultDoors$Voices" "from" "[I", .fieldLink RX2 15 "VaultDoors$Voices" "to" "[I", .fieldLink RX2 18 "VaultDoors$Voices" "kind" "[I", .fieldLink RX2 24 "VaultDoors$Voices" "distance" "[I", .methodLink RX2 40 yX2_add, .instanceMethod yX2_add, .selects RX2 yX2_add yX2_add, .initialized RX2, .code yX2_add cX2_add 5 none, .fieldLink RX2 31 "VaultDoors$Voices" "lost" "I", .methodLink RX2 44 yX2_moveUp, .instanceMethod yX2_moveUp, .selects RX2 yX2_moveUp yX2_moveUp, .code yX2_moveUp cX2_moveUp 3 none] ++ wsX20)
def wsX1_hear_r1 : List Cond := [Cond.fieldLink RX1 11 "VaultDoors$Vault" "doors" "[LVaultDoors$Door;", Cond.fieldLink RX1 55 "VaultDoors$Door" "state" "I", Cond.fieldLink RX1 20 "VaultDoors$Vault" "voices" "LVaultDoors$Voices;", Cond.methodLink RX1 51 yX1_isDoor, Cond.instanceMethod yX1_isDoor, Cond.selects RX1 yX1_isDoor yX1_isDoor, Cond.initialized RX1, Cond.code yX1_isDoor cX1_isDoor 2 (some .boolean), Cond.fieldLink RX1 32 "VaultDoors$Vault" "doorCount" "I", Cond.methodLink RX1 94 yX0_takeAnswer, Cond.instanceMethod yX0_takeAnswer, Cond.selects RX0 yX0_takeAnswer yX0_takeAnswer, Cond.initialized RX0, Cond.code yX0_takeAnswer cX0_takeAnswer 4 none, Cond.fieldLink RX0 37 "VaultDoors$Door" "state" "I", Cond.fieldLink RX0 18 "VaultDoors$Door" "answer" "[I", Cond.methodLink RX0 61 yX0_placeOf, Cond.instanceMethod yX0_placeOf, Cond.selects RX0 yX0_placeOf yX0_placeOf, Cond.code yX0_placeOf cX0_placeOf 3 (some .int), Cond.fieldLink RX0 49 "VaultDoors$Door" "asked" "I", Cond.fieldLink RX0 9 "VaultDoors$Door" "other" "[I", Cond.methodLink RX1 98 yX2_add, Cond.instanceMethod yX2_add]
def wsX1_hear_r2 : List Cond := [Cond.selects RX2 yX2_add yX2_add, Cond.initialized RX2, Cond.code yX2_add cX2_add 5 none, Cond.fieldLink RX2 27 "VaultDoors$Voices" "size" "I", Cond.fieldLink RX2 31 "VaultDoors$Voices" "lost" "I", Cond.fieldLink RX2 9 "VaultDoors$Voices" "from" "[I", Cond.fieldLink RX2 15 "VaultDoors$Voices" "to" "[I", Cond.fieldLink RX2 18 "VaultDoors$Voices" "kind" "[I", Cond.fieldLink RX2 21 "VaultDoors$Voices" "left" "[I", Cond.fieldLink RX2 24 "VaultDoors$Voices" "distance" "[I", Cond.methodLink RX1 61 yX1_wake, Cond.instanceMethod yX1_wake, Cond.selects RX1 yX1_wake yX1_wake, Cond.code yX1_wake cX1_wake 4 none, Cond.fieldLink RX1 107 "VaultDoors$Door" "asked" "I", Cond.fieldLink RX1 110 "VaultDoors$Door" "other" "[I", Cond.fieldLink RX1 113 "VaultDoors$Door" "distance" "[I", Cond.methodLink RX1 104 yX0_startWaiting, Cond.instanceMethod yX0_startWaiting, Cond.selects RX0 yX0_startWaiting yX0_startWaiting, Cond.code yX0_startWaiting cX0_startWaiting 1 none, Cond.fieldLink RX0 31 "VaultDoors$Door" "patience" "I", Cond.fieldLink RX0 40 "VaultDoors$Door" "left" "I", Cond.methodLink RX1 101 yX0_remember]
def wsX1_hear_r3 : List Cond := [Cond.instanceMethod yX0_remember, Cond.selects RX0 yX0_remember yX0_remember, Cond.code yX0_remember cX0_remember 3 none, Cond.fieldLink RX0 58 "VaultDoors$Door" "remembered" "I", Cond.fieldLink RX0 21 "VaultDoors$Door" "asker" "[I", Cond.fieldLink RX0 24 "VaultDoors$Door" "askerDistance" "[I"]
def wsX1_hear : List Cond := .code yX1_hear cX1_hear 6 none :: ((wsX1_hear_r1 ++ (wsX1_hear_r2 ++ wsX1_hear_r3)) ++ wsX10 ++ wsX00 ++ wsX20)
def wsX1_waitOn_r1 : List Cond := [Cond.fieldLink RX1 11 "VaultDoors$Vault" "doors" "[LVaultDoors$Door;", Cond.fieldLink RX1 114 "VaultDoors$Door" "left" "I", Cond.fieldLink RX1 55 "VaultDoors$Door" "state" "I", Cond.fieldLink RX1 124 "VaultDoors$Door" "remembered" "I", Cond.fieldLink RX1 20 "VaultDoors$Vault" "voices" "LVaultDoors$Voices;", Cond.fieldLink RX1 127 "VaultDoors$Door" "asker" "[I", Cond.fieldLink RX1 130 "VaultDoors$Door" "askerDistance" "[I", Cond.methodLink RX1 117 yX0_isReadyToDecide, Cond.instanceMethod yX0_isReadyToDecide, Cond.selects RX0 yX0_isReadyToDecide yX0_isReadyToDecide, Cond.initialized RX0, Cond.code yX0_isReadyToDecide cX0_isReadyToDecide 1 (some .boolean), Cond.fieldLink RX0 40 "VaultDoors$Door" "left" "I", Cond.fieldLink RX0 49 "VaultDoors$Door" "asked" "I", Cond.methodLink RX0 65 yX0_answersOf, Cond.instanceMethod yX0_answersOf, Cond.selects RX0 yX0_answersOf yX0_answersOf, Cond.code yX0_answersOf cX0_answersOf 4 (some .int), Cond.fieldLink RX0 18 "VaultDoors$Door" "answer" "[I", Cond.methodLink RX1 121 yX0_decide, Cond.instanceMethod yX0_decide, Cond.selects RX0 yX0_decide yX0_decide, Cond.code yX0_decide cX0_decide 1 none, Cond.methodLink RX0 68 yX0_isPersuaded]
def wsX1_waitOn_r2 : List Cond := [Cond.instanceMethod yX0_isPersuaded, Cond.selects RX0 yX0_isPersuaded yX0_isPersuaded, Cond.code yX0_isPersuaded cX0_isPersuaded 2 (some .boolean), Cond.fieldLink RX0 34 "VaultDoors$Door" "rule" "I", Cond.methodLink RX0 72 yX0_open, Cond.instanceMethod yX0_open, Cond.selects RX0 yX0_open yX0_open, Cond.code yX0_open cX0_open 1 none, Cond.fieldLink RX0 37 "VaultDoors$Door" "state" "I", Cond.fieldLink RX0 43 "VaultDoors$Door" "opened" "I", Cond.methodLink RX0 75 yX0_bar, Cond.instanceMethod yX0_bar, Cond.selects RX0 yX0_bar yX0_bar, Cond.code yX0_bar cX0_bar 1 none, Cond.fieldLink RX0 46 "VaultDoors$Door" "barred" "I", Cond.methodLink RX1 98 yX2_add, Cond.instanceMethod yX2_add, Cond.selects RX2 yX2_add yX2_add, Cond.initialized RX2, Cond.code yX2_add cX2_add 5 none, Cond.fieldLink RX2 27 "VaultDoors$Voices" "size" "I", Cond.fieldLink RX2 31 "VaultDoors$Voices" "lost" "I", Cond.fieldLink RX2 9 "VaultDoors$Voices" "from" "[I", Cond.fieldLink RX2 15 "VaultDoors$Voices" "to" "[I"]
def wsX1_waitOn_r3 : List Cond := [Cond.fieldLink RX2 18 "VaultDoors$Voices" "kind" "[I", Cond.fieldLink RX2 21 "VaultDoors$Voices" "left" "[I", Cond.fieldLink RX2 24 "VaultDoors$Voices" "distance" "[I", Cond.methodLink RX1 133 yX0_forget, Cond.instanceMethod yX0_forget, Cond.selects RX0 yX0_forget yX0_forget, Cond.code yX0_forget cX0_forget 2 none, Cond.fieldLink RX0 58 "VaultDoors$Door" "remembered" "I"]
def wsX1_waitOn : List Cond := .code yX1_waitOn cX1_waitOn 5 (some .boolean) :: ((wsX1_waitOn_r1 ++ (wsX1_waitOn_r2 ++ wsX1_waitOn_r3)) ++ wsX10 ++ wsX00 ++ wsX20)
def wsX1_tickOn_r1 : List Cond := [Cond.fieldLink RX1 32 "VaultDoors$Vault" "doorCount" "I", Cond.fieldLink RX1 11 "VaultDoors$Vault" "doors" "[LVaultDoors$Door;", Cond.fieldLink RX1 20 "VaultDoors$Vault" "voices" "LVaultDoors$Voices;", Cond.fieldLink RX1 24 "VaultDoors$Vault" "arrived" "LVaultDoors$Voices;", Cond.fieldLink RX1 71 "VaultDoors$Voices" "size" "I", Cond.fieldLink RX1 74 "VaultDoors$Voices" "from" "[I", Cond.fieldLink RX1 78 "VaultDoors$Voices" "to" "[I", Cond.fieldLink RX1 81 "VaultDoors$Voices" "kind" "[I", Cond.fieldLink RX1 84 "VaultDoors$Voices" "distance" "[I", Cond.fieldLink RX1 55 "VaultDoors$Door" "state" "I", Cond.fieldLink RX1 28 "VaultDoors$Vault" "tick" "I", Cond.methodLink RX1 65 yX0_spendTime, Cond.instanceMethod yX0_spendTime, Cond.selects RX0 yX0_spendTime yX0_spendTime, Cond.initialized RX0, Cond.code yX0_spendTime cX0_spendTime 1 none, Cond.fieldLink RX0 37 "VaultDoors$Door" "state" "I", Cond.fieldLink RX0 40 "VaultDoors$Door" "left" "I", Cond.methodLink RX1 68 yX2_moveOn, Cond.instanceMethod yX2_moveOn, Cond.selects RX2 yX2_moveOn yX2_moveOn, Cond.initialized RX2, Cond.code yX2_moveOn cX2_moveOn 4 none, Cond.fieldLink RX2 27 "VaultDoors$Voices" "size" "I"]
def wsX1_tickOn_r2 : List Cond := [Cond.fieldLink RX2 21 "VaultDoors$Voices" "left" "[I", Cond.fieldLink RX2 9 "VaultDoors$Voices" "from" "[I", Cond.fieldLink RX2 15 "VaultDoors$Voices" "to" "[I", Cond.fieldLink RX2 18 "VaultDoors$Voices" "kind" "[I", Cond.fieldLink RX2 24 "VaultDoors$Voices" "distance" "[I", Cond.methodLink RX2 40 yX2_add, Cond.instanceMethod yX2_add, Cond.selects RX2 yX2_add yX2_add, Cond.code yX2_add cX2_add 5 none, Cond.fieldLink RX2 31 "VaultDoors$Voices" "lost" "I", Cond.methodLink RX2 44 yX2_moveUp, Cond.instanceMethod yX2_moveUp, Cond.selects RX2 yX2_moveUp yX2_moveUp, Cond.code yX2_moveUp cX2_moveUp 3 none, Cond.methodLink RX1 87 yX1_hear, Cond.instanceMethod yX1_hear, Cond.selects RX1 yX1_hear yX1_hear, Cond.initialized RX1, Cond.code yX1_hear cX1_hear 6 none, Cond.methodLink RX1 51 yX1_isDoor, Cond.instanceMethod yX1_isDoor, Cond.selects RX1 yX1_isDoor yX1_isDoor, Cond.code yX1_isDoor cX1_isDoor 2 (some .boolean), Cond.methodLink RX1 94 yX0_takeAnswer]
def wsX1_tickOn_r3 : List Cond := [Cond.instanceMethod yX0_takeAnswer, Cond.selects RX0 yX0_takeAnswer yX0_takeAnswer, Cond.code yX0_takeAnswer cX0_takeAnswer 4 none, Cond.fieldLink RX0 18 "VaultDoors$Door" "answer" "[I", Cond.methodLink RX0 61 yX0_placeOf, Cond.instanceMethod yX0_placeOf, Cond.selects RX0 yX0_placeOf yX0_placeOf, Cond.code yX0_placeOf cX0_placeOf 3 (some .int), Cond.fieldLink RX0 49 "VaultDoors$Door" "asked" "I", Cond.fieldLink RX0 9 "VaultDoors$Door" "other" "[I", Cond.methodLink RX1 98 yX2_add, Cond.methodLink RX1 61 yX1_wake, Cond.instanceMethod yX1_wake, Cond.selects RX1 yX1_wake yX1_wake, Cond.code yX1_wake cX1_wake 4 none, Cond.fieldLink RX1 107 "VaultDoors$Door" "asked" "I", Cond.fieldLink RX1 110 "VaultDoors$Door" "other" "[I", Cond.fieldLink RX1 113 "VaultDoors$Door" "distance" "[I", Cond.methodLink RX1 104 yX0_startWaiting, Cond.instanceMethod yX0_startWaiting, Cond.selects RX0 yX0_startWaiting yX0_startWaiting, Cond.code yX0_startWaiting cX0_startWaiting 1 none, Cond.fieldLink RX0 31 "VaultDoors$Door" "patience" "I", Cond.methodLink RX1 101 yX0_remember]
def wsX1_tickOn_r4 : List Cond := [Cond.instanceMethod yX0_remember, Cond.selects RX0 yX0_remember yX0_remember, Cond.code yX0_remember cX0_remember 3 none, Cond.fieldLink RX0 58 "VaultDoors$Door" "remembered" "I", Cond.fieldLink RX0 21 "VaultDoors$Door" "asker" "[I", Cond.fieldLink RX0 24 "VaultDoors$Door" "askerDistance" "[I", Cond.methodLink RX1 91 yX1_waitOn, Cond.instanceMethod yX1_waitOn, Cond.selects RX1 yX1_waitOn yX1_waitOn, Cond.code yX1_waitOn cX1_waitOn 5 (some .boolean), Cond.fieldLink RX1 114 "VaultDoors$Door" "left" "I", Cond.fieldLink RX1 124 "VaultDoors$Door" "remembered" "I", Cond.fieldLink RX1 127 "VaultDoors$Door" "asker" "[I", Cond.fieldLink RX1 130 "VaultDoors$Door" "askerDistance" "[I", Cond.methodLink RX1 117 yX0_isReadyToDecide, Cond.instanceMethod yX0_isReadyToDecide, Cond.selects RX0 yX0_isReadyToDecide yX0_isReadyToDecide, Cond.code yX0_isReadyToDecide cX0_isReadyToDecide 1 (some .boolean), Cond.methodLink RX0 65 yX0_answersOf, Cond.instanceMethod yX0_answersOf, Cond.selects RX0 yX0_answersOf yX0_answersOf, Cond.code yX0_answersOf cX0_answersOf 4 (some .int), Cond.methodLink RX1 121 yX0_decide, Cond.instanceMethod yX0_decide]
def wsX1_tickOn_r5 : List Cond := [Cond.selects RX0 yX0_decide yX0_decide, Cond.code yX0_decide cX0_decide 1 none, Cond.methodLink RX0 68 yX0_isPersuaded, Cond.instanceMethod yX0_isPersuaded, Cond.selects RX0 yX0_isPersuaded yX0_isPersuaded, Cond.code yX0_isPersuaded cX0_isPersuaded 2 (some .boolean), Cond.fieldLink RX0 34 "VaultDoors$Door" "rule" "I", Cond.methodLink RX0 72 yX0_open, Cond.instanceMethod yX0_open, Cond.selects RX0 yX0_open yX0_open, Cond.code yX0_open cX0_open 1 none, Cond.fieldLink RX0 43 "VaultDoors$Door" "opened" "I", Cond.methodLink RX0 75 yX0_bar, Cond.instanceMethod yX0_bar, Cond.selects RX0 yX0_bar yX0_bar, Cond.code yX0_bar cX0_bar 1 none, Cond.fieldLink RX0 46 "VaultDoors$Door" "barred" "I", Cond.methodLink RX1 133 yX0_forget, Cond.instanceMethod yX0_forget, Cond.selects RX0 yX0_forget yX0_forget, Cond.code yX0_forget cX0_forget 2 none]
def wsX1_tickOn : List Cond := .code yX1_tickOn cX1_tickOn 3 (some .int) :: ((wsX1_tickOn_r1 ++ (wsX1_tickOn_r2 ++ (wsX1_tickOn_r3 ++ (wsX1_tickOn_r4 ++ wsX1_tickOn_r5)))) ++ wsX10 ++ wsX20 ++ wsX00)
def wsX1_openDoors : List Cond := .code yX1_openDoors cX1_openDoors 3 (some .int) :: ([.fieldLink RX1 32 "VaultDoors$Vault" "doorCount" "I", .fieldLink RX1 11 "VaultDoors$Vault" "doors" "[LVaultDoors$Door;", .fieldLink RX1 55 "VaultDoors$Door" "state" "I"] ++ wsX10 ++ wsX00)
def wsX1_doorsThat : List Cond := .code yX1_doorsThat cX1_doorsThat 4 (some .int) :: ([.fieldLink RX1 32 "VaultDoors$Vault" "doorCount" "I", .fieldLink RX1 11 "VaultDoors$Vault" "doors" "[LVaultDoors$Door;", .fieldLink RX1 55 "VaultDoors$Door" "state" "I"] ++ wsX10 ++ wsX00)
def wsX1_fact : List Cond := .code yX1_fact cX1_fact 2 (some .int) :: ([.fieldLink RX1 28 "VaultDoors$Vault" "tick" "I", .fieldLink RX1 32 "VaultDoors$Vault" "doorCount" "I", .fieldLink RX1 20 "VaultDoors$Vault" "voices" "LVaultDoors$Voices;", .fieldLink RX1 71 "VaultDoors$Voices" "size" "I", .fieldLink RX1 140 "VaultDoors$Voices" "lost" "I", .methodLink RX1 136 yX1_doorsThat, .instanceMethod yX1_doorsThat, .selects RX1 yX1_doorsThat yX1_doorsThat, .initialized RX1, .code yX1_doorsThat cX1_doorsThat 4 (some .int), .fieldLink RX1 11 "VaultDoors$Vault" "doors" "[LVaultDoors$Door;", .fieldLink RX1 55 "VaultDoors$Door" "state" "I", .methodLink RX1 143 yX1_openDoors, .instanceMethod yX1_openDoors, .selects RX1 yX1_openDoors yX1_openDoors, .code yX1_openDoors cX1_openDoors 3 (some .int)] ++ wsX10 ++ wsX20 ++ wsX00)
def wsX1_askedBy : List Cond := .code yX1_askedBy cX1_askedBy 5 (some .int) :: ([.fieldLink RX1 11 "VaultDoors$Vault" "doors" "[LVaultDoors$Door;", .fieldLink RX1 107 "VaultDoors$Door" "asked" "I", .fieldLink RX1 110 "VaultDoors$Door" "other" "[I", .methodLink RX1 51 yX1_isDoor, .instanceMethod yX1_isDoor, .selects RX1 yX1_isDoor yX1_isDoor, .initialized RX1, .code yX1_isDoor cX1_isDoor 2 (some .boolean), .fieldLink RX1 32 "VaultDoors$Vault" "doorCount" "I"] ++ wsX10 ++ wsX00)
def wsX1_reachedFrom : List Cond := .code yX1_reachedFrom cX1_reachedFrom 6 (some .int) :: ([.fieldLink RX1 32 "VaultDoors$Vault" "doorCount" "I", .methodLink RX1 147 yX1_askedBy, .instanceMethod yX1_askedBy, .selects RX1 yX1_askedBy yX1_askedBy, .initialized RX1, .code yX1_askedBy cX1_askedBy 5 (some .int), .fieldLink RX1 11 "VaultDoors$Vault" "doors" "[LVaultDoors$Door;", .fieldLink RX1 107 "VaultDoors$Door" "asked" "I", .fieldLink RX1 110 "VaultDoors$Door" "other" "[I", .methodLink RX1 51 yX1_isDoor, .instanceMethod yX1_isDoor, .selects RX1 yX1_isDoor yX1_isDoor, .code yX1_isDoor cX1_isDoor 2 (some .boolean)] ++ wsX10 ++ wsX00)
def wsX2_fact : List Cond := .code yX2_fact cX2_fact 3 (some .int) :: ([.fieldLink RX2 27 "VaultDoors$Voices" "size" "I", .fieldLink RX2 9 "VaultDoors$Voices" "from" "[I", .fieldLink RX2 15 "VaultDoors$Voices" "to" "[I", .fieldLink RX2 18 "VaultDoors$Voices" "kind" "[I", .fieldLink RX2 21 "VaultDoors$Voices" "left" "[I", .static yX3_isIn, .initialized RX3, .code yX3_isIn cX3_isIn 3 (some .boolean)] ++ wsX20)
def wsX3_init_r1 : List Cond := [Cond.methodLink RX3 1 objectInit, Cond.instanceMethod objectInit, Cond.code objectInit ⟨#[0xb1]⟩ 1 none, Cond.classLink RX3 7 RX1, Cond.instantiable RX1 5, Cond.initialized RX1, Cond.fieldLink RX3 10 "VaultDoors" "vault" "LVaultDoors$Vault;", Cond.fieldLink RX3 16 "VaultDoors" "trial" "LVaultDoors$Vault;", Cond.methodLink RX3 9 yX1_init, Cond.instanceMethod yX1_init, Cond.code yX1_init cX1_init 2 none, Cond.methodLink RX1 3 objectInit, Cond.classLink RX1 9 RX0, Cond.fieldLink RX1 11 "VaultDoors$Vault" "doors" "[LVaultDoors$Door;", Cond.classLink RX1 17 RX2, Cond.instantiable RX2 7, Cond.initialized RX2, Cond.fieldLink RX1 20 "VaultDoors$Vault" "voices" "LVaultDoors$Voices;", Cond.fieldLink RX1 24 "VaultDoors$Vault" "arrived" "LVaultDoors$Voices;", Cond.instantiable RX0 14, Cond.initialized RX0, Cond.instanceMethod yX2_init, Cond.code yX2_init cX2_init 1 none, Cond.methodLink RX2 3 objectInit]
def wsX3_init_r2 : List Cond := [Cond.arrayClass .int, Cond.fieldLink RX2 9 "VaultDoors$Voices" "from" "[I", Cond.fieldLink RX2 15 "VaultDoors$Voices" "to" "[I", Cond.fieldLink RX2 18 "VaultDoors$Voices" "kind" "[I", Cond.fieldLink RX2 21 "VaultDoors$Voices" "left" "[I", Cond.fieldLink RX2 24 "VaultDoors$Voices" "distance" "[I", Cond.instanceMethod yX0_init, Cond.code yX0_init cX0_init 1 none, Cond.methodLink RX0 3 objectInit, Cond.fieldLink RX0 9 "VaultDoors$Door" "other" "[I", Cond.fieldLink RX0 15 "VaultDoors$Door" "distance" "[I", Cond.fieldLink RX0 18 "VaultDoors$Door" "answer" "[I", Cond.fieldLink RX0 21 "VaultDoors$Door" "asker" "[I", Cond.fieldLink RX0 24 "VaultDoors$Door" "askerDistance" "[I"]
def wsX3_init : List Cond := .code yX3_init cX3_init 1 none :: ((wsX3_init_r1 ++ wsX3_init_r2) ++ wsX10 ++ wsX30 ++ wsX20 ++ wsX00)
def wsX3_isPatience : List Cond := .code yX3_isPatience cX3_isPatience 1 (some .boolean) :: ([.methodLink RX3 19 yX3_isIn, .static yX3_isIn, .initialized RX3, .code yX3_isIn cX3_isIn 3 (some .boolean)])
def wsX3_isRule : List Cond := .code yX3_isRule cX3_isRule 1 (some .boolean) :: ([.methodLink RX3 19 yX3_isIn, .static yX3_isIn, .initialized RX3, .code yX3_isIn cX3_isIn 3 (some .boolean)])
def wsX3_build_r1 : List Cond := [Cond.classLink RX3 23 "java/lang/IllegalArgumentException", Cond.initialized "java/lang/IllegalArgumentException", Cond.classLink RX3 43 "java/lang/IllegalStateException", Cond.initialized "java/lang/IllegalStateException", Cond.fieldLink RX3 10 "VaultDoors" "vault" "LVaultDoors$Vault;", Cond.fieldLink RX3 39 "VaultDoors$Vault" "doorCount" "I", Cond.methodLink RX3 19 yX3_isIn, Cond.static yX3_isIn, Cond.initialized RX3, Cond.code yX3_isIn cX3_isIn 3 (some .boolean), Cond.methodLink RX3 30 yX3_isPatience, Cond.static yX3_isPatience, Cond.code yX3_isPatience cX3_isPatience 1 (some .boolean), Cond.methodLink RX3 34 yX3_isRule, Cond.static yX3_isRule, Cond.code yX3_isRule cX3_isRule 1 (some .boolean), Cond.methodLink RX3 48 yX1_addDoor, Cond.instanceMethod yX1_addDoor, Cond.selects RX1 yX1_addDoor yX1_addDoor, Cond.initialized RX1, Cond.code yX1_addDoor cX1_addDoor 5 (some .int), Cond.fieldLink RX1 32 "VaultDoors$Vault" "doorCount" "I", Cond.fieldLink RX1 11 "VaultDoors$Vault" "doors" "[LVaultDoors$Door;", Cond.fieldLink RX1 42 "VaultDoors$Door" "secret" "I"]
def wsX3_build_r2 : List Cond := [Cond.fieldLink RX1 45 "VaultDoors$Door" "patience" "I", Cond.fieldLink RX1 48 "VaultDoors$Door" "rule" "I"]
def wsX3_build : List Cond := .code yX3_build cX3_build 4 (some .int) :: ((wsX3_build_r1 ++ wsX3_build_r2) ++ wsX30 ++ wsX10 ++ wsX00 ++ (vx_atS RX3 27 "java/lang/IllegalArgumentException" ["java/lang/RuntimeException", "java/lang/Exception"]).filter goodWord ++ (vx_atS RX3 47 "java/lang/IllegalStateException" ["java/lang/RuntimeException", "java/lang/Exception"]).filter goodWord)
def wsX3_ask_r1 : List Cond := [Cond.classLink RX3 55 "java/lang/IndexOutOfBoundsException", Cond.initialized "java/lang/IndexOutOfBoundsException", Cond.classLink RX3 23 "java/lang/IllegalArgumentException", Cond.initialized "java/lang/IllegalArgumentException", Cond.classLink RX3 43 "java/lang/IllegalStateException", Cond.initialized "java/lang/IllegalStateException", Cond.fieldLink RX3 10 "VaultDoors" "vault" "LVaultDoors$Vault;", Cond.fieldLink RX3 62 "VaultDoors$Vault" "doors" "[LVaultDoors$Door;", Cond.fieldLink RX3 66 "VaultDoors$Door" "state" "I", Cond.fieldLink RX3 75 "VaultDoors$Door" "asked" "I", Cond.methodLink RX3 52 yX1_isDoor, Cond.instanceMethod yX1_isDoor, Cond.selects RX1 yX1_isDoor yX1_isDoor, Cond.initialized RX1, Cond.code yX1_isDoor cX1_isDoor 2 (some .boolean), Cond.fieldLink RX1 32 "VaultDoors$Vault" "doorCount" "I", Cond.methodLink RX3 19 yX3_isIn, Cond.static yX3_isIn, Cond.initialized RX3, Cond.code yX3_isIn cX3_isIn 3 (some .boolean), Cond.methodLink RX3 71 yX0_placeOf, Cond.instanceMethod yX0_placeOf, Cond.selects RX0 yX0_placeOf yX0_placeOf, Cond.initialized RX0]
def wsX3_ask_r2 : List Cond := [Cond.code yX0_placeOf cX0_placeOf 3 (some .int), Cond.fieldLink RX0 49 "VaultDoors$Door" "asked" "I", Cond.fieldLink RX0 9 "VaultDoors$Door" "other" "[I", Cond.methodLink RX3 80 yX0_addAsked, Cond.instanceMethod yX0_addAsked, Cond.selects RX0 yX0_addAsked yX0_addAsked, Cond.code yX0_addAsked cX0_addAsked 3 none, Cond.fieldLink RX0 15 "VaultDoors$Door" "distance" "[I", Cond.fieldLink RX0 18 "VaultDoors$Door" "answer" "[I"]
def wsX3_ask : List Cond := .code yX3_ask cX3_ask 5 (some .int) :: ((wsX3_ask_r1 ++ wsX3_ask_r2) ++ wsX30 ++ wsX10 ++ wsX00 ++ (vx_atS RX3 59 "java/lang/IndexOutOfBoundsException" ["java/lang/RuntimeException", "java/lang/Exception"]).filter goodWord ++ (vx_atS RX3 27 "java/lang/IllegalArgumentException" ["java/lang/RuntimeException", "java/lang/Exception"]).filter goodWord ++ (vx_atS RX3 47 "java/lang/IllegalStateException" ["java/lang/RuntimeException", "java/lang/Exception"]).filter goodWord)
def wsX3_set : List Cond := .code yX3_set cX3_set 6 (some .int) :: ([.classLink RX3 55 "java/lang/IndexOutOfBoundsException", .initialized "java/lang/IndexOutOfBoundsException", .classLink RX3 23 "java/lang/IllegalArgumentException", .initialized "java/lang/IllegalArgumentException", .fieldLink RX3 10 "VaultDoors" "vault" "LVaultDoors$Vault;", .fieldLink RX3 62 "VaultDoors$Vault" "doors" "[LVaultDoors$Door;", .fieldLink RX3 86 "VaultDoors$Door" "rule" "I", .fieldLink RX3 89 "VaultDoors$Door" "patience" "I", .methodLink RX3 52 yX1_isDoor, .instanceMethod yX1_isDoor, .selects RX1 yX1_isDoor yX1_isDoor, .initialized RX1, .code yX1_isDoor cX1_isDoor 2 (some .boolean), .fieldLink RX1 32 "VaultDoors$Vault" "doorCount" "I", .methodLink RX3 34 yX3_isRule, .static yX3_isRule, .initialized RX3, .code yX3_isRule cX3_isRule 1 (some .boolean), .methodLink RX3 19 yX3_isIn, .static yX3_isIn, .code yX3_isIn cX3_isIn 3 (some .boolean), .methodLink RX3 30 yX3_isPatience, .static yX3_isPatience, .code yX3_isPatience cX3_isPatience 1 (some .boolean)] ++ wsX30 ++ wsX10 ++ wsX00 ++ (vx_atS RX3 59 "java/lang/IndexOutOfBoundsException" ["java/lang/RuntimeException", "java/lang/Exception"]).filter goodWord ++ (vx_atS RX3 27 "java/lang/IllegalArgumentException" ["java/lang/RuntimeException", "java/lang/Exception"]).filter goodWord)
def wsX3_whisper_r1 : List Cond := [Cond.classLink RX3 55 "java/lang/IndexOutOfBoundsException", Cond.initialized "java/lang/IndexOutOfBoundsException", Cond.classLink RX3 23 "java/lang/IllegalArgumentException", Cond.initialized "java/lang/IllegalArgumentException", Cond.fieldLink RX3 10 "VaultDoors" "vault" "LVaultDoors$Vault;", Cond.methodLink RX3 52 yX1_isDoor, Cond.instanceMethod yX1_isDoor, Cond.selects RX1 yX1_isDoor yX1_isDoor, Cond.initialized RX1, Cond.code yX1_isDoor cX1_isDoor 2 (some .boolean), Cond.fieldLink RX1 32 "VaultDoors$Vault" "doorCount" "I", Cond.methodLink RX3 19 yX3_isIn, Cond.static yX3_isIn, Cond.initialized RX3, Cond.code yX3_isIn cX3_isIn 3 (some .boolean), Cond.methodLink RX3 94 yX1_hearToken, Cond.instanceMethod yX1_hearToken, Cond.selects RX1 yX1_hearToken yX1_hearToken, Cond.code yX1_hearToken cX1_hearToken 3 (some .boolean), Cond.fieldLink RX1 11 "VaultDoors$Vault" "doors" "[LVaultDoors$Door;", Cond.fieldLink RX1 55 "VaultDoors$Door" "state" "I", Cond.fieldLink RX1 42 "VaultDoors$Door" "secret" "I", Cond.methodLink RX1 51 yX1_isDoor, Cond.methodLink RX1 58 yX0_bar]
def wsX3_whisper_r2 : List Cond := [Cond.instanceMethod yX0_bar, Cond.selects RX0 yX0_bar yX0_bar, Cond.initialized RX0, Cond.code yX0_bar cX0_bar 1 none, Cond.fieldLink RX0 37 "VaultDoors$Door" "state" "I", Cond.fieldLink RX0 40 "VaultDoors$Door" "left" "I", Cond.fieldLink RX0 46 "VaultDoors$Door" "barred" "I", Cond.methodLink RX1 61 yX1_wake, Cond.instanceMethod yX1_wake, Cond.selects RX1 yX1_wake yX1_wake, Cond.code yX1_wake cX1_wake 4 none, Cond.fieldLink RX1 107 "VaultDoors$Door" "asked" "I", Cond.fieldLink RX1 20 "VaultDoors$Vault" "voices" "LVaultDoors$Voices;", Cond.fieldLink RX1 110 "VaultDoors$Door" "other" "[I", Cond.fieldLink RX1 113 "VaultDoors$Door" "distance" "[I", Cond.methodLink RX1 104 yX0_startWaiting, Cond.instanceMethod yX0_startWaiting, Cond.selects RX0 yX0_startWaiting yX0_startWaiting, Cond.code yX0_startWaiting cX0_startWaiting 1 none, Cond.fieldLink RX0 31 "VaultDoors$Door" "patience" "I", Cond.methodLink RX1 98 yX2_add, Cond.instanceMethod yX2_add, Cond.selects RX2 yX2_add yX2_add, Cond.initialized RX2]
def wsX3_whisper_r3 : List Cond := [Cond.code yX2_add cX2_add 5 none, Cond.fieldLink RX2 27 "VaultDoors$Voices" "size" "I", Cond.fieldLink RX2 31 "VaultDoors$Voices" "lost" "I", Cond.fieldLink RX2 9 "VaultDoors$Voices" "from" "[I", Cond.fieldLink RX2 15 "VaultDoors$Voices" "to" "[I", Cond.fieldLink RX2 18 "VaultDoors$Voices" "kind" "[I", Cond.fieldLink RX2 21 "VaultDoors$Voices" "left" "[I", Cond.fieldLink RX2 24 "VaultDoors$Voices" "distance" "[I"]
def wsX3_whisper : List Cond := .code yX3_whisper cX3_whisper 3 (some .boolean) :: ((wsX3_whisper_r1 ++ (wsX3_whisper_r2 ++ wsX3_whisper_r3)) ++ wsX30 ++ wsX10 ++ wsX00 ++ wsX20 ++ (vx_atS RX3 59 "java/lang/IndexOutOfBoundsException" ["java/lang/RuntimeException", "java/lang/Exception"]).filter goodWord ++ (vx_atS RX3 27 "java/lang/IllegalArgumentException" ["java/lang/RuntimeException", "java/lang/Exception"]).filter goodWord)
def wsX3_door_r1 : List Cond := [Cond.classLink RX3 55 "java/lang/IndexOutOfBoundsException", Cond.initialized "java/lang/IndexOutOfBoundsException", Cond.fieldLink RX3 10 "VaultDoors" "vault" "LVaultDoors$Vault;", Cond.fieldLink RX3 62 "VaultDoors$Vault" "doors" "[LVaultDoors$Door;", Cond.methodLink RX3 52 yX1_isDoor, Cond.instanceMethod yX1_isDoor, Cond.selects RX1 yX1_isDoor yX1_isDoor, Cond.initialized RX1, Cond.code yX1_isDoor cX1_isDoor 2 (some .boolean), Cond.fieldLink RX1 32 "VaultDoors$Vault" "doorCount" "I", Cond.methodLink RX3 19 yX3_isIn, Cond.static yX3_isIn, Cond.initialized RX3, Cond.code yX3_isIn cX3_isIn 3 (some .boolean), Cond.methodLink RX3 100 yX0_fact, Cond.instanceMethod yX0_fact, Cond.selects RX0 yX0_fact yX0_fact, Cond.initialized RX0, Cond.code yX0_fact cX0_fact 2 (some .int), Cond.fieldLink RX0 37 "VaultDoors$Door" "state" "I", Cond.fieldLink RX0 40 "VaultDoors$Door" "left" "I", Cond.fieldLink RX0 34 "VaultDoors$Door" "rule" "I", Cond.fieldLink RX0 49 "VaultDoors$Door" "asked" "I", Cond.fieldLink RX0 58 "VaultDoors$Door" "remembered" "I"]
def wsX3_door_r2 : List Cond := [Cond.fieldLink RX0 43 "VaultDoors$Door" "opened" "I", Cond.fieldLink RX0 46 "VaultDoors$Door" "barred" "I", Cond.methodLink RX0 65 yX0_answersOf, Cond.instanceMethod yX0_answersOf, Cond.selects RX0 yX0_answersOf yX0_answersOf, Cond.code yX0_answersOf cX0_answersOf 4 (some .int), Cond.fieldLink RX0 18 "VaultDoors$Door" "answer" "[I"]
def wsX3_door : List Cond := .code yX3_door cX3_door 3 (some .int) :: ((wsX3_door_r1 ++ wsX3_door_r2) ++ wsX30 ++ wsX10 ++ wsX00 ++ (vx_atS RX3 59 "java/lang/IndexOutOfBoundsException" ["java/lang/RuntimeException", "java/lang/Exception"]).filter goodWord)
def wsX3_asks : List Cond := .code yX3_asks cX3_asks 5 (some .int) :: ([.classLink RX3 55 "java/lang/IndexOutOfBoundsException", .initialized "java/lang/IndexOutOfBoundsException", .fieldLink RX3 10 "VaultDoors" "vault" "LVaultDoors$Vault;", .fieldLink RX3 62 "VaultDoors$Vault" "doors" "[LVaultDoors$Door;", .fieldLink RX3 75 "VaultDoors$Door" "asked" "I", .methodLink RX3 52 yX1_isDoor, .instanceMethod yX1_isDoor, .selects RX1 yX1_isDoor yX1_isDoor, .initialized RX1, .code yX1_isDoor cX1_isDoor 2 (some .boolean), .fieldLink RX1 32 "VaultDoors$Vault" "doorCount" "I", .methodLink RX3 19 yX3_isIn, .static yX3_isIn, .initialized RX3, .code yX3_isIn cX3_isIn 3 (some .boolean), .methodLink RX3 107 yX0_askedFact, .instanceMethod yX0_askedFact, .selects RX0 yX0_askedFact yX0_askedFact, .initialized RX0, .code yX0_askedFact cX0_askedFact 3 (some .int), .fieldLink RX0 49 "VaultDoors$Door" "asked" "I", .fieldLink RX0 9 "VaultDoors$Door" "other" "[I", .fieldLink RX0 15 "VaultDoors$Door" "distance" "[I", .fieldLink RX0 18 "VaultDoors$Door" "answer" "[I"] ++ wsX30 ++ wsX10 ++ wsX00 ++ (vx_atS RX3 59 "java/lang/IndexOutOfBoundsException" ["java/lang/RuntimeException", "java/lang/Exception"]).filter goodWord)
def wsX3_voice : List Cond := .code yX3_voice cX3_voice 3 (some .int) :: ([.classLink RX3 55 "java/lang/IndexOutOfBoundsException", .initialized "java/lang/IndexOutOfBoundsException", .fieldLink RX3 10 "VaultDoors" "vault" "LVaultDoors$Vault;", .fieldLink RX3 111 "VaultDoors$Vault" "voices" "LVaultDoors$Voices;", .fieldLink RX3 115 "VaultDoors$Voices" "size" "I", .methodLink RX3 19 yX3_isIn, .static yX3_isIn, .initialized RX3, .code yX3_isIn cX3_isIn 3 (some .boolean), .methodLink RX3 122 yX2_fact, .instanceMethod yX2_fact, .selects RX2 yX2_fact yX2_fact, .initialized RX2, .code yX2_fact cX2_fact 3 (some .int), .fieldLink RX2 27 "VaultDoors$Voices" "size" "I", .fieldLink RX2 9 "VaultDoors$Voices" "from" "[I", .fieldLink RX2 15 "VaultDoors$Voices" "to" "[I", .fieldLink RX2 18 "VaultDoors$Voices" "kind" "[I", .fieldLink RX2 21 "VaultDoors$Voices" "left" "[I"] ++ wsX30 ++ wsX10 ++ wsX20 ++ (vx_atS RX3 59 "java/lang/IndexOutOfBoundsException" ["java/lang/RuntimeException", "java/lang/Exception"]).filter goodWord)
def wsX3_count_r1 : List Cond := [Cond.classLink RX3 55 "java/lang/IndexOutOfBoundsException", Cond.initialized "java/lang/IndexOutOfBoundsException", Cond.fieldLink RX3 10 "VaultDoors" "vault" "LVaultDoors$Vault;", Cond.methodLink RX3 19 yX3_isIn, Cond.static yX3_isIn, Cond.initialized RX3, Cond.code yX3_isIn cX3_isIn 3 (some .boolean), Cond.methodLink RX3 126 yX1_fact, Cond.instanceMethod yX1_fact, Cond.selects RX1 yX1_fact yX1_fact, Cond.initialized RX1, Cond.code yX1_fact cX1_fact 2 (some .int), Cond.fieldLink RX1 28 "VaultDoors$Vault" "tick" "I", Cond.fieldLink RX1 32 "VaultDoors$Vault" "doorCount" "I", Cond.fieldLink RX1 20 "VaultDoors$Vault" "voices" "LVaultDoors$Voices;", Cond.fieldLink RX1 71 "VaultDoors$Voices" "size" "I", Cond.fieldLink RX1 140 "VaultDoors$Voices" "lost" "I", Cond.methodLink RX1 136 yX1_doorsThat, Cond.instanceMethod yX1_doorsThat, Cond.selects RX1 yX1_doorsThat yX1_doorsThat, Cond.code yX1_doorsThat cX1_doorsThat 4 (some .int), Cond.fieldLink RX1 11 "VaultDoors$Vault" "doors" "[LVaultDoors$Door;", Cond.fieldLink RX1 55 "VaultDoors$Door" "state" "I", Cond.methodLink RX1 143 yX1_openDoors]
def wsX3_count_r2 : List Cond := [Cond.instanceMethod yX1_openDoors, Cond.selects RX1 yX1_openDoors yX1_openDoors, Cond.code yX1_openDoors cX1_openDoors 3 (some .int)]
def wsX3_count : List Cond := .code yX3_count cX3_count 2 (some .int) :: ((wsX3_count_r1 ++ wsX3_count_r2) ++ wsX30 ++ wsX10 ++ wsX20 ++ wsX00 ++ (vx_atS RX3 59 "java/lang/IndexOutOfBoundsException" ["java/lang/RuntimeException", "java/lang/Exception"]).filter goodWord)
def wsX3_reach : List Cond := .code yX3_reach cX3_reach 2 (some .int) :: ([.classLink RX3 55 "java/lang/IndexOutOfBoundsException", .initialized "java/lang/IndexOutOfBoundsException", .fieldLink RX3 10 "VaultDoors" "vault" "LVaultDoors$Vault;", .methodLink RX3 52 yX1_isDoor, .instanceMethod yX1_isDoor, .selects RX1 yX1_isDoor yX1_isDoor, .initialized RX1, .code yX1_isDoor cX1_isDoor 2 (some .boolean), .fieldLink RX1 32 "VaultDoors$Vault" "doorCount" "I", .methodLink RX3 127 yX1_reachedFrom, .instanceMethod yX1_reachedFrom, .selects RX1 yX1_reachedFrom yX1_reachedFrom, .code yX1_reachedFrom cX1_reachedFrom 6 (some .int), .methodLink RX1 147 yX1_askedBy, .instanceMethod yX1_askedBy, .selects RX1 yX1_askedBy yX1_askedBy, .code yX1_askedBy cX1_askedBy 5 (some .int), .fieldLink RX1 11 "VaultDoors$Vault" "doors" "[LVaultDoors$Door;", .fieldLink RX1 107 "VaultDoors$Door" "asked" "I", .fieldLink RX1 110 "VaultDoors$Door" "other" "[I", .methodLink RX1 51 yX1_isDoor] ++ wsX30 ++ wsX10 ++ wsX00 ++ (vx_atS RX3 59 "java/lang/IndexOutOfBoundsException" ["java/lang/RuntimeException", "java/lang/Exception"]).filter goodWord)
def wsX3_pass_r1 : List Cond := [Cond.classLink RX3 23 "java/lang/IllegalArgumentException", Cond.initialized "java/lang/IllegalArgumentException", Cond.fieldLink RX3 10 "VaultDoors" "vault" "LVaultDoors$Vault;", Cond.methodLink RX3 19 yX3_isIn, Cond.static yX3_isIn, Cond.initialized RX3, Cond.code yX3_isIn cX3_isIn 3 (some .boolean), Cond.methodLink RX3 132 yX1_tickOn, Cond.instanceMethod yX1_tickOn, Cond.selects RX1 yX1_tickOn yX1_tickOn, Cond.initialized RX1, Cond.code yX1_tickOn cX1_tickOn 3 (some .int), Cond.fieldLink RX1 32 "VaultDoors$Vault" "doorCount" "I", Cond.fieldLink RX1 11 "VaultDoors$Vault" "doors" "[LVaultDoors$Door;", Cond.fieldLink RX1 20 "VaultDoors$Vault" "voices" "LVaultDoors$Voices;", Cond.fieldLink RX1 24 "VaultDoors$Vault" "arrived" "LVaultDoors$Voices;", Cond.fieldLink RX1 71 "VaultDoors$Voices" "size" "I", Cond.fieldLink RX1 74 "VaultDoors$Voices" "from" "[I", Cond.fieldLink RX1 78 "VaultDoors$Voices" "to" "[I", Cond.fieldLink RX1 81 "VaultDoors$Voices" "kind" "[I", Cond.fieldLink RX1 84 "VaultDoors$Voices" "distance" "[I", Cond.fieldLink RX1 55 "VaultDoors$Door" "state" "I", Cond.fieldLink RX1 28 "VaultDoors$Vault" "tick" "I", Cond.methodLink RX1 65 yX0_spendTime]
def wsX3_pass_r2 : List Cond := [Cond.instanceMethod yX0_spendTime, Cond.selects RX0 yX0_spendTime yX0_spendTime, Cond.initialized RX0, Cond.code yX0_spendTime cX0_spendTime 1 none, Cond.fieldLink RX0 37 "VaultDoors$Door" "state" "I", Cond.fieldLink RX0 40 "VaultDoors$Door" "left" "I", Cond.methodLink RX1 68 yX2_moveOn, Cond.instanceMethod yX2_moveOn, Cond.selects RX2 yX2_moveOn yX2_moveOn, Cond.initialized RX2, Cond.code yX2_moveOn cX2_moveOn 4 none, Cond.fieldLink RX2 27 "VaultDoors$Voices" "size" "I", Cond.fieldLink RX2 21 "VaultDoors$Voices" "left" "[I", Cond.fieldLink RX2 9 "VaultDoors$Voices" "from" "[I", Cond.fieldLink RX2 15 "VaultDoors$Voices" "to" "[I", Cond.fieldLink RX2 18 "VaultDoors$Voices" "kind" "[I", Cond.fieldLink RX2 24 "VaultDoors$Voices" "distance" "[I", Cond.methodLink RX2 40 yX2_add, Cond.instanceMethod yX2_add, Cond.selects RX2 yX2_add yX2_add, Cond.code yX2_add cX2_add 5 none, Cond.fieldLink RX2 31 "VaultDoors$Voices" "lost" "I", Cond.methodLink RX2 44 yX2_moveUp, Cond.instanceMethod yX2_moveUp]
def wsX3_pass_r3 : List Cond := [Cond.selects RX2 yX2_moveUp yX2_moveUp, Cond.code yX2_moveUp cX2_moveUp 3 none, Cond.methodLink RX1 87 yX1_hear, Cond.instanceMethod yX1_hear, Cond.selects RX1 yX1_hear yX1_hear, Cond.code yX1_hear cX1_hear 6 none, Cond.methodLink RX1 51 yX1_isDoor, Cond.instanceMethod yX1_isDoor, Cond.selects RX1 yX1_isDoor yX1_isDoor, Cond.code yX1_isDoor cX1_isDoor 2 (some .boolean), Cond.methodLink RX1 94 yX0_takeAnswer, Cond.instanceMethod yX0_takeAnswer, Cond.selects RX0 yX0_takeAnswer yX0_takeAnswer, Cond.code yX0_takeAnswer cX0_takeAnswer 4 none, Cond.fieldLink RX0 18 "VaultDoors$Door" "answer" "[I", Cond.methodLink RX0 61 yX0_placeOf, Cond.instanceMethod yX0_placeOf, Cond.selects RX0 yX0_placeOf yX0_placeOf, Cond.code yX0_placeOf cX0_placeOf 3 (some .int), Cond.fieldLink RX0 49 "VaultDoors$Door" "asked" "I", Cond.fieldLink RX0 9 "VaultDoors$Door" "other" "[I", Cond.methodLink RX1 98 yX2_add, Cond.methodLink RX1 61 yX1_wake, Cond.instanceMethod yX1_wake]
def wsX3_pass_r4 : List Cond := [Cond.selects RX1 yX1_wake yX1_wake, Cond.code yX1_wake cX1_wake 4 none, Cond.fieldLink RX1 107 "VaultDoors$Door" "asked" "I", Cond.fieldLink RX1 110 "VaultDoors$Door" "other" "[I", Cond.fieldLink RX1 113 "VaultDoors$Door" "distance" "[I", Cond.methodLink RX1 104 yX0_startWaiting, Cond.instanceMethod yX0_startWaiting, Cond.selects RX0 yX0_startWaiting yX0_startWaiting, Cond.code yX0_startWaiting cX0_startWaiting 1 none, Cond.fieldLink RX0 31 "VaultDoors$Door" "patience" "I", Cond.methodLink RX1 101 yX0_remember, Cond.instanceMethod yX0_remember, Cond.selects RX0 yX0_remember yX0_remember, Cond.code yX0_remember cX0_remember 3 none, Cond.fieldLink RX0 58 "VaultDoors$Door" "remembered" "I", Cond.fieldLink RX0 21 "VaultDoors$Door" "asker" "[I", Cond.fieldLink RX0 24 "VaultDoors$Door" "askerDistance" "[I", Cond.methodLink RX1 91 yX1_waitOn, Cond.instanceMethod yX1_waitOn, Cond.selects RX1 yX1_waitOn yX1_waitOn, Cond.code yX1_waitOn cX1_waitOn 5 (some .boolean), Cond.fieldLink RX1 114 "VaultDoors$Door" "left" "I", Cond.fieldLink RX1 124 "VaultDoors$Door" "remembered" "I", Cond.fieldLink RX1 127 "VaultDoors$Door" "asker" "[I"]
def wsX3_pass_r5 : List Cond := [Cond.fieldLink RX1 130 "VaultDoors$Door" "askerDistance" "[I", Cond.methodLink RX1 117 yX0_isReadyToDecide, Cond.instanceMethod yX0_isReadyToDecide, Cond.selects RX0 yX0_isReadyToDecide yX0_isReadyToDecide, Cond.code yX0_isReadyToDecide cX0_isReadyToDecide 1 (some .boolean), Cond.methodLink RX0 65 yX0_answersOf, Cond.instanceMethod yX0_answersOf, Cond.selects RX0 yX0_answersOf yX0_answersOf, Cond.code yX0_answersOf cX0_answersOf 4 (some .int), Cond.methodLink RX1 121 yX0_decide, Cond.instanceMethod yX0_decide, Cond.selects RX0 yX0_decide yX0_decide, Cond.code yX0_decide cX0_decide 1 none, Cond.methodLink RX0 68 yX0_isPersuaded, Cond.instanceMethod yX0_isPersuaded, Cond.selects RX0 yX0_isPersuaded yX0_isPersuaded, Cond.code yX0_isPersuaded cX0_isPersuaded 2 (some .boolean), Cond.fieldLink RX0 34 "VaultDoors$Door" "rule" "I", Cond.methodLink RX0 72 yX0_open, Cond.instanceMethod yX0_open, Cond.selects RX0 yX0_open yX0_open, Cond.code yX0_open cX0_open 1 none, Cond.fieldLink RX0 43 "VaultDoors$Door" "opened" "I", Cond.methodLink RX0 75 yX0_bar]
def wsX3_pass_r6 : List Cond := [Cond.instanceMethod yX0_bar, Cond.selects RX0 yX0_bar yX0_bar, Cond.code yX0_bar cX0_bar 1 none, Cond.fieldLink RX0 46 "VaultDoors$Door" "barred" "I", Cond.methodLink RX1 133 yX0_forget, Cond.instanceMethod yX0_forget, Cond.selects RX0 yX0_forget yX0_forget, Cond.code yX0_forget cX0_forget 2 none]
def wsX3_pass : List Cond := .code yX3_pass cX3_pass 4 (some .int) :: ((wsX3_pass_r1 ++ (wsX3_pass_r2 ++ (wsX3_pass_r3 ++ (wsX3_pass_r4 ++ (wsX3_pass_r5 ++ wsX3_pass_r6))))) ++ wsX30 ++ wsX10 ++ wsX20 ++ wsX00 ++ (vx_atS RX3 27 "java/lang/IllegalArgumentException" ["java/lang/RuntimeException", "java/lang/Exception"]).filter goodWord)
def wsX3_opens_r1 : List Cond := [Cond.classLink RX3 55 "java/lang/IndexOutOfBoundsException", Cond.initialized "java/lang/IndexOutOfBoundsException", Cond.fieldLink RX3 10 "VaultDoors" "vault" "LVaultDoors$Vault;", Cond.fieldLink RX3 62 "VaultDoors$Vault" "doors" "[LVaultDoors$Door;", Cond.fieldLink RX3 66 "VaultDoors$Door" "state" "I", Cond.fieldLink RX3 16 "VaultDoors" "trial" "LVaultDoors$Vault;", Cond.methodLink RX3 52 yX1_isDoor, Cond.instanceMethod yX1_isDoor, Cond.selects RX1 yX1_isDoor yX1_isDoor, Cond.initialized RX1, Cond.code yX1_isDoor cX1_isDoor 2 (some .boolean), Cond.fieldLink RX1 32 "VaultDoors$Vault" "doorCount" "I", Cond.methodLink RX3 136 yX1_copyFrom, Cond.instanceMethod yX1_copyFrom, Cond.selects RX1 yX1_copyFrom yX1_copyFrom, Cond.code yX1_copyFrom cX1_copyFrom 3 none, Cond.fieldLink RX1 28 "VaultDoors$Vault" "tick" "I", Cond.fieldLink RX1 11 "VaultDoors$Vault" "doors" "[LVaultDoors$Door;", Cond.fieldLink RX1 20 "VaultDoors$Vault" "voices" "LVaultDoors$Voices;", Cond.methodLink RX1 35 yX0_copyFrom, Cond.instanceMethod yX0_copyFrom, Cond.selects RX0 yX0_copyFrom yX0_copyFrom, Cond.initialized RX0, Cond.code yX0_copyFrom cX0_copyFrom 2 none]
def wsX3_opens_r2 : List Cond := [Cond.fieldLink RX0 27 "VaultDoors$Door" "secret" "I", Cond.fieldLink RX0 31 "VaultDoors$Door" "patience" "I", Cond.fieldLink RX0 34 "VaultDoors$Door" "rule" "I", Cond.fieldLink RX0 37 "VaultDoors$Door" "state" "I", Cond.fieldLink RX0 40 "VaultDoors$Door" "left" "I", Cond.fieldLink RX0 43 "VaultDoors$Door" "opened" "I", Cond.fieldLink RX0 46 "VaultDoors$Door" "barred" "I", Cond.fieldLink RX0 49 "VaultDoors$Door" "asked" "I", Cond.fieldLink RX0 9 "VaultDoors$Door" "other" "[I", Cond.methodLink RX0 52 arraycopyName, Cond.native arraycopyName, Cond.static arraycopyName, Cond.initialized "java/lang/System", Cond.fieldLink RX0 15 "VaultDoors$Door" "distance" "[I", Cond.fieldLink RX0 18 "VaultDoors$Door" "answer" "[I", Cond.fieldLink RX0 58 "VaultDoors$Door" "remembered" "I", Cond.fieldLink RX0 21 "VaultDoors$Door" "asker" "[I", Cond.fieldLink RX0 24 "VaultDoors$Door" "askerDistance" "[I", Cond.methodLink RX1 39 yX2_copyFrom, Cond.instanceMethod yX2_copyFrom, Cond.selects RX2 yX2_copyFrom yX2_copyFrom, Cond.initialized RX2, Cond.code yX2_copyFrom cX2_copyFrom 2 none, Cond.fieldLink RX2 27 "VaultDoors$Voices" "size" "I"]
def wsX3_opens_r3 : List Cond := [Cond.fieldLink RX2 31 "VaultDoors$Voices" "lost" "I", Cond.fieldLink RX2 9 "VaultDoors$Voices" "from" "[I", Cond.methodLink RX2 34 arraycopyName, Cond.fieldLink RX2 15 "VaultDoors$Voices" "to" "[I", Cond.fieldLink RX2 18 "VaultDoors$Voices" "kind" "[I", Cond.fieldLink RX2 21 "VaultDoors$Voices" "left" "[I", Cond.fieldLink RX2 24 "VaultDoors$Voices" "distance" "[I", Cond.methodLink RX3 132 yX1_tickOn, Cond.instanceMethod yX1_tickOn, Cond.selects RX1 yX1_tickOn yX1_tickOn, Cond.code yX1_tickOn cX1_tickOn 3 (some .int), Cond.fieldLink RX1 24 "VaultDoors$Vault" "arrived" "LVaultDoors$Voices;", Cond.fieldLink RX1 71 "VaultDoors$Voices" "size" "I", Cond.fieldLink RX1 74 "VaultDoors$Voices" "from" "[I", Cond.fieldLink RX1 78 "VaultDoors$Voices" "to" "[I", Cond.fieldLink RX1 81 "VaultDoors$Voices" "kind" "[I", Cond.fieldLink RX1 84 "VaultDoors$Voices" "distance" "[I", Cond.fieldLink RX1 55 "VaultDoors$Door" "state" "I", Cond.methodLink RX1 65 yX0_spendTime, Cond.instanceMethod yX0_spendTime, Cond.selects RX0 yX0_spendTime yX0_spendTime, Cond.code yX0_spendTime cX0_spendTime 1 none, Cond.methodLink RX1 68 yX2_moveOn, Cond.instanceMethod yX2_moveOn]
def wsX3_opens_r4 : List Cond := [Cond.selects RX2 yX2_moveOn yX2_moveOn, Cond.code yX2_moveOn cX2_moveOn 4 none, Cond.methodLink RX2 40 yX2_add, Cond.instanceMethod yX2_add, Cond.selects RX2 yX2_add yX2_add, Cond.code yX2_add cX2_add 5 none, Cond.methodLink RX2 44 yX2_moveUp, Cond.instanceMethod yX2_moveUp, Cond.selects RX2 yX2_moveUp yX2_moveUp, Cond.code yX2_moveUp cX2_moveUp 3 none, Cond.methodLink RX1 87 yX1_hear, Cond.instanceMethod yX1_hear, Cond.selects RX1 yX1_hear yX1_hear, Cond.code yX1_hear cX1_hear 6 none, Cond.methodLink RX1 51 yX1_isDoor, Cond.methodLink RX1 94 yX0_takeAnswer, Cond.instanceMethod yX0_takeAnswer, Cond.selects RX0 yX0_takeAnswer yX0_takeAnswer, Cond.code yX0_takeAnswer cX0_takeAnswer 4 none, Cond.methodLink RX0 61 yX0_placeOf, Cond.instanceMethod yX0_placeOf, Cond.selects RX0 yX0_placeOf yX0_placeOf, Cond.code yX0_placeOf cX0_placeOf 3 (some .int), Cond.methodLink RX1 98 yX2_add]
def wsX3_opens_r5 : List Cond := [Cond.methodLink RX1 61 yX1_wake, Cond.instanceMethod yX1_wake, Cond.selects RX1 yX1_wake yX1_wake, Cond.code yX1_wake cX1_wake 4 none, Cond.fieldLink RX1 107 "VaultDoors$Door" "asked" "I", Cond.fieldLink RX1 110 "VaultDoors$Door" "other" "[I", Cond.fieldLink RX1 113 "VaultDoors$Door" "distance" "[I", Cond.methodLink RX1 104 yX0_startWaiting, Cond.instanceMethod yX0_startWaiting, Cond.selects RX0 yX0_startWaiting yX0_startWaiting, Cond.code yX0_startWaiting cX0_startWaiting 1 none, Cond.methodLink RX1 101 yX0_remember, Cond.instanceMethod yX0_remember, Cond.selects RX0 yX0_remember yX0_remember, Cond.code yX0_remember cX0_remember 3 none, Cond.methodLink RX1 91 yX1_waitOn, Cond.instanceMethod yX1_waitOn, Cond.selects RX1 yX1_waitOn yX1_waitOn, Cond.code yX1_waitOn cX1_waitOn 5 (some .boolean), Cond.fieldLink RX1 114 "VaultDoors$Door" "left" "I", Cond.fieldLink RX1 124 "VaultDoors$Door" "remembered" "I", Cond.fieldLink RX1 127 "VaultDoors$Door" "asker" "[I", Cond.fieldLink RX1 130 "VaultDoors$Door" "askerDistance" "[I", Cond.methodLink RX1 117 yX0_isReadyToDecide]
def wsX3_opens_r6 : List Cond := [Cond.instanceMethod yX0_isReadyToDecide, Cond.selects RX0 yX0_isReadyToDecide yX0_isReadyToDecide, Cond.code yX0_isReadyToDecide cX0_isReadyToDecide 1 (some .boolean), Cond.methodLink RX0 65 yX0_answersOf, Cond.instanceMethod yX0_answersOf, Cond.selects RX0 yX0_answersOf yX0_answersOf, Cond.code yX0_answersOf cX0_answersOf 4 (some .int), Cond.methodLink RX1 121 yX0_decide, Cond.instanceMethod yX0_decide, Cond.selects RX0 yX0_decide yX0_decide, Cond.code yX0_decide cX0_decide 1 none, Cond.methodLink RX0 68 yX0_isPersuaded, Cond.instanceMethod yX0_isPersuaded, Cond.selects RX0 yX0_isPersuaded yX0_isPersuaded, Cond.code yX0_isPersuaded cX0_isPersuaded 2 (some .boolean), Cond.methodLink RX0 72 yX0_open, Cond.instanceMethod yX0_open, Cond.selects RX0 yX0_open yX0_open, Cond.code yX0_open cX0_open 1 none, Cond.methodLink RX0 75 yX0_bar, Cond.instanceMethod yX0_bar, Cond.selects RX0 yX0_bar yX0_bar, Cond.code yX0_bar cX0_bar 1 none, Cond.methodLink RX1 133 yX0_forget]
def wsX3_opens_r7 : List Cond := [Cond.instanceMethod yX0_forget, Cond.selects RX0 yX0_forget yX0_forget, Cond.code yX0_forget cX0_forget 2 none]
def wsX3_opens : List Cond := .code yX3_opens cX3_opens 3 (some .int) :: ((wsX3_opens_r1 ++ (wsX3_opens_r2 ++ (wsX3_opens_r3 ++ (wsX3_opens_r4 ++ (wsX3_opens_r5 ++ (wsX3_opens_r6 ++ wsX3_opens_r7)))))) ++ wsX30 ++ wsX10 ++ wsX00 ++ wsX20 ++ (vx_atS RX3 59 "java/lang/IndexOutOfBoundsException" ["java/lang/RuntimeException", "java/lang/Exception"]).filter goodWord)
def wsX3_openedByWhisper_r1 : List Cond := [Cond.fieldLink RX3 16 "VaultDoors" "trial" "LVaultDoors$Vault;", Cond.fieldLink RX3 10 "VaultDoors" "vault" "LVaultDoors$Vault;", Cond.fieldLink RX3 62 "VaultDoors$Vault" "doors" "[LVaultDoors$Door;", Cond.fieldLink RX3 166 "VaultDoors$Door" "secret" "I", Cond.methodLink RX3 136 yX1_copyFrom, Cond.instanceMethod yX1_copyFrom, Cond.selects RX1 yX1_copyFrom yX1_copyFrom, Cond.initialized RX1, Cond.code yX1_copyFrom cX1_copyFrom 3 none, Cond.fieldLink RX1 28 "VaultDoors$Vault" "tick" "I", Cond.fieldLink RX1 32 "VaultDoors$Vault" "doorCount" "I", Cond.fieldLink RX1 11 "VaultDoors$Vault" "doors" "[LVaultDoors$Door;", Cond.fieldLink RX1 20 "VaultDoors$Vault" "voices" "LVaultDoors$Voices;", Cond.methodLink RX1 35 yX0_copyFrom, Cond.instanceMethod yX0_copyFrom, Cond.selects RX0 yX0_copyFrom yX0_copyFrom, Cond.initialized RX0, Cond.code yX0_copyFrom cX0_copyFrom 2 none, Cond.fieldLink RX0 27 "VaultDoors$Door" "secret" "I", Cond.fieldLink RX0 31 "VaultDoors$Door" "patience" "I", Cond.fieldLink RX0 34 "VaultDoors$Door" "rule" "I", Cond.fieldLink RX0 37 "VaultDoors$Door" "state" "I", Cond.fieldLink RX0 40 "VaultDoors$Door" "left" "I", Cond.fieldLink RX0 43 "VaultDoors$Door" "opened" "I"]
def wsX3_openedByWhisper_r2 : List Cond := [Cond.fieldLink RX0 46 "VaultDoors$Door" "barred" "I", Cond.fieldLink RX0 49 "VaultDoors$Door" "asked" "I", Cond.fieldLink RX0 9 "VaultDoors$Door" "other" "[I", Cond.methodLink RX0 52 arraycopyName, Cond.native arraycopyName, Cond.static arraycopyName, Cond.initialized "java/lang/System", Cond.fieldLink RX0 15 "VaultDoors$Door" "distance" "[I", Cond.fieldLink RX0 18 "VaultDoors$Door" "answer" "[I", Cond.fieldLink RX0 58 "VaultDoors$Door" "remembered" "I", Cond.fieldLink RX0 21 "VaultDoors$Door" "asker" "[I", Cond.fieldLink RX0 24 "VaultDoors$Door" "askerDistance" "[I", Cond.methodLink RX1 39 yX2_copyFrom, Cond.instanceMethod yX2_copyFrom, Cond.selects RX2 yX2_copyFrom yX2_copyFrom, Cond.initialized RX2, Cond.code yX2_copyFrom cX2_copyFrom 2 none, Cond.fieldLink RX2 27 "VaultDoors$Voices" "size" "I", Cond.fieldLink RX2 31 "VaultDoors$Voices" "lost" "I", Cond.fieldLink RX2 9 "VaultDoors$Voices" "from" "[I", Cond.methodLink RX2 34 arraycopyName, Cond.fieldLink RX2 15 "VaultDoors$Voices" "to" "[I", Cond.fieldLink RX2 18 "VaultDoors$Voices" "kind" "[I", Cond.fieldLink RX2 21 "VaultDoors$Voices" "left" "[I"]
def wsX3_openedByWhisper_r3 : List Cond := [Cond.fieldLink RX2 24 "VaultDoors$Voices" "distance" "[I", Cond.methodLink RX3 94 yX1_hearToken, Cond.instanceMethod yX1_hearToken, Cond.selects RX1 yX1_hearToken yX1_hearToken, Cond.code yX1_hearToken cX1_hearToken 3 (some .boolean), Cond.fieldLink RX1 55 "VaultDoors$Door" "state" "I", Cond.fieldLink RX1 42 "VaultDoors$Door" "secret" "I", Cond.methodLink RX1 51 yX1_isDoor, Cond.instanceMethod yX1_isDoor, Cond.selects RX1 yX1_isDoor yX1_isDoor, Cond.code yX1_isDoor cX1_isDoor 2 (some .boolean), Cond.methodLink RX1 58 yX0_bar, Cond.instanceMethod yX0_bar, Cond.selects RX0 yX0_bar yX0_bar, Cond.code yX0_bar cX0_bar 1 none, Cond.methodLink RX1 61 yX1_wake, Cond.instanceMethod yX1_wake, Cond.selects RX1 yX1_wake yX1_wake, Cond.code yX1_wake cX1_wake 4 none, Cond.fieldLink RX1 107 "VaultDoors$Door" "asked" "I", Cond.fieldLink RX1 110 "VaultDoors$Door" "other" "[I", Cond.fieldLink RX1 113 "VaultDoors$Door" "distance" "[I", Cond.methodLink RX1 104 yX0_startWaiting, Cond.instanceMethod yX0_startWaiting]
def wsX3_openedByWhisper_r4 : List Cond := [Cond.selects RX0 yX0_startWaiting yX0_startWaiting, Cond.code yX0_startWaiting cX0_startWaiting 1 none, Cond.methodLink RX1 98 yX2_add, Cond.instanceMethod yX2_add, Cond.selects RX2 yX2_add yX2_add, Cond.code yX2_add cX2_add 5 none, Cond.methodLink RX3 132 yX1_tickOn, Cond.instanceMethod yX1_tickOn, Cond.selects RX1 yX1_tickOn yX1_tickOn, Cond.code yX1_tickOn cX1_tickOn 3 (some .int), Cond.fieldLink RX1 24 "VaultDoors$Vault" "arrived" "LVaultDoors$Voices;", Cond.fieldLink RX1 71 "VaultDoors$Voices" "size" "I", Cond.fieldLink RX1 74 "VaultDoors$Voices" "from" "[I", Cond.fieldLink RX1 78 "VaultDoors$Voices" "to" "[I", Cond.fieldLink RX1 81 "VaultDoors$Voices" "kind" "[I", Cond.fieldLink RX1 84 "VaultDoors$Voices" "distance" "[I", Cond.methodLink RX1 65 yX0_spendTime, Cond.instanceMethod yX0_spendTime, Cond.selects RX0 yX0_spendTime yX0_spendTime, Cond.code yX0_spendTime cX0_spendTime 1 none, Cond.methodLink RX1 68 yX2_moveOn, Cond.instanceMethod yX2_moveOn, Cond.selects RX2 yX2_moveOn yX2_moveOn, Cond.code yX2_moveOn cX2_moveOn 4 none]
def wsX3_openedByWhisper_r5 : List Cond := [Cond.methodLink RX2 40 yX2_add, Cond.methodLink RX2 44 yX2_moveUp, Cond.instanceMethod yX2_moveUp, Cond.selects RX2 yX2_moveUp yX2_moveUp, Cond.code yX2_moveUp cX2_moveUp 3 none, Cond.methodLink RX1 87 yX1_hear, Cond.instanceMethod yX1_hear, Cond.selects RX1 yX1_hear yX1_hear, Cond.code yX1_hear cX1_hear 6 none, Cond.methodLink RX1 94 yX0_takeAnswer, Cond.instanceMethod yX0_takeAnswer, Cond.selects RX0 yX0_takeAnswer yX0_takeAnswer, Cond.code yX0_takeAnswer cX0_takeAnswer 4 none, Cond.methodLink RX0 61 yX0_placeOf, Cond.instanceMethod yX0_placeOf, Cond.selects RX0 yX0_placeOf yX0_placeOf, Cond.code yX0_placeOf cX0_placeOf 3 (some .int), Cond.methodLink RX1 101 yX0_remember, Cond.instanceMethod yX0_remember, Cond.selects RX0 yX0_remember yX0_remember, Cond.code yX0_remember cX0_remember 3 none, Cond.methodLink RX1 91 yX1_waitOn, Cond.instanceMethod yX1_waitOn, Cond.selects RX1 yX1_waitOn yX1_waitOn]
def wsX3_openedByWhisper_r6 : List Cond := [Cond.code yX1_waitOn cX1_waitOn 5 (some .boolean), Cond.fieldLink RX1 114 "VaultDoors$Door" "left" "I", Cond.fieldLink RX1 124 "VaultDoors$Door" "remembered" "I", Cond.fieldLink RX1 127 "VaultDoors$Door" "asker" "[I", Cond.fieldLink RX1 130 "VaultDoors$Door" "askerDistance" "[I", Cond.methodLink RX1 117 yX0_isReadyToDecide, Cond.instanceMethod yX0_isReadyToDecide, Cond.selects RX0 yX0_isReadyToDecide yX0_isReadyToDecide, Cond.code yX0_isReadyToDecide cX0_isReadyToDecide 1 (some .boolean), Cond.methodLink RX0 65 yX0_answersOf, Cond.instanceMethod yX0_answersOf, Cond.selects RX0 yX0_answersOf yX0_answersOf, Cond.code yX0_answersOf cX0_answersOf 4 (some .int), Cond.methodLink RX1 121 yX0_decide, Cond.instanceMethod yX0_decide, Cond.selects RX0 yX0_decide yX0_decide, Cond.code yX0_decide cX0_decide 1 none, Cond.methodLink RX0 68 yX0_isPersuaded, Cond.instanceMethod yX0_isPersuaded, Cond.selects RX0 yX0_isPersuaded yX0_isPersuaded, Cond.code yX0_isPersuaded cX0_isPersuaded 2 (some .boolean), Cond.methodLink RX0 72 yX0_open, Cond.instanceMethod yX0_open, Cond.selects RX0 yX0_open yX0_open]
def wsX3_openedByWhisper_r7 : List Cond := [Cond.code yX0_open cX0_open 1 none, Cond.methodLink RX0 75 yX0_bar, Cond.methodLink RX1 133 yX0_forget, Cond.instanceMethod yX0_forget, Cond.selects RX0 yX0_forget yX0_forget, Cond.code yX0_forget cX0_forget 2 none, Cond.methodLink RX3 169 yX1_openDoors, Cond.instanceMethod yX1_openDoors, Cond.selects RX1 yX1_openDoors yX1_openDoors, Cond.code yX1_openDoors cX1_openDoors 3 (some .int)]
def wsX3_openedByWhisper : List Cond := .code yX3_openedByWhisper cX3_openedByWhisper 5 (some .int) :: ((wsX3_openedByWhisper_r1 ++ (wsX3_openedByWhisper_r2 ++ (wsX3_openedByWhisper_r3 ++ (wsX3_openedByWhisper_r4 ++ (wsX3_openedByWhisper_r5 ++ (wsX3_openedByWhisper_r6 ++ wsX3_openedByWhisper_r7)))))) ++ wsX30 ++ wsX10 ++ wsX00 ++ wsX20)
def wsX3_would_r1 : List Cond := [Cond.classLink RX3 55 "java/lang/IndexOutOfBoundsException", Cond.initialized "java/lang/IndexOutOfBoundsException", Cond.classLink RX3 23 "java/lang/IllegalArgumentException", Cond.initialized "java/lang/IllegalArgumentException", Cond.fieldLink RX3 10 "VaultDoors" "vault" "LVaultDoors$Vault;", Cond.methodLink RX3 52 yX1_isDoor, Cond.instanceMethod yX1_isDoor, Cond.selects RX1 yX1_isDoor yX1_isDoor, Cond.initialized RX1, Cond.code yX1_isDoor cX1_isDoor 2 (some .boolean), Cond.fieldLink RX1 32 "VaultDoors$Vault" "doorCount" "I", Cond.methodLink RX3 19 yX3_isIn, Cond.static yX3_isIn, Cond.initialized RX3, Cond.code yX3_isIn cX3_isIn 3 (some .boolean), Cond.methodLink RX3 142 yX3_openedByWhisper, Cond.instanceMethod yX3_openedByWhisper, Cond.selects RX3 yX3_openedByWhisper yX3_openedByWhisper, Cond.code yX3_openedByWhisper cX3_openedByWhisper 5 (some .int), Cond.fieldLink RX3 16 "VaultDoors" "trial" "LVaultDoors$Vault;", Cond.fieldLink RX3 62 "VaultDoors$Vault" "doors" "[LVaultDoors$Door;", Cond.fieldLink RX3 166 "VaultDoors$Door" "secret" "I", Cond.methodLink RX3 136 yX1_copyFrom, Cond.instanceMethod yX1_copyFrom]
def wsX3_would_r2 : List Cond := [Cond.selects RX1 yX1_copyFrom yX1_copyFrom, Cond.code yX1_copyFrom cX1_copyFrom 3 none, Cond.fieldLink RX1 28 "VaultDoors$Vault" "tick" "I", Cond.fieldLink RX1 11 "VaultDoors$Vault" "doors" "[LVaultDoors$Door;", Cond.fieldLink RX1 20 "VaultDoors$Vault" "voices" "LVaultDoors$Voices;", Cond.methodLink RX1 35 yX0_copyFrom, Cond.instanceMethod yX0_copyFrom, Cond.selects RX0 yX0_copyFrom yX0_copyFrom, Cond.initialized RX0, Cond.code yX0_copyFrom cX0_copyFrom 2 none, Cond.fieldLink RX0 27 "VaultDoors$Door" "secret" "I", Cond.fieldLink RX0 31 "VaultDoors$Door" "patience" "I", Cond.fieldLink RX0 34 "VaultDoors$Door" "rule" "I", Cond.fieldLink RX0 37 "VaultDoors$Door" "state" "I", Cond.fieldLink RX0 40 "VaultDoors$Door" "left" "I", Cond.fieldLink RX0 43 "VaultDoors$Door" "opened" "I", Cond.fieldLink RX0 46 "VaultDoors$Door" "barred" "I", Cond.fieldLink RX0 49 "VaultDoors$Door" "asked" "I", Cond.fieldLink RX0 9 "VaultDoors$Door" "other" "[I", Cond.methodLink RX0 52 arraycopyName, Cond.native arraycopyName, Cond.static arraycopyName, Cond.initialized "java/lang/System", Cond.fieldLink RX0 15 "VaultDoors$Door" "distance" "[I"]
def wsX3_would_r3 : List Cond := [Cond.fieldLink RX0 18 "VaultDoors$Door" "answer" "[I", Cond.fieldLink RX0 58 "VaultDoors$Door" "remembered" "I", Cond.fieldLink RX0 21 "VaultDoors$Door" "asker" "[I", Cond.fieldLink RX0 24 "VaultDoors$Door" "askerDistance" "[I", Cond.methodLink RX1 39 yX2_copyFrom, Cond.instanceMethod yX2_copyFrom, Cond.selects RX2 yX2_copyFrom yX2_copyFrom, Cond.initialized RX2, Cond.code yX2_copyFrom cX2_copyFrom 2 none, Cond.fieldLink RX2 27 "VaultDoors$Voices" "size" "I", Cond.fieldLink RX2 31 "VaultDoors$Voices" "lost" "I", Cond.fieldLink RX2 9 "VaultDoors$Voices" "from" "[I", Cond.methodLink RX2 34 arraycopyName, Cond.fieldLink RX2 15 "VaultDoors$Voices" "to" "[I", Cond.fieldLink RX2 18 "VaultDoors$Voices" "kind" "[I", Cond.fieldLink RX2 21 "VaultDoors$Voices" "left" "[I", Cond.fieldLink RX2 24 "VaultDoors$Voices" "distance" "[I", Cond.methodLink RX3 94 yX1_hearToken, Cond.instanceMethod yX1_hearToken, Cond.selects RX1 yX1_hearToken yX1_hearToken, Cond.code yX1_hearToken cX1_hearToken 3 (some .boolean), Cond.fieldLink RX1 55 "VaultDoors$Door" "state" "I", Cond.fieldLink RX1 42 "VaultDoors$Door" "secret" "I", Cond.methodLink RX1 51 yX1_isDoor]
def wsX3_would_r4 : List Cond := [Cond.methodLink RX1 58 yX0_bar, Cond.instanceMethod yX0_bar, Cond.selects RX0 yX0_bar yX0_bar, Cond.code yX0_bar cX0_bar 1 none, Cond.methodLink RX1 61 yX1_wake, Cond.instanceMethod yX1_wake, Cond.selects RX1 yX1_wake yX1_wake, Cond.code yX1_wake cX1_wake 4 none, Cond.fieldLink RX1 107 "VaultDoors$Door" "asked" "I", Cond.fieldLink RX1 110 "VaultDoors$Door" "other" "[I", Cond.fieldLink RX1 113 "VaultDoors$Door" "distance" "[I", Cond.methodLink RX1 104 yX0_startWaiting, Cond.instanceMethod yX0_startWaiting, Cond.selects RX0 yX0_startWaiting yX0_startWaiting, Cond.code yX0_startWaiting cX0_startWaiting 1 none, Cond.methodLink RX1 98 yX2_add, Cond.instanceMethod yX2_add, Cond.selects RX2 yX2_add yX2_add, Cond.code yX2_add cX2_add 5 none, Cond.methodLink RX3 132 yX1_tickOn, Cond.instanceMethod yX1_tickOn, Cond.selects RX1 yX1_tickOn yX1_tickOn, Cond.code yX1_tickOn cX1_tickOn 3 (some .int), Cond.fieldLink RX1 24 "VaultDoors$Vault" "arrived" "LVaultDoors$Voices;"]
def wsX3_would_r5 : List Cond := [Cond.fieldLink RX1 71 "VaultDoors$Voices" "size" "I", Cond.fieldLink RX1 74 "VaultDoors$Voices" "from" "[I", Cond.fieldLink RX1 78 "VaultDoors$Voices" "to" "[I", Cond.fieldLink RX1 81 "VaultDoors$Voices" "kind" "[I", Cond.fieldLink RX1 84 "VaultDoors$Voices" "distance" "[I", Cond.methodLink RX1 65 yX0_spendTime, Cond.instanceMethod yX0_spendTime, Cond.selects RX0 yX0_spendTime yX0_spendTime, Cond.code yX0_spendTime cX0_spendTime 1 none, Cond.methodLink RX1 68 yX2_moveOn, Cond.instanceMethod yX2_moveOn, Cond.selects RX2 yX2_moveOn yX2_moveOn, Cond.code yX2_moveOn cX2_moveOn 4 none, Cond.methodLink RX2 40 yX2_add, Cond.methodLink RX2 44 yX2_moveUp, Cond.instanceMethod yX2_moveUp, Cond.selects RX2 yX2_moveUp yX2_moveUp, Cond.code yX2_moveUp cX2_moveUp 3 none, Cond.methodLink RX1 87 yX1_hear, Cond.instanceMethod yX1_hear, Cond.selects RX1 yX1_hear yX1_hear, Cond.code yX1_hear cX1_hear 6 none, Cond.methodLink RX1 94 yX0_takeAnswer, Cond.instanceMethod yX0_takeAnswer]
def wsX3_would_r6 : List Cond := [Cond.selects RX0 yX0_takeAnswer yX0_takeAnswer, Cond.code yX0_takeAnswer cX0_takeAnswer 4 none, Cond.methodLink RX0 61 yX0_placeOf, Cond.instanceMethod yX0_placeOf, Cond.selects RX0 yX0_placeOf yX0_placeOf, Cond.code yX0_placeOf cX0_placeOf 3 (some .int), Cond.methodLink RX1 101 yX0_remember, Cond.instanceMethod yX0_remember, Cond.selects RX0 yX0_remember yX0_remember, Cond.code yX0_remember cX0_remember 3 none, Cond.methodLink RX1 91 yX1_waitOn, Cond.instanceMethod yX1_waitOn, Cond.selects RX1 yX1_waitOn yX1_waitOn, Cond.code yX1_waitOn cX1_waitOn 5 (some .boolean), Cond.fieldLink RX1 114 "VaultDoors$Door" "left" "I", Cond.fieldLink RX1 124 "VaultDoors$Door" "remembered" "I", Cond.fieldLink RX1 127 "VaultDoors$Door" "asker" "[I", Cond.fieldLink RX1 130 "VaultDoors$Door" "askerDistance" "[I", Cond.methodLink RX1 117 yX0_isReadyToDecide, Cond.instanceMethod yX0_isReadyToDecide, Cond.selects RX0 yX0_isReadyToDecide yX0_isReadyToDecide, Cond.code yX0_isReadyToDecide cX0_isReadyToDecide 1 (some .boolean), Cond.methodLink RX0 65 yX0_answersOf, Cond.instanceMethod yX0_answersOf]
def wsX3_would_r7 : List Cond := [Cond.selects RX0 yX0_answersOf yX0_answersOf, Cond.code yX0_answersOf cX0_answersOf 4 (some .int), Cond.methodLink RX1 121 yX0_decide, Cond.instanceMethod yX0_decide, Cond.selects RX0 yX0_decide yX0_decide, Cond.code yX0_decide cX0_decide 1 none, Cond.methodLink RX0 68 yX0_isPersuaded, Cond.instanceMethod yX0_isPersuaded, Cond.selects RX0 yX0_isPersuaded yX0_isPersuaded, Cond.code yX0_isPersuaded cX0_isPersuaded 2 (some .boolean), Cond.methodLink RX0 72 yX0_open, Cond.instanceMethod yX0_open, Cond.selects RX0 yX0_open yX0_open, Cond.code yX0_open cX0_open 1 none, Cond.methodLink RX0 75 yX0_bar, Cond.methodLink RX1 133 yX0_forget, Cond.instanceMethod yX0_forget, Cond.selects RX0 yX0_forget yX0_forget, Cond.code yX0_forget cX0_forget 2 none, Cond.methodLink RX3 169 yX1_openDoors, Cond.instanceMethod yX1_openDoors, Cond.selects RX1 yX1_openDoors yX1_openDoors, Cond.code yX1_openDoors cX1_openDoors 3 (some .int)]
def wsX3_would : List Cond := .code yX3_would cX3_would 3 (some .int) :: ((wsX3_would_r1 ++ (wsX3_would_r2 ++ (wsX3_would_r3 ++ (wsX3_would_r4 ++ (wsX3_would_r5 ++ (wsX3_would_r6 ++ wsX3_would_r7)))))) ++ wsX30 ++ wsX10 ++ wsX00 ++ wsX20 ++ (vx_atS RX3 59 "java/lang/IndexOutOfBoundsException" ["java/lang/RuntimeException", "java/lang/Exception"]).filter goodWord ++ (vx_atS RX3 27 "java/lang/IllegalArgumentException" ["java/lang/RuntimeException", "java/lang/Exception"]).filter goodWord)
def wsJ6_bitCount_0f7a4 : List Cond := .code yJ6_bitCount_0f7a4 cJ6_bitCount_0f7a4 1 (some .int) :: ([.constant RJ6 265 (1431655765), .constant RJ6 266 (858993459), .constant RJ6 267 (252645135)])
def wsX3_best_r1 : List Cond := [Cond.classLink RX3 23 "java/lang/IllegalArgumentException", Cond.initialized "java/lang/IllegalArgumentException", Cond.fieldLink RX3 10 "VaultDoors" "vault" "LVaultDoors$Vault;", Cond.fieldLink RX3 39 "VaultDoors$Vault" "doorCount" "I", Cond.methodLink RX3 19 yX3_isIn, Cond.static yX3_isIn, Cond.initialized RX3, Cond.code yX3_isIn cX3_isIn 3 (some .boolean), Cond.methodLink RX3 142 yX3_openedByWhisper, Cond.instanceMethod yX3_openedByWhisper, Cond.selects RX3 yX3_openedByWhisper yX3_openedByWhisper, Cond.code yX3_openedByWhisper cX3_openedByWhisper 5 (some .int), Cond.fieldLink RX3 16 "VaultDoors" "trial" "LVaultDoors$Vault;", Cond.fieldLink RX3 62 "VaultDoors$Vault" "doors" "[LVaultDoors$Door;", Cond.fieldLink RX3 166 "VaultDoors$Door" "secret" "I", Cond.methodLink RX3 136 yX1_copyFrom, Cond.instanceMethod yX1_copyFrom, Cond.selects RX1 yX1_copyFrom yX1_copyFrom, Cond.initialized RX1, Cond.code yX1_copyFrom cX1_copyFrom 3 none, Cond.fieldLink RX1 28 "VaultDoors$Vault" "tick" "I", Cond.fieldLink RX1 32 "VaultDoors$Vault" "doorCount" "I", Cond.fieldLink RX1 11 "VaultDoors$Vault" "doors" "[LVaultDoors$Door;", Cond.fieldLink RX1 20 "VaultDoors$Vault" "voices" "LVaultDoors$Voices;"]
def wsX3_best_r2 : List Cond := [Cond.methodLink RX1 35 yX0_copyFrom, Cond.instanceMethod yX0_copyFrom, Cond.selects RX0 yX0_copyFrom yX0_copyFrom, Cond.initialized RX0, Cond.code yX0_copyFrom cX0_copyFrom 2 none, Cond.fieldLink RX0 27 "VaultDoors$Door" "secret" "I", Cond.fieldLink RX0 31 "VaultDoors$Door" "patience" "I", Cond.fieldLink RX0 34 "VaultDoors$Door" "rule" "I", Cond.fieldLink RX0 37 "VaultDoors$Door" "state" "I", Cond.fieldLink RX0 40 "VaultDoors$Door" "left" "I", Cond.fieldLink RX0 43 "VaultDoors$Door" "opened" "I", Cond.fieldLink RX0 46 "VaultDoors$Door" "barred" "I", Cond.fieldLink RX0 49 "VaultDoors$Door" "asked" "I", Cond.fieldLink RX0 9 "VaultDoors$Door" "other" "[I", Cond.methodLink RX0 52 arraycopyName, Cond.native arraycopyName, Cond.static arraycopyName, Cond.initialized "java/lang/System", Cond.fieldLink RX0 15 "VaultDoors$Door" "distance" "[I", Cond.fieldLink RX0 18 "VaultDoors$Door" "answer" "[I", Cond.fieldLink RX0 58 "VaultDoors$Door" "remembered" "I", Cond.fieldLink RX0 21 "VaultDoors$Door" "asker" "[I", Cond.fieldLink RX0 24 "VaultDoors$Door" "askerDistance" "[I", Cond.methodLink RX1 39 yX2_copyFrom]
def wsX3_best_r3 : List Cond := [Cond.instanceMethod yX2_copyFrom, Cond.selects RX2 yX2_copyFrom yX2_copyFrom, Cond.initialized RX2, Cond.code yX2_copyFrom cX2_copyFrom 2 none, Cond.fieldLink RX2 27 "VaultDoors$Voices" "size" "I", Cond.fieldLink RX2 31 "VaultDoors$Voices" "lost" "I", Cond.fieldLink RX2 9 "VaultDoors$Voices" "from" "[I", Cond.methodLink RX2 34 arraycopyName, Cond.fieldLink RX2 15 "VaultDoors$Voices" "to" "[I", Cond.fieldLink RX2 18 "VaultDoors$Voices" "kind" "[I", Cond.fieldLink RX2 21 "VaultDoors$Voices" "left" "[I", Cond.fieldLink RX2 24 "VaultDoors$Voices" "distance" "[I", Cond.methodLink RX3 94 yX1_hearToken, Cond.instanceMethod yX1_hearToken, Cond.selects RX1 yX1_hearToken yX1_hearToken, Cond.code yX1_hearToken cX1_hearToken 3 (some .boolean), Cond.fieldLink RX1 55 "VaultDoors$Door" "state" "I", Cond.fieldLink RX1 42 "VaultDoors$Door" "secret" "I", Cond.methodLink RX1 51 yX1_isDoor, Cond.instanceMethod yX1_isDoor, Cond.selects RX1 yX1_isDoor yX1_isDoor, Cond.code yX1_isDoor cX1_isDoor 2 (some .boolean), Cond.methodLink RX1 58 yX0_bar, Cond.instanceMethod yX0_bar]
def wsX3_best_r4 : List Cond := [Cond.selects RX0 yX0_bar yX0_bar, Cond.code yX0_bar cX0_bar 1 none, Cond.methodLink RX1 61 yX1_wake, Cond.instanceMethod yX1_wake, Cond.selects RX1 yX1_wake yX1_wake, Cond.code yX1_wake cX1_wake 4 none, Cond.fieldLink RX1 107 "VaultDoors$Door" "asked" "I", Cond.fieldLink RX1 110 "VaultDoors$Door" "other" "[I", Cond.fieldLink RX1 113 "VaultDoors$Door" "distance" "[I", Cond.methodLink RX1 104 yX0_startWaiting, Cond.instanceMethod yX0_startWaiting, Cond.selects RX0 yX0_startWaiting yX0_startWaiting, Cond.code yX0_startWaiting cX0_startWaiting 1 none, Cond.methodLink RX1 98 yX2_add, Cond.instanceMethod yX2_add, Cond.selects RX2 yX2_add yX2_add, Cond.code yX2_add cX2_add 5 none, Cond.methodLink RX3 132 yX1_tickOn, Cond.instanceMethod yX1_tickOn, Cond.selects RX1 yX1_tickOn yX1_tickOn, Cond.code yX1_tickOn cX1_tickOn 3 (some .int), Cond.fieldLink RX1 24 "VaultDoors$Vault" "arrived" "LVaultDoors$Voices;", Cond.fieldLink RX1 71 "VaultDoors$Voices" "size" "I", Cond.fieldLink RX1 74 "VaultDoors$Voices" "from" "[I"]
def wsX3_best_r5 : List Cond := [Cond.fieldLink RX1 78 "VaultDoors$Voices" "to" "[I", Cond.fieldLink RX1 81 "VaultDoors$Voices" "kind" "[I", Cond.fieldLink RX1 84 "VaultDoors$Voices" "distance" "[I", Cond.methodLink RX1 65 yX0_spendTime, Cond.instanceMethod yX0_spendTime, Cond.selects RX0 yX0_spendTime yX0_spendTime, Cond.code yX0_spendTime cX0_spendTime 1 none, Cond.methodLink RX1 68 yX2_moveOn, Cond.instanceMethod yX2_moveOn, Cond.selects RX2 yX2_moveOn yX2_moveOn, Cond.code yX2_moveOn cX2_moveOn 4 none, Cond.methodLink RX2 40 yX2_add, Cond.methodLink RX2 44 yX2_moveUp, Cond.instanceMethod yX2_moveUp, Cond.selects RX2 yX2_moveUp yX2_moveUp, Cond.code yX2_moveUp cX2_moveUp 3 none, Cond.methodLink RX1 87 yX1_hear, Cond.instanceMethod yX1_hear, Cond.selects RX1 yX1_hear yX1_hear, Cond.code yX1_hear cX1_hear 6 none, Cond.methodLink RX1 94 yX0_takeAnswer, Cond.instanceMethod yX0_takeAnswer, Cond.selects RX0 yX0_takeAnswer yX0_takeAnswer, Cond.code yX0_takeAnswer cX0_takeAnswer 4 none]
def wsX3_best_r6 : List Cond := [Cond.methodLink RX0 61 yX0_placeOf, Cond.instanceMethod yX0_placeOf, Cond.selects RX0 yX0_placeOf yX0_placeOf, Cond.code yX0_placeOf cX0_placeOf 3 (some .int), Cond.methodLink RX1 101 yX0_remember, Cond.instanceMethod yX0_remember, Cond.selects RX0 yX0_remember yX0_remember, Cond.code yX0_remember cX0_remember 3 none, Cond.methodLink RX1 91 yX1_waitOn, Cond.instanceMethod yX1_waitOn, Cond.selects RX1 yX1_waitOn yX1_waitOn, Cond.code yX1_waitOn cX1_waitOn 5 (some .boolean), Cond.fieldLink RX1 114 "VaultDoors$Door" "left" "I", Cond.fieldLink RX1 124 "VaultDoors$Door" "remembered" "I", Cond.fieldLink RX1 127 "VaultDoors$Door" "asker" "[I", Cond.fieldLink RX1 130 "VaultDoors$Door" "askerDistance" "[I", Cond.methodLink RX1 117 yX0_isReadyToDecide, Cond.instanceMethod yX0_isReadyToDecide, Cond.selects RX0 yX0_isReadyToDecide yX0_isReadyToDecide, Cond.code yX0_isReadyToDecide cX0_isReadyToDecide 1 (some .boolean), Cond.methodLink RX0 65 yX0_answersOf, Cond.instanceMethod yX0_answersOf, Cond.selects RX0 yX0_answersOf yX0_answersOf, Cond.code yX0_answersOf cX0_answersOf 4 (some .int)]
def wsX3_best_r7 : List Cond := [Cond.methodLink RX1 121 yX0_decide, Cond.instanceMethod yX0_decide, Cond.selects RX0 yX0_decide yX0_decide, Cond.code yX0_decide cX0_decide 1 none, Cond.methodLink RX0 68 yX0_isPersuaded, Cond.instanceMethod yX0_isPersuaded, Cond.selects RX0 yX0_isPersuaded yX0_isPersuaded, Cond.code yX0_isPersuaded cX0_isPersuaded 2 (some .boolean), Cond.methodLink RX0 72 yX0_open, Cond.instanceMethod yX0_open, Cond.selects RX0 yX0_open yX0_open, Cond.code yX0_open cX0_open 1 none, Cond.methodLink RX0 75 yX0_bar, Cond.methodLink RX1 133 yX0_forget, Cond.instanceMethod yX0_forget, Cond.selects RX0 yX0_forget yX0_forget, Cond.code yX0_forget cX0_forget 2 none, Cond.methodLink RX3 169 yX1_openDoors, Cond.instanceMethod yX1_openDoors, Cond.selects RX1 yX1_openDoors yX1_openDoors, Cond.code yX1_openDoors cX1_openDoors 3 (some .int), Cond.methodLink RX3 147 yJ6_bitCount_0f7a4, Cond.static yJ6_bitCount_0f7a4, Cond.initialized RJ6]
def wsX3_best_r8 : List Cond := [Cond.code yJ6_bitCount_0f7a4 cJ6_bitCount_0f7a4 1 (some .int), Cond.constant RJ6 265 (1431655765), Cond.constant RJ6 266 (858993459), Cond.constant RJ6 267 (252645135)]
def wsX3_best : List Cond := .code yX3_best cX3_best 6 (some .int) :: ((wsX3_best_r1 ++ (wsX3_best_r2 ++ (wsX3_best_r3 ++ (wsX3_best_r4 ++ (wsX3_best_r5 ++ (wsX3_best_r6 ++ (wsX3_best_r7 ++ wsX3_best_r8))))))) ++ wsX30 ++ wsX10 ++ wsX00 ++ wsX20 ++ (vx_atS RX3 27 "java/lang/IllegalArgumentException" ["java/lang/RuntimeException", "java/lang/Exception"]).filter goodWord)
def wsX3_mean : List Cond := .code yX3_mean cX3_mean 4 (some .double) :: ([.fieldLink RX3 10 "VaultDoors" "vault" "LVaultDoors$Vault;", .fieldLink RX3 39 "VaultDoors$Vault" "doorCount" "I", .fieldLink RX3 62 "VaultDoors$Vault" "doors" "[LVaultDoors$Door;", .fieldLink RX3 152 "VaultDoors$Door" "opened" "I", .fieldLink RX3 155 "VaultDoors$Door" "barred" "I"] ++ wsX30 ++ wsX10 ++ wsX00)
def wsX3_digestOfDoor_r1 : List Cond := [Cond.constantLong RX3 160 (31), Cond.fieldLink RX3 75 "VaultDoors$Door" "asked" "I", Cond.methodLink RX3 100 yX0_fact, Cond.instanceMethod yX0_fact, Cond.selects RX0 yX0_fact yX0_fact, Cond.initialized RX0, Cond.code yX0_fact cX0_fact 2 (some .int), Cond.fieldLink RX0 37 "VaultDoors$Door" "state" "I", Cond.fieldLink RX0 40 "VaultDoors$Door" "left" "I", Cond.fieldLink RX0 34 "VaultDoors$Door" "rule" "I", Cond.fieldLink RX0 49 "VaultDoors$Door" "asked" "I", Cond.fieldLink RX0 58 "VaultDoors$Door" "remembered" "I", Cond.fieldLink RX0 43 "VaultDoors$Door" "opened" "I", Cond.fieldLink RX0 46 "VaultDoors$Door" "barred" "I", Cond.methodLink RX0 65 yX0_answersOf, Cond.instanceMethod yX0_answersOf, Cond.selects RX0 yX0_answersOf yX0_answersOf, Cond.code yX0_answersOf cX0_answersOf 4 (some .int), Cond.fieldLink RX0 18 "VaultDoors$Door" "answer" "[I", Cond.methodLink RX3 107 yX0_askedFact, Cond.instanceMethod yX0_askedFact, Cond.selects RX0 yX0_askedFact yX0_askedFact, Cond.code yX0_askedFact cX0_askedFact 3 (some .int), Cond.fieldLink RX0 9 "VaultDoors$Door" "other" "[I"]
def wsX3_digestOfDoor_r2 : List Cond := [Cond.fieldLink RX0 15 "VaultDoors$Door" "distance" "[I", Cond.static yX3_isIn, Cond.initialized RX3, Cond.code yX3_isIn cX3_isIn 3 (some .boolean)]
def wsX3_digestOfDoor : List Cond := .code yX3_digestOfDoor cX3_digestOfDoor 7 (some .long) :: ((wsX3_digestOfDoor_r1 ++ wsX3_digestOfDoor_r2) ++ wsX00)
def wsX3_digest_r1 : List Cond := [Cond.constantLong RX3 158 (907), Cond.constantLong RX3 160 (31), Cond.fieldLink RX3 10 "VaultDoors" "vault" "LVaultDoors$Vault;", Cond.fieldLink RX3 39 "VaultDoors$Vault" "doorCount" "I", Cond.fieldLink RX3 62 "VaultDoors$Vault" "doors" "[LVaultDoors$Door;", Cond.fieldLink RX3 111 "VaultDoors$Vault" "voices" "LVaultDoors$Voices;", Cond.fieldLink RX3 115 "VaultDoors$Voices" "size" "I", Cond.methodLink RX3 126 yX1_fact, Cond.instanceMethod yX1_fact, Cond.selects RX1 yX1_fact yX1_fact, Cond.initialized RX1, Cond.code yX1_fact cX1_fact 2 (some .int), Cond.fieldLink RX1 28 "VaultDoors$Vault" "tick" "I", Cond.fieldLink RX1 32 "VaultDoors$Vault" "doorCount" "I", Cond.fieldLink RX1 20 "VaultDoors$Vault" "voices" "LVaultDoors$Voices;", Cond.fieldLink RX1 71 "VaultDoors$Voices" "size" "I", Cond.fieldLink RX1 140 "VaultDoors$Voices" "lost" "I", Cond.methodLink RX1 136 yX1_doorsThat, Cond.instanceMethod yX1_doorsThat, Cond.selects RX1 yX1_doorsThat yX1_doorsThat, Cond.code yX1_doorsThat cX1_doorsThat 4 (some .int), Cond.fieldLink RX1 11 "VaultDoors$Vault" "doors" "[LVaultDoors$Door;", Cond.fieldLink RX1 55 "VaultDoors$Door" "state" "I", Cond.methodLink RX1 143 yX1_openDoors]
def wsX3_digest_r2 : List Cond := [Cond.instanceMethod yX1_openDoors, Cond.selects RX1 yX1_openDoors yX1_openDoors, Cond.code yX1_openDoors cX1_openDoors 3 (some .int), Cond.methodLink RX3 162 yX3_digestOfDoor, Cond.static yX3_digestOfDoor, Cond.initialized RX3, Cond.code yX3_digestOfDoor cX3_digestOfDoor 7 (some .long), Cond.fieldLink RX3 75 "VaultDoors$Door" "asked" "I", Cond.methodLink RX3 100 yX0_fact, Cond.instanceMethod yX0_fact, Cond.selects RX0 yX0_fact yX0_fact, Cond.initialized RX0, Cond.code yX0_fact cX0_fact 2 (some .int), Cond.fieldLink RX0 37 "VaultDoors$Door" "state" "I", Cond.fieldLink RX0 40 "VaultDoors$Door" "left" "I", Cond.fieldLink RX0 34 "VaultDoors$Door" "rule" "I", Cond.fieldLink RX0 49 "VaultDoors$Door" "asked" "I", Cond.fieldLink RX0 58 "VaultDoors$Door" "remembered" "I", Cond.fieldLink RX0 43 "VaultDoors$Door" "opened" "I", Cond.fieldLink RX0 46 "VaultDoors$Door" "barred" "I", Cond.methodLink RX0 65 yX0_answersOf, Cond.instanceMethod yX0_answersOf, Cond.selects RX0 yX0_answersOf yX0_answersOf, Cond.code yX0_answersOf cX0_answersOf 4 (some .int)]
def wsX3_digest_r3 : List Cond := [Cond.fieldLink RX0 18 "VaultDoors$Door" "answer" "[I", Cond.methodLink RX3 107 yX0_askedFact, Cond.instanceMethod yX0_askedFact, Cond.selects RX0 yX0_askedFact yX0_askedFact, Cond.code yX0_askedFact cX0_askedFact 3 (some .int), Cond.fieldLink RX0 9 "VaultDoors$Door" "other" "[I", Cond.fieldLink RX0 15 "VaultDoors$Door" "distance" "[I", Cond.static yX3_isIn, Cond.code yX3_isIn cX3_isIn 3 (some .boolean), Cond.methodLink RX3 122 yX2_fact, Cond.instanceMethod yX2_fact, Cond.selects RX2 yX2_fact yX2_fact, Cond.initialized RX2, Cond.code yX2_fact cX2_fact 3 (some .int), Cond.fieldLink RX2 27 "VaultDoors$Voices" "size" "I", Cond.fieldLink RX2 9 "VaultDoors$Voices" "from" "[I", Cond.fieldLink RX2 15 "VaultDoors$Voices" "to" "[I", Cond.fieldLink RX2 18 "VaultDoors$Voices" "kind" "[I", Cond.fieldLink RX2 21 "VaultDoors$Voices" "left" "[I"]
def wsX3_digest : List Cond := .code yX3_digest cX3_digest 5 (some .long) :: ((wsX3_digest_r1 ++ (wsX3_digest_r2 ++ wsX3_digest_r3)) ++ wsX30 ++ wsX10 ++ wsX20 ++ wsX00)
def wsX4_init : List Cond := .code yX4_init cX4_init 1 none :: ([.methodLink RX4 1 objectInit, .instanceMethod objectInit, .code objectInit ⟨#[0xb1]⟩ 1 none, .arrayClass .int, .fieldLink RX4 9 "VaultDoorsModel" "vault" "[I", .fieldLink RX4 13 "VaultDoorsModel" "links" "[I", .fieldLink RX4 16 "VaultDoorsModel" "memory" "[I", .fieldLink RX4 19 "VaultDoorsModel" "voices" "[I", .fieldLink RX4 22 "VaultDoorsModel" "numbers" "[I", .fieldLink RX4 25 "VaultDoorsModel" "heard" "[I"] ++ wsX40)
def wsX4_thrown : List Cond := .code yX4_thrown cX4_thrown 1 (some .int) :: ([.fieldLink RX4 28 "VaultDoorsModel" "thrown" "I"] ++ wsX40)
def wsX4_fail : List Cond := .code yX4_fail cX4_fail 2 (some .int) :: ([.fieldLink RX4 28 "VaultDoorsModel" "thrown" "I"] ++ wsX40)
def wsX4_isIn : List Cond := .code yX4_isIn cX4_isIn 3 (some .boolean) :: ([])
def wsX4_isDoor : List Cond := .code yX4_isDoor cX4_isDoor 2 (some .boolean) :: ([.fieldLink RX4 32 "VaultDoorsModel" "doors" "I", .methodLink RX4 35 yX4_isIn, .static yX4_isIn, .initialized RX4, .code yX4_isIn cX4_isIn 3 (some .boolean)] ++ wsX40)
def wsX4_va : List Cond := .code yX4_va cX4_va 3 (some .int) :: ([.fieldLink RX4 9 "VaultDoorsModel" "vault" "[I"] ++ wsX40)
def wsX4_put : List Cond := .code yX4_put cX4_put 4 none :: ([.fieldLink RX4 9 "VaultDoorsModel" "vault" "[I"] ++ wsX40)
def wsX4_li : List Cond := .code yX4_li cX4_li 4 (some .int) :: ([.fieldLink RX4 13 "VaultDoorsModel" "links" "[I"] ++ wsX40)
def wsX4_setLink : List Cond := .code yX4_setLink cX4_setLink 5 none :: ([.fieldLink RX4 13 "VaultDoorsModel" "links" "[I"] ++ wsX40)
def wsX4_build : List Cond := .code yX4_build cX4_build 5 (some .int) :: ([.fieldLink RX4 28 "VaultDoorsModel" "thrown" "I", .fieldLink RX4 32 "VaultDoorsModel" "doors" "I", .arrayClass .int, .fieldLink RX4 9 "VaultDoorsModel" "vault" "[I", .methodLink RX4 43 arraycopyName, .native arraycopyName, .static arraycopyName, .initialized "java/lang/System", .methodLink RX4 35 yX4_isIn, .static yX4_isIn, .initialized RX4, .code yX4_isIn cX4_isIn 3 (some .boolean), .methodLink RX4 39 yX4_fail, .instanceMethod yX4_fail, .selects RX4 yX4_fail yX4_fail, .code yX4_fail cX4_fail 2 (some .int)] ++ wsX40)
def wsX4_place : List Cond := .code yX4_place cX4_place 4 (some .int) :: ([.methodLink RX4 49 yX4_va, .instanceMethod yX4_va, .selects RX4 yX4_va yX4_va, .initialized RX4, .code yX4_va cX4_va 3 (some .int), .fieldLink RX4 9 "VaultDoorsModel" "vault" "[I", .methodLink RX4 53 yX4_li, .instanceMethod yX4_li, .selects RX4 yX4_li yX4_li, .code yX4_li cX4_li 4 (some .int), .fieldLink RX4 13 "VaultDoorsModel" "links" "[I"] ++ wsX40)
def wsX4_ask_r1 : List Cond := [Cond.fieldLink RX4 28 "VaultDoorsModel" "thrown" "I", Cond.methodLink RX4 57 yX4_isDoor, Cond.instanceMethod yX4_isDoor, Cond.selects RX4 yX4_isDoor yX4_isDoor, Cond.initialized RX4, Cond.code yX4_isDoor cX4_isDoor 2 (some .boolean), Cond.fieldLink RX4 32 "VaultDoorsModel" "doors" "I", Cond.methodLink RX4 35 yX4_isIn, Cond.static yX4_isIn, Cond.code yX4_isIn cX4_isIn 3 (some .boolean), Cond.methodLink RX4 39 yX4_fail, Cond.instanceMethod yX4_fail, Cond.selects RX4 yX4_fail yX4_fail, Cond.code yX4_fail cX4_fail 2 (some .int), Cond.methodLink RX4 49 yX4_va, Cond.instanceMethod yX4_va, Cond.selects RX4 yX4_va yX4_va, Cond.code yX4_va cX4_va 3 (some .int), Cond.fieldLink RX4 9 "VaultDoorsModel" "vault" "[I", Cond.methodLink RX4 61 yX4_place, Cond.instanceMethod yX4_place, Cond.selects RX4 yX4_place yX4_place, Cond.code yX4_place cX4_place 4 (some .int), Cond.methodLink RX4 53 yX4_li]
def wsX4_ask_r2 : List Cond := [Cond.instanceMethod yX4_li, Cond.selects RX4 yX4_li yX4_li, Cond.code yX4_li cX4_li 4 (some .int), Cond.fieldLink RX4 13 "VaultDoorsModel" "links" "[I", Cond.methodLink RX4 64 yX4_setLink, Cond.instanceMethod yX4_setLink, Cond.selects RX4 yX4_setLink yX4_setLink, Cond.code yX4_setLink cX4_setLink 5 none, Cond.methodLink RX4 68 yX4_put, Cond.instanceMethod yX4_put, Cond.selects RX4 yX4_put yX4_put, Cond.code yX4_put cX4_put 4 none]
def wsX4_ask : List Cond := .code yX4_ask cX4_ask 5 (some .int) :: ((wsX4_ask_r1 ++ wsX4_ask_r2) ++ wsX40)
def wsX4_set : List Cond := .code yX4_set cX4_set 5 (some .int) :: ([.fieldLink RX4 28 "VaultDoorsModel" "thrown" "I", .methodLink RX4 57 yX4_isDoor, .instanceMethod yX4_isDoor, .selects RX4 yX4_isDoor yX4_isDoor, .initialized RX4, .code yX4_isDoor cX4_isDoor 2 (some .boolean), .fieldLink RX4 32 "VaultDoorsModel" "doors" "I", .methodLink RX4 35 yX4_isIn, .static yX4_isIn, .code yX4_isIn cX4_isIn 3 (some .boolean), .methodLink RX4 39 yX4_fail, .instanceMethod yX4_fail, .selects RX4 yX4_fail yX4_fail, .code yX4_fail cX4_fail 2 (some .int), .methodLink RX4 49 yX4_va, .instanceMethod yX4_va, .selects RX4 yX4_va yX4_va, .code yX4_va cX4_va 3 (some .int), .fieldLink RX4 9 "VaultDoorsModel" "vault" "[I", .methodLink RX4 68 yX4_put, .instanceMethod yX4_put, .selects RX4 yX4_put yX4_put, .code yX4_put cX4_put 4 none] ++ wsX40)
def wsX4_send : List Cond := .code yX4_send cX4_send 6 none :: ([.fieldLink RX4 22 "VaultDoorsModel" "numbers" "[I", .fieldLink RX4 19 "VaultDoorsModel" "voices" "[I"] ++ wsX40)
def wsX4_state : List Cond := .code yX4_state cX4_state 4 none :: ([.methodLink RX4 68 yX4_put, .instanceMethod yX4_put, .selects RX4 yX4_put yX4_put, .initialized RX4, .code yX4_put cX4_put 4 none, .fieldLink RX4 9 "VaultDoorsModel" "vault" "[I"] ++ wsX40)
def wsX4_wake_r1 : List Cond := [Cond.methodLink RX4 49 yX4_va, Cond.instanceMethod yX4_va, Cond.selects RX4 yX4_va yX4_va, Cond.initialized RX4, Cond.code yX4_va cX4_va 3 (some .int), Cond.fieldLink RX4 9 "VaultDoorsModel" "vault" "[I", Cond.methodLink RX4 72 yX4_state, Cond.instanceMethod yX4_state, Cond.selects RX4 yX4_state yX4_state, Cond.code yX4_state cX4_state 4 none, Cond.methodLink RX4 68 yX4_put, Cond.instanceMethod yX4_put, Cond.selects RX4 yX4_put yX4_put, Cond.code yX4_put cX4_put 4 none, Cond.methodLink RX4 64 yX4_setLink, Cond.instanceMethod yX4_setLink, Cond.selects RX4 yX4_setLink yX4_setLink, Cond.code yX4_setLink cX4_setLink 5 none, Cond.fieldLink RX4 13 "VaultDoorsModel" "links" "[I", Cond.methodLink RX4 53 yX4_li, Cond.instanceMethod yX4_li, Cond.selects RX4 yX4_li yX4_li, Cond.code yX4_li cX4_li 4 (some .int), Cond.methodLink RX4 75 yX4_send]
def wsX4_wake_r2 : List Cond := [Cond.instanceMethod yX4_send, Cond.selects RX4 yX4_send yX4_send, Cond.code yX4_send cX4_send 6 none, Cond.fieldLink RX4 22 "VaultDoorsModel" "numbers" "[I", Cond.fieldLink RX4 19 "VaultDoorsModel" "voices" "[I"]
def wsX4_wake : List Cond := .code yX4_wake cX4_wake 3 none :: ((wsX4_wake_r1 ++ wsX4_wake_r2) ++ wsX40)
def wsX4_turn : List Cond := .code yX4_turn cX4_turn 4 none :: ([.methodLink RX4 72 yX4_state, .instanceMethod yX4_state, .selects RX4 yX4_state yX4_state, .initialized RX4, .code yX4_state cX4_state 4 none, .methodLink RX4 68 yX4_put, .instanceMethod yX4_put, .selects RX4 yX4_put yX4_put, .code yX4_put cX4_put 4 none, .fieldLink RX4 9 "VaultDoorsModel" "vault" "[I", .methodLink RX4 49 yX4_va, .instanceMethod yX4_va, .selects RX4 yX4_va yX4_va, .code yX4_va cX4_va 3 (some .int)] ++ wsX40)
def wsX4_whisper_r1 : List Cond := [Cond.fieldLink RX4 28 "VaultDoorsModel" "thrown" "I", Cond.methodLink RX4 57 yX4_isDoor, Cond.instanceMethod yX4_isDoor, Cond.selects RX4 yX4_isDoor yX4_isDoor, Cond.initialized RX4, Cond.code yX4_isDoor cX4_isDoor 2 (some .boolean), Cond.fieldLink RX4 32 "VaultDoorsModel" "doors" "I", Cond.methodLink RX4 35 yX4_isIn, Cond.static yX4_isIn, Cond.code yX4_isIn cX4_isIn 3 (some .boolean), Cond.methodLink RX4 49 yX4_va, Cond.instanceMethod yX4_va, Cond.selects RX4 yX4_va yX4_va, Cond.code yX4_va cX4_va 3 (some .int), Cond.fieldLink RX4 9 "VaultDoorsModel" "vault" "[I", Cond.methodLink RX4 78 yX4_wake, Cond.instanceMethod yX4_wake, Cond.selects RX4 yX4_wake yX4_wake, Cond.code yX4_wake cX4_wake 3 none, Cond.methodLink RX4 72 yX4_state, Cond.instanceMethod yX4_state, Cond.selects RX4 yX4_state yX4_state, Cond.code yX4_state cX4_state 4 none, Cond.methodLink RX4 68 yX4_put]
def wsX4_whisper_r2 : List Cond := [Cond.instanceMethod yX4_put, Cond.selects RX4 yX4_put yX4_put, Cond.code yX4_put cX4_put 4 none, Cond.methodLink RX4 64 yX4_setLink, Cond.instanceMethod yX4_setLink, Cond.selects RX4 yX4_setLink yX4_setLink, Cond.code yX4_setLink cX4_setLink 5 none, Cond.fieldLink RX4 13 "VaultDoorsModel" "links" "[I", Cond.methodLink RX4 53 yX4_li, Cond.instanceMethod yX4_li, Cond.selects RX4 yX4_li yX4_li, Cond.code yX4_li cX4_li 4 (some .int), Cond.methodLink RX4 75 yX4_send, Cond.instanceMethod yX4_send, Cond.selects RX4 yX4_send yX4_send, Cond.code yX4_send cX4_send 6 none, Cond.fieldLink RX4 22 "VaultDoorsModel" "numbers" "[I", Cond.fieldLink RX4 19 "VaultDoorsModel" "voices" "[I", Cond.methodLink RX4 82 yX4_turn, Cond.instanceMethod yX4_turn, Cond.selects RX4 yX4_turn yX4_turn, Cond.code yX4_turn cX4_turn 4 none]
def wsX4_whisper : List Cond := .code yX4_whisper cX4_whisper 4 (some .boolean) :: ((wsX4_whisper_r1 ++ wsX4_whisper_r2) ++ wsX40)
def wsX4_answers : List Cond := .code yX4_answers cX4_answers 5 (some .int) :: ([.methodLink RX4 49 yX4_va, .instanceMethod yX4_va, .selects RX4 yX4_va yX4_va, .initialized RX4, .code yX4_va cX4_va 3 (some .int), .fieldLink RX4 9 "VaultDoorsModel" "vault" "[I", .methodLink RX4 53 yX4_li, .instanceMethod yX4_li, .selects RX4 yX4_li yX4_li, .code yX4_li cX4_li 4 (some .int), .fieldLink RX4 13 "VaultDoorsModel" "links" "[I"] ++ wsX40)
def wsX4_doorTold : List Cond := .code yX4_doorTold cX4_doorTold 3 (some .int) :: ([.methodLink RX4 49 yX4_va, .instanceMethod yX4_va, .selects RX4 yX4_va yX4_va, .initialized RX4, .code yX4_va cX4_va 3 (some .int), .fieldLink RX4 9 "VaultDoorsModel" "vault" "[I", .methodLink RX4 86 yX4_answers, .instanceMethod yX4_answers, .selects RX4 yX4_answers yX4_answers, .code yX4_answers cX4_answers 5 (some .int), .methodLink RX4 53 yX4_li, .instanceMethod yX4_li, .selects RX4 yX4_li yX4_li, .code yX4_li cX4_li 4 (some .int), .fieldLink RX4 13 "VaultDoorsModel" "links" "[I"] ++ wsX40)
def wsX4_door_r1 : List Cond := [Cond.fieldLink RX4 28 "VaultDoorsModel" "thrown" "I", Cond.methodLink RX4 57 yX4_isDoor, Cond.instanceMethod yX4_isDoor, Cond.selects RX4 yX4_isDoor yX4_isDoor, Cond.initialized RX4, Cond.code yX4_isDoor cX4_isDoor 2 (some .boolean), Cond.fieldLink RX4 32 "VaultDoorsModel" "doors" "I", Cond.methodLink RX4 35 yX4_isIn, Cond.static yX4_isIn, Cond.code yX4_isIn cX4_isIn 3 (some .boolean), Cond.methodLink RX4 90 yX4_doorTold, Cond.instanceMethod yX4_doorTold, Cond.selects RX4 yX4_doorTold yX4_doorTold, Cond.code yX4_doorTold cX4_doorTold 3 (some .int), Cond.methodLink RX4 49 yX4_va, Cond.instanceMethod yX4_va, Cond.selects RX4 yX4_va yX4_va, Cond.code yX4_va cX4_va 3 (some .int), Cond.fieldLink RX4 9 "VaultDoorsModel" "vault" "[I", Cond.methodLink RX4 86 yX4_answers, Cond.instanceMethod yX4_answers, Cond.selects RX4 yX4_answers yX4_answers, Cond.code yX4_answers cX4_answers 5 (some .int), Cond.methodLink RX4 53 yX4_li]
def wsX4_door_r2 : List Cond := [Cond.instanceMethod yX4_li, Cond.selects RX4 yX4_li yX4_li, Cond.code yX4_li cX4_li 4 (some .int), Cond.fieldLink RX4 13 "VaultDoorsModel" "links" "[I", Cond.methodLink RX4 39 yX4_fail, Cond.instanceMethod yX4_fail, Cond.selects RX4 yX4_fail yX4_fail, Cond.code yX4_fail cX4_fail 2 (some .int)]
def wsX4_door : List Cond := .code yX4_door cX4_door 3 (some .int) :: ((wsX4_door_r1 ++ wsX4_door_r2) ++ wsX40)
def wsX4_asked : List Cond := .code yX4_asked cX4_asked 4 (some .int) :: ([.methodLink RX4 49 yX4_va, .instanceMethod yX4_va, .selects RX4 yX4_va yX4_va, .initialized RX4, .code yX4_va cX4_va 3 (some .int), .fieldLink RX4 9 "VaultDoorsModel" "vault" "[I", .methodLink RX4 53 yX4_li, .instanceMethod yX4_li, .selects RX4 yX4_li yX4_li, .code yX4_li cX4_li 4 (some .int), .fieldLink RX4 13 "VaultDoorsModel" "links" "[I"] ++ wsX40)
def wsX4_asks_r1 : List Cond := [Cond.fieldLink RX4 28 "VaultDoorsModel" "thrown" "I", Cond.methodLink RX4 57 yX4_isDoor, Cond.instanceMethod yX4_isDoor, Cond.selects RX4 yX4_isDoor yX4_isDoor, Cond.initialized RX4, Cond.code yX4_isDoor cX4_isDoor 2 (some .boolean), Cond.fieldLink RX4 32 "VaultDoorsModel" "doors" "I", Cond.methodLink RX4 35 yX4_isIn, Cond.static yX4_isIn, Cond.code yX4_isIn cX4_isIn 3 (some .boolean), Cond.methodLink RX4 49 yX4_va, Cond.instanceMethod yX4_va, Cond.selects RX4 yX4_va yX4_va, Cond.code yX4_va cX4_va 3 (some .int), Cond.fieldLink RX4 9 "VaultDoorsModel" "vault" "[I", Cond.methodLink RX4 93 yX4_asked, Cond.instanceMethod yX4_asked, Cond.selects RX4 yX4_asked yX4_asked, Cond.code yX4_asked cX4_asked 4 (some .int), Cond.methodLink RX4 53 yX4_li, Cond.instanceMethod yX4_li, Cond.selects RX4 yX4_li yX4_li, Cond.code yX4_li cX4_li 4 (some .int), Cond.fieldLink RX4 13 "VaultDoorsModel" "links" "[I"]
def wsX4_asks_r2 : List Cond := [Cond.methodLink RX4 39 yX4_fail, Cond.instanceMethod yX4_fail, Cond.selects RX4 yX4_fail yX4_fail, Cond.code yX4_fail cX4_fail 2 (some .int)]
def wsX4_asks : List Cond := .code yX4_asks cX4_asks 4 (some .int) :: ((wsX4_asks_r1 ++ wsX4_asks_r2) ++ wsX40)
def wsX4_voice : List Cond := .code yX4_voice cX4_voice 3 (some .int) :: ([.fieldLink RX4 28 "VaultDoorsModel" "thrown" "I", .fieldLink RX4 22 "VaultDoorsModel" "numbers" "[I", .fieldLink RX4 19 "VaultDoorsModel" "voices" "[I", .methodLink RX4 35 yX4_isIn, .static yX4_isIn, .initialized RX4, .code yX4_isIn cX4_isIn 3 (some .boolean), .methodLink RX4 39 yX4_fail, .instanceMethod yX4_fail, .selects RX4 yX4_fail yX4_fail, .code yX4_fail cX4_fail 2 (some .int)] ++ wsX40)
def wsX4_openOnes : List Cond := .code yX4_openOnes cX4_openOnes 3 (some .int) :: ([.fieldLink RX4 32 "VaultDoorsModel" "doors" "I", .methodLink RX4 49 yX4_va, .instanceMethod yX4_va, .selects RX4 yX4_va yX4_va, .initialized RX4, .code yX4_va cX4_va 3 (some .int), .fieldLink RX4 9 "VaultDoorsModel" "vault" "[I"] ++ wsX40)
def wsX4_counted : List Cond := .code yX4_counted cX4_counted 4 (some .int) :: ([.fieldLink RX4 22 "VaultDoorsModel" "numbers" "[I", .fieldLink RX4 32 "VaultDoorsModel" "doors" "I", .methodLink RX4 49 yX4_va, .instanceMethod yX4_va, .selects RX4 yX4_va yX4_va, .initialized RX4, .code yX4_va cX4_va 3 (some .int), .fieldLink RX4 9 "VaultDoorsModel" "vault" "[I", .methodLink RX4 96 yX4_openOnes, .instanceMethod yX4_openOnes, .selects RX4 yX4_openOnes yX4_openOnes, .code yX4_openOnes cX4_openOnes 3 (some .int)] ++ wsX40)
def wsX4_count : List Cond := .code yX4_count cX4_count 2 (some .int) :: ([.fieldLink RX4 28 "VaultDoorsModel" "thrown" "I", .methodLink RX4 35 yX4_isIn, .static yX4_isIn, .initialized RX4, .code yX4_isIn cX4_isIn 3 (some .boolean), .methodLink RX4 100 yX4_counted, .instanceMethod yX4_counted, .selects RX4 yX4_counted yX4_counted, .code yX4_counted cX4_counted 4 (some .int), .fieldLink RX4 22 "VaultDoorsModel" "numbers" "[I", .fieldLink RX4 32 "VaultDoorsModel" "doors" "I", .methodLink RX4 49 yX4_va, .instanceMethod yX4_va, .selects RX4 yX4_va yX4_va, .code yX4_va cX4_va 3 (some .int), .fieldLink RX4 9 "VaultDoorsModel" "vault" "[I", .methodLink RX4 96 yX4_openOnes, .instanceMethod yX4_openOnes, .selects RX4 yX4_openOnes yX4_openOnes, .code yX4_openOnes cX4_openOnes 3 (some .int), .methodLink RX4 39 yX4_fail, .instanceMethod yX4_fail, .selects RX4 yX4_fail yX4_fail, .code yX4_fail cX4_fail 2 (some .int)] ++ wsX40)
def wsX4_reach : List Cond := .code yX4_reach cX4_reach 6 (some .int) :: ([.fieldLink RX4 28 "VaultDoorsModel" "thrown" "I", .fieldLink RX4 32 "VaultDoorsModel" "doors" "I", .methodLink RX4 57 yX4_isDoor, .instanceMethod yX4_isDoor, .selects RX4 yX4_isDoor yX4_isDoor, .initialized RX4, .code yX4_isDoor cX4_isDoor 2 (some .boolean), .methodLink RX4 35 yX4_isIn, .static yX4_isIn, .code yX4_isIn cX4_isIn 3 (some .boolean), .methodLink RX4 39 yX4_fail, .instanceMethod yX4_fail, .selects RX4 yX4_fail yX4_fail, .code yX4_fail cX4_fail 2 (some .int), .methodLink RX4 49 yX4_va, .instanceMethod yX4_va, .selects RX4 yX4_va yX4_va, .code yX4_va cX4_va 3 (some .int), .fieldLink RX4 9 "VaultDoorsModel" "vault" "[I", .methodLink RX4 53 yX4_li, .instanceMethod yX4_li, .selects RX4 yX4_li yX4_li, .code yX4_li cX4_li 4 (some .int), .fieldLink RX4 13 "VaultDoorsModel" "links" "[I"] ++ wsX40)
def wsX4_hear_r1 : List Cond := [Cond.fieldLink RX4 25 "VaultDoorsModel" "heard" "[I", Cond.fieldLink RX4 16 "VaultDoorsModel" "memory" "[I", Cond.methodLink RX4 49 yX4_va, Cond.instanceMethod yX4_va, Cond.selects RX4 yX4_va yX4_va, Cond.initialized RX4, Cond.code yX4_va cX4_va 3 (some .int), Cond.fieldLink RX4 9 "VaultDoorsModel" "vault" "[I", Cond.methodLink RX4 61 yX4_place, Cond.instanceMethod yX4_place, Cond.selects RX4 yX4_place yX4_place, Cond.code yX4_place cX4_place 4 (some .int), Cond.methodLink RX4 53 yX4_li, Cond.instanceMethod yX4_li, Cond.selects RX4 yX4_li yX4_li, Cond.code yX4_li cX4_li 4 (some .int), Cond.fieldLink RX4 13 "VaultDoorsModel" "links" "[I", Cond.methodLink RX4 64 yX4_setLink, Cond.instanceMethod yX4_setLink, Cond.selects RX4 yX4_setLink yX4_setLink, Cond.code yX4_setLink cX4_setLink 5 none, Cond.methodLink RX4 75 yX4_send, Cond.instanceMethod yX4_send, Cond.selects RX4 yX4_send yX4_send]
def wsX4_hear_r2 : List Cond := [Cond.code yX4_send cX4_send 6 none, Cond.fieldLink RX4 22 "VaultDoorsModel" "numbers" "[I", Cond.fieldLink RX4 19 "VaultDoorsModel" "voices" "[I", Cond.methodLink RX4 78 yX4_wake, Cond.instanceMethod yX4_wake, Cond.selects RX4 yX4_wake yX4_wake, Cond.code yX4_wake cX4_wake 3 none, Cond.methodLink RX4 72 yX4_state, Cond.instanceMethod yX4_state, Cond.selects RX4 yX4_state yX4_state, Cond.code yX4_state cX4_state 4 none, Cond.methodLink RX4 68 yX4_put, Cond.instanceMethod yX4_put, Cond.selects RX4 yX4_put yX4_put, Cond.code yX4_put cX4_put 4 none]
def wsX4_hear : List Cond := .code yX4_hear cX4_hear 8 none :: ((wsX4_hear_r1 ++ wsX4_hear_r2) ++ wsX40)
def wsX4_says : List Cond := .code yX4_says cX4_says 4 (some .boolean) :: ([.methodLink RX4 86 yX4_answers, .instanceMethod yX4_answers, .selects RX4 yX4_answers yX4_answers, .initialized RX4, .code yX4_answers cX4_answers 5 (some .int), .methodLink RX4 49 yX4_va, .instanceMethod yX4_va, .selects RX4 yX4_va yX4_va, .code yX4_va cX4_va 3 (some .int), .fieldLink RX4 9 "VaultDoorsModel" "vault" "[I", .methodLink RX4 53 yX4_li, .instanceMethod yX4_li, .selects RX4 yX4_li yX4_li, .code yX4_li cX4_li 4 (some .int), .fieldLink RX4 13 "VaultDoorsModel" "links" "[I"] ++ wsX40)
def wsX4_decide_r1 : List Cond := [Cond.fieldLink RX4 16 "VaultDoorsModel" "memory" "[I", Cond.methodLink RX4 103 yX4_says, Cond.instanceMethod yX4_says, Cond.selects RX4 yX4_says yX4_says, Cond.initialized RX4, Cond.code yX4_says cX4_says 4 (some .boolean), Cond.methodLink RX4 86 yX4_answers, Cond.instanceMethod yX4_answers, Cond.selects RX4 yX4_answers yX4_answers, Cond.code yX4_answers cX4_answers 5 (some .int), Cond.methodLink RX4 49 yX4_va, Cond.instanceMethod yX4_va, Cond.selects RX4 yX4_va yX4_va, Cond.code yX4_va cX4_va 3 (some .int), Cond.fieldLink RX4 9 "VaultDoorsModel" "vault" "[I", Cond.methodLink RX4 53 yX4_li, Cond.instanceMethod yX4_li, Cond.selects RX4 yX4_li yX4_li, Cond.code yX4_li cX4_li 4 (some .int), Cond.fieldLink RX4 13 "VaultDoorsModel" "links" "[I", Cond.methodLink RX4 82 yX4_turn, Cond.instanceMethod yX4_turn, Cond.selects RX4 yX4_turn yX4_turn, Cond.code yX4_turn cX4_turn 4 none]
def wsX4_decide_r2 : List Cond := [Cond.methodLink RX4 72 yX4_state, Cond.instanceMethod yX4_state, Cond.selects RX4 yX4_state yX4_state, Cond.code yX4_state cX4_state 4 none, Cond.methodLink RX4 68 yX4_put, Cond.instanceMethod yX4_put, Cond.selects RX4 yX4_put yX4_put, Cond.code yX4_put cX4_put 4 none, Cond.methodLink RX4 75 yX4_send, Cond.instanceMethod yX4_send, Cond.selects RX4 yX4_send yX4_send, Cond.code yX4_send cX4_send 6 none, Cond.fieldLink RX4 22 "VaultDoorsModel" "numbers" "[I", Cond.fieldLink RX4 19 "VaultDoorsModel" "voices" "[I"]
def wsX4_decide : List Cond := .code yX4_decide cX4_decide 4 (some .boolean) :: ((wsX4_decide_r1 ++ wsX4_decide_r2) ++ wsX40)
def wsX4_listen_r1 : List Cond := [Cond.fieldLink RX4 22 "VaultDoorsModel" "numbers" "[I", Cond.fieldLink RX4 19 "VaultDoorsModel" "voices" "[I", Cond.fieldLink RX4 25 "VaultDoorsModel" "heard" "[I", Cond.methodLink RX4 43 arraycopyName, Cond.native arraycopyName, Cond.static arraycopyName, Cond.initialized "java/lang/System", Cond.methodLink RX4 106 yX4_hear, Cond.instanceMethod yX4_hear, Cond.selects RX4 yX4_hear yX4_hear, Cond.initialized RX4, Cond.code yX4_hear cX4_hear 8 none, Cond.fieldLink RX4 16 "VaultDoorsModel" "memory" "[I", Cond.methodLink RX4 49 yX4_va, Cond.instanceMethod yX4_va, Cond.selects RX4 yX4_va yX4_va, Cond.code yX4_va cX4_va 3 (some .int), Cond.fieldLink RX4 9 "VaultDoorsModel" "vault" "[I", Cond.methodLink RX4 61 yX4_place, Cond.instanceMethod yX4_place, Cond.selects RX4 yX4_place yX4_place, Cond.code yX4_place cX4_place 4 (some .int), Cond.methodLink RX4 53 yX4_li, Cond.instanceMethod yX4_li]
def wsX4_listen_r2 : List Cond := [Cond.selects RX4 yX4_li yX4_li, Cond.code yX4_li cX4_li 4 (some .int), Cond.fieldLink RX4 13 "VaultDoorsModel" "links" "[I", Cond.methodLink RX4 64 yX4_setLink, Cond.instanceMethod yX4_setLink, Cond.selects RX4 yX4_setLink yX4_setLink, Cond.code yX4_setLink cX4_setLink 5 none, Cond.methodLink RX4 75 yX4_send, Cond.instanceMethod yX4_send, Cond.selects RX4 yX4_send yX4_send, Cond.code yX4_send cX4_send 6 none, Cond.methodLink RX4 78 yX4_wake, Cond.instanceMethod yX4_wake, Cond.selects RX4 yX4_wake yX4_wake, Cond.code yX4_wake cX4_wake 3 none, Cond.methodLink RX4 72 yX4_state, Cond.instanceMethod yX4_state, Cond.selects RX4 yX4_state yX4_state, Cond.code yX4_state cX4_state 4 none, Cond.methodLink RX4 68 yX4_put, Cond.instanceMethod yX4_put, Cond.selects RX4 yX4_put yX4_put, Cond.code yX4_put cX4_put 4 none]
def wsX4_listen : List Cond := .code yX4_listen cX4_listen 4 none :: ((wsX4_listen_r1 ++ wsX4_listen_r2) ++ wsX40)
def wsX4_tickOn_r1 : List Cond := [Cond.fieldLink RX4 32 "VaultDoorsModel" "doors" "I", Cond.fieldLink RX4 22 "VaultDoorsModel" "numbers" "[I", Cond.methodLink RX4 49 yX4_va, Cond.instanceMethod yX4_va, Cond.selects RX4 yX4_va yX4_va, Cond.initialized RX4, Cond.code yX4_va cX4_va 3 (some .int), Cond.fieldLink RX4 9 "VaultDoorsModel" "vault" "[I", Cond.methodLink RX4 68 yX4_put, Cond.instanceMethod yX4_put, Cond.selects RX4 yX4_put yX4_put, Cond.code yX4_put cX4_put 4 none, Cond.methodLink RX4 109 yX4_listen, Cond.instanceMethod yX4_listen, Cond.selects RX4 yX4_listen yX4_listen, Cond.code yX4_listen cX4_listen 4 none, Cond.fieldLink RX4 19 "VaultDoorsModel" "voices" "[I", Cond.fieldLink RX4 25 "VaultDoorsModel" "heard" "[I", Cond.methodLink RX4 43 arraycopyName, Cond.native arraycopyName, Cond.static arraycopyName, Cond.initialized "java/lang/System", Cond.methodLink RX4 106 yX4_hear, Cond.instanceMethod yX4_hear]
def wsX4_tickOn_r2 : List Cond := [Cond.selects RX4 yX4_hear yX4_hear, Cond.code yX4_hear cX4_hear 8 none, Cond.fieldLink RX4 16 "VaultDoorsModel" "memory" "[I", Cond.methodLink RX4 61 yX4_place, Cond.instanceMethod yX4_place, Cond.selects RX4 yX4_place yX4_place, Cond.code yX4_place cX4_place 4 (some .int), Cond.methodLink RX4 53 yX4_li, Cond.instanceMethod yX4_li, Cond.selects RX4 yX4_li yX4_li, Cond.code yX4_li cX4_li 4 (some .int), Cond.fieldLink RX4 13 "VaultDoorsModel" "links" "[I", Cond.methodLink RX4 64 yX4_setLink, Cond.instanceMethod yX4_setLink, Cond.selects RX4 yX4_setLink yX4_setLink, Cond.code yX4_setLink cX4_setLink 5 none, Cond.methodLink RX4 75 yX4_send, Cond.instanceMethod yX4_send, Cond.selects RX4 yX4_send yX4_send, Cond.code yX4_send cX4_send 6 none, Cond.methodLink RX4 78 yX4_wake, Cond.instanceMethod yX4_wake, Cond.selects RX4 yX4_wake yX4_wake, Cond.code yX4_wake cX4_wake 3 none]
def wsX4_tickOn_r3 : List Cond := [Cond.methodLink RX4 72 yX4_state, Cond.instanceMethod yX4_state, Cond.selects RX4 yX4_state yX4_state, Cond.code yX4_state cX4_state 4 none, Cond.methodLink RX4 86 yX4_answers, Cond.instanceMethod yX4_answers, Cond.selects RX4 yX4_answers yX4_answers, Cond.code yX4_answers cX4_answers 5 (some .int), Cond.methodLink RX4 112 yX4_decide, Cond.instanceMethod yX4_decide, Cond.selects RX4 yX4_decide yX4_decide, Cond.code yX4_decide cX4_decide 4 (some .boolean), Cond.methodLink RX4 103 yX4_says, Cond.instanceMethod yX4_says, Cond.selects RX4 yX4_says yX4_says, Cond.code yX4_says cX4_says 4 (some .boolean), Cond.methodLink RX4 82 yX4_turn, Cond.instanceMethod yX4_turn, Cond.selects RX4 yX4_turn yX4_turn, Cond.code yX4_turn cX4_turn 4 none]
def wsX4_tickOn : List Cond := .code yX4_tickOn cX4_tickOn 3 (some .int) :: ((wsX4_tickOn_r1 ++ (wsX4_tickOn_r2 ++ wsX4_tickOn_r3)) ++ wsX40)
def wsX4_pass_r1 : List Cond := [Cond.fieldLink RX4 28 "VaultDoorsModel" "thrown" "I", Cond.methodLink RX4 35 yX4_isIn, Cond.static yX4_isIn, Cond.initialized RX4, Cond.code yX4_isIn cX4_isIn 3 (some .boolean), Cond.methodLink RX4 39 yX4_fail, Cond.instanceMethod yX4_fail, Cond.selects RX4 yX4_fail yX4_fail, Cond.code yX4_fail cX4_fail 2 (some .int), Cond.methodLink RX4 115 yX4_tickOn, Cond.instanceMethod yX4_tickOn, Cond.selects RX4 yX4_tickOn yX4_tickOn, Cond.code yX4_tickOn cX4_tickOn 3 (some .int), Cond.fieldLink RX4 32 "VaultDoorsModel" "doors" "I", Cond.fieldLink RX4 22 "VaultDoorsModel" "numbers" "[I", Cond.methodLink RX4 49 yX4_va, Cond.instanceMethod yX4_va, Cond.selects RX4 yX4_va yX4_va, Cond.code yX4_va cX4_va 3 (some .int), Cond.fieldLink RX4 9 "VaultDoorsModel" "vault" "[I", Cond.methodLink RX4 68 yX4_put, Cond.instanceMethod yX4_put, Cond.selects RX4 yX4_put yX4_put, Cond.code yX4_put cX4_put 4 none]
def wsX4_pass_r2 : List Cond := [Cond.methodLink RX4 109 yX4_listen, Cond.instanceMethod yX4_listen, Cond.selects RX4 yX4_listen yX4_listen, Cond.code yX4_listen cX4_listen 4 none, Cond.fieldLink RX4 19 "VaultDoorsModel" "voices" "[I", Cond.fieldLink RX4 25 "VaultDoorsModel" "heard" "[I", Cond.methodLink RX4 43 arraycopyName, Cond.native arraycopyName, Cond.static arraycopyName, Cond.initialized "java/lang/System", Cond.methodLink RX4 106 yX4_hear, Cond.instanceMethod yX4_hear, Cond.selects RX4 yX4_hear yX4_hear, Cond.code yX4_hear cX4_hear 8 none, Cond.fieldLink RX4 16 "VaultDoorsModel" "memory" "[I", Cond.methodLink RX4 61 yX4_place, Cond.instanceMethod yX4_place, Cond.selects RX4 yX4_place yX4_place, Cond.code yX4_place cX4_place 4 (some .int), Cond.methodLink RX4 53 yX4_li, Cond.instanceMethod yX4_li, Cond.selects RX4 yX4_li yX4_li, Cond.code yX4_li cX4_li 4 (some .int), Cond.fieldLink RX4 13 "VaultDoorsModel" "links" "[I"]
def wsX4_pass_r3 : List Cond := [Cond.methodLink RX4 64 yX4_setLink, Cond.instanceMethod yX4_setLink, Cond.selects RX4 yX4_setLink yX4_setLink, Cond.code yX4_setLink cX4_setLink 5 none, Cond.methodLink RX4 75 yX4_send, Cond.instanceMethod yX4_send, Cond.selects RX4 yX4_send yX4_send, Cond.code yX4_send cX4_send 6 none, Cond.methodLink RX4 78 yX4_wake, Cond.instanceMethod yX4_wake, Cond.selects RX4 yX4_wake yX4_wake, Cond.code yX4_wake cX4_wake 3 none, Cond.methodLink RX4 72 yX4_state, Cond.instanceMethod yX4_state, Cond.selects RX4 yX4_state yX4_state, Cond.code yX4_state cX4_state 4 none, Cond.methodLink RX4 86 yX4_answers, Cond.instanceMethod yX4_answers, Cond.selects RX4 yX4_answers yX4_answers, Cond.code yX4_answers cX4_answers 5 (some .int), Cond.methodLink RX4 112 yX4_decide, Cond.instanceMethod yX4_decide, Cond.selects RX4 yX4_decide yX4_decide, Cond.code yX4_decide cX4_decide 4 (some .boolean)]
def wsX4_pass_r4 : List Cond := [Cond.methodLink RX4 103 yX4_says, Cond.instanceMethod yX4_says, Cond.selects RX4 yX4_says yX4_says, Cond.code yX4_says cX4_says 4 (some .boolean), Cond.methodLink RX4 82 yX4_turn, Cond.instanceMethod yX4_turn, Cond.selects RX4 yX4_turn yX4_turn, Cond.code yX4_turn cX4_turn 4 none]
def wsX4_pass : List Cond := .code yX4_pass cX4_pass 4 (some .int) :: ((wsX4_pass_r1 ++ (wsX4_pass_r2 ++ (wsX4_pass_r3 ++ wsX4_pass_r4))) ++ wsX40)
def wsX4_all : List Cond := .code yX4_all cX4_all 1 (some (.array (.array .int))) :: ([.classLink RX4 118 "[I", .fieldLink RX4 9 "VaultDoorsModel" "vault" "[I", .fieldLink RX4 13 "VaultDoorsModel" "links" "[I", .fieldLink RX4 16 "VaultDoorsModel" "memory" "[I", .fieldLink RX4 19 "VaultDoorsModel" "voices" "[I", .fieldLink RX4 22 "VaultDoorsModel" "numbers" "[I"] ++ wsX40)
def wsX4_kept : List Cond := .code yX4_kept cX4_kept 1 (some (.array (.array .int))) :: ([.classLink RX4 118 "[I", .fieldLink RX4 9 "VaultDoorsModel" "vault" "[I", .methodLink RX4 119 ⟨"[I", "clone", "()Ljava/lang/Object;"⟩, .sameMethod "[I" "java/lang/Object" "clone" "()Ljava/lang/Object;", .native ⟨"java/lang/Object", "clone", "()Ljava/lang/Object;"⟩, .instanceMethod ⟨"java/lang/Object", "clone", "()Ljava/lang/Object;"⟩, .selects "[I" ⟨"[I", "clone", "()Ljava/lang/Object;"⟩ ⟨"java/lang/Object", "clone", "()Ljava/lang/Object;"⟩, .fieldLink RX4 13 "VaultDoorsModel" "links" "[I", .fieldLink RX4 16 "VaultDoorsModel" "memory" "[I", .fieldLink RX4 19 "VaultDoorsModel" "voices" "[I", .fieldLink RX4 22 "VaultDoorsModel" "numbers" "[I"] ++ wsX40)
def wsX4_bringBack : List Cond := .code yX4_bringBack cX4_bringBack 3 none :: ([.methodLink RX4 43 arraycopyName, .native arraycopyName, .static arraycopyName, .initialized "java/lang/System", .methodLink RX4 123 yX4_all, .instanceMethod yX4_all, .selects RX4 yX4_all yX4_all, .initialized RX4, .code yX4_all cX4_all 1 (some (.array (.array .int))), .classLink RX4 118 "[I", .fieldLink RX4 9 "VaultDoorsModel" "vault" "[I", .fieldLink RX4 13 "VaultDoorsModel" "links" "[I", .fieldLink RX4 16 "VaultDoorsModel" "memory" "[I", .fieldLink RX4 19 "VaultDoorsModel" "voices" "[I", .fieldLink RX4 22 "VaultDoorsModel" "numbers" "[I"] ++ wsX40)
def wsX4_opens_r1 : List Cond := [Cond.fieldLink RX4 28 "VaultDoorsModel" "thrown" "I", Cond.methodLink RX4 57 yX4_isDoor, Cond.instanceMethod yX4_isDoor, Cond.selects RX4 yX4_isDoor yX4_isDoor, Cond.initialized RX4, Cond.code yX4_isDoor cX4_isDoor 2 (some .boolean), Cond.fieldLink RX4 32 "VaultDoorsModel" "doors" "I", Cond.methodLink RX4 35 yX4_isIn, Cond.static yX4_isIn, Cond.code yX4_isIn cX4_isIn 3 (some .boolean), Cond.methodLink RX4 39 yX4_fail, Cond.instanceMethod yX4_fail, Cond.selects RX4 yX4_fail yX4_fail, Cond.code yX4_fail cX4_fail 2 (some .int), Cond.methodLink RX4 127 yX4_kept, Cond.instanceMethod yX4_kept, Cond.selects RX4 yX4_kept yX4_kept, Cond.code yX4_kept cX4_kept 1 (some (.array (.array .int))), Cond.classLink RX4 118 "[I", Cond.fieldLink RX4 9 "VaultDoorsModel" "vault" "[I", Cond.methodLink RX4 119 ⟨"[I", "clone", "()Ljava/lang/Object;"⟩, Cond.sameMethod "[I" "java/lang/Object" "clone" "()Ljava/lang/Object;", Cond.native ⟨"java/lang/Object", "clone", "()Ljava/lang/Object;"⟩, Cond.instanceMethod ⟨"java/lang/Object", "clone", "()Ljava/lang/Object;"⟩]
def wsX4_opens_r2 : List Cond := [Cond.selects "[I" ⟨"[I", "clone", "()Ljava/lang/Object;"⟩ ⟨"java/lang/Object", "clone", "()Ljava/lang/Object;"⟩, Cond.fieldLink RX4 13 "VaultDoorsModel" "links" "[I", Cond.fieldLink RX4 16 "VaultDoorsModel" "memory" "[I", Cond.fieldLink RX4 19 "VaultDoorsModel" "voices" "[I", Cond.fieldLink RX4 22 "VaultDoorsModel" "numbers" "[I", Cond.methodLink RX4 49 yX4_va, Cond.instanceMethod yX4_va, Cond.selects RX4 yX4_va yX4_va, Cond.code yX4_va cX4_va 3 (some .int), Cond.methodLink RX4 115 yX4_tickOn, Cond.instanceMethod yX4_tickOn, Cond.selects RX4 yX4_tickOn yX4_tickOn, Cond.code yX4_tickOn cX4_tickOn 3 (some .int), Cond.methodLink RX4 68 yX4_put, Cond.instanceMethod yX4_put, Cond.selects RX4 yX4_put yX4_put, Cond.code yX4_put cX4_put 4 none, Cond.methodLink RX4 109 yX4_listen, Cond.instanceMethod yX4_listen, Cond.selects RX4 yX4_listen yX4_listen, Cond.code yX4_listen cX4_listen 4 none, Cond.fieldLink RX4 25 "VaultDoorsModel" "heard" "[I", Cond.methodLink RX4 43 arraycopyName, Cond.native arraycopyName]
def wsX4_opens_r3 : List Cond := [Cond.static arraycopyName, Cond.initialized "java/lang/System", Cond.methodLink RX4 106 yX4_hear, Cond.instanceMethod yX4_hear, Cond.selects RX4 yX4_hear yX4_hear, Cond.code yX4_hear cX4_hear 8 none, Cond.methodLink RX4 61 yX4_place, Cond.instanceMethod yX4_place, Cond.selects RX4 yX4_place yX4_place, Cond.code yX4_place cX4_place 4 (some .int), Cond.methodLink RX4 53 yX4_li, Cond.instanceMethod yX4_li, Cond.selects RX4 yX4_li yX4_li, Cond.code yX4_li cX4_li 4 (some .int), Cond.methodLink RX4 64 yX4_setLink, Cond.instanceMethod yX4_setLink, Cond.selects RX4 yX4_setLink yX4_setLink, Cond.code yX4_setLink cX4_setLink 5 none, Cond.methodLink RX4 75 yX4_send, Cond.instanceMethod yX4_send, Cond.selects RX4 yX4_send yX4_send, Cond.code yX4_send cX4_send 6 none, Cond.methodLink RX4 78 yX4_wake, Cond.instanceMethod yX4_wake]
def wsX4_opens_r4 : List Cond := [Cond.selects RX4 yX4_wake yX4_wake, Cond.code yX4_wake cX4_wake 3 none, Cond.methodLink RX4 72 yX4_state, Cond.instanceMethod yX4_state, Cond.selects RX4 yX4_state yX4_state, Cond.code yX4_state cX4_state 4 none, Cond.methodLink RX4 86 yX4_answers, Cond.instanceMethod yX4_answers, Cond.selects RX4 yX4_answers yX4_answers, Cond.code yX4_answers cX4_answers 5 (some .int), Cond.methodLink RX4 112 yX4_decide, Cond.instanceMethod yX4_decide, Cond.selects RX4 yX4_decide yX4_decide, Cond.code yX4_decide cX4_decide 4 (some .boolean), Cond.methodLink RX4 103 yX4_says, Cond.instanceMethod yX4_says, Cond.selects RX4 yX4_says yX4_says, Cond.code yX4_says cX4_says 4 (some .boolean), Cond.methodLink RX4 82 yX4_turn, Cond.instanceMethod yX4_turn, Cond.selects RX4 yX4_turn yX4_turn, Cond.code yX4_turn cX4_turn 4 none, Cond.methodLink RX4 130 yX4_bringBack, Cond.instanceMethod yX4_bringBack]
def wsX4_opens_r5 : List Cond := [Cond.selects RX4 yX4_bringBack yX4_bringBack, Cond.code yX4_bringBack cX4_bringBack 3 none, Cond.methodLink RX4 123 yX4_all, Cond.instanceMethod yX4_all, Cond.selects RX4 yX4_all yX4_all, Cond.code yX4_all cX4_all 1 (some (.array (.array .int)))]
def wsX4_opens : List Cond := .code yX4_opens cX4_opens 4 (some .int) :: ((wsX4_opens_r1 ++ (wsX4_opens_r2 ++ (wsX4_opens_r3 ++ (wsX4_opens_r4 ++ wsX4_opens_r5)))) ++ wsX40)
def wsX4_opened_r1 : List Cond := [Cond.methodLink RX4 127 yX4_kept, Cond.instanceMethod yX4_kept, Cond.selects RX4 yX4_kept yX4_kept, Cond.initialized RX4, Cond.code yX4_kept cX4_kept 1 (some (.array (.array .int))), Cond.classLink RX4 118 "[I", Cond.fieldLink RX4 9 "VaultDoorsModel" "vault" "[I", Cond.methodLink RX4 119 ⟨"[I", "clone", "()Ljava/lang/Object;"⟩, Cond.sameMethod "[I" "java/lang/Object" "clone" "()Ljava/lang/Object;", Cond.native ⟨"java/lang/Object", "clone", "()Ljava/lang/Object;"⟩, Cond.instanceMethod ⟨"java/lang/Object", "clone", "()Ljava/lang/Object;"⟩, Cond.selects "[I" ⟨"[I", "clone", "()Ljava/lang/Object;"⟩ ⟨"java/lang/Object", "clone", "()Ljava/lang/Object;"⟩, Cond.fieldLink RX4 13 "VaultDoorsModel" "links" "[I", Cond.fieldLink RX4 16 "VaultDoorsModel" "memory" "[I", Cond.fieldLink RX4 19 "VaultDoorsModel" "voices" "[I", Cond.fieldLink RX4 22 "VaultDoorsModel" "numbers" "[I", Cond.methodLink RX4 49 yX4_va, Cond.instanceMethod yX4_va, Cond.selects RX4 yX4_va yX4_va, Cond.code yX4_va cX4_va 3 (some .int), Cond.methodLink RX4 134 yX4_whisper, Cond.instanceMethod yX4_whisper, Cond.selects RX4 yX4_whisper yX4_whisper, Cond.code yX4_whisper cX4_whisper 4 (some .boolean)]
def wsX4_opened_r2 : List Cond := [Cond.fieldLink RX4 28 "VaultDoorsModel" "thrown" "I", Cond.methodLink RX4 57 yX4_isDoor, Cond.instanceMethod yX4_isDoor, Cond.selects RX4 yX4_isDoor yX4_isDoor, Cond.code yX4_isDoor cX4_isDoor 2 (some .boolean), Cond.fieldLink RX4 32 "VaultDoorsModel" "doors" "I", Cond.methodLink RX4 35 yX4_isIn, Cond.static yX4_isIn, Cond.code yX4_isIn cX4_isIn 3 (some .boolean), Cond.methodLink RX4 78 yX4_wake, Cond.instanceMethod yX4_wake, Cond.selects RX4 yX4_wake yX4_wake, Cond.code yX4_wake cX4_wake 3 none, Cond.methodLink RX4 72 yX4_state, Cond.instanceMethod yX4_state, Cond.selects RX4 yX4_state yX4_state, Cond.code yX4_state cX4_state 4 none, Cond.methodLink RX4 68 yX4_put, Cond.instanceMethod yX4_put, Cond.selects RX4 yX4_put yX4_put, Cond.code yX4_put cX4_put 4 none, Cond.methodLink RX4 64 yX4_setLink, Cond.instanceMethod yX4_setLink, Cond.selects RX4 yX4_setLink yX4_setLink]
def wsX4_opened_r3 : List Cond := [Cond.code yX4_setLink cX4_setLink 5 none, Cond.methodLink RX4 53 yX4_li, Cond.instanceMethod yX4_li, Cond.selects RX4 yX4_li yX4_li, Cond.code yX4_li cX4_li 4 (some .int), Cond.methodLink RX4 75 yX4_send, Cond.instanceMethod yX4_send, Cond.selects RX4 yX4_send yX4_send, Cond.code yX4_send cX4_send 6 none, Cond.methodLink RX4 82 yX4_turn, Cond.instanceMethod yX4_turn, Cond.selects RX4 yX4_turn yX4_turn, Cond.code yX4_turn cX4_turn 4 none, Cond.methodLink RX4 115 yX4_tickOn, Cond.instanceMethod yX4_tickOn, Cond.selects RX4 yX4_tickOn yX4_tickOn, Cond.code yX4_tickOn cX4_tickOn 3 (some .int), Cond.methodLink RX4 109 yX4_listen, Cond.instanceMethod yX4_listen, Cond.selects RX4 yX4_listen yX4_listen, Cond.code yX4_listen cX4_listen 4 none, Cond.fieldLink RX4 25 "VaultDoorsModel" "heard" "[I", Cond.methodLink RX4 43 arraycopyName, Cond.native arraycopyName]
def wsX4_opened_r4 : List Cond := [Cond.static arraycopyName, Cond.initialized "java/lang/System", Cond.methodLink RX4 106 yX4_hear, Cond.instanceMethod yX4_hear, Cond.selects RX4 yX4_hear yX4_hear, Cond.code yX4_hear cX4_hear 8 none, Cond.methodLink RX4 61 yX4_place, Cond.instanceMethod yX4_place, Cond.selects RX4 yX4_place yX4_place, Cond.code yX4_place cX4_place 4 (some .int), Cond.methodLink RX4 86 yX4_answers, Cond.instanceMethod yX4_answers, Cond.selects RX4 yX4_answers yX4_answers, Cond.code yX4_answers cX4_answers 5 (some .int), Cond.methodLink RX4 112 yX4_decide, Cond.instanceMethod yX4_decide, Cond.selects RX4 yX4_decide yX4_decide, Cond.code yX4_decide cX4_decide 4 (some .boolean), Cond.methodLink RX4 103 yX4_says, Cond.instanceMethod yX4_says, Cond.selects RX4 yX4_says yX4_says, Cond.code yX4_says cX4_says 4 (some .boolean), Cond.methodLink RX4 96 yX4_openOnes, Cond.instanceMethod yX4_openOnes]
def wsX4_opened_r5 : List Cond := [Cond.selects RX4 yX4_openOnes yX4_openOnes, Cond.code yX4_openOnes cX4_openOnes 3 (some .int), Cond.methodLink RX4 130 yX4_bringBack, Cond.instanceMethod yX4_bringBack, Cond.selects RX4 yX4_bringBack yX4_bringBack, Cond.code yX4_bringBack cX4_bringBack 3 none, Cond.methodLink RX4 123 yX4_all, Cond.instanceMethod yX4_all, Cond.selects RX4 yX4_all yX4_all, Cond.code yX4_all cX4_all 1 (some (.array (.array .int)))]
def wsX4_opened : List Cond := .code yX4_opened cX4_opened 6 (some .int) :: ((wsX4_opened_r1 ++ (wsX4_opened_r2 ++ (wsX4_opened_r3 ++ (wsX4_opened_r4 ++ wsX4_opened_r5)))) ++ wsX40)
def wsX4_would_r1 : List Cond := [Cond.fieldLink RX4 28 "VaultDoorsModel" "thrown" "I", Cond.methodLink RX4 57 yX4_isDoor, Cond.instanceMethod yX4_isDoor, Cond.selects RX4 yX4_isDoor yX4_isDoor, Cond.initialized RX4, Cond.code yX4_isDoor cX4_isDoor 2 (some .boolean), Cond.fieldLink RX4 32 "VaultDoorsModel" "doors" "I", Cond.methodLink RX4 35 yX4_isIn, Cond.static yX4_isIn, Cond.code yX4_isIn cX4_isIn 3 (some .boolean), Cond.methodLink RX4 39 yX4_fail, Cond.instanceMethod yX4_fail, Cond.selects RX4 yX4_fail yX4_fail, Cond.code yX4_fail cX4_fail 2 (some .int), Cond.methodLink RX4 138 yX4_opened, Cond.instanceMethod yX4_opened, Cond.selects RX4 yX4_opened yX4_opened, Cond.code yX4_opened cX4_opened 6 (some .int), Cond.methodLink RX4 127 yX4_kept, Cond.instanceMethod yX4_kept, Cond.selects RX4 yX4_kept yX4_kept, Cond.code yX4_kept cX4_kept 1 (some (.array (.array .int))), Cond.classLink RX4 118 "[I", Cond.fieldLink RX4 9 "VaultDoorsModel" "vault" "[I"]
def wsX4_would_r2 : List Cond := [Cond.methodLink RX4 119 ⟨"[I", "clone", "()Ljava/lang/Object;"⟩, Cond.sameMethod "[I" "java/lang/Object" "clone" "()Ljava/lang/Object;", Cond.native ⟨"java/lang/Object", "clone", "()Ljava/lang/Object;"⟩, Cond.instanceMethod ⟨"java/lang/Object", "clone", "()Ljava/lang/Object;"⟩, Cond.selects "[I" ⟨"[I", "clone", "()Ljava/lang/Object;"⟩ ⟨"java/lang/Object", "clone", "()Ljava/lang/Object;"⟩, Cond.fieldLink RX4 13 "VaultDoorsModel" "links" "[I", Cond.fieldLink RX4 16 "VaultDoorsModel" "memory" "[I", Cond.fieldLink RX4 19 "VaultDoorsModel" "voices" "[I", Cond.fieldLink RX4 22 "VaultDoorsModel" "numbers" "[I", Cond.methodLink RX4 49 yX4_va, Cond.instanceMethod yX4_va, Cond.selects RX4 yX4_va yX4_va, Cond.code yX4_va cX4_va 3 (some .int), Cond.methodLink RX4 134 yX4_whisper, Cond.instanceMethod yX4_whisper, Cond.selects RX4 yX4_whisper yX4_whisper, Cond.code yX4_whisper cX4_whisper 4 (some .boolean), Cond.methodLink RX4 78 yX4_wake, Cond.instanceMethod yX4_wake, Cond.selects RX4 yX4_wake yX4_wake, Cond.code yX4_wake cX4_wake 3 none, Cond.methodLink RX4 72 yX4_state, Cond.instanceMethod yX4_state, Cond.selects RX4 yX4_state yX4_state]
def wsX4_would_r3 : List Cond := [Cond.code yX4_state cX4_state 4 none, Cond.methodLink RX4 68 yX4_put, Cond.instanceMethod yX4_put, Cond.selects RX4 yX4_put yX4_put, Cond.code yX4_put cX4_put 4 none, Cond.methodLink RX4 64 yX4_setLink, Cond.instanceMethod yX4_setLink, Cond.selects RX4 yX4_setLink yX4_setLink, Cond.code yX4_setLink cX4_setLink 5 none, Cond.methodLink RX4 53 yX4_li, Cond.instanceMethod yX4_li, Cond.selects RX4 yX4_li yX4_li, Cond.code yX4_li cX4_li 4 (some .int), Cond.methodLink RX4 75 yX4_send, Cond.instanceMethod yX4_send, Cond.selects RX4 yX4_send yX4_send, Cond.code yX4_send cX4_send 6 none, Cond.methodLink RX4 82 yX4_turn, Cond.instanceMethod yX4_turn, Cond.selects RX4 yX4_turn yX4_turn, Cond.code yX4_turn cX4_turn 4 none, Cond.methodLink RX4 115 yX4_tickOn, Cond.instanceMethod yX4_tickOn, Cond.selects RX4 yX4_tickOn yX4_tickOn]
def wsX4_would_r4 : List Cond := [Cond.code yX4_tickOn cX4_tickOn 3 (some .int), Cond.methodLink RX4 109 yX4_listen, Cond.instanceMethod yX4_listen, Cond.selects RX4 yX4_listen yX4_listen, Cond.code yX4_listen cX4_listen 4 none, Cond.fieldLink RX4 25 "VaultDoorsModel" "heard" "[I", Cond.methodLink RX4 43 arraycopyName, Cond.native arraycopyName, Cond.static arraycopyName, Cond.initialized "java/lang/System", Cond.methodLink RX4 106 yX4_hear, Cond.instanceMethod yX4_hear, Cond.selects RX4 yX4_hear yX4_hear, Cond.code yX4_hear cX4_hear 8 none, Cond.methodLink RX4 61 yX4_place, Cond.instanceMethod yX4_place, Cond.selects RX4 yX4_place yX4_place, Cond.code yX4_place cX4_place 4 (some .int), Cond.methodLink RX4 86 yX4_answers, Cond.instanceMethod yX4_answers, Cond.selects RX4 yX4_answers yX4_answers, Cond.code yX4_answers cX4_answers 5 (some .int), Cond.methodLink RX4 112 yX4_decide, Cond.instanceMethod yX4_decide]
def wsX4_would_r5 : List Cond := [Cond.selects RX4 yX4_decide yX4_decide, Cond.code yX4_decide cX4_decide 4 (some .boolean), Cond.methodLink RX4 103 yX4_says, Cond.instanceMethod yX4_says, Cond.selects RX4 yX4_says yX4_says, Cond.code yX4_says cX4_says 4 (some .boolean), Cond.methodLink RX4 96 yX4_openOnes, Cond.instanceMethod yX4_openOnes, Cond.selects RX4 yX4_openOnes yX4_openOnes, Cond.code yX4_openOnes cX4_openOnes 3 (some .int), Cond.methodLink RX4 130 yX4_bringBack, Cond.instanceMethod yX4_bringBack, Cond.selects RX4 yX4_bringBack yX4_bringBack, Cond.code yX4_bringBack cX4_bringBack 3 none, Cond.methodLink RX4 123 yX4_all, Cond.instanceMethod yX4_all, Cond.selects RX4 yX4_all yX4_all, Cond.code yX4_all cX4_all 1 (some (.array (.array .int)))]
def wsX4_would : List Cond := .code yX4_would cX4_would 3 (some .int) :: ((wsX4_would_r1 ++ (wsX4_would_r2 ++ (wsX4_would_r3 ++ (wsX4_would_r4 ++ wsX4_would_r5)))) ++ wsX40)
def wsX4_best_r1 : List Cond := [Cond.fieldLink RX4 28 "VaultDoorsModel" "thrown" "I", Cond.fieldLink RX4 32 "VaultDoorsModel" "doors" "I", Cond.methodLink RX4 35 yX4_isIn, Cond.static yX4_isIn, Cond.initialized RX4, Cond.code yX4_isIn cX4_isIn 3 (some .boolean), Cond.methodLink RX4 39 yX4_fail, Cond.instanceMethod yX4_fail, Cond.selects RX4 yX4_fail yX4_fail, Cond.code yX4_fail cX4_fail 2 (some .int), Cond.methodLink RX4 138 yX4_opened, Cond.instanceMethod yX4_opened, Cond.selects RX4 yX4_opened yX4_opened, Cond.code yX4_opened cX4_opened 6 (some .int), Cond.methodLink RX4 127 yX4_kept, Cond.instanceMethod yX4_kept, Cond.selects RX4 yX4_kept yX4_kept, Cond.code yX4_kept cX4_kept 1 (some (.array (.array .int))), Cond.classLink RX4 118 "[I", Cond.fieldLink RX4 9 "VaultDoorsModel" "vault" "[I", Cond.methodLink RX4 119 ⟨"[I", "clone", "()Ljava/lang/Object;"⟩, Cond.sameMethod "[I" "java/lang/Object" "clone" "()Ljava/lang/Object;", Cond.native ⟨"java/lang/Object", "clone", "()Ljava/lang/Object;"⟩, Cond.instanceMethod ⟨"java/lang/Object", "clone", "()Ljava/lang/Object;"⟩]
def wsX4_best_r2 : List Cond := [Cond.selects "[I" ⟨"[I", "clone", "()Ljava/lang/Object;"⟩ ⟨"java/lang/Object", "clone", "()Ljava/lang/Object;"⟩, Cond.fieldLink RX4 13 "VaultDoorsModel" "links" "[I", Cond.fieldLink RX4 16 "VaultDoorsModel" "memory" "[I", Cond.fieldLink RX4 19 "VaultDoorsModel" "voices" "[I", Cond.fieldLink RX4 22 "VaultDoorsModel" "numbers" "[I", Cond.methodLink RX4 49 yX4_va, Cond.instanceMethod yX4_va, Cond.selects RX4 yX4_va yX4_va, Cond.code yX4_va cX4_va 3 (some .int), Cond.methodLink RX4 134 yX4_whisper, Cond.instanceMethod yX4_whisper, Cond.selects RX4 yX4_whisper yX4_whisper, Cond.code yX4_whisper cX4_whisper 4 (some .boolean), Cond.methodLink RX4 57 yX4_isDoor, Cond.instanceMethod yX4_isDoor, Cond.selects RX4 yX4_isDoor yX4_isDoor, Cond.code yX4_isDoor cX4_isDoor 2 (some .boolean), Cond.methodLink RX4 78 yX4_wake, Cond.instanceMethod yX4_wake, Cond.selects RX4 yX4_wake yX4_wake, Cond.code yX4_wake cX4_wake 3 none, Cond.methodLink RX4 72 yX4_state, Cond.instanceMethod yX4_state, Cond.selects RX4 yX4_state yX4_state]
def wsX4_best_r3 : List Cond := [Cond.code yX4_state cX4_state 4 none, Cond.methodLink RX4 68 yX4_put, Cond.instanceMethod yX4_put, Cond.selects RX4 yX4_put yX4_put, Cond.code yX4_put cX4_put 4 none, Cond.methodLink RX4 64 yX4_setLink, Cond.instanceMethod yX4_setLink, Cond.selects RX4 yX4_setLink yX4_setLink, Cond.code yX4_setLink cX4_setLink 5 none, Cond.methodLink RX4 53 yX4_li, Cond.instanceMethod yX4_li, Cond.selects RX4 yX4_li yX4_li, Cond.code yX4_li cX4_li 4 (some .int), Cond.methodLink RX4 75 yX4_send, Cond.instanceMethod yX4_send, Cond.selects RX4 yX4_send yX4_send, Cond.code yX4_send cX4_send 6 none, Cond.methodLink RX4 82 yX4_turn, Cond.instanceMethod yX4_turn, Cond.selects RX4 yX4_turn yX4_turn, Cond.code yX4_turn cX4_turn 4 none, Cond.methodLink RX4 115 yX4_tickOn, Cond.instanceMethod yX4_tickOn, Cond.selects RX4 yX4_tickOn yX4_tickOn]
def wsX4_best_r4 : List Cond := [Cond.code yX4_tickOn cX4_tickOn 3 (some .int), Cond.methodLink RX4 109 yX4_listen, Cond.instanceMethod yX4_listen, Cond.selects RX4 yX4_listen yX4_listen, Cond.code yX4_listen cX4_listen 4 none, Cond.fieldLink RX4 25 "VaultDoorsModel" "heard" "[I", Cond.methodLink RX4 43 arraycopyName, Cond.native arraycopyName, Cond.static arraycopyName, Cond.initialized "java/lang/System", Cond.methodLink RX4 106 yX4_hear, Cond.instanceMethod yX4_hear, Cond.selects RX4 yX4_hear yX4_hear, Cond.code yX4_hear cX4_hear 8 none, Cond.methodLink RX4 61 yX4_place, Cond.instanceMethod yX4_place, Cond.selects RX4 yX4_place yX4_place, Cond.code yX4_place cX4_place 4 (some .int), Cond.methodLink RX4 86 yX4_answers, Cond.instanceMethod yX4_answers, Cond.selects RX4 yX4_answers yX4_answers, Cond.code yX4_answers cX4_answers 5 (some .int), Cond.methodLink RX4 112 yX4_decide, Cond.instanceMethod yX4_decide]
def wsX4_best_r5 : List Cond := [Cond.selects RX4 yX4_decide yX4_decide, Cond.code yX4_decide cX4_decide 4 (some .boolean), Cond.methodLink RX4 103 yX4_says, Cond.instanceMethod yX4_says, Cond.selects RX4 yX4_says yX4_says, Cond.code yX4_says cX4_says 4 (some .boolean), Cond.methodLink RX4 96 yX4_openOnes, Cond.instanceMethod yX4_openOnes, Cond.selects RX4 yX4_openOnes yX4_openOnes, Cond.code yX4_openOnes cX4_openOnes 3 (some .int), Cond.methodLink RX4 130 yX4_bringBack, Cond.instanceMethod yX4_bringBack, Cond.selects RX4 yX4_bringBack yX4_bringBack, Cond.code yX4_bringBack cX4_bringBack 3 none, Cond.methodLink RX4 123 yX4_all, Cond.instanceMethod yX4_all, Cond.selects RX4 yX4_all yX4_all, Cond.code yX4_all cX4_all 1 (some (.array (.array .int))), Cond.methodLink RX4 141 yJ6_bitCount_0f7a4, Cond.static yJ6_bitCount_0f7a4, Cond.initialized RJ6, Cond.code yJ6_bitCount_0f7a4 cJ6_bitCount_0f7a4 1 (some .int), Cond.constant RJ6 265 (1431655765), Cond.constant RJ6 266 (858993459)]
def wsX4_best_r6 : List Cond := [Cond.constant RJ6 267 (252645135)]
def wsX4_best : List Cond := .code yX4_best cX4_best 6 (some .int) :: ((wsX4_best_r1 ++ (wsX4_best_r2 ++ (wsX4_best_r3 ++ (wsX4_best_r4 ++ (wsX4_best_r5 ++ wsX4_best_r6))))) ++ wsX40)
def wsX4_mean : List Cond := .code yX4_mean cX4_mean 4 (some .double) :: ([.fieldLink RX4 28 "VaultDoorsModel" "thrown" "I", .fieldLink RX4 32 "VaultDoorsModel" "doors" "I", .methodLink RX4 49 yX4_va, .instanceMethod yX4_va, .selects RX4 yX4_va yX4_va, .initialized RX4, .code yX4_va cX4_va 3 (some .int), .fieldLink RX4 9 "VaultDoorsModel" "vault" "[I"] ++ wsX40)
def wsX4_digest_r1 : List Cond := [Cond.fieldLink RX4 28 "VaultDoorsModel" "thrown" "I", Cond.constantLong RX4 146 (907), Cond.constantLong RX4 148 (31), Cond.fieldLink RX4 32 "VaultDoorsModel" "doors" "I", Cond.fieldLink RX4 22 "VaultDoorsModel" "numbers" "[I", Cond.fieldLink RX4 19 "VaultDoorsModel" "voices" "[I", Cond.methodLink RX4 100 yX4_counted, Cond.instanceMethod yX4_counted, Cond.selects RX4 yX4_counted yX4_counted, Cond.initialized RX4, Cond.code yX4_counted cX4_counted 4 (some .int), Cond.methodLink RX4 49 yX4_va, Cond.instanceMethod yX4_va, Cond.selects RX4 yX4_va yX4_va, Cond.code yX4_va cX4_va 3 (some .int), Cond.fieldLink RX4 9 "VaultDoorsModel" "vault" "[I", Cond.methodLink RX4 96 yX4_openOnes, Cond.instanceMethod yX4_openOnes, Cond.selects RX4 yX4_openOnes yX4_openOnes, Cond.code yX4_openOnes cX4_openOnes 3 (some .int), Cond.methodLink RX4 90 yX4_doorTold, Cond.instanceMethod yX4_doorTold, Cond.selects RX4 yX4_doorTold yX4_doorTold, Cond.code yX4_doorTold cX4_doorTold 3 (some .int)]
def wsX4_digest_r2 : List Cond := [Cond.methodLink RX4 86 yX4_answers, Cond.instanceMethod yX4_answers, Cond.selects RX4 yX4_answers yX4_answers, Cond.code yX4_answers cX4_answers 5 (some .int), Cond.methodLink RX4 53 yX4_li, Cond.instanceMethod yX4_li, Cond.selects RX4 yX4_li yX4_li, Cond.code yX4_li cX4_li 4 (some .int), Cond.fieldLink RX4 13 "VaultDoorsModel" "links" "[I", Cond.methodLink RX4 93 yX4_asked, Cond.instanceMethod yX4_asked, Cond.selects RX4 yX4_asked yX4_asked, Cond.code yX4_asked cX4_asked 4 (some .int)]
def wsX4_digest : List Cond := .code yX4_digest cX4_digest 6 (some .long) :: ((wsX4_digest_r1 ++ wsX4_digest_r2) ++ wsX40)
def wsL_build_r1 : List Cond := [Cond.classLink RL 13 "java/lang/IllegalArgumentException", Cond.classLink RL 15 "java/lang/IllegalStateException", Cond.methodLink RL 7 yX3_build, Cond.instanceMethod yX3_build, Cond.selects RX3 yX3_build yX3_build, Cond.initialized RX3, Cond.code yX3_build cX3_build 4 (some .int), Cond.classLink RX3 23 "java/lang/IllegalArgumentException", Cond.initialized "java/lang/IllegalArgumentException", Cond.classLink RX3 43 "java/lang/IllegalStateException", Cond.initialized "java/lang/IllegalStateException", Cond.fieldLink RX3 10 "VaultDoors" "vault" "LVaultDoors$Vault;", Cond.fieldLink RX3 39 "VaultDoors$Vault" "doorCount" "I", Cond.methodLink RX3 19 yX3_isIn, Cond.static yX3_isIn, Cond.code yX3_isIn cX3_isIn 3 (some .boolean), Cond.methodLink RX3 30 yX3_isPatience, Cond.static yX3_isPatience, Cond.code yX3_isPatience cX3_isPatience 1 (some .boolean), Cond.methodLink RX3 34 yX3_isRule, Cond.static yX3_isRule, Cond.code yX3_isRule cX3_isRule 1 (some .boolean), Cond.methodLink RX3 48 yX1_addDoor, Cond.instanceMethod yX1_addDoor]
def wsL_build_r2 : List Cond := [Cond.selects RX1 yX1_addDoor yX1_addDoor, Cond.initialized RX1, Cond.code yX1_addDoor cX1_addDoor 5 (some .int), Cond.fieldLink RX1 32 "VaultDoors$Vault" "doorCount" "I", Cond.fieldLink RX1 11 "VaultDoors$Vault" "doors" "[LVaultDoors$Door;", Cond.fieldLink RX1 42 "VaultDoors$Door" "secret" "I", Cond.fieldLink RX1 45 "VaultDoors$Door" "patience" "I", Cond.fieldLink RX1 48 "VaultDoors$Door" "rule" "I"]
def wsL_build : List Cond := .codeWith yL_build cL_build 6 (some .int) [(0, 12, 15, 13), (0, 12, 19, 15)] :: ((wsL_build_r1 ++ wsL_build_r2) ++ wsX30 ++ wsX10 ++ wsX00 ++ (vx_atS RX3 27 "java/lang/IllegalArgumentException" ["java/lang/RuntimeException", "java/lang/Exception"]).filter goodWord ++ (vx_atS RX3 47 "java/lang/IllegalStateException" ["java/lang/RuntimeException", "java/lang/Exception"]).filter goodWord)
def wsL_ask_r1 : List Cond := [Cond.classLink RL 20 "java/lang/IndexOutOfBoundsException", Cond.classLink RL 13 "java/lang/IllegalArgumentException", Cond.classLink RL 15 "java/lang/IllegalStateException", Cond.methodLink RL 17 yX3_ask, Cond.instanceMethod yX3_ask, Cond.selects RX3 yX3_ask yX3_ask, Cond.initialized RX3, Cond.code yX3_ask cX3_ask 5 (some .int), Cond.classLink RX3 55 "java/lang/IndexOutOfBoundsException", Cond.initialized "java/lang/IndexOutOfBoundsException", Cond.classLink RX3 23 "java/lang/IllegalArgumentException", Cond.initialized "java/lang/IllegalArgumentException", Cond.classLink RX3 43 "java/lang/IllegalStateException", Cond.initialized "java/lang/IllegalStateException", Cond.fieldLink RX3 10 "VaultDoors" "vault" "LVaultDoors$Vault;", Cond.fieldLink RX3 62 "VaultDoors$Vault" "doors" "[LVaultDoors$Door;", Cond.fieldLink RX3 66 "VaultDoors$Door" "state" "I", Cond.fieldLink RX3 75 "VaultDoors$Door" "asked" "I", Cond.methodLink RX3 52 yX1_isDoor, Cond.instanceMethod yX1_isDoor, Cond.selects RX1 yX1_isDoor yX1_isDoor, Cond.initialized RX1, Cond.code yX1_isDoor cX1_isDoor 2 (some .boolean), Cond.fieldLink RX1 32 "VaultDoors$Vault" "doorCount" "I"]
def wsL_ask_r2 : List Cond := [Cond.methodLink RX3 19 yX3_isIn, Cond.static yX3_isIn, Cond.code yX3_isIn cX3_isIn 3 (some .boolean), Cond.methodLink RX3 71 yX0_placeOf, Cond.instanceMethod yX0_placeOf, Cond.selects RX0 yX0_placeOf yX0_placeOf, Cond.initialized RX0, Cond.code yX0_placeOf cX0_placeOf 3 (some .int), Cond.fieldLink RX0 49 "VaultDoors$Door" "asked" "I", Cond.fieldLink RX0 9 "VaultDoors$Door" "other" "[I", Cond.methodLink RX3 80 yX0_addAsked, Cond.instanceMethod yX0_addAsked, Cond.selects RX0 yX0_addAsked yX0_addAsked, Cond.code yX0_addAsked cX0_addAsked 3 none, Cond.fieldLink RX0 15 "VaultDoors$Door" "distance" "[I", Cond.fieldLink RX0 18 "VaultDoors$Door" "answer" "[I"]
def wsL_ask : List Cond := .codeWith yL_ask cL_ask 6 (some .int) [(0, 12, 15, 20), (0, 12, 19, 13), (0, 12, 23, 15)] :: ((wsL_ask_r1 ++ wsL_ask_r2) ++ wsX30 ++ wsX10 ++ wsX00 ++ (vx_atS RX3 59 "java/lang/IndexOutOfBoundsException" ["java/lang/RuntimeException", "java/lang/Exception"]).filter goodWord ++ (vx_atS RX3 27 "java/lang/IllegalArgumentException" ["java/lang/RuntimeException", "java/lang/Exception"]).filter goodWord ++ (vx_atS RX3 47 "java/lang/IllegalStateException" ["java/lang/RuntimeException", "java/lang/Exception"]).filter goodWord)
def wsL_set_r1 : List Cond := [Cond.classLink RL 20 "java/lang/IndexOutOfBoundsException", Cond.classLink RL 13 "java/lang/IllegalArgumentException", Cond.methodLink RL 22 yX3_set, Cond.instanceMethod yX3_set, Cond.selects RX3 yX3_set yX3_set, Cond.initialized RX3, Cond.code yX3_set cX3_set 6 (some .int), Cond.classLink RX3 55 "java/lang/IndexOutOfBoundsException", Cond.initialized "java/lang/IndexOutOfBoundsException", Cond.classLink RX3 23 "java/lang/IllegalArgumentException", Cond.initialized "java/lang/IllegalArgumentException", Cond.fieldLink RX3 10 "VaultDoors" "vault" "LVaultDoors$Vault;", Cond.fieldLink RX3 62 "VaultDoors$Vault" "doors" "[LVaultDoors$Door;", Cond.fieldLink RX3 86 "VaultDoors$Door" "rule" "I", Cond.fieldLink RX3 89 "VaultDoors$Door" "patience" "I", Cond.methodLink RX3 52 yX1_isDoor, Cond.instanceMethod yX1_isDoor, Cond.selects RX1 yX1_isDoor yX1_isDoor, Cond.initialized RX1, Cond.code yX1_isDoor cX1_isDoor 2 (some .boolean), Cond.fieldLink RX1 32 "VaultDoors$Vault" "doorCount" "I", Cond.methodLink RX3 34 yX3_isRule, Cond.static yX3_isRule, Cond.code yX3_isRule cX3_isRule 1 (some .boolean)]
def wsL_set_r2 : List Cond := [Cond.methodLink RX3 19 yX3_isIn, Cond.static yX3_isIn, Cond.code yX3_isIn cX3_isIn 3 (some .boolean), Cond.methodLink RX3 30 yX3_isPatience, Cond.static yX3_isPatience, Cond.code yX3_isPatience cX3_isPatience 1 (some .boolean)]
def wsL_set : List Cond := .codeWith yL_set cL_set 6 (some .int) [(0, 12, 15, 20), (0, 12, 19, 13)] :: ((wsL_set_r1 ++ wsL_set_r2) ++ wsX30 ++ wsX10 ++ wsX00 ++ (vx_atS RX3 59 "java/lang/IndexOutOfBoundsException" ["java/lang/RuntimeException", "java/lang/Exception"]).filter goodWord ++ (vx_atS RX3 27 "java/lang/IllegalArgumentException" ["java/lang/RuntimeException", "java/lang/Exception"]).filter goodWord)
def wsL_whisper_r1 : List Cond := [Cond.classLink RL 20 "java/lang/IndexOutOfBoundsException", Cond.classLink RL 13 "java/lang/IllegalArgumentException", Cond.methodLink RL 25 yX3_whisper, Cond.instanceMethod yX3_whisper, Cond.selects RX3 yX3_whisper yX3_whisper, Cond.initialized RX3, Cond.code yX3_whisper cX3_whisper 3 (some .boolean), Cond.classLink RX3 55 "java/lang/IndexOutOfBoundsException", Cond.initialized "java/lang/IndexOutOfBoundsException", Cond.classLink RX3 23 "java/lang/IllegalArgumentException", Cond.initialized "java/lang/IllegalArgumentException", Cond.fieldLink RX3 10 "VaultDoors" "vault" "LVaultDoors$Vault;", Cond.methodLink RX3 52 yX1_isDoor, Cond.instanceMethod yX1_isDoor, Cond.selects RX1 yX1_isDoor yX1_isDoor, Cond.initialized RX1, Cond.code yX1_isDoor cX1_isDoor 2 (some .boolean), Cond.fieldLink RX1 32 "VaultDoors$Vault" "doorCount" "I", Cond.methodLink RX3 19 yX3_isIn, Cond.static yX3_isIn, Cond.code yX3_isIn cX3_isIn 3 (some .boolean), Cond.methodLink RX3 94 yX1_hearToken, Cond.instanceMethod yX1_hearToken, Cond.selects RX1 yX1_hearToken yX1_hearToken]
def wsL_whisper_r2 : List Cond := [Cond.code yX1_hearToken cX1_hearToken 3 (some .boolean), Cond.fieldLink RX1 11 "VaultDoors$Vault" "doors" "[LVaultDoors$Door;", Cond.fieldLink RX1 55 "VaultDoors$Door" "state" "I", Cond.fieldLink RX1 42 "VaultDoors$Door" "secret" "I", Cond.methodLink RX1 51 yX1_isDoor, Cond.methodLink RX1 58 yX0_bar, Cond.instanceMethod yX0_bar, Cond.selects RX0 yX0_bar yX0_bar, Cond.initialized RX0, Cond.code yX0_bar cX0_bar 1 none, Cond.fieldLink RX0 37 "VaultDoors$Door" "state" "I", Cond.fieldLink RX0 40 "VaultDoors$Door" "left" "I", Cond.fieldLink RX0 46 "VaultDoors$Door" "barred" "I", Cond.methodLink RX1 61 yX1_wake, Cond.instanceMethod yX1_wake, Cond.selects RX1 yX1_wake yX1_wake, Cond.code yX1_wake cX1_wake 4 none, Cond.fieldLink RX1 107 "VaultDoors$Door" "asked" "I", Cond.fieldLink RX1 20 "VaultDoors$Vault" "voices" "LVaultDoors$Voices;", Cond.fieldLink RX1 110 "VaultDoors$Door" "other" "[I", Cond.fieldLink RX1 113 "VaultDoors$Door" "distance" "[I", Cond.methodLink RX1 104 yX0_startWaiting, Cond.instanceMethod yX0_startWaiting, Cond.selects RX0 yX0_startWaiting yX0_startWaiting]
def wsL_whisper_r3 : List Cond := [Cond.code yX0_startWaiting cX0_startWaiting 1 none, Cond.fieldLink RX0 31 "VaultDoors$Door" "patience" "I", Cond.methodLink RX1 98 yX2_add, Cond.instanceMethod yX2_add, Cond.selects RX2 yX2_add yX2_add, Cond.initialized RX2, Cond.code yX2_add cX2_add 5 none, Cond.fieldLink RX2 27 "VaultDoors$Voices" "size" "I", Cond.fieldLink RX2 31 "VaultDoors$Voices" "lost" "I", Cond.fieldLink RX2 9 "VaultDoors$Voices" "from" "[I", Cond.fieldLink RX2 15 "VaultDoors$Voices" "to" "[I", Cond.fieldLink RX2 18 "VaultDoors$Voices" "kind" "[I", Cond.fieldLink RX2 21 "VaultDoors$Voices" "left" "[I", Cond.fieldLink RX2 24 "VaultDoors$Voices" "distance" "[I"]
def wsL_whisper : List Cond := .codeWith yL_whisper cL_whisper 5 (some .int) [(0, 17, 20, 20), (0, 17, 24, 13)] :: ((wsL_whisper_r1 ++ (wsL_whisper_r2 ++ wsL_whisper_r3)) ++ wsX30 ++ wsX10 ++ wsX00 ++ wsX20 ++ (vx_atS RX3 59 "java/lang/IndexOutOfBoundsException" ["java/lang/RuntimeException", "java/lang/Exception"]).filter goodWord ++ (vx_atS RX3 27 "java/lang/IllegalArgumentException" ["java/lang/RuntimeException", "java/lang/Exception"]).filter goodWord)
def wsL_door_r1 : List Cond := [Cond.classLink RL 20 "java/lang/IndexOutOfBoundsException", Cond.methodLink RL 29 yX3_door, Cond.instanceMethod yX3_door, Cond.selects RX3 yX3_door yX3_door, Cond.initialized RX3, Cond.code yX3_door cX3_door 3 (some .int), Cond.classLink RX3 55 "java/lang/IndexOutOfBoundsException", Cond.initialized "java/lang/IndexOutOfBoundsException", Cond.fieldLink RX3 10 "VaultDoors" "vault" "LVaultDoors$Vault;", Cond.fieldLink RX3 62 "VaultDoors$Vault" "doors" "[LVaultDoors$Door;", Cond.methodLink RX3 52 yX1_isDoor, Cond.instanceMethod yX1_isDoor, Cond.selects RX1 yX1_isDoor yX1_isDoor, Cond.initialized RX1, Cond.code yX1_isDoor cX1_isDoor 2 (some .boolean), Cond.fieldLink RX1 32 "VaultDoors$Vault" "doorCount" "I", Cond.methodLink RX3 19 yX3_isIn, Cond.static yX3_isIn, Cond.code yX3_isIn cX3_isIn 3 (some .boolean), Cond.methodLink RX3 100 yX0_fact, Cond.instanceMethod yX0_fact, Cond.selects RX0 yX0_fact yX0_fact, Cond.initialized RX0, Cond.code yX0_fact cX0_fact 2 (some .int)]
def wsL_door_r2 : List Cond := [Cond.fieldLink RX0 37 "VaultDoors$Door" "state" "I", Cond.fieldLink RX0 40 "VaultDoors$Door" "left" "I", Cond.fieldLink RX0 34 "VaultDoors$Door" "rule" "I", Cond.fieldLink RX0 49 "VaultDoors$Door" "asked" "I", Cond.fieldLink RX0 58 "VaultDoors$Door" "remembered" "I", Cond.fieldLink RX0 43 "VaultDoors$Door" "opened" "I", Cond.fieldLink RX0 46 "VaultDoors$Door" "barred" "I", Cond.methodLink RX0 65 yX0_answersOf, Cond.instanceMethod yX0_answersOf, Cond.selects RX0 yX0_answersOf yX0_answersOf, Cond.code yX0_answersOf cX0_answersOf 4 (some .int), Cond.fieldLink RX0 18 "VaultDoors$Door" "answer" "[I"]
def wsL_door : List Cond := .codeWith yL_door cL_door 5 (some .int) [(0, 10, 13, 20)] :: ((wsL_door_r1 ++ wsL_door_r2) ++ wsX30 ++ wsX10 ++ wsX00 ++ (vx_atS RX3 59 "java/lang/IndexOutOfBoundsException" ["java/lang/RuntimeException", "java/lang/Exception"]).filter goodWord)
def wsL_asks_r1 : List Cond := [Cond.classLink RL 20 "java/lang/IndexOutOfBoundsException", Cond.methodLink RL 33 yX3_asks, Cond.instanceMethod yX3_asks, Cond.selects RX3 yX3_asks yX3_asks, Cond.initialized RX3, Cond.code yX3_asks cX3_asks 5 (some .int), Cond.classLink RX3 55 "java/lang/IndexOutOfBoundsException", Cond.initialized "java/lang/IndexOutOfBoundsException", Cond.fieldLink RX3 10 "VaultDoors" "vault" "LVaultDoors$Vault;", Cond.fieldLink RX3 62 "VaultDoors$Vault" "doors" "[LVaultDoors$Door;", Cond.fieldLink RX3 75 "VaultDoors$Door" "asked" "I", Cond.methodLink RX3 52 yX1_isDoor, Cond.instanceMethod yX1_isDoor, Cond.selects RX1 yX1_isDoor yX1_isDoor, Cond.initialized RX1, Cond.code yX1_isDoor cX1_isDoor 2 (some .boolean), Cond.fieldLink RX1 32 "VaultDoors$Vault" "doorCount" "I", Cond.methodLink RX3 19 yX3_isIn, Cond.static yX3_isIn, Cond.code yX3_isIn cX3_isIn 3 (some .boolean), Cond.methodLink RX3 107 yX0_askedFact, Cond.instanceMethod yX0_askedFact, Cond.selects RX0 yX0_askedFact yX0_askedFact, Cond.initialized RX0]
def wsL_asks_r2 : List Cond := [Cond.code yX0_askedFact cX0_askedFact 3 (some .int), Cond.fieldLink RX0 49 "VaultDoors$Door" "asked" "I", Cond.fieldLink RX0 9 "VaultDoors$Door" "other" "[I", Cond.fieldLink RX0 15 "VaultDoors$Door" "distance" "[I", Cond.fieldLink RX0 18 "VaultDoors$Door" "answer" "[I"]
def wsL_asks : List Cond := .codeWith yL_asks cL_asks 6 (some .int) [(0, 12, 15, 20)] :: ((wsL_asks_r1 ++ wsL_asks_r2) ++ wsX30 ++ wsX10 ++ wsX00 ++ (vx_atS RX3 59 "java/lang/IndexOutOfBoundsException" ["java/lang/RuntimeException", "java/lang/Exception"]).filter goodWord)
def wsL_voice : List Cond := .codeWith yL_voice cL_voice 5 (some .int) [(0, 10, 13, 20)] :: ([.classLink RL 20 "java/lang/IndexOutOfBoundsException", .methodLink RL 36 yX3_voice, .instanceMethod yX3_voice, .selects RX3 yX3_voice yX3_voice, .initialized RX3, .code yX3_voice cX3_voice 3 (some .int), .classLink RX3 55 "java/lang/IndexOutOfBoundsException", .initialized "java/lang/IndexOutOfBoundsException", .fieldLink RX3 10 "VaultDoors" "vault" "LVaultDoors$Vault;", .fieldLink RX3 111 "VaultDoors$Vault" "voices" "LVaultDoors$Voices;", .fieldLink RX3 115 "VaultDoors$Voices" "size" "I", .methodLink RX3 19 yX3_isIn, .static yX3_isIn, .code yX3_isIn cX3_isIn 3 (some .boolean), .methodLink RX3 122 yX2_fact, .instanceMethod yX2_fact, .selects RX2 yX2_fact yX2_fact, .initialized RX2, .code yX2_fact cX2_fact 3 (some .int), .fieldLink RX2 27 "VaultDoors$Voices" "size" "I", .fieldLink RX2 9 "VaultDoors$Voices" "from" "[I", .fieldLink RX2 15 "VaultDoors$Voices" "to" "[I", .fieldLink RX2 18 "VaultDoors$Voices" "kind" "[I", .fieldLink RX2 21 "VaultDoors$Voices" "left" "[I"] ++ wsX30 ++ wsX10 ++ wsX20 ++ (vx_atS RX3 59 "java/lang/IndexOutOfBoundsException" ["java/lang/RuntimeException", "java/lang/Exception"]).filter goodWord)
def wsL_count_r1 : List Cond := [Cond.classLink RL 20 "java/lang/IndexOutOfBoundsException", Cond.methodLink RL 39 yX3_count, Cond.instanceMethod yX3_count, Cond.selects RX3 yX3_count yX3_count, Cond.initialized RX3, Cond.code yX3_count cX3_count 2 (some .int), Cond.classLink RX3 55 "java/lang/IndexOutOfBoundsException", Cond.initialized "java/lang/IndexOutOfBoundsException", Cond.fieldLink RX3 10 "VaultDoors" "vault" "LVaultDoors$Vault;", Cond.methodLink RX3 19 yX3_isIn, Cond.static yX3_isIn, Cond.code yX3_isIn cX3_isIn 3 (some .boolean), Cond.methodLink RX3 126 yX1_fact, Cond.instanceMethod yX1_fact, Cond.selects RX1 yX1_fact yX1_fact, Cond.initialized RX1, Cond.code yX1_fact cX1_fact 2 (some .int), Cond.fieldLink RX1 28 "VaultDoors$Vault" "tick" "I", Cond.fieldLink RX1 32 "VaultDoors$Vault" "doorCount" "I", Cond.fieldLink RX1 20 "VaultDoors$Vault" "voices" "LVaultDoors$Voices;", Cond.fieldLink RX1 71 "VaultDoors$Voices" "size" "I", Cond.fieldLink RX1 140 "VaultDoors$Voices" "lost" "I", Cond.methodLink RX1 136 yX1_doorsThat, Cond.instanceMethod yX1_doorsThat]
def wsL_count_r2 : List Cond := [Cond.selects RX1 yX1_doorsThat yX1_doorsThat, Cond.code yX1_doorsThat cX1_doorsThat 4 (some .int), Cond.fieldLink RX1 11 "VaultDoors$Vault" "doors" "[LVaultDoors$Door;", Cond.fieldLink RX1 55 "VaultDoors$Door" "state" "I", Cond.methodLink RX1 143 yX1_openDoors, Cond.instanceMethod yX1_openDoors, Cond.selects RX1 yX1_openDoors yX1_openDoors, Cond.code yX1_openDoors cX1_openDoors 3 (some .int)]
def wsL_count : List Cond := .codeWith yL_count cL_count 4 (some .int) [(0, 9, 12, 20)] :: ((wsL_count_r1 ++ wsL_count_r2) ++ wsX30 ++ wsX10 ++ wsX20 ++ wsX00 ++ (vx_atS RX3 59 "java/lang/IndexOutOfBoundsException" ["java/lang/RuntimeException", "java/lang/Exception"]).filter goodWord)
def wsL_reach_r1 : List Cond := [Cond.classLink RL 20 "java/lang/IndexOutOfBoundsException", Cond.methodLink RL 43 yX3_reach, Cond.instanceMethod yX3_reach, Cond.selects RX3 yX3_reach yX3_reach, Cond.initialized RX3, Cond.code yX3_reach cX3_reach 2 (some .int), Cond.classLink RX3 55 "java/lang/IndexOutOfBoundsException", Cond.initialized "java/lang/IndexOutOfBoundsException", Cond.fieldLink RX3 10 "VaultDoors" "vault" "LVaultDoors$Vault;", Cond.methodLink RX3 52 yX1_isDoor, Cond.instanceMethod yX1_isDoor, Cond.selects RX1 yX1_isDoor yX1_isDoor, Cond.initialized RX1, Cond.code yX1_isDoor cX1_isDoor 2 (some .boolean), Cond.fieldLink RX1 32 "VaultDoors$Vault" "doorCount" "I", Cond.methodLink RX3 127 yX1_reachedFrom, Cond.instanceMethod yX1_reachedFrom, Cond.selects RX1 yX1_reachedFrom yX1_reachedFrom, Cond.code yX1_reachedFrom cX1_reachedFrom 6 (some .int), Cond.methodLink RX1 147 yX1_askedBy, Cond.instanceMethod yX1_askedBy, Cond.selects RX1 yX1_askedBy yX1_askedBy, Cond.code yX1_askedBy cX1_askedBy 5 (some .int), Cond.fieldLink RX1 11 "VaultDoors$Vault" "doors" "[LVaultDoors$Door;"]
def wsL_reach_r2 : List Cond := [Cond.fieldLink RX1 107 "VaultDoors$Door" "asked" "I", Cond.fieldLink RX1 110 "VaultDoors$Door" "other" "[I", Cond.methodLink RX1 51 yX1_isDoor]
def wsL_reach : List Cond := .codeWith yL_reach cL_reach 4 (some .int) [(0, 9, 12, 20)] :: ((wsL_reach_r1 ++ wsL_reach_r2) ++ wsX30 ++ wsX10 ++ wsX00 ++ (vx_atS RX3 59 "java/lang/IndexOutOfBoundsException" ["java/lang/RuntimeException", "java/lang/Exception"]).filter goodWord)
def wsL_pass_r1 : List Cond := [Cond.classLink RL 13 "java/lang/IllegalArgumentException", Cond.methodLink RL 46 yX3_pass, Cond.instanceMethod yX3_pass, Cond.selects RX3 yX3_pass yX3_pass, Cond.initialized RX3, Cond.code yX3_pass cX3_pass 4 (some .int), Cond.classLink RX3 23 "java/lang/IllegalArgumentException", Cond.initialized "java/lang/IllegalArgumentException", Cond.fieldLink RX3 10 "VaultDoors" "vault" "LVaultDoors$Vault;", Cond.methodLink RX3 19 yX3_isIn, Cond.static yX3_isIn, Cond.code yX3_isIn cX3_isIn 3 (some .boolean), Cond.methodLink RX3 132 yX1_tickOn, Cond.instanceMethod yX1_tickOn, Cond.selects RX1 yX1_tickOn yX1_tickOn, Cond.initialized RX1, Cond.code yX1_tickOn cX1_tickOn 3 (some .int), Cond.fieldLink RX1 32 "VaultDoors$Vault" "doorCount" "I", Cond.fieldLink RX1 11 "VaultDoors$Vault" "doors" "[LVaultDoors$Door;", Cond.fieldLink RX1 20 "VaultDoors$Vault" "voices" "LVaultDoors$Voices;", Cond.fieldLink RX1 24 "VaultDoors$Vault" "arrived" "LVaultDoors$Voices;", Cond.fieldLink RX1 71 "VaultDoors$Voices" "size" "I", Cond.fieldLink RX1 74 "VaultDoors$Voices" "from" "[I", Cond.fieldLink RX1 78 "VaultDoors$Voices" "to" "[I"]
def wsL_pass_r2 : List Cond := [Cond.fieldLink RX1 81 "VaultDoors$Voices" "kind" "[I", Cond.fieldLink RX1 84 "VaultDoors$Voices" "distance" "[I", Cond.fieldLink RX1 55 "VaultDoors$Door" "state" "I", Cond.fieldLink RX1 28 "VaultDoors$Vault" "tick" "I", Cond.methodLink RX1 65 yX0_spendTime, Cond.instanceMethod yX0_spendTime, Cond.selects RX0 yX0_spendTime yX0_spendTime, Cond.initialized RX0, Cond.code yX0_spendTime cX0_spendTime 1 none, Cond.fieldLink RX0 37 "VaultDoors$Door" "state" "I", Cond.fieldLink RX0 40 "VaultDoors$Door" "left" "I", Cond.methodLink RX1 68 yX2_moveOn, Cond.instanceMethod yX2_moveOn, Cond.selects RX2 yX2_moveOn yX2_moveOn, Cond.initialized RX2, Cond.code yX2_moveOn cX2_moveOn 4 none, Cond.fieldLink RX2 27 "VaultDoors$Voices" "size" "I", Cond.fieldLink RX2 21 "VaultDoors$Voices" "left" "[I", Cond.fieldLink RX2 9 "VaultDoors$Voices" "from" "[I", Cond.fieldLink RX2 15 "VaultDoors$Voices" "to" "[I", Cond.fieldLink RX2 18 "VaultDoors$Voices" "kind" "[I", Cond.fieldLink RX2 24 "VaultDoors$Voices" "distance" "[I", Cond.methodLink RX2 40 yX2_add, Cond.instanceMethod yX2_add]
def wsL_pass_r3 : List Cond := [Cond.selects RX2 yX2_add yX2_add, Cond.code yX2_add cX2_add 5 none, Cond.fieldLink RX2 31 "VaultDoors$Voices" "lost" "I", Cond.methodLink RX2 44 yX2_moveUp, Cond.instanceMethod yX2_moveUp, Cond.selects RX2 yX2_moveUp yX2_moveUp, Cond.code yX2_moveUp cX2_moveUp 3 none, Cond.methodLink RX1 87 yX1_hear, Cond.instanceMethod yX1_hear, Cond.selects RX1 yX1_hear yX1_hear, Cond.code yX1_hear cX1_hear 6 none, Cond.methodLink RX1 51 yX1_isDoor, Cond.instanceMethod yX1_isDoor, Cond.selects RX1 yX1_isDoor yX1_isDoor, Cond.code yX1_isDoor cX1_isDoor 2 (some .boolean), Cond.methodLink RX1 94 yX0_takeAnswer, Cond.instanceMethod yX0_takeAnswer, Cond.selects RX0 yX0_takeAnswer yX0_takeAnswer, Cond.code yX0_takeAnswer cX0_takeAnswer 4 none, Cond.fieldLink RX0 18 "VaultDoors$Door" "answer" "[I", Cond.methodLink RX0 61 yX0_placeOf, Cond.instanceMethod yX0_placeOf, Cond.selects RX0 yX0_placeOf yX0_placeOf, Cond.code yX0_placeOf cX0_placeOf 3 (some .int)]
def wsL_pass_r4 : List Cond := [Cond.fieldLink RX0 49 "VaultDoors$Door" "asked" "I", Cond.fieldLink RX0 9 "VaultDoors$Door" "other" "[I", Cond.methodLink RX1 98 yX2_add, Cond.methodLink RX1 61 yX1_wake, Cond.instanceMethod yX1_wake, Cond.selects RX1 yX1_wake yX1_wake, Cond.code yX1_wake cX1_wake 4 none, Cond.fieldLink RX1 107 "VaultDoors$Door" "asked" "I", Cond.fieldLink RX1 110 "VaultDoors$Door" "other" "[I", Cond.fieldLink RX1 113 "VaultDoors$Door" "distance" "[I", Cond.methodLink RX1 104 yX0_startWaiting, Cond.instanceMethod yX0_startWaiting, Cond.selects RX0 yX0_startWaiting yX0_startWaiting, Cond.code yX0_startWaiting cX0_startWaiting 1 none, Cond.fieldLink RX0 31 "VaultDoors$Door" "patience" "I", Cond.methodLink RX1 101 yX0_remember, Cond.instanceMethod yX0_remember, Cond.selects RX0 yX0_remember yX0_remember, Cond.code yX0_remember cX0_remember 3 none, Cond.fieldLink RX0 58 "VaultDoors$Door" "remembered" "I", Cond.fieldLink RX0 21 "VaultDoors$Door" "asker" "[I", Cond.fieldLink RX0 24 "VaultDoors$Door" "askerDistance" "[I", Cond.methodLink RX1 91 yX1_waitOn, Cond.instanceMethod yX1_waitOn]
def wsL_pass_r5 : List Cond := [Cond.selects RX1 yX1_waitOn yX1_waitOn, Cond.code yX1_waitOn cX1_waitOn 5 (some .boolean), Cond.fieldLink RX1 114 "VaultDoors$Door" "left" "I", Cond.fieldLink RX1 124 "VaultDoors$Door" "remembered" "I", Cond.fieldLink RX1 127 "VaultDoors$Door" "asker" "[I", Cond.fieldLink RX1 130 "VaultDoors$Door" "askerDistance" "[I", Cond.methodLink RX1 117 yX0_isReadyToDecide, Cond.instanceMethod yX0_isReadyToDecide, Cond.selects RX0 yX0_isReadyToDecide yX0_isReadyToDecide, Cond.code yX0_isReadyToDecide cX0_isReadyToDecide 1 (some .boolean), Cond.methodLink RX0 65 yX0_answersOf, Cond.instanceMethod yX0_answersOf, Cond.selects RX0 yX0_answersOf yX0_answersOf, Cond.code yX0_answersOf cX0_answersOf 4 (some .int), Cond.methodLink RX1 121 yX0_decide, Cond.instanceMethod yX0_decide, Cond.selects RX0 yX0_decide yX0_decide, Cond.code yX0_decide cX0_decide 1 none, Cond.methodLink RX0 68 yX0_isPersuaded, Cond.instanceMethod yX0_isPersuaded, Cond.selects RX0 yX0_isPersuaded yX0_isPersuaded, Cond.code yX0_isPersuaded cX0_isPersuaded 2 (some .boolean), Cond.fieldLink RX0 34 "VaultDoors$Door" "rule" "I", Cond.methodLink RX0 72 yX0_open]
def wsL_pass_r6 : List Cond := [Cond.instanceMethod yX0_open, Cond.selects RX0 yX0_open yX0_open, Cond.code yX0_open cX0_open 1 none, Cond.fieldLink RX0 43 "VaultDoors$Door" "opened" "I", Cond.methodLink RX0 75 yX0_bar, Cond.instanceMethod yX0_bar, Cond.selects RX0 yX0_bar yX0_bar, Cond.code yX0_bar cX0_bar 1 none, Cond.fieldLink RX0 46 "VaultDoors$Door" "barred" "I", Cond.methodLink RX1 133 yX0_forget, Cond.instanceMethod yX0_forget, Cond.selects RX0 yX0_forget yX0_forget, Cond.code yX0_forget cX0_forget 2 none]
def wsL_pass : List Cond := .codeWith yL_pass cL_pass 4 (some .int) [(0, 9, 12, 13)] :: ((wsL_pass_r1 ++ (wsL_pass_r2 ++ (wsL_pass_r3 ++ (wsL_pass_r4 ++ (wsL_pass_r5 ++ wsL_pass_r6))))) ++ wsX30 ++ wsX10 ++ wsX20 ++ wsX00 ++ (vx_atS RX3 27 "java/lang/IllegalArgumentException" ["java/lang/RuntimeException", "java/lang/Exception"]).filter goodWord)
def wsL_opens_r1 : List Cond := [Cond.classLink RL 20 "java/lang/IndexOutOfBoundsException", Cond.methodLink RL 49 yX3_opens, Cond.instanceMethod yX3_opens, Cond.selects RX3 yX3_opens yX3_opens, Cond.initialized RX3, Cond.code yX3_opens cX3_opens 3 (some .int), Cond.classLink RX3 55 "java/lang/IndexOutOfBoundsException", Cond.initialized "java/lang/IndexOutOfBoundsException", Cond.fieldLink RX3 10 "VaultDoors" "vault" "LVaultDoors$Vault;", Cond.fieldLink RX3 62 "VaultDoors$Vault" "doors" "[LVaultDoors$Door;", Cond.fieldLink RX3 66 "VaultDoors$Door" "state" "I", Cond.fieldLink RX3 16 "VaultDoors" "trial" "LVaultDoors$Vault;", Cond.methodLink RX3 52 yX1_isDoor, Cond.instanceMethod yX1_isDoor, Cond.selects RX1 yX1_isDoor yX1_isDoor, Cond.initialized RX1, Cond.code yX1_isDoor cX1_isDoor 2 (some .boolean), Cond.fieldLink RX1 32 "VaultDoors$Vault" "doorCount" "I", Cond.methodLink RX3 136 yX1_copyFrom, Cond.instanceMethod yX1_copyFrom, Cond.selects RX1 yX1_copyFrom yX1_copyFrom, Cond.code yX1_copyFrom cX1_copyFrom 3 none, Cond.fieldLink RX1 28 "VaultDoors$Vault" "tick" "I", Cond.fieldLink RX1 11 "VaultDoors$Vault" "doors" "[LVaultDoors$Door;"]
def wsL_opens_r2 : List Cond := [Cond.fieldLink RX1 20 "VaultDoors$Vault" "voices" "LVaultDoors$Voices;", Cond.methodLink RX1 35 yX0_copyFrom, Cond.instanceMethod yX0_copyFrom, Cond.selects RX0 yX0_copyFrom yX0_copyFrom, Cond.initialized RX0, Cond.code yX0_copyFrom cX0_copyFrom 2 none, Cond.fieldLink RX0 27 "VaultDoors$Door" "secret" "I", Cond.fieldLink RX0 31 "VaultDoors$Door" "patience" "I", Cond.fieldLink RX0 34 "VaultDoors$Door" "rule" "I", Cond.fieldLink RX0 37 "VaultDoors$Door" "state" "I", Cond.fieldLink RX0 40 "VaultDoors$Door" "left" "I", Cond.fieldLink RX0 43 "VaultDoors$Door" "opened" "I", Cond.fieldLink RX0 46 "VaultDoors$Door" "barred" "I", Cond.fieldLink RX0 49 "VaultDoors$Door" "asked" "I", Cond.fieldLink RX0 9 "VaultDoors$Door" "other" "[I", Cond.methodLink RX0 52 arraycopyName, Cond.native arraycopyName, Cond.static arraycopyName, Cond.initialized "java/lang/System", Cond.fieldLink RX0 15 "VaultDoors$Door" "distance" "[I", Cond.fieldLink RX0 18 "VaultDoors$Door" "answer" "[I", Cond.fieldLink RX0 58 "VaultDoors$Door" "remembered" "I", Cond.fieldLink RX0 21 "VaultDoors$Door" "asker" "[I", Cond.fieldLink RX0 24 "VaultDoors$Door" "askerDistance" "[I"]
def wsL_opens_r3 : List Cond := [Cond.methodLink RX1 39 yX2_copyFrom, Cond.instanceMethod yX2_copyFrom, Cond.selects RX2 yX2_copyFrom yX2_copyFrom, Cond.initialized RX2, Cond.code yX2_copyFrom cX2_copyFrom 2 none, Cond.fieldLink RX2 27 "VaultDoors$Voices" "size" "I", Cond.fieldLink RX2 31 "VaultDoors$Voices" "lost" "I", Cond.fieldLink RX2 9 "VaultDoors$Voices" "from" "[I", Cond.methodLink RX2 34 arraycopyName, Cond.fieldLink RX2 15 "VaultDoors$Voices" "to" "[I", Cond.fieldLink RX2 18 "VaultDoors$Voices" "kind" "[I", Cond.fieldLink RX2 21 "VaultDoors$Voices" "left" "[I", Cond.fieldLink RX2 24 "VaultDoors$Voices" "distance" "[I", Cond.methodLink RX3 132 yX1_tickOn, Cond.instanceMethod yX1_tickOn, Cond.selects RX1 yX1_tickOn yX1_tickOn, Cond.code yX1_tickOn cX1_tickOn 3 (some .int), Cond.fieldLink RX1 24 "VaultDoors$Vault" "arrived" "LVaultDoors$Voices;", Cond.fieldLink RX1 71 "VaultDoors$Voices" "size" "I", Cond.fieldLink RX1 74 "VaultDoors$Voices" "from" "[I", Cond.fieldLink RX1 78 "VaultDoors$Voices" "to" "[I", Cond.fieldLink RX1 81 "VaultDoors$Voices" "kind" "[I", Cond.fieldLink RX1 84 "VaultDoors$Voices" "distance" "[I", Cond.fieldLink RX1 55 "VaultDoors$Door" "state" "I"]
def wsL_opens_r4 : List Cond := [Cond.methodLink RX1 65 yX0_spendTime, Cond.instanceMethod yX0_spendTime, Cond.selects RX0 yX0_spendTime yX0_spendTime, Cond.code yX0_spendTime cX0_spendTime 1 none, Cond.methodLink RX1 68 yX2_moveOn, Cond.instanceMethod yX2_moveOn, Cond.selects RX2 yX2_moveOn yX2_moveOn, Cond.code yX2_moveOn cX2_moveOn 4 none, Cond.methodLink RX2 40 yX2_add, Cond.instanceMethod yX2_add, Cond.selects RX2 yX2_add yX2_add, Cond.code yX2_add cX2_add 5 none, Cond.methodLink RX2 44 yX2_moveUp, Cond.instanceMethod yX2_moveUp, Cond.selects RX2 yX2_moveUp yX2_moveUp, Cond.code yX2_moveUp cX2_moveUp 3 none, Cond.methodLink RX1 87 yX1_hear, Cond.instanceMethod yX1_hear, Cond.selects RX1 yX1_hear yX1_hear, Cond.code yX1_hear cX1_hear 6 none, Cond.methodLink RX1 51 yX1_isDoor, Cond.methodLink RX1 94 yX0_takeAnswer, Cond.instanceMethod yX0_takeAnswer, Cond.selects RX0 yX0_takeAnswer yX0_takeAnswer]
def wsL_opens_r5 : List Cond := [Cond.code yX0_takeAnswer cX0_takeAnswer 4 none, Cond.methodLink RX0 61 yX0_placeOf, Cond.instanceMethod yX0_placeOf, Cond.selects RX0 yX0_placeOf yX0_placeOf, Cond.code yX0_placeOf cX0_placeOf 3 (some .int), Cond.methodLink RX1 98 yX2_add, Cond.methodLink RX1 61 yX1_wake, Cond.instanceMethod yX1_wake, Cond.selects RX1 yX1_wake yX1_wake, Cond.code yX1_wake cX1_wake 4 none, Cond.fieldLink RX1 107 "VaultDoors$Door" "asked" "I", Cond.fieldLink RX1 110 "VaultDoors$Door" "other" "[I", Cond.fieldLink RX1 113 "VaultDoors$Door" "distance" "[I", Cond.methodLink RX1 104 yX0_startWaiting, Cond.instanceMethod yX0_startWaiting, Cond.selects RX0 yX0_startWaiting yX0_startWaiting, Cond.code yX0_startWaiting cX0_startWaiting 1 none, Cond.methodLink RX1 101 yX0_remember, Cond.instanceMethod yX0_remember, Cond.selects RX0 yX0_remember yX0_remember, Cond.code yX0_remember cX0_remember 3 none, Cond.methodLink RX1 91 yX1_waitOn, Cond.instanceMethod yX1_waitOn, Cond.selects RX1 yX1_waitOn yX1_waitOn]
def wsL_opens_r6 : List Cond := [Cond.code yX1_waitOn cX1_waitOn 5 (some .boolean), Cond.fieldLink RX1 114 "VaultDoors$Door" "left" "I", Cond.fieldLink RX1 124 "VaultDoors$Door" "remembered" "I", Cond.fieldLink RX1 127 "VaultDoors$Door" "asker" "[I", Cond.fieldLink RX1 130 "VaultDoors$Door" "askerDistance" "[I", Cond.methodLink RX1 117 yX0_isReadyToDecide, Cond.instanceMethod yX0_isReadyToDecide, Cond.selects RX0 yX0_isReadyToDecide yX0_isReadyToDecide, Cond.code yX0_isReadyToDecide cX0_isReadyToDecide 1 (some .boolean), Cond.methodLink RX0 65 yX0_answersOf, Cond.instanceMethod yX0_answersOf, Cond.selects RX0 yX0_answersOf yX0_answersOf, Cond.code yX0_answersOf cX0_answersOf 4 (some .int), Cond.methodLink RX1 121 yX0_decide, Cond.instanceMethod yX0_decide, Cond.selects RX0 yX0_decide yX0_decide, Cond.code yX0_decide cX0_decide 1 none, Cond.methodLink RX0 68 yX0_isPersuaded, Cond.instanceMethod yX0_isPersuaded, Cond.selects RX0 yX0_isPersuaded yX0_isPersuaded, Cond.code yX0_isPersuaded cX0_isPersuaded 2 (some .boolean), Cond.methodLink RX0 72 yX0_open, Cond.instanceMethod yX0_open, Cond.selects RX0 yX0_open yX0_open]
def wsL_opens_r7 : List Cond := [Cond.code yX0_open cX0_open 1 none, Cond.methodLink RX0 75 yX0_bar, Cond.instanceMethod yX0_bar, Cond.selects RX0 yX0_bar yX0_bar, Cond.code yX0_bar cX0_bar 1 none, Cond.methodLink RX1 133 yX0_forget, Cond.instanceMethod yX0_forget, Cond.selects RX0 yX0_forget yX0_forget, Cond.code yX0_forget cX0_forget 2 none]
def wsL_opens : List Cond := .codeWith yL_opens cL_opens 4 (some .int) [(0, 9, 12, 20)] :: ((wsL_opens_r1 ++ (wsL_opens_r2 ++ (wsL_opens_r3 ++ (wsL_opens_r4 ++ (wsL_opens_r5 ++ (wsL_opens_r6 ++ wsL_opens_r7)))))) ++ wsX30 ++ wsX10 ++ wsX00 ++ wsX20 ++ (vx_atS RX3 59 "java/lang/IndexOutOfBoundsException" ["java/lang/RuntimeException", "java/lang/Exception"]).filter goodWord)
def wsL_would_r1 : List Cond := [Cond.classLink RL 20 "java/lang/IndexOutOfBoundsException", Cond.classLink RL 13 "java/lang/IllegalArgumentException", Cond.methodLink RL 52 yX3_would, Cond.instanceMethod yX3_would, Cond.selects RX3 yX3_would yX3_would, Cond.initialized RX3, Cond.code yX3_would cX3_would 3 (some .int), Cond.classLink RX3 55 "java/lang/IndexOutOfBoundsException", Cond.initialized "java/lang/IndexOutOfBoundsException", Cond.classLink RX3 23 "java/lang/IllegalArgumentException", Cond.initialized "java/lang/IllegalArgumentException", Cond.fieldLink RX3 10 "VaultDoors" "vault" "LVaultDoors$Vault;", Cond.methodLink RX3 52 yX1_isDoor, Cond.instanceMethod yX1_isDoor, Cond.selects RX1 yX1_isDoor yX1_isDoor, Cond.initialized RX1, Cond.code yX1_isDoor cX1_isDoor 2 (some .boolean), Cond.fieldLink RX1 32 "VaultDoors$Vault" "doorCount" "I", Cond.methodLink RX3 19 yX3_isIn, Cond.static yX3_isIn, Cond.code yX3_isIn cX3_isIn 3 (some .boolean), Cond.methodLink RX3 142 yX3_openedByWhisper, Cond.instanceMethod yX3_openedByWhisper, Cond.selects RX3 yX3_openedByWhisper yX3_openedByWhisper]
def wsL_would_r2 : List Cond := [Cond.code yX3_openedByWhisper cX3_openedByWhisper 5 (some .int), Cond.fieldLink RX3 16 "VaultDoors" "trial" "LVaultDoors$Vault;", Cond.fieldLink RX3 62 "VaultDoors$Vault" "doors" "[LVaultDoors$Door;", Cond.fieldLink RX3 166 "VaultDoors$Door" "secret" "I", Cond.methodLink RX3 136 yX1_copyFrom, Cond.instanceMethod yX1_copyFrom, Cond.selects RX1 yX1_copyFrom yX1_copyFrom, Cond.code yX1_copyFrom cX1_copyFrom 3 none, Cond.fieldLink RX1 28 "VaultDoors$Vault" "tick" "I", Cond.fieldLink RX1 11 "VaultDoors$Vault" "doors" "[LVaultDoors$Door;", Cond.fieldLink RX1 20 "VaultDoors$Vault" "voices" "LVaultDoors$Voices;", Cond.methodLink RX1 35 yX0_copyFrom, Cond.instanceMethod yX0_copyFrom, Cond.selects RX0 yX0_copyFrom yX0_copyFrom, Cond.initialized RX0, Cond.code yX0_copyFrom cX0_copyFrom 2 none, Cond.fieldLink RX0 27 "VaultDoors$Door" "secret" "I", Cond.fieldLink RX0 31 "VaultDoors$Door" "patience" "I", Cond.fieldLink RX0 34 "VaultDoors$Door" "rule" "I", Cond.fieldLink RX0 37 "VaultDoors$Door" "state" "I", Cond.fieldLink RX0 40 "VaultDoors$Door" "left" "I", Cond.fieldLink RX0 43 "VaultDoors$Door" "opened" "I", Cond.fieldLink RX0 46 "VaultDoors$Door" "barred" "I", Cond.fieldLink RX0 49 "VaultDoors$Door" "asked" "I"]
def wsL_would_r3 : List Cond := [Cond.fieldLink RX0 9 "VaultDoors$Door" "other" "[I", Cond.methodLink RX0 52 arraycopyName, Cond.native arraycopyName, Cond.static arraycopyName, Cond.initialized "java/lang/System", Cond.fieldLink RX0 15 "VaultDoors$Door" "distance" "[I", Cond.fieldLink RX0 18 "VaultDoors$Door" "answer" "[I", Cond.fieldLink RX0 58 "VaultDoors$Door" "remembered" "I", Cond.fieldLink RX0 21 "VaultDoors$Door" "asker" "[I", Cond.fieldLink RX0 24 "VaultDoors$Door" "askerDistance" "[I", Cond.methodLink RX1 39 yX2_copyFrom, Cond.instanceMethod yX2_copyFrom, Cond.selects RX2 yX2_copyFrom yX2_copyFrom, Cond.initialized RX2, Cond.code yX2_copyFrom cX2_copyFrom 2 none, Cond.fieldLink RX2 27 "VaultDoors$Voices" "size" "I", Cond.fieldLink RX2 31 "VaultDoors$Voices" "lost" "I", Cond.fieldLink RX2 9 "VaultDoors$Voices" "from" "[I", Cond.methodLink RX2 34 arraycopyName, Cond.fieldLink RX2 15 "VaultDoors$Voices" "to" "[I", Cond.fieldLink RX2 18 "VaultDoors$Voices" "kind" "[I", Cond.fieldLink RX2 21 "VaultDoors$Voices" "left" "[I", Cond.fieldLink RX2 24 "VaultDoors$Voices" "distance" "[I", Cond.methodLink RX3 94 yX1_hearToken]
def wsL_would_r4 : List Cond := [Cond.instanceMethod yX1_hearToken, Cond.selects RX1 yX1_hearToken yX1_hearToken, Cond.code yX1_hearToken cX1_hearToken 3 (some .boolean), Cond.fieldLink RX1 55 "VaultDoors$Door" "state" "I", Cond.fieldLink RX1 42 "VaultDoors$Door" "secret" "I", Cond.methodLink RX1 51 yX1_isDoor, Cond.methodLink RX1 58 yX0_bar, Cond.instanceMethod yX0_bar, Cond.selects RX0 yX0_bar yX0_bar, Cond.code yX0_bar cX0_bar 1 none, Cond.methodLink RX1 61 yX1_wake, Cond.instanceMethod yX1_wake, Cond.selects RX1 yX1_wake yX1_wake, Cond.code yX1_wake cX1_wake 4 none, Cond.fieldLink RX1 107 "VaultDoors$Door" "asked" "I", Cond.fieldLink RX1 110 "VaultDoors$Door" "other" "[I", Cond.fieldLink RX1 113 "VaultDoors$Door" "distance" "[I", Cond.methodLink RX1 104 yX0_startWaiting, Cond.instanceMethod yX0_startWaiting, Cond.selects RX0 yX0_startWaiting yX0_startWaiting, Cond.code yX0_startWaiting cX0_startWaiting 1 none, Cond.methodLink RX1 98 yX2_add, Cond.instanceMethod yX2_add, Cond.selects RX2 yX2_add yX2_add]
def wsL_would_r5 : List Cond := [Cond.code yX2_add cX2_add 5 none, Cond.methodLink RX3 132 yX1_tickOn, Cond.instanceMethod yX1_tickOn, Cond.selects RX1 yX1_tickOn yX1_tickOn, Cond.code yX1_tickOn cX1_tickOn 3 (some .int), Cond.fieldLink RX1 24 "VaultDoors$Vault" "arrived" "LVaultDoors$Voices;", Cond.fieldLink RX1 71 "VaultDoors$Voices" "size" "I", Cond.fieldLink RX1 74 "VaultDoors$Voices" "from" "[I", Cond.fieldLink RX1 78 "VaultDoors$Voices" "to" "[I", Cond.fieldLink RX1 81 "VaultDoors$Voices" "kind" "[I", Cond.fieldLink RX1 84 "VaultDoors$Voices" "distance" "[I", Cond.methodLink RX1 65 yX0_spendTime, Cond.instanceMethod yX0_spendTime, Cond.selects RX0 yX0_spendTime yX0_spendTime, Cond.code yX0_spendTime cX0_spendTime 1 none, Cond.methodLink RX1 68 yX2_moveOn, Cond.instanceMethod yX2_moveOn, Cond.selects RX2 yX2_moveOn yX2_moveOn, Cond.code yX2_moveOn cX2_moveOn 4 none, Cond.methodLink RX2 40 yX2_add, Cond.methodLink RX2 44 yX2_moveUp, Cond.instanceMethod yX2_moveUp, Cond.selects RX2 yX2_moveUp yX2_moveUp, Cond.code yX2_moveUp cX2_moveUp 3 none]
def wsL_would_r6 : List Cond := [Cond.methodLink RX1 87 yX1_hear, Cond.instanceMethod yX1_hear, Cond.selects RX1 yX1_hear yX1_hear, Cond.code yX1_hear cX1_hear 6 none, Cond.methodLink RX1 94 yX0_takeAnswer, Cond.instanceMethod yX0_takeAnswer, Cond.selects RX0 yX0_takeAnswer yX0_takeAnswer, Cond.code yX0_takeAnswer cX0_takeAnswer 4 none, Cond.methodLink RX0 61 yX0_placeOf, Cond.instanceMethod yX0_placeOf, Cond.selects RX0 yX0_placeOf yX0_placeOf, Cond.code yX0_placeOf cX0_placeOf 3 (some .int), Cond.methodLink RX1 101 yX0_remember, Cond.instanceMethod yX0_remember, Cond.selects RX0 yX0_remember yX0_remember, Cond.code yX0_remember cX0_remember 3 none, Cond.methodLink RX1 91 yX1_waitOn, Cond.instanceMethod yX1_waitOn, Cond.selects RX1 yX1_waitOn yX1_waitOn, Cond.code yX1_waitOn cX1_waitOn 5 (some .boolean), Cond.fieldLink RX1 114 "VaultDoors$Door" "left" "I", Cond.fieldLink RX1 124 "VaultDoors$Door" "remembered" "I", Cond.fieldLink RX1 127 "VaultDoors$Door" "asker" "[I", Cond.fieldLink RX1 130 "VaultDoors$Door" "askerDistance" "[I"]
def wsL_would_r7 : List Cond := [Cond.methodLink RX1 117 yX0_isReadyToDecide, Cond.instanceMethod yX0_isReadyToDecide, Cond.selects RX0 yX0_isReadyToDecide yX0_isReadyToDecide, Cond.code yX0_isReadyToDecide cX0_isReadyToDecide 1 (some .boolean), Cond.methodLink RX0 65 yX0_answersOf, Cond.instanceMethod yX0_answersOf, Cond.selects RX0 yX0_answersOf yX0_answersOf, Cond.code yX0_answersOf cX0_answersOf 4 (some .int), Cond.methodLink RX1 121 yX0_decide, Cond.instanceMethod yX0_decide, Cond.selects RX0 yX0_decide yX0_decide, Cond.code yX0_decide cX0_decide 1 none, Cond.methodLink RX0 68 yX0_isPersuaded, Cond.instanceMethod yX0_isPersuaded, Cond.selects RX0 yX0_isPersuaded yX0_isPersuaded, Cond.code yX0_isPersuaded cX0_isPersuaded 2 (some .boolean), Cond.methodLink RX0 72 yX0_open, Cond.instanceMethod yX0_open, Cond.selects RX0 yX0_open yX0_open, Cond.code yX0_open cX0_open 1 none, Cond.methodLink RX0 75 yX0_bar, Cond.methodLink RX1 133 yX0_forget, Cond.instanceMethod yX0_forget, Cond.selects RX0 yX0_forget yX0_forget]
def wsL_would_r8 : List Cond := [Cond.code yX0_forget cX0_forget 2 none, Cond.methodLink RX3 169 yX1_openDoors, Cond.instanceMethod yX1_openDoors, Cond.selects RX1 yX1_openDoors yX1_openDoors, Cond.code yX1_openDoors cX1_openDoors 3 (some .int)]
def wsL_would : List Cond := .codeWith yL_would cL_would 5 (some .int) [(0, 10, 13, 20), (0, 10, 17, 13)] :: ((wsL_would_r1 ++ (wsL_would_r2 ++ (wsL_would_r3 ++ (wsL_would_r4 ++ (wsL_would_r5 ++ (wsL_would_r6 ++ (wsL_would_r7 ++ wsL_would_r8))))))) ++ wsX30 ++ wsX10 ++ wsX00 ++ wsX20 ++ (vx_atS RX3 59 "java/lang/IndexOutOfBoundsException" ["java/lang/RuntimeException", "java/lang/Exception"]).filter goodWord ++ (vx_atS RX3 27 "java/lang/IllegalArgumentException" ["java/lang/RuntimeException", "java/lang/Exception"]).filter goodWord)
def wsL_best_r1 : List Cond := [Cond.classLink RL 13 "java/lang/IllegalArgumentException", Cond.methodLink RL 55 yX3_best, Cond.instanceMethod yX3_best, Cond.selects RX3 yX3_best yX3_best, Cond.initialized RX3, Cond.code yX3_best cX3_best 6 (some .int), Cond.classLink RX3 23 "java/lang/IllegalArgumentException", Cond.initialized "java/lang/IllegalArgumentException", Cond.fieldLink RX3 10 "VaultDoors" "vault" "LVaultDoors$Vault;", Cond.fieldLink RX3 39 "VaultDoors$Vault" "doorCount" "I", Cond.methodLink RX3 19 yX3_isIn, Cond.static yX3_isIn, Cond.code yX3_isIn cX3_isIn 3 (some .boolean), Cond.methodLink RX3 142 yX3_openedByWhisper, Cond.instanceMethod yX3_openedByWhisper, Cond.selects RX3 yX3_openedByWhisper yX3_openedByWhisper, Cond.code yX3_openedByWhisper cX3_openedByWhisper 5 (some .int), Cond.fieldLink RX3 16 "VaultDoors" "trial" "LVaultDoors$Vault;", Cond.fieldLink RX3 62 "VaultDoors$Vault" "doors" "[LVaultDoors$Door;", Cond.fieldLink RX3 166 "VaultDoors$Door" "secret" "I", Cond.methodLink RX3 136 yX1_copyFrom, Cond.instanceMethod yX1_copyFrom, Cond.selects RX1 yX1_copyFrom yX1_copyFrom, Cond.initialized RX1]
def wsL_best_r2 : List Cond := [Cond.code yX1_copyFrom cX1_copyFrom 3 none, Cond.fieldLink RX1 28 "VaultDoors$Vault" "tick" "I", Cond.fieldLink RX1 32 "VaultDoors$Vault" "doorCount" "I", Cond.fieldLink RX1 11 "VaultDoors$Vault" "doors" "[LVaultDoors$Door;", Cond.fieldLink RX1 20 "VaultDoors$Vault" "voices" "LVaultDoors$Voices;", Cond.methodLink RX1 35 yX0_copyFrom, Cond.instanceMethod yX0_copyFrom, Cond.selects RX0 yX0_copyFrom yX0_copyFrom, Cond.initialized RX0, Cond.code yX0_copyFrom cX0_copyFrom 2 none, Cond.fieldLink RX0 27 "VaultDoors$Door" "secret" "I", Cond.fieldLink RX0 31 "VaultDoors$Door" "patience" "I", Cond.fieldLink RX0 34 "VaultDoors$Door" "rule" "I", Cond.fieldLink RX0 37 "VaultDoors$Door" "state" "I", Cond.fieldLink RX0 40 "VaultDoors$Door" "left" "I", Cond.fieldLink RX0 43 "VaultDoors$Door" "opened" "I", Cond.fieldLink RX0 46 "VaultDoors$Door" "barred" "I", Cond.fieldLink RX0 49 "VaultDoors$Door" "asked" "I", Cond.fieldLink RX0 9 "VaultDoors$Door" "other" "[I", Cond.methodLink RX0 52 arraycopyName, Cond.native arraycopyName, Cond.static arraycopyName, Cond.initialized "java/lang/System", Cond.fieldLink RX0 15 "VaultDoors$Door" "distance" "[I"]
def wsL_best_r3 : List Cond := [Cond.fieldLink RX0 18 "VaultDoors$Door" "answer" "[I", Cond.fieldLink RX0 58 "VaultDoors$Door" "remembered" "I", Cond.fieldLink RX0 21 "VaultDoors$Door" "asker" "[I", Cond.fieldLink RX0 24 "VaultDoors$Door" "askerDistance" "[I", Cond.methodLink RX1 39 yX2_copyFrom, Cond.instanceMethod yX2_copyFrom, Cond.selects RX2 yX2_copyFrom yX2_copyFrom, Cond.initialized RX2, Cond.code yX2_copyFrom cX2_copyFrom 2 none, Cond.fieldLink RX2 27 "VaultDoors$Voices" "size" "I", Cond.fieldLink RX2 31 "VaultDoors$Voices" "lost" "I", Cond.fieldLink RX2 9 "VaultDoors$Voices" "from" "[I", Cond.methodLink RX2 34 arraycopyName, Cond.fieldLink RX2 15 "VaultDoors$Voices" "to" "[I", Cond.fieldLink RX2 18 "VaultDoors$Voices" "kind" "[I", Cond.fieldLink RX2 21 "VaultDoors$Voices" "left" "[I", Cond.fieldLink RX2 24 "VaultDoors$Voices" "distance" "[I", Cond.methodLink RX3 94 yX1_hearToken, Cond.instanceMethod yX1_hearToken, Cond.selects RX1 yX1_hearToken yX1_hearToken, Cond.code yX1_hearToken cX1_hearToken 3 (some .boolean), Cond.fieldLink RX1 55 "VaultDoors$Door" "state" "I", Cond.fieldLink RX1 42 "VaultDoors$Door" "secret" "I", Cond.methodLink RX1 51 yX1_isDoor]
def wsL_best_r4 : List Cond := [Cond.instanceMethod yX1_isDoor, Cond.selects RX1 yX1_isDoor yX1_isDoor, Cond.code yX1_isDoor cX1_isDoor 2 (some .boolean), Cond.methodLink RX1 58 yX0_bar, Cond.instanceMethod yX0_bar, Cond.selects RX0 yX0_bar yX0_bar, Cond.code yX0_bar cX0_bar 1 none, Cond.methodLink RX1 61 yX1_wake, Cond.instanceMethod yX1_wake, Cond.selects RX1 yX1_wake yX1_wake, Cond.code yX1_wake cX1_wake 4 none, Cond.fieldLink RX1 107 "VaultDoors$Door" "asked" "I", Cond.fieldLink RX1 110 "VaultDoors$Door" "other" "[I", Cond.fieldLink RX1 113 "VaultDoors$Door" "distance" "[I", Cond.methodLink RX1 104 yX0_startWaiting, Cond.instanceMethod yX0_startWaiting, Cond.selects RX0 yX0_startWaiting yX0_startWaiting, Cond.code yX0_startWaiting cX0_startWaiting 1 none, Cond.methodLink RX1 98 yX2_add, Cond.instanceMethod yX2_add, Cond.selects RX2 yX2_add yX2_add, Cond.code yX2_add cX2_add 5 none, Cond.methodLink RX3 132 yX1_tickOn, Cond.instanceMethod yX1_tickOn]
def wsL_best_r5 : List Cond := [Cond.selects RX1 yX1_tickOn yX1_tickOn, Cond.code yX1_tickOn cX1_tickOn 3 (some .int), Cond.fieldLink RX1 24 "VaultDoors$Vault" "arrived" "LVaultDoors$Voices;", Cond.fieldLink RX1 71 "VaultDoors$Voices" "size" "I", Cond.fieldLink RX1 74 "VaultDoors$Voices" "from" "[I", Cond.fieldLink RX1 78 "VaultDoors$Voices" "to" "[I", Cond.fieldLink RX1 81 "VaultDoors$Voices" "kind" "[I", Cond.fieldLink RX1 84 "VaultDoors$Voices" "distance" "[I", Cond.methodLink RX1 65 yX0_spendTime, Cond.instanceMethod yX0_spendTime, Cond.selects RX0 yX0_spendTime yX0_spendTime, Cond.code yX0_spendTime cX0_spendTime 1 none, Cond.methodLink RX1 68 yX2_moveOn, Cond.instanceMethod yX2_moveOn, Cond.selects RX2 yX2_moveOn yX2_moveOn, Cond.code yX2_moveOn cX2_moveOn 4 none, Cond.methodLink RX2 40 yX2_add, Cond.methodLink RX2 44 yX2_moveUp, Cond.instanceMethod yX2_moveUp, Cond.selects RX2 yX2_moveUp yX2_moveUp, Cond.code yX2_moveUp cX2_moveUp 3 none, Cond.methodLink RX1 87 yX1_hear, Cond.instanceMethod yX1_hear, Cond.selects RX1 yX1_hear yX1_hear]
def wsL_best_r6 : List Cond := [Cond.code yX1_hear cX1_hear 6 none, Cond.methodLink RX1 94 yX0_takeAnswer, Cond.instanceMethod yX0_takeAnswer, Cond.selects RX0 yX0_takeAnswer yX0_takeAnswer, Cond.code yX0_takeAnswer cX0_takeAnswer 4 none, Cond.methodLink RX0 61 yX0_placeOf, Cond.instanceMethod yX0_placeOf, Cond.selects RX0 yX0_placeOf yX0_placeOf, Cond.code yX0_placeOf cX0_placeOf 3 (some .int), Cond.methodLink RX1 101 yX0_remember, Cond.instanceMethod yX0_remember, Cond.selects RX0 yX0_remember yX0_remember, Cond.code yX0_remember cX0_remember 3 none, Cond.methodLink RX1 91 yX1_waitOn, Cond.instanceMethod yX1_waitOn, Cond.selects RX1 yX1_waitOn yX1_waitOn, Cond.code yX1_waitOn cX1_waitOn 5 (some .boolean), Cond.fieldLink RX1 114 "VaultDoors$Door" "left" "I", Cond.fieldLink RX1 124 "VaultDoors$Door" "remembered" "I", Cond.fieldLink RX1 127 "VaultDoors$Door" "asker" "[I", Cond.fieldLink RX1 130 "VaultDoors$Door" "askerDistance" "[I", Cond.methodLink RX1 117 yX0_isReadyToDecide, Cond.instanceMethod yX0_isReadyToDecide, Cond.selects RX0 yX0_isReadyToDecide yX0_isReadyToDecide]
def wsL_best_r7 : List Cond := [Cond.code yX0_isReadyToDecide cX0_isReadyToDecide 1 (some .boolean), Cond.methodLink RX0 65 yX0_answersOf, Cond.instanceMethod yX0_answersOf, Cond.selects RX0 yX0_answersOf yX0_answersOf, Cond.code yX0_answersOf cX0_answersOf 4 (some .int), Cond.methodLink RX1 121 yX0_decide, Cond.instanceMethod yX0_decide, Cond.selects RX0 yX0_decide yX0_decide, Cond.code yX0_decide cX0_decide 1 none, Cond.methodLink RX0 68 yX0_isPersuaded, Cond.instanceMethod yX0_isPersuaded, Cond.selects RX0 yX0_isPersuaded yX0_isPersuaded, Cond.code yX0_isPersuaded cX0_isPersuaded 2 (some .boolean), Cond.methodLink RX0 72 yX0_open, Cond.instanceMethod yX0_open, Cond.selects RX0 yX0_open yX0_open, Cond.code yX0_open cX0_open 1 none, Cond.methodLink RX0 75 yX0_bar, Cond.methodLink RX1 133 yX0_forget, Cond.instanceMethod yX0_forget, Cond.selects RX0 yX0_forget yX0_forget, Cond.code yX0_forget cX0_forget 2 none, Cond.methodLink RX3 169 yX1_openDoors, Cond.instanceMethod yX1_openDoors]
def wsL_best_r8 : List Cond := [Cond.selects RX1 yX1_openDoors yX1_openDoors, Cond.code yX1_openDoors cX1_openDoors 3 (some .int), Cond.methodLink RX3 147 yJ6_bitCount_0f7a4, Cond.static yJ6_bitCount_0f7a4, Cond.initialized RJ6, Cond.code yJ6_bitCount_0f7a4 cJ6_bitCount_0f7a4 1 (some .int), Cond.constant RJ6 265 (1431655765), Cond.constant RJ6 266 (858993459), Cond.constant RJ6 267 (252645135)]
def wsL_best : List Cond := .codeWith yL_best cL_best 4 (some .int) [(0, 9, 12, 13)] :: ((wsL_best_r1 ++ (wsL_best_r2 ++ (wsL_best_r3 ++ (wsL_best_r4 ++ (wsL_best_r5 ++ (wsL_best_r6 ++ (wsL_best_r7 ++ wsL_best_r8))))))) ++ wsX30 ++ wsX10 ++ wsX00 ++ wsX20 ++ (vx_atS RX3 27 "java/lang/IllegalArgumentException" ["java/lang/RuntimeException", "java/lang/Exception"]).filter goodWord)
def wsL_law0_r1 : List Cond := [Cond.classLink RL 8 RX3, Cond.instantiable RX3 2, Cond.initialized RX3, Cond.classLink RL 59 RX4, Cond.instantiable RX4 8, Cond.initialized RX4, Cond.arrayClass .long, Cond.methodLink RL 58 yX3_init, Cond.instanceMethod yX3_init, Cond.code yX3_init cX3_init 1 none, Cond.methodLink RX3 1 objectInit, Cond.instanceMethod objectInit, Cond.code objectInit ⟨#[0xb1]⟩ 1 none, Cond.classLink RX3 7 RX1, Cond.instantiable RX1 5, Cond.initialized RX1, Cond.fieldLink RX3 10 "VaultDoors" "vault" "LVaultDoors$Vault;", Cond.fieldLink RX3 16 "VaultDoors" "trial" "LVaultDoors$Vault;", Cond.methodLink RX3 9 yX1_init, Cond.instanceMethod yX1_init, Cond.code yX1_init cX1_init 2 none, Cond.methodLink RX1 3 objectInit, Cond.classLink RX1 9 RX0, Cond.fieldLink RX1 11 "VaultDoors$Vault" "doors" "[LVaultDoors$Door;"]
def wsL_law0_r2 : List Cond := [Cond.classLink RX1 17 RX2, Cond.instantiable RX2 7, Cond.initialized RX2, Cond.fieldLink RX1 20 "VaultDoors$Vault" "voices" "LVaultDoors$Voices;", Cond.fieldLink RX1 24 "VaultDoors$Vault" "arrived" "LVaultDoors$Voices;", Cond.instantiable RX0 14, Cond.initialized RX0, Cond.instanceMethod yX2_init, Cond.code yX2_init cX2_init 1 none, Cond.methodLink RX2 3 objectInit, Cond.arrayClass .int, Cond.fieldLink RX2 9 "VaultDoors$Voices" "from" "[I", Cond.fieldLink RX2 15 "VaultDoors$Voices" "to" "[I", Cond.fieldLink RX2 18 "VaultDoors$Voices" "kind" "[I", Cond.fieldLink RX2 21 "VaultDoors$Voices" "left" "[I", Cond.fieldLink RX2 24 "VaultDoors$Voices" "distance" "[I", Cond.instanceMethod yX0_init, Cond.code yX0_init cX0_init 1 none, Cond.methodLink RX0 3 objectInit, Cond.fieldLink RX0 9 "VaultDoors$Door" "other" "[I", Cond.fieldLink RX0 15 "VaultDoors$Door" "distance" "[I", Cond.fieldLink RX0 18 "VaultDoors$Door" "answer" "[I", Cond.fieldLink RX0 21 "VaultDoors$Door" "asker" "[I", Cond.fieldLink RX0 24 "VaultDoors$Door" "askerDistance" "[I"]
def wsL_law0_r3 : List Cond := [Cond.methodLink RL 61 yX4_init, Cond.instanceMethod yX4_init, Cond.code yX4_init cX4_init 1 none, Cond.methodLink RX4 1 objectInit, Cond.fieldLink RX4 9 "VaultDoorsModel" "vault" "[I", Cond.fieldLink RX4 13 "VaultDoorsModel" "links" "[I", Cond.fieldLink RX4 16 "VaultDoorsModel" "memory" "[I", Cond.fieldLink RX4 19 "VaultDoorsModel" "voices" "[I", Cond.fieldLink RX4 22 "VaultDoorsModel" "numbers" "[I", Cond.fieldLink RX4 25 "VaultDoorsModel" "heard" "[I", Cond.methodLink RL 62 yL_build, Cond.static yL_build, Cond.initialized RL, Cond.codeWith yL_build cL_build 6 (some .int) [(0, 12, 15, 13), (0, 12, 19, 15)], Cond.classLink RL 13 "java/lang/IllegalArgumentException", Cond.classLink RL 15 "java/lang/IllegalStateException", Cond.methodLink RL 7 yX3_build, Cond.instanceMethod yX3_build, Cond.selects RX3 yX3_build yX3_build, Cond.code yX3_build cX3_build 4 (some .int), Cond.classLink RX3 23 "java/lang/IllegalArgumentException", Cond.initialized "java/lang/IllegalArgumentException", Cond.classLink RX3 43 "java/lang/IllegalStateException", Cond.initialized "java/lang/IllegalStateException"]
def wsL_law0_r4 : List Cond := [Cond.fieldLink RX3 39 "VaultDoors$Vault" "doorCount" "I", Cond.methodLink RX3 19 yX3_isIn, Cond.static yX3_isIn, Cond.code yX3_isIn cX3_isIn 3 (some .boolean), Cond.methodLink RX3 30 yX3_isPatience, Cond.static yX3_isPatience, Cond.code yX3_isPatience cX3_isPatience 1 (some .boolean), Cond.methodLink RX3 34 yX3_isRule, Cond.static yX3_isRule, Cond.code yX3_isRule cX3_isRule 1 (some .boolean), Cond.methodLink RX3 48 yX1_addDoor, Cond.instanceMethod yX1_addDoor, Cond.selects RX1 yX1_addDoor yX1_addDoor, Cond.code yX1_addDoor cX1_addDoor 5 (some .int), Cond.fieldLink RX1 32 "VaultDoors$Vault" "doorCount" "I", Cond.fieldLink RX1 42 "VaultDoors$Door" "secret" "I", Cond.fieldLink RX1 45 "VaultDoors$Door" "patience" "I", Cond.fieldLink RX1 48 "VaultDoors$Door" "rule" "I", Cond.methodLink RL 67 yX4_build, Cond.instanceMethod yX4_build, Cond.selects RX4 yX4_build yX4_build, Cond.code yX4_build cX4_build 5 (some .int), Cond.fieldLink RX4 28 "VaultDoorsModel" "thrown" "I", Cond.fieldLink RX4 32 "VaultDoorsModel" "doors" "I"]
def wsL_law0_r5 : List Cond := [Cond.methodLink RX4 43 arraycopyName, Cond.native arraycopyName, Cond.static arraycopyName, Cond.initialized "java/lang/System", Cond.methodLink RX4 35 yX4_isIn, Cond.static yX4_isIn, Cond.code yX4_isIn cX4_isIn 3 (some .boolean), Cond.methodLink RX4 39 yX4_fail, Cond.instanceMethod yX4_fail, Cond.selects RX4 yX4_fail yX4_fail, Cond.code yX4_fail cX4_fail 2 (some .int), Cond.methodLink RL 68 yX4_thrown, Cond.instanceMethod yX4_thrown, Cond.selects RX4 yX4_thrown yX4_thrown, Cond.code yX4_thrown cX4_thrown 1 (some .int), Cond.methodLink RL 72 yL_ask, Cond.static yL_ask, Cond.codeWith yL_ask cL_ask 6 (some .int) [(0, 12, 15, 20), (0, 12, 19, 13), (0, 12, 23, 15)], Cond.classLink RL 20 "java/lang/IndexOutOfBoundsException", Cond.methodLink RL 17 yX3_ask, Cond.instanceMethod yX3_ask, Cond.selects RX3 yX3_ask yX3_ask, Cond.code yX3_ask cX3_ask 5 (some .int), Cond.classLink RX3 55 "java/lang/IndexOutOfBoundsException"]
def wsL_law0_r6 : List Cond := [Cond.initialized "java/lang/IndexOutOfBoundsException", Cond.fieldLink RX3 62 "VaultDoors$Vault" "doors" "[LVaultDoors$Door;", Cond.fieldLink RX3 66 "VaultDoors$Door" "state" "I", Cond.fieldLink RX3 75 "VaultDoors$Door" "asked" "I", Cond.methodLink RX3 52 yX1_isDoor, Cond.instanceMethod yX1_isDoor, Cond.selects RX1 yX1_isDoor yX1_isDoor, Cond.code yX1_isDoor cX1_isDoor 2 (some .boolean), Cond.methodLink RX3 71 yX0_placeOf, Cond.instanceMethod yX0_placeOf, Cond.selects RX0 yX0_placeOf yX0_placeOf, Cond.code yX0_placeOf cX0_placeOf 3 (some .int), Cond.fieldLink RX0 49 "VaultDoors$Door" "asked" "I", Cond.methodLink RX3 80 yX0_addAsked, Cond.instanceMethod yX0_addAsked, Cond.selects RX0 yX0_addAsked yX0_addAsked, Cond.code yX0_addAsked cX0_addAsked 3 none, Cond.methodLink RL 74 yX4_ask, Cond.instanceMethod yX4_ask, Cond.selects RX4 yX4_ask yX4_ask, Cond.code yX4_ask cX4_ask 5 (some .int), Cond.methodLink RX4 57 yX4_isDoor, Cond.instanceMethod yX4_isDoor, Cond.selects RX4 yX4_isDoor yX4_isDoor]
def wsL_law0_r7 : List Cond := [Cond.code yX4_isDoor cX4_isDoor 2 (some .boolean), Cond.methodLink RX4 49 yX4_va, Cond.instanceMethod yX4_va, Cond.selects RX4 yX4_va yX4_va, Cond.code yX4_va cX4_va 3 (some .int), Cond.methodLink RX4 61 yX4_place, Cond.instanceMethod yX4_place, Cond.selects RX4 yX4_place yX4_place, Cond.code yX4_place cX4_place 4 (some .int), Cond.methodLink RX4 53 yX4_li, Cond.instanceMethod yX4_li, Cond.selects RX4 yX4_li yX4_li, Cond.code yX4_li cX4_li 4 (some .int), Cond.methodLink RX4 64 yX4_setLink, Cond.instanceMethod yX4_setLink, Cond.selects RX4 yX4_setLink yX4_setLink, Cond.code yX4_setLink cX4_setLink 5 none, Cond.methodLink RX4 68 yX4_put, Cond.instanceMethod yX4_put, Cond.selects RX4 yX4_put yX4_put, Cond.code yX4_put cX4_put 4 none, Cond.methodLink RL 75 yL_set, Cond.static yL_set, Cond.codeWith yL_set cL_set 6 (some .int) [(0, 12, 15, 20), (0, 12, 19, 13)]]
def wsL_law0_r8 : List Cond := [Cond.methodLink RL 22 yX3_set, Cond.instanceMethod yX3_set, Cond.selects RX3 yX3_set yX3_set, Cond.code yX3_set cX3_set 6 (some .int), Cond.fieldLink RX3 86 "VaultDoors$Door" "rule" "I", Cond.fieldLink RX3 89 "VaultDoors$Door" "patience" "I", Cond.methodLink RL 77 yX4_set, Cond.instanceMethod yX4_set, Cond.selects RX4 yX4_set yX4_set, Cond.code yX4_set cX4_set 5 (some .int), Cond.methodLink RL 78 yL_whisper, Cond.static yL_whisper, Cond.codeWith yL_whisper cL_whisper 5 (some .int) [(0, 17, 20, 20), (0, 17, 24, 13)], Cond.methodLink RL 25 yX3_whisper, Cond.instanceMethod yX3_whisper, Cond.selects RX3 yX3_whisper yX3_whisper, Cond.code yX3_whisper cX3_whisper 3 (some .boolean), Cond.methodLink RX3 94 yX1_hearToken, Cond.instanceMethod yX1_hearToken, Cond.selects RX1 yX1_hearToken yX1_hearToken, Cond.code yX1_hearToken cX1_hearToken 3 (some .boolean), Cond.fieldLink RX1 55 "VaultDoors$Door" "state" "I", Cond.methodLink RX1 51 yX1_isDoor, Cond.methodLink RX1 58 yX0_bar]
def wsL_law0_r9 : List Cond := [Cond.instanceMethod yX0_bar, Cond.selects RX0 yX0_bar yX0_bar, Cond.code yX0_bar cX0_bar 1 none, Cond.fieldLink RX0 37 "VaultDoors$Door" "state" "I", Cond.fieldLink RX0 40 "VaultDoors$Door" "left" "I", Cond.fieldLink RX0 46 "VaultDoors$Door" "barred" "I", Cond.methodLink RX1 61 yX1_wake, Cond.instanceMethod yX1_wake, Cond.selects RX1 yX1_wake yX1_wake, Cond.code yX1_wake cX1_wake 4 none, Cond.fieldLink RX1 107 "VaultDoors$Door" "asked" "I", Cond.fieldLink RX1 110 "VaultDoors$Door" "other" "[I", Cond.fieldLink RX1 113 "VaultDoors$Door" "distance" "[I", Cond.methodLink RX1 104 yX0_startWaiting, Cond.instanceMethod yX0_startWaiting, Cond.selects RX0 yX0_startWaiting yX0_startWaiting, Cond.code yX0_startWaiting cX0_startWaiting 1 none, Cond.fieldLink RX0 31 "VaultDoors$Door" "patience" "I", Cond.methodLink RX1 98 yX2_add, Cond.instanceMethod yX2_add, Cond.selects RX2 yX2_add yX2_add, Cond.code yX2_add cX2_add 5 none, Cond.fieldLink RX2 27 "VaultDoors$Voices" "size" "I", Cond.fieldLink RX2 31 "VaultDoors$Voices" "lost" "I"]
def wsL_law0_r10 : List Cond := [Cond.methodLink RL 81 yX4_whisper, Cond.instanceMethod yX4_whisper, Cond.selects RX4 yX4_whisper yX4_whisper, Cond.code yX4_whisper cX4_whisper 4 (some .boolean), Cond.methodLink RX4 78 yX4_wake, Cond.instanceMethod yX4_wake, Cond.selects RX4 yX4_wake yX4_wake, Cond.code yX4_wake cX4_wake 3 none, Cond.methodLink RX4 72 yX4_state, Cond.instanceMethod yX4_state, Cond.selects RX4 yX4_state yX4_state, Cond.code yX4_state cX4_state 4 none, Cond.methodLink RX4 75 yX4_send, Cond.instanceMethod yX4_send, Cond.selects RX4 yX4_send yX4_send, Cond.code yX4_send cX4_send 6 none, Cond.methodLink RX4 82 yX4_turn, Cond.instanceMethod yX4_turn, Cond.selects RX4 yX4_turn yX4_turn, Cond.code yX4_turn cX4_turn 4 none, Cond.methodLink RL 82 yL_door, Cond.static yL_door, Cond.codeWith yL_door cL_door 5 (some .int) [(0, 10, 13, 20)], Cond.methodLink RL 29 yX3_door]
def wsL_law0_r11 : List Cond := [Cond.instanceMethod yX3_door, Cond.selects RX3 yX3_door yX3_door, Cond.code yX3_door cX3_door 3 (some .int), Cond.methodLink RX3 100 yX0_fact, Cond.instanceMethod yX0_fact, Cond.selects RX0 yX0_fact yX0_fact, Cond.code yX0_fact cX0_fact 2 (some .int), Cond.fieldLink RX0 34 "VaultDoors$Door" "rule" "I", Cond.fieldLink RX0 58 "VaultDoors$Door" "remembered" "I", Cond.fieldLink RX0 43 "VaultDoors$Door" "opened" "I", Cond.methodLink RX0 65 yX0_answersOf, Cond.instanceMethod yX0_answersOf, Cond.selects RX0 yX0_answersOf yX0_answersOf, Cond.code yX0_answersOf cX0_answersOf 4 (some .int), Cond.methodLink RL 84 yX4_door, Cond.instanceMethod yX4_door, Cond.selects RX4 yX4_door yX4_door, Cond.code yX4_door cX4_door 3 (some .int), Cond.methodLink RX4 90 yX4_doorTold, Cond.instanceMethod yX4_doorTold, Cond.selects RX4 yX4_doorTold yX4_doorTold, Cond.code yX4_doorTold cX4_doorTold 3 (some .int), Cond.methodLink RX4 86 yX4_answers, Cond.instanceMethod yX4_answers]
def wsL_law0_r12 : List Cond := [Cond.selects RX4 yX4_answers yX4_answers, Cond.code yX4_answers cX4_answers 5 (some .int), Cond.methodLink RL 85 yL_asks, Cond.static yL_asks, Cond.codeWith yL_asks cL_asks 6 (some .int) [(0, 12, 15, 20)], Cond.methodLink RL 33 yX3_asks, Cond.instanceMethod yX3_asks, Cond.selects RX3 yX3_asks yX3_asks, Cond.code yX3_asks cX3_asks 5 (some .int), Cond.methodLink RX3 107 yX0_askedFact, Cond.instanceMethod yX0_askedFact, Cond.selects RX0 yX0_askedFact yX0_askedFact, Cond.code yX0_askedFact cX0_askedFact 3 (some .int), Cond.methodLink RL 87 yX4_asks, Cond.instanceMethod yX4_asks, Cond.selects RX4 yX4_asks yX4_asks, Cond.code yX4_asks cX4_asks 4 (some .int), Cond.methodLink RX4 93 yX4_asked, Cond.instanceMethod yX4_asked, Cond.selects RX4 yX4_asked yX4_asked, Cond.code yX4_asked cX4_asked 4 (some .int), Cond.methodLink RL 88 yL_voice, Cond.static yL_voice, Cond.codeWith yL_voice cL_voice 5 (some .int) [(0, 10, 13, 20)]]
def wsL_law0_r13 : List Cond := [Cond.methodLink RL 36 yX3_voice, Cond.instanceMethod yX3_voice, Cond.selects RX3 yX3_voice yX3_voice, Cond.code yX3_voice cX3_voice 3 (some .int), Cond.fieldLink RX3 111 "VaultDoors$Vault" "voices" "LVaultDoors$Voices;", Cond.fieldLink RX3 115 "VaultDoors$Voices" "size" "I", Cond.methodLink RX3 122 yX2_fact, Cond.instanceMethod yX2_fact, Cond.selects RX2 yX2_fact yX2_fact, Cond.code yX2_fact cX2_fact 3 (some .int), Cond.methodLink RL 90 yX4_voice, Cond.instanceMethod yX4_voice, Cond.selects RX4 yX4_voice yX4_voice, Cond.code yX4_voice cX4_voice 3 (some .int), Cond.methodLink RL 91 yL_count, Cond.static yL_count, Cond.codeWith yL_count cL_count 4 (some .int) [(0, 9, 12, 20)], Cond.methodLink RL 39 yX3_count, Cond.instanceMethod yX3_count, Cond.selects RX3 yX3_count yX3_count, Cond.code yX3_count cX3_count 2 (some .int), Cond.methodLink RX3 126 yX1_fact, Cond.instanceMethod yX1_fact, Cond.selects RX1 yX1_fact yX1_fact]
def wsL_law0_r14 : List Cond := [Cond.code yX1_fact cX1_fact 2 (some .int), Cond.fieldLink RX1 28 "VaultDoors$Vault" "tick" "I", Cond.fieldLink RX1 71 "VaultDoors$Voices" "size" "I", Cond.fieldLink RX1 140 "VaultDoors$Voices" "lost" "I", Cond.methodLink RX1 136 yX1_doorsThat, Cond.instanceMethod yX1_doorsThat, Cond.selects RX1 yX1_doorsThat yX1_doorsThat, Cond.code yX1_doorsThat cX1_doorsThat 4 (some .int), Cond.methodLink RX1 143 yX1_openDoors, Cond.instanceMethod yX1_openDoors, Cond.selects RX1 yX1_openDoors yX1_openDoors, Cond.code yX1_openDoors cX1_openDoors 3 (some .int), Cond.methodLink RL 94 yX4_count, Cond.instanceMethod yX4_count, Cond.selects RX4 yX4_count yX4_count, Cond.code yX4_count cX4_count 2 (some .int), Cond.methodLink RX4 100 yX4_counted, Cond.instanceMethod yX4_counted, Cond.selects RX4 yX4_counted yX4_counted, Cond.code yX4_counted cX4_counted 4 (some .int), Cond.methodLink RX4 96 yX4_openOnes, Cond.instanceMethod yX4_openOnes, Cond.selects RX4 yX4_openOnes yX4_openOnes, Cond.code yX4_openOnes cX4_openOnes 3 (some .int)]
def wsL_law0_r15 : List Cond := [Cond.methodLink RL 95 yL_reach, Cond.static yL_reach, Cond.codeWith yL_reach cL_reach 4 (some .int) [(0, 9, 12, 20)], Cond.methodLink RL 43 yX3_reach, Cond.instanceMethod yX3_reach, Cond.selects RX3 yX3_reach yX3_reach, Cond.code yX3_reach cX3_reach 2 (some .int), Cond.methodLink RX3 127 yX1_reachedFrom, Cond.instanceMethod yX1_reachedFrom, Cond.selects RX1 yX1_reachedFrom yX1_reachedFrom, Cond.code yX1_reachedFrom cX1_reachedFrom 6 (some .int), Cond.methodLink RX1 147 yX1_askedBy, Cond.instanceMethod yX1_askedBy, Cond.selects RX1 yX1_askedBy yX1_askedBy, Cond.code yX1_askedBy cX1_askedBy 5 (some .int), Cond.methodLink RL 97 yX4_reach, Cond.instanceMethod yX4_reach, Cond.selects RX4 yX4_reach yX4_reach, Cond.code yX4_reach cX4_reach 6 (some .int), Cond.methodLink RL 98 yL_pass, Cond.static yL_pass, Cond.codeWith yL_pass cL_pass 4 (some .int) [(0, 9, 12, 13)], Cond.methodLink RL 46 yX3_pass, Cond.instanceMethod yX3_pass]
def wsL_law0_r16 : List Cond := [Cond.selects RX3 yX3_pass yX3_pass, Cond.code yX3_pass cX3_pass 4 (some .int), Cond.methodLink RX3 132 yX1_tickOn, Cond.instanceMethod yX1_tickOn, Cond.selects RX1 yX1_tickOn yX1_tickOn, Cond.code yX1_tickOn cX1_tickOn 3 (some .int), Cond.fieldLink RX1 74 "VaultDoors$Voices" "from" "[I", Cond.fieldLink RX1 78 "VaultDoors$Voices" "to" "[I", Cond.fieldLink RX1 81 "VaultDoors$Voices" "kind" "[I", Cond.fieldLink RX1 84 "VaultDoors$Voices" "distance" "[I", Cond.methodLink RX1 65 yX0_spendTime, Cond.instanceMethod yX0_spendTime, Cond.selects RX0 yX0_spendTime yX0_spendTime, Cond.code yX0_spendTime cX0_spendTime 1 none, Cond.methodLink RX1 68 yX2_moveOn, Cond.instanceMethod yX2_moveOn, Cond.selects RX2 yX2_moveOn yX2_moveOn, Cond.code yX2_moveOn cX2_moveOn 4 none, Cond.methodLink RX2 40 yX2_add, Cond.methodLink RX2 44 yX2_moveUp, Cond.instanceMethod yX2_moveUp, Cond.selects RX2 yX2_moveUp yX2_moveUp, Cond.code yX2_moveUp cX2_moveUp 3 none, Cond.methodLink RX1 87 yX1_hear]
def wsL_law0_r17 : List Cond := [Cond.instanceMethod yX1_hear, Cond.selects RX1 yX1_hear yX1_hear, Cond.code yX1_hear cX1_hear 6 none, Cond.methodLink RX1 94 yX0_takeAnswer, Cond.instanceMethod yX0_takeAnswer, Cond.selects RX0 yX0_takeAnswer yX0_takeAnswer, Cond.code yX0_takeAnswer cX0_takeAnswer 4 none, Cond.methodLink RX0 61 yX0_placeOf, Cond.methodLink RX1 101 yX0_remember, Cond.instanceMethod yX0_remember, Cond.selects RX0 yX0_remember yX0_remember, Cond.code yX0_remember cX0_remember 3 none, Cond.methodLink RX1 91 yX1_waitOn, Cond.instanceMethod yX1_waitOn, Cond.selects RX1 yX1_waitOn yX1_waitOn, Cond.code yX1_waitOn cX1_waitOn 5 (some .boolean), Cond.fieldLink RX1 114 "VaultDoors$Door" "left" "I", Cond.fieldLink RX1 124 "VaultDoors$Door" "remembered" "I", Cond.fieldLink RX1 127 "VaultDoors$Door" "asker" "[I", Cond.fieldLink RX1 130 "VaultDoors$Door" "askerDistance" "[I", Cond.methodLink RX1 117 yX0_isReadyToDecide, Cond.instanceMethod yX0_isReadyToDecide, Cond.selects RX0 yX0_isReadyToDecide yX0_isReadyToDecide, Cond.code yX0_isReadyToDecide cX0_isReadyToDecide 1 (some .boolean)]
def wsL_law0_r18 : List Cond := [Cond.methodLink RX1 121 yX0_decide, Cond.instanceMethod yX0_decide, Cond.selects RX0 yX0_decide yX0_decide, Cond.code yX0_decide cX0_decide 1 none, Cond.methodLink RX0 68 yX0_isPersuaded, Cond.instanceMethod yX0_isPersuaded, Cond.selects RX0 yX0_isPersuaded yX0_isPersuaded, Cond.code yX0_isPersuaded cX0_isPersuaded 2 (some .boolean), Cond.methodLink RX0 72 yX0_open, Cond.instanceMethod yX0_open, Cond.selects RX0 yX0_open yX0_open, Cond.code yX0_open cX0_open 1 none, Cond.methodLink RX0 75 yX0_bar, Cond.methodLink RX1 133 yX0_forget, Cond.instanceMethod yX0_forget, Cond.selects RX0 yX0_forget yX0_forget, Cond.code yX0_forget cX0_forget 2 none, Cond.methodLink RL 100 yX4_pass, Cond.instanceMethod yX4_pass, Cond.selects RX4 yX4_pass yX4_pass, Cond.code yX4_pass cX4_pass 4 (some .int), Cond.methodLink RX4 115 yX4_tickOn, Cond.instanceMethod yX4_tickOn, Cond.selects RX4 yX4_tickOn yX4_tickOn]
def wsL_law0_r19 : List Cond := [Cond.code yX4_tickOn cX4_tickOn 3 (some .int), Cond.methodLink RX4 109 yX4_listen, Cond.instanceMethod yX4_listen, Cond.selects RX4 yX4_listen yX4_listen, Cond.code yX4_listen cX4_listen 4 none, Cond.methodLink RX4 106 yX4_hear, Cond.instanceMethod yX4_hear, Cond.selects RX4 yX4_hear yX4_hear, Cond.code yX4_hear cX4_hear 8 none, Cond.methodLink RX4 112 yX4_decide, Cond.instanceMethod yX4_decide, Cond.selects RX4 yX4_decide yX4_decide, Cond.code yX4_decide cX4_decide 4 (some .boolean), Cond.methodLink RX4 103 yX4_says, Cond.instanceMethod yX4_says, Cond.selects RX4 yX4_says yX4_says, Cond.code yX4_says cX4_says 4 (some .boolean), Cond.methodLink RL 101 yL_opens, Cond.static yL_opens, Cond.codeWith yL_opens cL_opens 4 (some .int) [(0, 9, 12, 20)], Cond.methodLink RL 49 yX3_opens, Cond.instanceMethod yX3_opens, Cond.selects RX3 yX3_opens yX3_opens, Cond.code yX3_opens cX3_opens 3 (some .int)]
def wsL_law0_r20 : List Cond := [Cond.methodLink RX3 136 yX1_copyFrom, Cond.instanceMethod yX1_copyFrom, Cond.selects RX1 yX1_copyFrom yX1_copyFrom, Cond.code yX1_copyFrom cX1_copyFrom 3 none, Cond.methodLink RX1 35 yX0_copyFrom, Cond.instanceMethod yX0_copyFrom, Cond.selects RX0 yX0_copyFrom yX0_copyFrom, Cond.code yX0_copyFrom cX0_copyFrom 2 none, Cond.fieldLink RX0 27 "VaultDoors$Door" "secret" "I", Cond.methodLink RX0 52 arraycopyName, Cond.methodLink RX1 39 yX2_copyFrom, Cond.instanceMethod yX2_copyFrom, Cond.selects RX2 yX2_copyFrom yX2_copyFrom, Cond.code yX2_copyFrom cX2_copyFrom 2 none, Cond.methodLink RX2 34 arraycopyName, Cond.methodLink RL 103 yX4_opens, Cond.instanceMethod yX4_opens, Cond.selects RX4 yX4_opens yX4_opens, Cond.code yX4_opens cX4_opens 4 (some .int), Cond.methodLink RX4 127 yX4_kept, Cond.instanceMethod yX4_kept, Cond.selects RX4 yX4_kept yX4_kept, Cond.code yX4_kept cX4_kept 1 (some (.array (.array .int))), Cond.classLink RX4 118 "[I"]
def wsL_law0_r21 : List Cond := [Cond.methodLink RX4 119 ⟨"[I", "clone", "()Ljava/lang/Object;"⟩, Cond.sameMethod "[I" "java/lang/Object" "clone" "()Ljava/lang/Object;", Cond.native ⟨"java/lang/Object", "clone", "()Ljava/lang/Object;"⟩, Cond.instanceMethod ⟨"java/lang/Object", "clone", "()Ljava/lang/Object;"⟩, Cond.selects "[I" ⟨"[I", "clone", "()Ljava/lang/Object;"⟩ ⟨"java/lang/Object", "clone", "()Ljava/lang/Object;"⟩, Cond.methodLink RX4 130 yX4_bringBack, Cond.instanceMethod yX4_bringBack, Cond.selects RX4 yX4_bringBack yX4_bringBack, Cond.code yX4_bringBack cX4_bringBack 3 none, Cond.methodLink RX4 123 yX4_all, Cond.instanceMethod yX4_all, Cond.selects RX4 yX4_all yX4_all, Cond.code yX4_all cX4_all 1 (some (.array (.array .int))), Cond.methodLink RL 104 yL_would, Cond.static yL_would, Cond.codeWith yL_would cL_would 5 (some .int) [(0, 10, 13, 20), (0, 10, 17, 13)], Cond.methodLink RL 52 yX3_would, Cond.instanceMethod yX3_would, Cond.selects RX3 yX3_would yX3_would, Cond.code yX3_would cX3_would 3 (some .int), Cond.methodLink RX3 142 yX3_openedByWhisper, Cond.instanceMethod yX3_openedByWhisper, Cond.selects RX3 yX3_openedByWhisper yX3_openedByWhisper, Cond.code yX3_openedByWhisper cX3_openedByWhisper 5 (some .int)]
def wsL_law0_r22 : List Cond := [Cond.fieldLink RX3 166 "VaultDoors$Door" "secret" "I", Cond.methodLink RX3 169 yX1_openDoors, Cond.methodLink RL 106 yX4_would, Cond.instanceMethod yX4_would, Cond.selects RX4 yX4_would yX4_would, Cond.code yX4_would cX4_would 3 (some .int), Cond.methodLink RX4 138 yX4_opened, Cond.instanceMethod yX4_opened, Cond.selects RX4 yX4_opened yX4_opened, Cond.code yX4_opened cX4_opened 6 (some .int), Cond.methodLink RX4 134 yX4_whisper, Cond.methodLink RL 107 yL_best, Cond.static yL_best, Cond.codeWith yL_best cL_best 4 (some .int) [(0, 9, 12, 13)], Cond.methodLink RL 55 yX3_best, Cond.instanceMethod yX3_best, Cond.selects RX3 yX3_best yX3_best, Cond.code yX3_best cX3_best 6 (some .int), Cond.methodLink RX3 147 yJ6_bitCount_0f7a4, Cond.static yJ6_bitCount_0f7a4, Cond.initialized RJ6, Cond.code yJ6_bitCount_0f7a4 cJ6_bitCount_0f7a4 1 (some .int), Cond.constant RJ6 265 (1431655765), Cond.constant RJ6 266 (858993459)]
def wsL_law0_r23 : List Cond := [Cond.constant RJ6 267 (252645135), Cond.methodLink RL 109 yX4_best, Cond.instanceMethod yX4_best, Cond.selects RX4 yX4_best yX4_best, Cond.code yX4_best cX4_best 6 (some .int), Cond.methodLink RX4 141 yJ6_bitCount_0f7a4, Cond.methodLink RL 110 yX3_mean, Cond.instanceMethod yX3_mean, Cond.selects RX3 yX3_mean yX3_mean, Cond.code yX3_mean cX3_mean 4 (some .double), Cond.fieldLink RX3 152 "VaultDoors$Door" "opened" "I", Cond.fieldLink RX3 155 "VaultDoors$Door" "barred" "I", Cond.methodLink RL 114 yX4_mean, Cond.instanceMethod yX4_mean, Cond.selects RX4 yX4_mean yX4_mean, Cond.code yX4_mean cX4_mean 4 (some .double), Cond.methodLink RL 115 yX3_digest, Cond.instanceMethod yX3_digest, Cond.selects RX3 yX3_digest yX3_digest, Cond.code yX3_digest cX3_digest 5 (some .long), Cond.constantLong RX3 158 (907), Cond.constantLong RX3 160 (31), Cond.methodLink RX3 162 yX3_digestOfDoor, Cond.static yX3_digestOfDoor]
def wsL_law0_r24 : List Cond := [Cond.code yX3_digestOfDoor cX3_digestOfDoor 7 (some .long), Cond.methodLink RL 119 yX4_digest, Cond.instanceMethod yX4_digest, Cond.selects RX4 yX4_digest yX4_digest, Cond.code yX4_digest cX4_digest 6 (some .long), Cond.constantLong RX4 146 (907), Cond.constantLong RX4 148 (31)]
def wsL_law0 : List Cond := (wsL_law0_r1 ++ (wsL_law0_r2 ++ (wsL_law0_r3 ++ (wsL_law0_r4 ++ (wsL_law0_r5 ++ (wsL_law0_r6 ++ (wsL_law0_r7 ++ (wsL_law0_r8 ++ (wsL_law0_r9 ++ (wsL_law0_r10 ++ (wsL_law0_r11 ++ (wsL_law0_r12 ++ (wsL_law0_r13 ++ (wsL_law0_r14 ++ (wsL_law0_r15 ++ (wsL_law0_r16 ++ (wsL_law0_r17 ++ (wsL_law0_r18 ++ (wsL_law0_r19 ++ (wsL_law0_r20 ++ (wsL_law0_r21 ++ (wsL_law0_r22 ++ (wsL_law0_r23 ++ wsL_law0_r24))))))))))))))))))))))) ++ wsX30 ++ wsX40 ++ wsX10 ++ wsX20 ++ wsX00 ++ ([] : List Cond)
def wsL_law : List Cond := wsL_law0 ++ (vx_atS RX3 27 "java/lang/IllegalArgumentException" ["java/lang/RuntimeException", "java/lang/Exception"]).filter goodWord ++ (vx_atS RX3 47 "java/lang/IllegalStateException" ["java/lang/RuntimeException", "java/lang/Exception"]).filter goodWord ++ (vx_atS RX3 59 "java/lang/IndexOutOfBoundsException" ["java/lang/RuntimeException", "java/lang/Exception"]).filter goodWord
set_option maxRecDepth 20000 in
theorem wsL_law_in0 : ∀ w ∈ wsL_law0, w ∈ lw_tbl := fun w h => (goodIn_p wsL_law0 [53, 56, 61, 69, 104, 583, 246, 232, 318, 321, 342, 617, 620, 624, 613, 350, 354, 375, 380, 629, 633, 637, 641, 645, 649, 653, 387, 657, 395, 400, 405, 409, 413, 417, 661, 665, 669, 673, 677, 424, 221, 225, 681, 685, 689, 432, 229, 693, 697, 441, 236, 701, 449, 206, 210, 214, 705, 709, 713, 457, 461, 465, 717, 472, 477, 481, 485, 490, 494, 498, 503, 507, 511, 515, 519, 523, 528, 721, 725, 729, 733, 737, 741, 535, 539, 543, 550, 745, 749, 761, 765, 558, 563, 769, 773, 571, 575, 778, 196, 783, 200, 217, 787] (by decide +kernel) (by decide +kernel) w h).1
theorem wsL_law_x0 : ∀ w ∈ (vx_atS RX3 27 "java/lang/IllegalArgumentException" ["java/lang/RuntimeException", "java/lang/Exception"]).filter goodWord, w ∈ lw_tbl := by decide +kernel
theorem wsL_law_x1 : ∀ w ∈ (vx_atS RX3 47 "java/lang/IllegalStateException" ["java/lang/RuntimeException", "java/lang/Exception"]).filter goodWord, w ∈ lw_tbl := by decide +kernel
theorem wsL_law_x2 : ∀ w ∈ (vx_atS RX3 59 "java/lang/IndexOutOfBoundsException" ["java/lang/RuntimeException", "java/lang/Exception"]).filter goodWord, w ∈ lw_tbl := by decide +kernel
theorem wsL_law_in : ∀ w ∈ wsL_law, w ∈ lw_tbl := fun w h => (List.mem_append.mp h).elim (fun h => (List.mem_append.mp h).elim (fun h => (List.mem_append.mp h).elim (fun h => wsL_law_in0 w h) (fun h => wsL_law_x0 w h)) (fun h => wsL_law_x1 w h)) (fun h => wsL_law_x2 w h)
theorem inlX0 : ∀ w ∈ wsX00, w ∈ wsL_law := fun _ h => List.mem_append_left _ (List.mem_append_left _ (List.mem_append_left _ (List.mem_append_left _ (List.mem_append_right _ h))))
theorem inX0 : ∀ w ∈ wsX00, w ∈ lw_tbl := fun w h => wsL_law_in w (inlX0 w h)
theorem inlX1 : ∀ w ∈ wsX10, w ∈ wsL_law := fun _ h => List.mem_append_left _ (List.mem_append_left _ (List.mem_append_left _ (List.mem_append_left _ (List.mem_append_left _ (List.mem_append_left _ (List.mem_append_right _ h))))))
theorem inX1 : ∀ w ∈ wsX10, w ∈ lw_tbl := fun w h => wsL_law_in w (inlX1 w h)
theorem inlX2 : ∀ w ∈ wsX20, w ∈ wsL_law := fun _ h => List.mem_append_left _ (List.mem_append_left _ (List.mem_append_left _ (List.mem_append_left _ (List.mem_append_left _ (List.mem_append_right _ h)))))
theorem inX2 : ∀ w ∈ wsX20, w ∈ lw_tbl := fun w h => wsL_law_in w (inlX2 w h)
theorem inlX3 : ∀ w ∈ wsX30, w ∈ wsL_law := fun _ h => List.mem_append_left _ (List.mem_append_left _ (List.mem_append_left _ (List.mem_append_left _ (List.mem_append_left _ (List.mem_append_left _ (List.mem_append_left _ (List.mem_append_left _ (List.mem_append_right _ h))))))))
theorem inX3 : ∀ w ∈ wsX30, w ∈ lw_tbl := fun w h => wsL_law_in w (inlX3 w h)
theorem inlX4 : ∀ w ∈ wsX40, w ∈ wsL_law := fun _ h => List.mem_append_left _ (List.mem_append_left _ (List.mem_append_left _ (List.mem_append_left _ (List.mem_append_left _ (List.mem_append_left _ (List.mem_append_left _ (List.mem_append_right _ h)))))))
theorem inX4 : ∀ w ∈ wsX40, w ∈ lw_tbl := fun w h => wsL_law_in w (inlX4 w h)
theorem inJx8e188 : ∀ w ∈ wsJx8e1880, w ∈ lw_tbl := by decide +kernel
theorem inJ6 : ∀ w ∈ wsJ60, w ∈ lw_tbl := by decide +kernel
theorem inJ0 : ∀ w ∈ wsJ00, w ∈ lw_tbl := by decide +kernel
theorem inJ10 : ∀ w ∈ wsJ100, w ∈ lw_tbl := by decide +kernel
theorem dX0_init_0 : decode cX0_init 0 = .ok (.aload_n 0, 1) := by decide +kernel
theorem dX0_init_1 : decode cX0_init 1 = .ok (.invokespecial 3, 3) := by decide +kernel
theorem dX0_init_4 : decode cX0_init 4 = .ok (.aload_n 0, 1) := by decide +kernel
theorem dX0_init_5 : decode cX0_init 5 = .ok (.iconst 4, 1) := by decide +kernel
theorem dX0_init_6 : decode cX0_init 6 = .ok (.newarray .int, 2) := by decide +kernel
theorem dX0_init_8 : decode cX0_init 8 = .ok (.putfield 9, 3) := by decide +kernel
theorem dX0_init_11 : decode cX0_init 11 = .ok (.aload_n 0, 1) := by decide +kernel
theorem dX0_init_12 : decode cX0_init 12 = .ok (.iconst 4, 1) := by decide +kernel
theorem dX0_init_13 : decode cX0_init 13 = .ok (.newarray .int, 2) := by decide +kernel
theorem dX0_init_15 : decode cX0_init 15 = .ok (.putfield 15, 3) := by decide +kernel
theorem dX0_init_18 : decode cX0_init 18 = .ok (.aload_n 0, 1) := by decide +kernel
theorem dX0_init_19 : decode cX0_init 19 = .ok (.iconst 4, 1) := by decide +kernel
theorem dX0_init_20 : decode cX0_init 20 = .ok (.newarray .int, 2) := by decide +kernel
theorem dX0_init_22 : decode cX0_init 22 = .ok (.putfield 18, 3) := by decide +kernel
theorem dX0_init_25 : decode cX0_init 25 = .ok (.aload_n 0, 1) := by decide +kernel
theorem dX0_init_26 : decode cX0_init 26 = .ok (.bipush 60, 2) := by decide +kernel
theorem dX0_init_28 : decode cX0_init 28 = .ok (.newarray .int, 2) := by decide +kernel
theorem dX0_init_30 : decode cX0_init 30 = .ok (.putfield 21, 3) := by decide +kernel
theorem dX0_init_33 : decode cX0_init 33 = .ok (.aload_n 0, 1) := by decide +kernel
theorem dX0_init_34 : decode cX0_init 34 = .ok (.bipush 60, 2) := by decide +kernel
theorem dX0_init_36 : decode cX0_init 36 = .ok (.newarray .int, 2) := by decide +kernel
theorem dX0_init_38 : decode cX0_init 38 = .ok (.putfield 24, 3) := by decide +kernel
theorem dX0_init_41 : decode cX0_init 41 = .ok (.return_, 1) := by decide +kernel
set_option maxRecDepth 20000 in
theorem ggX0_takeAnswer_X0_placeOf : GoodIn wsX0_takeAnswer wsX0_placeOf := goodIn_r _ [7, 8, 9, 10, 11, 12, 13, 14, 15, 16, 17, 18, 19, 20, 21, 22, 23] (by decide +kernel) (by decide +kernel)
set_option maxRecDepth 20000 in
theorem gX0_takeAnswer_X0_placeOf : GoodIn wsX0_takeAnswer (wsV RX0 61 RX0 yX0_placeOf wsX0_placeOf) := goodIn_app (goodIn_of _ (by decide +kernel)) ggX0_takeAnswer_X0_placeOf
set_option maxRecDepth 20000 in
theorem ggX0_isReadyToDecide_X0_answersOf : GoodIn wsX0_isReadyToDecide wsX0_answersOf := goodIn_r _ [7, 2, 8, 9, 10, 11, 12, 13, 14, 15, 16, 17, 18, 19, 20, 21, 22] (by decide +kernel) (by decide +kernel)
set_option maxRecDepth 20000 in
theorem gX0_isReadyToDecide_X0_answersOf : GoodIn wsX0_isReadyToDecide (wsV RX0 65 RX0 yX0_answersOf wsX0_answersOf) := goodIn_app (goodIn_of _ (by decide +kernel)) ggX0_isReadyToDecide_X0_answersOf
set_option maxRecDepth 20000 in
theorem ggX0_decide_X0_answersOf : GoodIn wsX0_decide wsX0_answersOf := goodIn_r _ [5, 6, 7, 25, 26, 27, 28, 29, 30, 31, 32, 33, 34, 35, 36, 37, 38] (by decide +kernel) (by decide +kernel)
set_option maxRecDepth 20000 in
theorem gX0_decide_X0_answersOf : GoodIn wsX0_decide (wsV RX0 65 RX0 yX0_answersOf wsX0_answersOf) := goodIn_app (goodIn_of _ (by decide +kernel)) ggX0_decide_X0_answersOf
set_option maxRecDepth 20000 in
theorem ggX0_decide_X0_isPersuaded : GoodIn wsX0_decide wsX0_isPersuaded := goodIn_r _ [11, 12, 6, 25, 26, 27, 28, 29, 30, 31, 32, 33, 34, 35, 36, 37, 38] (by decide +kernel) (by decide +kernel)
set_option maxRecDepth 20000 in
theorem gX0_decide_X0_isPersuaded : GoodIn wsX0_decide (wsV RX0 68 RX0 yX0_isPersuaded wsX0_isPersuaded) := goodIn_app (goodIn_of _ (by decide +kernel)) ggX0_decide_X0_isPersuaded
set_option maxRecDepth 20000 in
theorem ggX0_decide_X0_open : GoodIn wsX0_decide wsX0_open := goodIn_r _ [16, 17, 18, 19, 25, 26, 27, 28, 29, 30, 31, 32, 33, 34, 35, 36, 37, 38] (by decide +kernel) (by decide +kernel)
set_option maxRecDepth 20000 in
theorem gX0_decide_X0_open : GoodIn wsX0_decide (wsV RX0 72 RX0 yX0_open wsX0_open) := goodIn_app (goodIn_of _ (by decide +kernel)) ggX0_decide_X0_open
set_option maxRecDepth 20000 in
theorem ggX0_decide_X0_bar : GoodIn wsX0_decide wsX0_bar := goodIn_r _ [23, 17, 18, 24, 25, 26, 27, 28, 29, 30, 31, 32, 33, 34, 35, 36, 37, 38] (by decide +kernel) (by decide +kernel)
set_option maxRecDepth 20000 in
theorem gX0_decide_X0_bar : GoodIn wsX0_decide (wsV RX0 75 RX0 yX0_bar wsX0_bar) := goodIn_app (goodIn_of _ (by decide +kernel)) ggX0_decide_X0_bar
set_option maxRecDepth 20000 in
theorem ggX0_fact_X0_answersOf : GoodIn wsX0_fact wsX0_answersOf := goodIn_r _ [12, 4, 13, 14, 15, 16, 17, 18, 19, 20, 21, 22, 23, 24, 25, 26, 27] (by decide +kernel) (by decide +kernel)
set_option maxRecDepth 20000 in
theorem gX0_fact_X0_answersOf : GoodIn wsX0_fact (wsV RX0 65 RX0 yX0_answersOf wsX0_answersOf) := goodIn_app (goodIn_of _ (by decide +kernel)) ggX0_fact_X0_answersOf
set_option maxRecDepth 20000 in
theorem ggX0_askedFact_X3_isIn : GoodIn wsX0_askedFact wsX3_isIn := goodIn_r _ [7] (by decide +kernel) (by decide +kernel)
set_option maxRecDepth 20000 in
theorem gX0_askedFact_X3_isIn_n78 : GoodIn wsX0_askedFact (wsX3_isIn) := ggX0_askedFact_X3_isIn
set_option maxRecDepth 20000 in
theorem ggX1_init_X2_init : GoodIn wsX1_init wsX2_init := goodIn_r _ [14, 15, 2, 3, 16, 17, 18, 19, 20, 21, 35, 36, 37, 38, 39, 40, 41] (by decide +kernel) (by decide +kernel)
set_option maxRecDepth 20000 in
theorem gX1_init_X2_init_n19 : GoodIn wsX1_init (wsX2_init) := ggX1_init_X2_init
set_option maxRecDepth 20000 in
theorem ggX1_init_X0_init : GoodIn wsX1_init wsX0_init := goodIn_r _ [23, 24, 2, 3, 16, 25, 26, 27, 28, 29, 42, 43, 44, 45, 46, 47, 48, 49, 50, 51, 52, 53, 54, 55] (by decide +kernel) (by decide +kernel)
set_option maxRecDepth 20000 in
theorem gX1_init_X0_init_n27 : GoodIn wsX1_init (wsX0_init) := ggX1_init_X0_init
theorem dX1_init_0 : decode cX1_init 0 = .ok (.aload_n 0, 1) := by decide +kernel
theorem dX1_init_1 : decode cX1_init 1 = .ok (.invokespecial 3, 3) := by decide +kernel
theorem dX1_init_4 : decode cX1_init 4 = .ok (.aload_n 0, 1) := by decide +kernel
theorem dX1_init_5 : decode cX1_init 5 = .ok (.bipush 10, 2) := by decide +kernel
theorem dX1_init_7 : decode cX1_init 7 = .ok (.anewarray 9, 3) := by decide +kernel
theorem dX1_init_10 : decode cX1_init 10 = .ok (.putfield 11, 3) := by decide +kernel
theorem dX1_init_13 : decode cX1_init 13 = .ok (.aload_n 0, 1) := by decide +kernel
theorem dX1_init_14 : decode cX1_init 14 = .ok (.new 17, 3) := by decide +kernel
theorem dX1_init_17 : decode cX1_init 17 = .ok (.dup, 1) := by decide +kernel
theorem dX1_init_18 : decode cX1_init 18 = .ok (.invokespecial 19, 3) := by decide +kernel
theorem dX1_init_21 : decode cX1_init 21 = .ok (.putfield 20, 3) := by decide +kernel
theorem dX1_init_24 : decode cX1_init 24 = .ok (.aload_n 0, 1) := by decide +kernel
theorem dX1_init_25 : decode cX1_init 25 = .ok (.new 17, 3) := by decide +kernel
theorem dX1_init_28 : decode cX1_init 28 = .ok (.dup, 1) := by decide +kernel
theorem dX1_init_29 : decode cX1_init 29 = .ok (.invokespecial 19, 3) := by decide +kernel
theorem dX1_init_32 : decode cX1_init 32 = .ok (.putfield 24, 3) := by decide +kernel
theorem dX1_init_35 : decode cX1_init 35 = .ok (.iconst 0, 1) := by decide +kernel
theorem dX1_init_36 : decode cX1_init 36 = .ok (.istore_n 1, 1) := by decide +kernel
theorem dX1_init_37 : decode cX1_init 37 = .ok (.iload_n 1, 1) := by decide +kernel
theorem dX1_init_38 : decode cX1_init 38 = .ok (.bipush 10, 2) := by decide +kernel
theorem dX1_init_40 : decode cX1_init 40 = .ok (.if_icmp .ge 22, 3) := by decide +kernel
theorem dX1_init_43 : decode cX1_init 43 = .ok (.aload_n 0, 1) := by decide +kernel
theorem dX1_init_44 : decode cX1_init 44 = .ok (.getfield 11, 3) := by decide +kernel
theorem dX1_init_47 : decode cX1_init 47 = .ok (.iload_n 1, 1) := by decide +kernel
theorem dX1_init_48 : decode cX1_init 48 = .ok (.new 9, 3) := by decide +kernel
theorem dX1_init_51 : decode cX1_init 51 = .ok (.dup, 1) := by decide +kernel
theorem dX1_init_52 : decode cX1_init 52 = .ok (.invokespecial 27, 3) := by decide +kernel
theorem dX1_init_55 : decode cX1_init 55 = .ok (.aastore, 1) := by decide +kernel
theorem dX1_init_56 : decode cX1_init 56 = .ok (.iinc 1 1, 3) := by decide +kernel
theorem dX1_init_59 : decode cX1_init 59 = .ok (.goto (-22), 3) := by decide +kernel
theorem dX1_init_62 : decode cX1_init 62 = .ok (.return_, 1) := by decide +kernel
set_option maxRecDepth 20000 in
theorem ggX1_copyFrom_X0_copyFrom : GoodIn wsX1_copyFrom wsX0_copyFrom := goodIn_r _ [9, 10, 11, 12, 13, 14, 15, 16, 17, 18, 19, 20, 21, 22, 23, 24, 25, 26, 27, 46, 47, 48, 49, 50, 51, 52, 53, 54, 55, 56, 57, 58, 59] (by decide +kernel) (by decide +kernel)
set_option maxRecDepth 20000 in
theorem gX1_copyFrom_X0_copyFrom : GoodIn wsX1_copyFrom (wsV RX1 35 RX0 yX0_copyFrom wsX0_copyFrom) := goodIn_app (goodIn_of _ (by decide +kernel)) ggX1_copyFrom_X0_copyFrom
set_option maxRecDepth 20000 in
theorem ggX1_copyFrom_X2_copyFrom : GoodIn wsX1_copyFrom wsX2_copyFrom := goodIn_r _ [32, 33, 34, 35, 36, 20, 21, 22, 37, 38, 39, 40, 60, 61, 62, 63, 64, 65, 66] (by decide +kernel) (by decide +kernel)
set_option maxRecDepth 20000 in
theorem gX1_copyFrom_X2_copyFrom : GoodIn wsX1_copyFrom (wsV RX1 39 RX2 yX2_copyFrom wsX2_copyFrom) := goodIn_app (goodIn_of _ (by decide +kernel)) ggX1_copyFrom_X2_copyFrom
theorem dX1_isDoor_0 : decode cX1_isDoor 0 = .ok (.iload_n 1, 1) := by decide +kernel
theorem dX1_isDoor_1 : decode cX1_isDoor 1 = .ok (.ifCond .lt 15, 3) := by decide +kernel
theorem dX1_isDoor_4 : decode cX1_isDoor 4 = .ok (.iload_n 1, 1) := by decide +kernel
theorem dX1_isDoor_5 : decode cX1_isDoor 5 = .ok (.aload_n 0, 1) := by decide +kernel
theorem dX1_isDoor_6 : decode cX1_isDoor 6 = .ok (.getfield 32, 3) := by decide +kernel
theorem dX1_isDoor_9 : decode cX1_isDoor 9 = .ok (.if_icmp .ge 7, 3) := by decide +kernel
theorem dX1_isDoor_12 : decode cX1_isDoor 12 = .ok (.iconst 1, 1) := by decide +kernel
theorem dX1_isDoor_13 : decode cX1_isDoor 13 = .ok (.goto 4, 3) := by decide +kernel
theorem dX1_isDoor_16 : decode cX1_isDoor 16 = .ok (.iconst 0, 1) := by decide +kernel
theorem dX1_isDoor_17 : decode cX1_isDoor 17 = .ok (.ireturn, 1) := by decide +kernel
theorem dX1_addDoor_0 : decode cX1_addDoor 0 = .ok (.aload_n 0, 1) := by decide +kernel
theorem dX1_addDoor_1 : decode cX1_addDoor 1 = .ok (.getfield 32, 3) := by decide +kernel
theorem dX1_addDoor_4 : decode cX1_addDoor 4 = .ok (.istore 4, 2) := by decide +kernel
theorem dX1_addDoor_6 : decode cX1_addDoor 6 = .ok (.iload 4, 2) := by decide +kernel
theorem dX1_addDoor_8 : decode cX1_addDoor 8 = .ok (.bipush 10, 2) := by decide +kernel
theorem dX1_addDoor_10 : decode cX1_addDoor 10 = .ok (.if_icmp .ge 46, 3) := by decide +kernel
theorem dX1_addDoor_13 : decode cX1_addDoor 13 = .ok (.aload_n 0, 1) := by decide +kernel
theorem dX1_addDoor_14 : decode cX1_addDoor 14 = .ok (.getfield 11, 3) := by decide +kernel
theorem dX1_addDoor_17 : decode cX1_addDoor 17 = .ok (.iload 4, 2) := by decide +kernel
theorem dX1_addDoor_19 : decode cX1_addDoor 19 = .ok (.aaload, 1) := by decide +kernel
theorem dX1_addDoor_20 : decode cX1_addDoor 20 = .ok (.iload_n 1, 1) := by decide +kernel
theorem dX1_addDoor_21 : decode cX1_addDoor 21 = .ok (.putfield 42, 3) := by decide +kernel
theorem dX1_addDoor_24 : decode cX1_addDoor 24 = .ok (.aload_n 0, 1) := by decide +kernel
theorem dX1_addDoor_25 : decode cX1_addDoor 25 = .ok (.getfield 11, 3) := by decide +kernel
theorem dX1_addDoor_28 : decode cX1_addDoor 28 = .ok (.iload 4, 2) := by decide +kernel
theorem dX1_addDoor_30 : decode cX1_addDoor 30 = .ok (.aaload, 1) := by decide +kernel
theorem dX1_addDoor_31 : decode cX1_addDoor 31 = .ok (.iload_n 2, 1) := by decide +kernel
theorem dX1_addDoor_32 : decode cX1_addDoor 32 = .ok (.putfield 45, 3) := by decide +kernel
theorem dX1_addDoor_35 : decode cX1_addDoor 35 = .ok (.aload_n 0, 1) := by decide +kernel
theorem dX1_addDoor_36 : decode cX1_addDoor 36 = .ok (.getfield 11, 3) := by decide +kernel
theorem dX1_addDoor_39 : decode cX1_addDoor 39 = .ok (.iload 4, 2) := by decide +kernel
theorem dX1_addDoor_41 : decode cX1_addDoor 41 = .ok (.aaload, 1) := by decide +kernel
theorem dX1_addDoor_42 : decode cX1_addDoor 42 = .ok (.iload_n 3, 1) := by decide +kernel
theorem dX1_addDoor_43 : decode cX1_addDoor 43 = .ok (.putfield 48, 3) := by decide +kernel
theorem dX1_addDoor_46 : decode cX1_addDoor 46 = .ok (.aload_n 0, 1) := by decide +kernel
theorem dX1_addDoor_47 : decode cX1_addDoor 47 = .ok (.dup, 1) := by decide +kernel
theorem dX1_addDoor_48 : decode cX1_addDoor 48 = .ok (.getfield 32, 3) := by decide +kernel
theorem dX1_addDoor_51 : decode cX1_addDoor 51 = .ok (.iconst 1, 1) := by decide +kernel
theorem dX1_addDoor_52 : decode cX1_addDoor 52 = .ok (.iadd, 1) := by decide +kernel
theorem dX1_addDoor_53 : decode cX1_addDoor 53 = .ok (.putfield 32, 3) := by decide +kernel
theorem dX1_addDoor_56 : decode cX1_addDoor 56 = .ok (.iload 4, 2) := by decide +kernel
theorem dX1_addDoor_58 : decode cX1_addDoor 58 = .ok (.ireturn, 1) := by decide +kernel
set_option maxRecDepth 20000 in
theorem ggX1_hearToken_X1_isDoor : GoodIn wsX1_hearToken wsX1_isDoor := goodIn_r _ [8, 9, 43, 44, 45, 46, 47] (by decide +kernel) (by decide +kernel)
set_option maxRecDepth 20000 in
theorem gX1_hearToken_X1_isDoor : GoodIn wsX1_hearToken (wsV RX1 51 RX1 yX1_isDoor wsX1_isDoor) := goodIn_app (goodIn_of _ (by decide +kernel)) ggX1_hearToken_X1_isDoor
set_option maxRecDepth 20000 in
theorem ggX1_hearToken_X0_bar : GoodIn wsX1_hearToken wsX0_bar := goodIn_r _ [14, 15, 16, 17, 48, 49, 50, 51, 52, 53, 54, 55, 56, 57, 58, 59, 60, 61] (by decide +kernel) (by decide +kernel)
set_option maxRecDepth 20000 in
theorem gX1_hearToken_X0_bar : GoodIn wsX1_hearToken (wsV RX1 58 RX0 yX0_bar wsX0_bar) := goodIn_app (goodIn_of _ (by decide +kernel)) ggX1_hearToken_X0_bar
set_option maxRecDepth 20000 in
theorem ggX1_hearToken_X1_wake : GoodIn wsX1_hearToken wsX1_wake := goodIn_r _ [21, 1, 22, 23, 24, 25, 26, 27, 28, 13, 29, 15, 30, 16, 31, 32, 33, 34, 35, 36, 37, 38, 39, 40, 41, 42, 43, 44, 45, 46, 47, 48, 49, 50, 51, 52, 53, 54, 55, 56, 57, 58, 59, 60, 61, 62, 63, 64, 65, 66, 67, 68] (by decide +kernel) (by decide +kernel)
set_option maxRecDepth 20000 in
theorem gX1_hearToken_X1_wake : GoodIn wsX1_hearToken (wsV RX1 61 RX1 yX1_wake wsX1_wake) := goodIn_app (goodIn_of _ (by decide +kernel)) ggX1_hearToken_X1_wake
set_option maxRecDepth 20000 in
theorem ggX1_tickOn_X0_spendTime : GoodIn wsX1_tickOn wsX0_spendTime := goodIn_r _ [16, 17, 18, 130, 131, 132, 133, 134, 135, 136, 137, 138, 139, 140, 141, 142, 143] (by decide +kernel) (by decide +kernel)
set_option maxRecDepth 20000 in
theorem gX1_tickOn_X0_spendTime : GoodIn wsX1_tickOn (wsV RX1 65 RX0 yX0_spendTime wsX0_spendTime) := goodIn_app (goodIn_of _ (by decide +kernel)) ggX1_tickOn_X0_spendTime
set_option maxRecDepth 20000 in
theorem ggX1_tickOn_X2_moveOn : GoodIn wsX1_tickOn wsX2_moveOn := goodIn_r _ [23, 24, 25, 26, 27, 28, 29, 30, 31, 32, 22, 33, 34, 35, 36, 37, 38, 123, 124, 125, 126, 127, 128, 129] (by decide +kernel) (by decide +kernel)
set_option maxRecDepth 20000 in
theorem gX1_tickOn_X2_moveOn : GoodIn wsX1_tickOn (wsV RX1 68 RX2 yX2_moveOn wsX2_moveOn) := goodIn_app (goodIn_of _ (by decide +kernel)) ggX1_tickOn_X2_moveOn
set_option maxRecDepth 20000 in
theorem ggX1_tickOn_X1_hear : GoodIn wsX1_tickOn wsX1_hear := goodIn_r _ [43, 2, 10, 3, 44, 45, 46, 42, 47, 1, 48, 49, 50, 15, 51, 17, 52, 53, 54, 55, 56, 57, 58, 59, 31, 32, 22, 33, 24, 34, 26, 27, 28, 25, 29, 60, 61, 62, 63, 64, 65, 66, 67, 68, 69, 70, 71, 18, 72, 73, 74, 75, 76, 77, 78, 118, 119, 120, 121, 122, 130, 131, 132, 133, 134, 135, 136, 137, 138, 139, 140, 141, 142, 143, 123, 124, 125, 126, 127, 128, 129] (by decide +kernel) (by decide +kernel)
set_option maxRecDepth 20000 in
theorem gX1_tickOn_X1_hear : GoodIn wsX1_tickOn (wsV RX1 87 RX1 yX1_hear wsX1_hear) := goodIn_app (goodIn_of _ (by decide +kernel)) ggX1_tickOn_X1_hear
set_option maxRecDepth 20000 in
theorem ggX1_tickOn_X1_waitOn : GoodIn wsX1_tickOn wsX1_waitOn := goodIn_r _ [82, 2, 83, 10, 84, 3, 85, 86, 87, 88, 89, 15, 90, 18, 57, 91, 92, 93, 94, 52, 95, 96, 97, 98, 99, 100, 101, 102, 103, 104, 105, 106, 107, 17, 108, 109, 110, 111, 112, 113, 59, 31, 32, 22, 33, 24, 34, 26, 27, 28, 25, 29, 114, 115, 116, 117, 76, 118, 119, 120, 121, 122, 130, 131, 132, 133, 134, 135, 136, 137, 138, 139, 140, 141, 142, 143, 123, 124, 125, 126, 127, 128, 129] (by decide +kernel) (by decide +kernel)
set_option maxRecDepth 20000 in
theorem gX1_tickOn_X1_waitOn : GoodIn wsX1_tickOn (wsV RX1 91 RX1 yX1_waitOn wsX1_waitOn) := goodIn_app (goodIn_of _ (by decide +kernel)) ggX1_tickOn_X1_waitOn
theorem dX1_tickOn_0 : decode cX1_tickOn 0 = .ok (.iconst 0, 1) := by decide +kernel
theorem dX1_tickOn_1 : decode cX1_tickOn 1 = .ok (.istore_n 1, 1) := by decide +kernel
theorem dX1_tickOn_2 : decode cX1_tickOn 2 = .ok (.iload_n 1, 1) := by decide +kernel
theorem dX1_tickOn_3 : decode cX1_tickOn 3 = .ok (.aload_n 0, 1) := by decide +kernel
theorem dX1_tickOn_4 : decode cX1_tickOn 4 = .ok (.getfield 32, 3) := by decide +kernel
theorem dX1_tickOn_7 : decode cX1_tickOn 7 = .ok (.if_icmp .ge 18, 3) := by decide +kernel
theorem dX1_tickOn_10 : decode cX1_tickOn 10 = .ok (.aload_n 0, 1) := by decide +kernel
theorem dX1_tickOn_11 : decode cX1_tickOn 11 = .ok (.getfield 11, 3) := by decide +kernel
theorem dX1_tickOn_14 : decode cX1_tickOn 14 = .ok (.iload_n 1, 1) := by decide +kernel
theorem dX1_tickOn_15 : decode cX1_tickOn 15 = .ok (.aaload, 1) := by decide +kernel
theorem dX1_tickOn_16 : decode cX1_tickOn 16 = .ok (.invokevirtual 65, 3) := by decide +kernel
theorem dX1_tickOn_19 : decode cX1_tickOn 19 = .ok (.iinc 1 1, 3) := by decide +kernel
theorem dX1_tickOn_22 : decode cX1_tickOn 22 = .ok (.goto (-20), 3) := by decide +kernel
theorem dX1_tickOn_25 : decode cX1_tickOn 25 = .ok (.aload_n 0, 1) := by decide +kernel
theorem dX1_tickOn_26 : decode cX1_tickOn 26 = .ok (.getfield 20, 3) := by decide +kernel
theorem dX1_tickOn_29 : decode cX1_tickOn 29 = .ok (.aload_n 0, 1) := by decide +kernel
theorem dX1_tickOn_30 : decode cX1_tickOn 30 = .ok (.getfield 24, 3) := by decide +kernel
theorem dX1_tickOn_33 : decode cX1_tickOn 33 = .ok (.invokevirtual 68, 3) := by decide +kernel
theorem dX1_tickOn_36 : decode cX1_tickOn 36 = .ok (.iconst 0, 1) := by decide +kernel
theorem dX1_tickOn_37 : decode cX1_tickOn 37 = .ok (.istore_n 1, 1) := by decide +kernel
theorem dX1_tickOn_38 : decode cX1_tickOn 38 = .ok (.iload_n 1, 1) := by decide +kernel
theorem dX1_tickOn_39 : decode cX1_tickOn 39 = .ok (.aload_n 0, 1) := by decide +kernel
theorem dX1_tickOn_40 : decode cX1_tickOn 40 = .ok (.getfield 24, 3) := by decide +kernel
theorem dX1_tickOn_43 : decode cX1_tickOn 43 = .ok (.getfield 71, 3) := by decide +kernel
theorem dX1_tickOn_46 : decode cX1_tickOn 46 = .ok (.if_icmp .ge 49, 3) := by decide +kernel
theorem dX1_tickOn_49 : decode cX1_tickOn 49 = .ok (.aload_n 0, 1) := by decide +kernel
theorem dX1_tickOn_50 : decode cX1_tickOn 50 = .ok (.aload_n 0, 1) := by decide +kernel
theorem dX1_tickOn_51 : decode cX1_tickOn 51 = .ok (.getfield 24, 3) := by decide +kernel
theorem dX1_tickOn_54 : decode cX1_tickOn 54 = .ok (.getfield 74, 3) := by decide +kernel
theorem dX1_tickOn_57 : decode cX1_tickOn 57 = .ok (.iload_n 1, 1) := by decide +kernel
theorem dX1_tickOn_58 : decode cX1_tickOn 58 = .ok (.iaload, 1) := by decide +kernel
theorem dX1_tickOn_59 : decode cX1_tickOn 59 = .ok (.aload_n 0, 1) := by decide +kernel
theorem dX1_tickOn_60 : decode cX1_tickOn 60 = .ok (.getfield 24, 3) := by decide +kernel
theorem dX1_tickOn_63 : decode cX1_tickOn 63 = .ok (.getfield 78, 3) := by decide +kernel
theorem dX1_tickOn_66 : decode cX1_tickOn 66 = .ok (.iload_n 1, 1) := by decide +kernel
theorem dX1_tickOn_67 : decode cX1_tickOn 67 = .ok (.iaload, 1) := by decide +kernel
theorem dX1_tickOn_68 : decode cX1_tickOn 68 = .ok (.aload_n 0, 1) := by decide +kernel
theorem dX1_tickOn_69 : decode cX1_tickOn 69 = .ok (.getfield 24, 3) := by decide +kernel
theorem dX1_tickOn_72 : decode cX1_tickOn 72 = .ok (.getfield 81, 3) := by decide +kernel
theorem dX1_tickOn_75 : decode cX1_tickOn 75 = .ok (.iload_n 1, 1) := by decide +kernel
theorem dX1_tickOn_76 : decode cX1_tickOn 76 = .ok (.iaload, 1) := by decide +kernel
theorem dX1_tickOn_77 : decode cX1_tickOn 77 = .ok (.aload_n 0, 1) := by decide +kernel
theorem dX1_tickOn_78 : decode cX1_tickOn 78 = .ok (.getfield 24, 3) := by decide +kernel
theorem dX1_tickOn_81 : decode cX1_tickOn 81 = .ok (.getfield 84, 3) := by decide +kernel
theorem dX1_tickOn_84 : decode cX1_tickOn 84 = .ok (.iload_n 1, 1) := by decide +kernel
theorem dX1_tickOn_85 : decode cX1_tickOn 85 = .ok (.iaload, 1) := by decide +kernel
theorem dX1_tickOn_86 : decode cX1_tickOn 86 = .ok (.invokevirtual 87, 3) := by decide +kernel
theorem dX1_tickOn_89 : decode cX1_tickOn 89 = .ok (.iinc 1 1, 3) := by decide +kernel
theorem dX1_tickOn_92 : decode cX1_tickOn 92 = .ok (.goto (-54), 3) := by decide +kernel
theorem dX1_tickOn_95 : decode cX1_tickOn 95 = .ok (.iconst 0, 1) := by decide +kernel
theorem dX1_tickOn_96 : decode cX1_tickOn 96 = .ok (.istore_n 1, 1) := by decide +kernel
theorem dX1_tickOn_97 : decode cX1_tickOn 97 = .ok (.iconst 0, 1) := by decide +kernel
theorem dX1_tickOn_98 : decode cX1_tickOn 98 = .ok (.istore_n 2, 1) := by decide +kernel
theorem dX1_tickOn_99 : decode cX1_tickOn 99 = .ok (.iload_n 2, 1) := by decide +kernel
theorem dX1_tickOn_100 : decode cX1_tickOn 100 = .ok (.aload_n 0, 1) := by decide +kernel
theorem dX1_tickOn_101 : decode cX1_tickOn 101 = .ok (.getfield 32, 3) := by decide +kernel
theorem dX1_tickOn_104 : decode cX1_tickOn 104 = .ok (.if_icmp .ge 33, 3) := by decide +kernel
theorem dX1_tickOn_107 : decode cX1_tickOn 107 = .ok (.aload_n 0, 1) := by decide +kernel
theorem dX1_tickOn_108 : decode cX1_tickOn 108 = .ok (.getfield 11, 3) := by decide +kernel
theorem dX1_tickOn_111 : decode cX1_tickOn 111 = .ok (.iload_n 2, 1) := by decide +kernel
theorem dX1_tickOn_112 : decode cX1_tickOn 112 = .ok (.aaload, 1) := by decide +kernel
theorem dX1_tickOn_113 : decode cX1_tickOn 113 = .ok (.getfield 55, 3) := by decide +kernel
theorem dX1_tickOn_116 : decode cX1_tickOn 116 = .ok (.iconst 1, 1) := by decide +kernel
theorem dX1_tickOn_117 : decode cX1_tickOn 117 = .ok (.if_icmp .ne 14, 3) := by decide +kernel
theorem dX1_tickOn_120 : decode cX1_tickOn 120 = .ok (.aload_n 0, 1) := by decide +kernel
theorem dX1_tickOn_121 : decode cX1_tickOn 121 = .ok (.iload_n 2, 1) := by decide +kernel
theorem dX1_tickOn_122 : decode cX1_tickOn 122 = .ok (.invokevirtual 91, 3) := by decide +kernel
theorem dX1_tickOn_125 : decode cX1_tickOn 125 = .ok (.ifCond .eq 6, 3) := by decide +kernel
theorem dX1_tickOn_128 : decode cX1_tickOn 128 = .ok (.iinc 1 1, 3) := by decide +kernel
theorem dX1_tickOn_131 : decode cX1_tickOn 131 = .ok (.iinc 2 1, 3) := by decide +kernel
theorem dX1_tickOn_134 : decode cX1_tickOn 134 = .ok (.goto (-35), 3) := by decide +kernel
theorem dX1_tickOn_137 : decode cX1_tickOn 137 = .ok (.aload_n 0, 1) := by decide +kernel
theorem dX1_tickOn_138 : decode cX1_tickOn 138 = .ok (.dup, 1) := by decide +kernel
theorem dX1_tickOn_139 : decode cX1_tickOn 139 = .ok (.getfield 28, 3) := by decide +kernel
theorem dX1_tickOn_142 : decode cX1_tickOn 142 = .ok (.iconst 1, 1) := by decide +kernel
theorem dX1_tickOn_143 : decode cX1_tickOn 143 = .ok (.iadd, 1) := by decide +kernel
theorem dX1_tickOn_144 : decode cX1_tickOn 144 = .ok (.putfield 28, 3) := by decide +kernel
theorem dX1_tickOn_147 : decode cX1_tickOn 147 = .ok (.iload_n 1, 1) := by decide +kernel
theorem dX1_tickOn_148 : decode cX1_tickOn 148 = .ok (.ireturn, 1) := by decide +kernel
set_option maxRecDepth 20000 in
theorem ggX1_hear_X1_isDoor : GoodIn wsX1_hear wsX1_isDoor := goodIn_r _ [8, 9, 55, 56, 57, 58, 59] (by decide +kernel) (by decide +kernel)
set_option maxRecDepth 20000 in
theorem gX1_hear_X1_isDoor : GoodIn wsX1_hear (wsV RX1 51 RX1 yX1_isDoor wsX1_isDoor) := goodIn_app (goodIn_of _ (by decide +kernel)) ggX1_hear_X1_isDoor
set_option maxRecDepth 20000 in
theorem ggX1_hear_X0_takeAnswer : GoodIn wsX1_hear wsX0_takeAnswer := goodIn_r _ [14, 15, 16, 17, 18, 19, 13, 20, 21, 22, 60, 61, 62, 63, 64, 65, 66, 67, 68, 69, 70, 71, 72, 73] (by decide +kernel) (by decide +kernel)
set_option maxRecDepth 20000 in
theorem gX1_hear_X0_takeAnswer : GoodIn wsX1_hear (wsV RX1 94 RX0 yX0_takeAnswer wsX0_takeAnswer) := goodIn_app (goodIn_of _ (by decide +kernel)) ggX1_hear_X0_takeAnswer
set_option maxRecDepth 20000 in
theorem ggX1_hear_X2_add : GoodIn wsX1_hear wsX2_add := goodIn_r _ [27, 28, 29, 30, 31, 32, 33, 34, 74, 75, 76, 77, 78, 79, 80] (by decide +kernel) (by decide +kernel)
set_option maxRecDepth 20000 in
theorem gX1_hear_X2_add : GoodIn wsX1_hear (wsV RX1 98 RX2 yX2_add wsX2_add) := goodIn_app (goodIn_of _ (by decide +kernel)) ggX1_hear_X2_add
set_option maxRecDepth 20000 in
theorem ggX1_hear_X1_wake : GoodIn wsX1_hear wsX1_wake := goodIn_r _ [38, 1, 39, 3, 40, 41, 42, 43, 44, 13, 45, 15, 46, 47, 23, 24, 25, 26, 27, 28, 29, 30, 31, 32, 33, 34, 55, 56, 57, 58, 59, 60, 61, 62, 63, 64, 65, 66, 67, 68, 69, 70, 71, 72, 73, 74, 75, 76, 77, 78, 79, 80] (by decide +kernel) (by decide +kernel)
set_option maxRecDepth 20000 in
theorem gX1_hear_X1_wake : GoodIn wsX1_hear (wsV RX1 61 RX1 yX1_wake wsX1_wake) := goodIn_app (goodIn_of _ (by decide +kernel)) ggX1_hear_X1_wake
set_option maxRecDepth 20000 in
theorem ggX1_hear_X0_remember : GoodIn wsX1_hear wsX0_remember := goodIn_r _ [51, 52, 53, 54, 60, 61, 62, 63, 64, 65, 66, 67, 68, 69, 70, 71, 72, 73] (by decide +kernel) (by decide +kernel)
set_option maxRecDepth 20000 in
theorem gX1_hear_X0_remember : GoodIn wsX1_hear (wsV RX1 101 RX0 yX0_remember wsX0_remember) := goodIn_app (goodIn_of _ (by decide +kernel)) ggX1_hear_X0_remember
set_option maxRecDepth 20000 in
theorem ggX1_wake_X0_startWaiting : GoodIn wsX1_wake wsX0_startWaiting := goodIn_r _ [10, 11, 12, 13, 31, 32, 33, 34, 35, 36, 37, 38, 39, 40, 41, 42, 43, 44] (by decide +kernel) (by decide +kernel)
set_option maxRecDepth 20000 in
theorem gX1_wake_X0_startWaiting : GoodIn wsX1_wake (wsV RX1 104 RX0 yX0_startWaiting wsX0_startWaiting) := goodIn_app (goodIn_of _ (by decide +kernel)) ggX1_wake_X0_startWaiting
set_option maxRecDepth 20000 in
theorem ggX1_wake_X2_add : GoodIn wsX1_wake wsX2_add := goodIn_r _ [18, 19, 20, 21, 22, 23, 24, 25, 45, 46, 47, 48, 49, 50, 51] (by decide +kernel) (by decide +kernel)
set_option maxRecDepth 20000 in
theorem gX1_wake_X2_add : GoodIn wsX1_wake (wsV RX1 98 RX2 yX2_add wsX2_add) := goodIn_app (goodIn_of _ (by decide +kernel)) ggX1_wake_X2_add
set_option maxRecDepth 20000 in
theorem ggX1_waitOn_X0_isReadyToDecide : GoodIn wsX1_waitOn wsX0_isReadyToDecide := goodIn_r _ [12, 13, 14, 15, 16, 17, 11, 18, 19, 62, 63, 64, 65, 66, 67, 68, 69, 70, 71, 72, 73, 74, 75] (by decide +kernel) (by decide +kernel)
set_option maxRecDepth 20000 in
theorem gX1_waitOn_X0_isReadyToDecide : GoodIn wsX1_waitOn (wsV RX1 117 RX0 yX0_isReadyToDecide wsX0_isReadyToDecide) := goodIn_app (goodIn_of _ (by decide +kernel)) ggX1_waitOn_X0_isReadyToDecide
set_option maxRecDepth 20000 in
theorem ggX1_waitOn_X0_decide : GoodIn wsX1_waitOn wsX0_decide := goodIn_r _ [23, 15, 16, 17, 11, 18, 14, 19, 24, 25, 26, 27, 28, 29, 30, 31, 32, 33, 13, 34, 35, 36, 37, 38, 39, 62, 63, 64, 65, 66, 67, 68, 69, 70, 71, 72, 73, 74, 75] (by decide +kernel) (by decide +kernel)
set_option maxRecDepth 20000 in
theorem gX1_waitOn_X0_decide : GoodIn wsX1_waitOn (wsV RX1 121 RX0 yX0_decide wsX0_decide) := goodIn_app (goodIn_of _ (by decide +kernel)) ggX1_waitOn_X0_decide
set_option maxRecDepth 20000 in
theorem ggX1_waitOn_X2_add : GoodIn wsX1_waitOn wsX2_add := goodIn_r _ [44, 45, 46, 47, 48, 49, 50, 51, 76, 77, 78, 79, 80, 81, 82] (by decide +kernel) (by decide +kernel)
set_option maxRecDepth 20000 in
theorem gX1_waitOn_X2_add : GoodIn wsX1_waitOn (wsV RX1 98 RX2 yX2_add wsX2_add) := goodIn_app (goodIn_of _ (by decide +kernel)) ggX1_waitOn_X2_add
set_option maxRecDepth 20000 in
theorem ggX1_waitOn_X0_forget : GoodIn wsX1_waitOn wsX0_forget := goodIn_r _ [55, 56, 14, 19, 62, 63, 64, 65, 66, 67, 68, 69, 70, 71, 72, 73, 74, 75] (by decide +kernel) (by decide +kernel)
set_option maxRecDepth 20000 in
theorem gX1_waitOn_X0_forget : GoodIn wsX1_waitOn (wsV RX1 133 RX0 yX0_forget wsX0_forget) := goodIn_app (goodIn_of _ (by decide +kernel)) ggX1_waitOn_X0_forget
theorem dX1_openDoors_0 : decode cX1_openDoors 0 = .ok (.iconst 0, 1) := by decide +kernel
theorem dX1_openDoors_1 : decode cX1_openDoors 1 = .ok (.istore_n 1, 1) := by decide +kernel
theorem dX1_openDoors_2 : decode cX1_openDoors 2 = .ok (.iconst 0, 1) := by decide +kernel
theorem dX1_openDoors_3 : decode cX1_openDoors 3 = .ok (.istore_n 2, 1) := by decide +kernel
theorem dX1_openDoors_4 : decode cX1_openDoors 4 = .ok (.iload_n 2, 1) := by decide +kernel
theorem dX1_openDoors_5 : decode cX1_openDoors 5 = .ok (.aload_n 0, 1) := by decide +kernel
theorem dX1_openDoors_6 : decode cX1_openDoors 6 = .ok (.getfield 32, 3) := by decide +kernel
theorem dX1_openDoors_9 : decode cX1_openDoors 9 = .ok (.if_icmp .ge 28, 3) := by decide +kernel
theorem dX1_openDoors_12 : decode cX1_openDoors 12 = .ok (.aload_n 0, 1) := by decide +kernel
theorem dX1_openDoors_13 : decode cX1_openDoors 13 = .ok (.getfield 11, 3) := by decide +kernel
theorem dX1_openDoors_16 : decode cX1_openDoors 16 = .ok (.iload_n 2, 1) := by decide +kernel
theorem dX1_openDoors_17 : decode cX1_openDoors 17 = .ok (.aaload, 1) := by decide +kernel
theorem dX1_openDoors_18 : decode cX1_openDoors 18 = .ok (.getfield 55, 3) := by decide +kernel
theorem dX1_openDoors_21 : decode cX1_openDoors 21 = .ok (.iconst 2, 1) := by decide +kernel
theorem dX1_openDoors_22 : decode cX1_openDoors 22 = .ok (.if_icmp .ne 9, 3) := by decide +kernel
theorem dX1_openDoors_25 : decode cX1_openDoors 25 = .ok (.iload_n 1, 1) := by decide +kernel
theorem dX1_openDoors_26 : decode cX1_openDoors 26 = .ok (.iconst 1, 1) := by decide +kernel
theorem dX1_openDoors_27 : decode cX1_openDoors 27 = .ok (.iload_n 2, 1) := by decide +kernel
theorem dX1_openDoors_28 : decode cX1_openDoors 28 = .ok (.ishl, 1) := by decide +kernel
theorem dX1_openDoors_29 : decode cX1_openDoors 29 = .ok (.ior, 1) := by decide +kernel
theorem dX1_openDoors_30 : decode cX1_openDoors 30 = .ok (.istore_n 1, 1) := by decide +kernel
theorem dX1_openDoors_31 : decode cX1_openDoors 31 = .ok (.iinc 2 1, 3) := by decide +kernel
theorem dX1_openDoors_34 : decode cX1_openDoors 34 = .ok (.goto (-30), 3) := by decide +kernel
theorem dX1_openDoors_37 : decode cX1_openDoors 37 = .ok (.iload_n 1, 1) := by decide +kernel
theorem dX1_openDoors_38 : decode cX1_openDoors 38 = .ok (.ireturn, 1) := by decide +kernel
theorem dX1_doorsThat_0 : decode cX1_doorsThat 0 = .ok (.iconst 0, 1) := by decide +kernel
theorem dX1_doorsThat_1 : decode cX1_doorsThat 1 = .ok (.istore_n 2, 1) := by decide +kernel
theorem dX1_doorsThat_2 : decode cX1_doorsThat 2 = .ok (.iconst 0, 1) := by decide +kernel
theorem dX1_doorsThat_3 : decode cX1_doorsThat 3 = .ok (.istore_n 3, 1) := by decide +kernel
theorem dX1_doorsThat_4 : decode cX1_doorsThat 4 = .ok (.iload_n 3, 1) := by decide +kernel
theorem dX1_doorsThat_5 : decode cX1_doorsThat 5 = .ok (.aload_n 0, 1) := by decide +kernel
theorem dX1_doorsThat_6 : decode cX1_doorsThat 6 = .ok (.getfield 32, 3) := by decide +kernel
theorem dX1_doorsThat_9 : decode cX1_doorsThat 9 = .ok (.if_icmp .ge 25, 3) := by decide +kernel
theorem dX1_doorsThat_12 : decode cX1_doorsThat 12 = .ok (.aload_n 0, 1) := by decide +kernel
theorem dX1_doorsThat_13 : decode cX1_doorsThat 13 = .ok (.getfield 11, 3) := by decide +kernel
theorem dX1_doorsThat_16 : decode cX1_doorsThat 16 = .ok (.iload_n 3, 1) := by decide +kernel
theorem dX1_doorsThat_17 : decode cX1_doorsThat 17 = .ok (.aaload, 1) := by decide +kernel
theorem dX1_doorsThat_18 : decode cX1_doorsThat 18 = .ok (.getfield 55, 3) := by decide +kernel
theorem dX1_doorsThat_21 : decode cX1_doorsThat 21 = .ok (.iload_n 1, 1) := by decide +kernel
theorem dX1_doorsThat_22 : decode cX1_doorsThat 22 = .ok (.if_icmp .ne 6, 3) := by decide +kernel
theorem dX1_doorsThat_25 : decode cX1_doorsThat 25 = .ok (.iinc 2 1, 3) := by decide +kernel
theorem dX1_doorsThat_28 : decode cX1_doorsThat 28 = .ok (.iinc 3 1, 3) := by decide +kernel
theorem dX1_doorsThat_31 : decode cX1_doorsThat 31 = .ok (.goto (-27), 3) := by decide +kernel
theorem dX1_doorsThat_34 : decode cX1_doorsThat 34 = .ok (.iload_n 2, 1) := by decide +kernel
theorem dX1_doorsThat_35 : decode cX1_doorsThat 35 = .ok (.ireturn, 1) := by decide +kernel
set_option maxRecDepth 20000 in
theorem ggX1_fact_X1_doorsThat : GoodIn wsX1_fact wsX1_doorsThat := goodIn_r _ [10, 2, 11, 12, 17, 18, 19, 20, 21, 29, 30, 31, 32, 33, 34, 35, 36, 37, 38, 39, 40, 41, 42] (by decide +kernel) (by decide +kernel)
set_option maxRecDepth 20000 in
theorem gX1_fact_X1_doorsThat : GoodIn wsX1_fact (wsV RX1 136 RX1 yX1_doorsThat wsX1_doorsThat) := goodIn_app (goodIn_of _ (by decide +kernel)) ggX1_fact_X1_doorsThat
set_option maxRecDepth 20000 in
theorem ggX1_fact_X1_openDoors : GoodIn wsX1_fact wsX1_openDoors := goodIn_r _ [16, 2, 11, 12, 17, 18, 19, 20, 21, 29, 30, 31, 32, 33, 34, 35, 36, 37, 38, 39, 40, 41, 42] (by decide +kernel) (by decide +kernel)
set_option maxRecDepth 20000 in
theorem gX1_fact_X1_openDoors : GoodIn wsX1_fact (wsV RX1 143 RX1 yX1_openDoors wsX1_openDoors) := goodIn_app (goodIn_of _ (by decide +kernel)) ggX1_fact_X1_openDoors
theorem dX1_fact_0 : decode cX1_fact 0 = .ok (.iload_n 1, 1) := by decide +kernel
theorem dX1_fact_1 : decode cX1_fact 1 = .ok (.tableswitch 97 0 7 #[47, 52, 57, 63, 69, 75, 81, 89], 47) := by decide +kernel
theorem dX1_fact_48 : decode cX1_fact 48 = .ok (.aload_n 0, 1) := by decide +kernel
theorem dX1_fact_49 : decode cX1_fact 49 = .ok (.getfield 28, 3) := by decide +kernel
theorem dX1_fact_52 : decode cX1_fact 52 = .ok (.ireturn, 1) := by decide +kernel
theorem dX1_fact_53 : decode cX1_fact 53 = .ok (.aload_n 0, 1) := by decide +kernel
theorem dX1_fact_54 : decode cX1_fact 54 = .ok (.getfield 32, 3) := by decide +kernel
theorem dX1_fact_57 : decode cX1_fact 57 = .ok (.ireturn, 1) := by decide +kernel
theorem dX1_fact_58 : decode cX1_fact 58 = .ok (.aload_n 0, 1) := by decide +kernel
theorem dX1_fact_59 : decode cX1_fact 59 = .ok (.iconst 0, 1) := by decide +kernel
theorem dX1_fact_60 : decode cX1_fact 60 = .ok (.invokevirtual 136, 3) := by decide +kernel
theorem dX1_fact_63 : decode cX1_fact 63 = .ok (.ireturn, 1) := by decide +kernel
theorem dX1_fact_64 : decode cX1_fact 64 = .ok (.aload_n 0, 1) := by decide +kernel
theorem dX1_fact_65 : decode cX1_fact 65 = .ok (.iconst 1, 1) := by decide +kernel
theorem dX1_fact_66 : decode cX1_fact 66 = .ok (.invokevirtual 136, 3) := by decide +kernel
theorem dX1_fact_69 : decode cX1_fact 69 = .ok (.ireturn, 1) := by decide +kernel
theorem dX1_fact_70 : decode cX1_fact 70 = .ok (.aload_n 0, 1) := by decide +kernel
theorem dX1_fact_71 : decode cX1_fact 71 = .ok (.iconst 2, 1) := by decide +kernel
theorem dX1_fact_72 : decode cX1_fact 72 = .ok (.invokevirtual 136, 3) := by decide +kernel
theorem dX1_fact_75 : decode cX1_fact 75 = .ok (.ireturn, 1) := by decide +kernel
theorem dX1_fact_76 : decode cX1_fact 76 = .ok (.aload_n 0, 1) := by decide +kernel
theorem dX1_fact_77 : decode cX1_fact 77 = .ok (.iconst 3, 1) := by decide +kernel
theorem dX1_fact_78 : decode cX1_fact 78 = .ok (.invokevirtual 136, 3) := by decide +kernel
theorem dX1_fact_81 : decode cX1_fact 81 = .ok (.ireturn, 1) := by decide +kernel
theorem dX1_fact_82 : decode cX1_fact 82 = .ok (.aload_n 0, 1) := by decide +kernel
theorem dX1_fact_83 : decode cX1_fact 83 = .ok (.getfield 20, 3) := by decide +kernel
theorem dX1_fact_86 : decode cX1_fact 86 = .ok (.getfield 71, 3) := by decide +kernel
theorem dX1_fact_89 : decode cX1_fact 89 = .ok (.ireturn, 1) := by decide +kernel
theorem dX1_fact_90 : decode cX1_fact 90 = .ok (.aload_n 0, 1) := by decide +kernel
theorem dX1_fact_91 : decode cX1_fact 91 = .ok (.getfield 20, 3) := by decide +kernel
theorem dX1_fact_94 : decode cX1_fact 94 = .ok (.getfield 140, 3) := by decide +kernel
theorem dX1_fact_97 : decode cX1_fact 97 = .ok (.ireturn, 1) := by decide +kernel
theorem dX1_fact_98 : decode cX1_fact 98 = .ok (.aload_n 0, 1) := by decide +kernel
theorem dX1_fact_99 : decode cX1_fact 99 = .ok (.invokevirtual 143, 3) := by decide +kernel
theorem dX1_fact_102 : decode cX1_fact 102 = .ok (.ireturn, 1) := by decide +kernel
set_option maxRecDepth 20000 in
theorem ggX1_reachedFrom_X1_askedBy : GoodIn wsX1_reachedFrom wsX1_askedBy := goodIn_r _ [6, 7, 8, 9, 10, 11, 12, 5, 13, 1, 14, 15, 16, 17, 18, 19, 20, 21, 22, 23, 24, 25, 26, 27, 28, 29, 30, 31, 32] (by decide +kernel) (by decide +kernel)
set_option maxRecDepth 20000 in
theorem gX1_reachedFrom_X1_askedBy : GoodIn wsX1_reachedFrom (wsV RX1 147 RX1 yX1_askedBy wsX1_askedBy) := goodIn_app (goodIn_of _ (by decide +kernel)) ggX1_reachedFrom_X1_askedBy
set_option maxRecDepth 20000 in
theorem ggX1_askedBy_X1_isDoor : GoodIn wsX1_askedBy wsX1_isDoor := goodIn_r _ [8, 9, 10, 11, 12, 13, 14] (by decide +kernel) (by decide +kernel)
set_option maxRecDepth 20000 in
theorem gX1_askedBy_X1_isDoor : GoodIn wsX1_askedBy (wsV RX1 51 RX1 yX1_isDoor wsX1_isDoor) := goodIn_app (goodIn_of _ (by decide +kernel)) ggX1_askedBy_X1_isDoor
theorem dX2_init_0 : decode cX2_init 0 = .ok (.aload_n 0, 1) := by decide +kernel
theorem dX2_init_1 : decode cX2_init 1 = .ok (.invokespecial 3, 3) := by decide +kernel
theorem dX2_init_4 : decode cX2_init 4 = .ok (.aload_n 0, 1) := by decide +kernel
theorem dX2_init_5 : decode cX2_init 5 = .ok (.bipush 60, 2) := by decide +kernel
theorem dX2_init_7 : decode cX2_init 7 = .ok (.newarray .int, 2) := by decide +kernel
theorem dX2_init_9 : decode cX2_init 9 = .ok (.putfield 9, 3) := by decide +kernel
theorem dX2_init_12 : decode cX2_init 12 = .ok (.aload_n 0, 1) := by decide +kernel
theorem dX2_init_13 : decode cX2_init 13 = .ok (.bipush 60, 2) := by decide +kernel
theorem dX2_init_15 : decode cX2_init 15 = .ok (.newarray .int, 2) := by decide +kernel
theorem dX2_init_17 : decode cX2_init 17 = .ok (.putfield 15, 3) := by decide +kernel
theorem dX2_init_20 : decode cX2_init 20 = .ok (.aload_n 0, 1) := by decide +kernel
theorem dX2_init_21 : decode cX2_init 21 = .ok (.bipush 60, 2) := by decide +kernel
theorem dX2_init_23 : decode cX2_init 23 = .ok (.newarray .int, 2) := by decide +kernel
theorem dX2_init_25 : decode cX2_init 25 = .ok (.putfield 18, 3) := by decide +kernel
theorem dX2_init_28 : decode cX2_init 28 = .ok (.aload_n 0, 1) := by decide +kernel
theorem dX2_init_29 : decode cX2_init 29 = .ok (.bipush 60, 2) := by decide +kernel
theorem dX2_init_31 : decode cX2_init 31 = .ok (.newarray .int, 2) := by decide +kernel
theorem dX2_init_33 : decode cX2_init 33 = .ok (.putfield 21, 3) := by decide +kernel
theorem dX2_init_36 : decode cX2_init 36 = .ok (.aload_n 0, 1) := by decide +kernel
theorem dX2_init_37 : decode cX2_init 37 = .ok (.bipush 60, 2) := by decide +kernel
theorem dX2_init_39 : decode cX2_init 39 = .ok (.newarray .int, 2) := by decide +kernel
theorem dX2_init_41 : decode cX2_init 41 = .ok (.putfield 24, 3) := by decide +kernel
theorem dX2_init_44 : decode cX2_init 44 = .ok (.return_, 1) := by decide +kernel
set_option maxRecDepth 20000 in
theorem ggX2_moveOn_X2_add : GoodIn wsX2_moveOn wsX2_add := goodIn_r _ [11, 1, 12, 3, 4, 5, 2, 6, 17, 18, 19, 20, 21, 22, 23] (by decide +kernel) (by decide +kernel)
set_option maxRecDepth 20000 in
theorem gX2_moveOn_X2_add : GoodIn wsX2_moveOn (wsV RX2 40 RX2 yX2_add wsX2_add) := goodIn_app (goodIn_of _ (by decide +kernel)) ggX2_moveOn_X2_add
set_option maxRecDepth 20000 in
theorem ggX2_moveOn_X2_moveUp : GoodIn wsX2_moveOn wsX2_moveUp := goodIn_r _ [16, 3, 4, 5, 2, 6, 17, 18, 19, 20, 21, 22, 23] (by decide +kernel) (by decide +kernel)
set_option maxRecDepth 20000 in
theorem gX2_moveOn_X2_moveUp : GoodIn wsX2_moveOn (wsV RX2 44 RX2 yX2_moveUp wsX2_moveUp) := goodIn_app (goodIn_of _ (by decide +kernel)) ggX2_moveOn_X2_moveUp
theorem dX2_moveOn_0 : decode cX2_moveOn 0 = .ok (.aload_n 1, 1) := by decide +kernel
theorem dX2_moveOn_1 : decode cX2_moveOn 1 = .ok (.iconst 0, 1) := by decide +kernel
theorem dX2_moveOn_2 : decode cX2_moveOn 2 = .ok (.putfield 27, 3) := by decide +kernel
theorem dX2_moveOn_5 : decode cX2_moveOn 5 = .ok (.iconst 0, 1) := by decide +kernel
theorem dX2_moveOn_6 : decode cX2_moveOn 6 = .ok (.istore_n 2, 1) := by decide +kernel
theorem dX2_moveOn_7 : decode cX2_moveOn 7 = .ok (.iconst 0, 1) := by decide +kernel
theorem dX2_moveOn_8 : decode cX2_moveOn 8 = .ok (.istore_n 3, 1) := by decide +kernel
theorem dX2_moveOn_9 : decode cX2_moveOn 9 = .ok (.iload_n 3, 1) := by decide +kernel
theorem dX2_moveOn_10 : decode cX2_moveOn 10 = .ok (.aload_n 0, 1) := by decide +kernel
theorem dX2_moveOn_11 : decode cX2_moveOn 11 = .ok (.getfield 27, 3) := by decide +kernel
theorem dX2_moveOn_14 : decode cX2_moveOn 14 = .ok (.if_icmp .ge 68, 3) := by decide +kernel
theorem dX2_moveOn_17 : decode cX2_moveOn 17 = .ok (.aload_n 0, 1) := by decide +kernel
theorem dX2_moveOn_18 : decode cX2_moveOn 18 = .ok (.getfield 21, 3) := by decide +kernel
theorem dX2_moveOn_21 : decode cX2_moveOn 21 = .ok (.iload_n 3, 1) := by decide +kernel
theorem dX2_moveOn_22 : decode cX2_moveOn 22 = .ok (.dup2, 1) := by decide +kernel
theorem dX2_moveOn_23 : decode cX2_moveOn 23 = .ok (.iaload, 1) := by decide +kernel
theorem dX2_moveOn_24 : decode cX2_moveOn 24 = .ok (.iconst 1, 1) := by decide +kernel
theorem dX2_moveOn_25 : decode cX2_moveOn 25 = .ok (.isub, 1) := by decide +kernel
theorem dX2_moveOn_26 : decode cX2_moveOn 26 = .ok (.iastore, 1) := by decide +kernel
theorem dX2_moveOn_27 : decode cX2_moveOn 27 = .ok (.aload_n 0, 1) := by decide +kernel
theorem dX2_moveOn_28 : decode cX2_moveOn 28 = .ok (.getfield 21, 3) := by decide +kernel
theorem dX2_moveOn_31 : decode cX2_moveOn 31 = .ok (.iload_n 3, 1) := by decide +kernel
theorem dX2_moveOn_32 : decode cX2_moveOn 32 = .ok (.iaload, 1) := by decide +kernel
theorem dX2_moveOn_33 : decode cX2_moveOn 33 = .ok (.ifCond .gt 34, 3) := by decide +kernel
theorem dX2_moveOn_36 : decode cX2_moveOn 36 = .ok (.aload_n 1, 1) := by decide +kernel
theorem dX2_moveOn_37 : decode cX2_moveOn 37 = .ok (.aload_n 0, 1) := by decide +kernel
theorem dX2_moveOn_38 : decode cX2_moveOn 38 = .ok (.getfield 9, 3) := by decide +kernel
theorem dX2_moveOn_41 : decode cX2_moveOn 41 = .ok (.iload_n 3, 1) := by decide +kernel
theorem dX2_moveOn_42 : decode cX2_moveOn 42 = .ok (.iaload, 1) := by decide +kernel
theorem dX2_moveOn_43 : decode cX2_moveOn 43 = .ok (.aload_n 0, 1) := by decide +kernel
theorem dX2_moveOn_44 : decode cX2_moveOn 44 = .ok (.getfield 15, 3) := by decide +kernel
theorem dX2_moveOn_47 : decode cX2_moveOn 47 = .ok (.iload_n 3, 1) := by decide +kernel
theorem dX2_moveOn_48 : decode cX2_moveOn 48 = .ok (.iaload, 1) := by decide +kernel
theorem dX2_moveOn_49 : decode cX2_moveOn 49 = .ok (.aload_n 0, 1) := by decide +kernel
theorem dX2_moveOn_50 : decode cX2_moveOn 50 = .ok (.getfield 18, 3) := by decide +kernel
theorem dX2_moveOn_53 : decode cX2_moveOn 53 = .ok (.iload_n 3, 1) := by decide +kernel
theorem dX2_moveOn_54 : decode cX2_moveOn 54 = .ok (.iaload, 1) := by decide +kernel
theorem dX2_moveOn_55 : decode cX2_moveOn 55 = .ok (.aload_n 0, 1) := by decide +kernel
theorem dX2_moveOn_56 : decode cX2_moveOn 56 = .ok (.getfield 24, 3) := by decide +kernel
theorem dX2_moveOn_59 : decode cX2_moveOn 59 = .ok (.iload_n 3, 1) := by decide +kernel
theorem dX2_moveOn_60 : decode cX2_moveOn 60 = .ok (.iaload, 1) := by decide +kernel
theorem dX2_moveOn_61 : decode cX2_moveOn 61 = .ok (.invokevirtual 40, 3) := by decide +kernel
theorem dX2_moveOn_64 : decode cX2_moveOn 64 = .ok (.goto 12, 3) := by decide +kernel
theorem dX2_moveOn_67 : decode cX2_moveOn 67 = .ok (.aload_n 0, 1) := by decide +kernel
theorem dX2_moveOn_68 : decode cX2_moveOn 68 = .ok (.iload_n 3, 1) := by decide +kernel
theorem dX2_moveOn_69 : decode cX2_moveOn 69 = .ok (.iload_n 2, 1) := by decide +kernel
theorem dX2_moveOn_70 : decode cX2_moveOn 70 = .ok (.invokevirtual 44, 3) := by decide +kernel
theorem dX2_moveOn_73 : decode cX2_moveOn 73 = .ok (.iinc 2 1, 3) := by decide +kernel
theorem dX2_moveOn_76 : decode cX2_moveOn 76 = .ok (.iinc 3 1, 3) := by decide +kernel
theorem dX2_moveOn_79 : decode cX2_moveOn 79 = .ok (.goto (-70), 3) := by decide +kernel
theorem dX2_moveOn_82 : decode cX2_moveOn 82 = .ok (.aload_n 0, 1) := by decide +kernel
theorem dX2_moveOn_83 : decode cX2_moveOn 83 = .ok (.iload_n 2, 1) := by decide +kernel
theorem dX2_moveOn_84 : decode cX2_moveOn 84 = .ok (.putfield 27, 3) := by decide +kernel
theorem dX2_moveOn_87 : decode cX2_moveOn 87 = .ok (.return_, 1) := by decide +kernel
set_option maxRecDepth 20000 in
theorem ggX2_fact_X3_isIn : GoodIn wsX2_fact wsX3_isIn := goodIn_r _ [8] (by decide +kernel) (by decide +kernel)
set_option maxRecDepth 20000 in
theorem gX2_fact_X3_isIn_n48 : GoodIn wsX2_fact (wsX3_isIn) := ggX2_fact_X3_isIn
set_option maxRecDepth 20000 in
theorem ggX3_init_X1_init : GoodIn wsX3_init wsX1_init := goodIn_r _ [11, 12, 2, 3, 13, 14, 15, 16, 17, 18, 19, 20, 21, 22, 23, 24, 25, 26, 27, 28, 29, 30, 31, 32, 33, 34, 35, 36, 37, 38, 39, 40, 41, 42, 43, 46, 47, 48, 49, 50, 51, 52, 53, 54, 55, 56, 57, 58, 59, 60, 61, 62, 63, 64, 65, 66] (by decide +kernel) (by decide +kernel)
set_option maxRecDepth 20000 in
theorem gX3_init_X1_init : GoodIn wsX3_init (wsX1_init) := ggX3_init_X1_init
theorem dX3_init_0 : decode cX3_init 0 = .ok (.aload_n 0, 1) := by decide +kernel
theorem dX3_init_1 : decode cX3_init 1 = .ok (.invokespecial 1, 3) := by decide +kernel
theorem dX3_init_4 : decode cX3_init 4 = .ok (.aload_n 0, 1) := by decide +kernel
theorem dX3_init_5 : decode cX3_init 5 = .ok (.new 7, 3) := by decide +kernel
theorem dX3_init_8 : decode cX3_init 8 = .ok (.dup, 1) := by decide +kernel
theorem dX3_init_9 : decode cX3_init 9 = .ok (.invokespecial 9, 3) := by decide +kernel
theorem dX3_init_12 : decode cX3_init 12 = .ok (.putfield 10, 3) := by decide +kernel
theorem dX3_init_15 : decode cX3_init 15 = .ok (.aload_n 0, 1) := by decide +kernel
theorem dX3_init_16 : decode cX3_init 16 = .ok (.new 7, 3) := by decide +kernel
theorem dX3_init_19 : decode cX3_init 19 = .ok (.dup, 1) := by decide +kernel
theorem dX3_init_20 : decode cX3_init 20 = .ok (.invokespecial 9, 3) := by decide +kernel
theorem dX3_init_23 : decode cX3_init 23 = .ok (.putfield 16, 3) := by decide +kernel
theorem dX3_init_26 : decode cX3_init 26 = .ok (.return_, 1) := by decide +kernel
set_option maxRecDepth 20000 in
theorem ggX3_build_X3_isIn : GoodIn wsX3_build wsX3_isIn := goodIn_r _ [10] (by decide +kernel) (by decide +kernel)
set_option maxRecDepth 20000 in
theorem gX3_build_X3_isIn : GoodIn wsX3_build (va_wsS RX3 19 yX3_isIn wsX3_isIn) := goodIn_app (goodIn_of _ (by decide +kernel)) ggX3_build_X3_isIn
set_option maxRecDepth 20000 in
theorem ggX3_build_X3_isPatience : GoodIn wsX3_build wsX3_isPatience := goodIn_r _ [13, 7, 8, 9, 10] (by decide +kernel) (by decide +kernel)
set_option maxRecDepth 20000 in
theorem gX3_build_X3_isPatience : GoodIn wsX3_build (va_wsS RX3 30 yX3_isPatience wsX3_isPatience) := goodIn_app (goodIn_of _ (by decide +kernel)) ggX3_build_X3_isPatience
set_option maxRecDepth 20000 in
theorem ggX3_build_X3_isRule : GoodIn wsX3_build wsX3_isRule := goodIn_r _ [16, 7, 8, 9, 10] (by decide +kernel) (by decide +kernel)
set_option maxRecDepth 20000 in
theorem gX3_build_X3_isRule : GoodIn wsX3_build (va_wsS RX3 34 yX3_isRule wsX3_isRule) := goodIn_app (goodIn_of _ (by decide +kernel)) ggX3_build_X3_isRule
set_option maxRecDepth 20000 in
theorem ggX3_build_X1_addDoor : GoodIn wsX3_build wsX1_addDoor := goodIn_r _ [21, 22, 23, 24, 25, 26, 29, 30, 31, 32, 33, 34, 35, 36, 37, 38, 39, 40, 41, 42, 43, 44, 45, 46, 47] (by decide +kernel) (by decide +kernel)
set_option maxRecDepth 20000 in
theorem gX3_build_X1_addDoor : GoodIn wsX3_build (wsV RX3 48 RX1 yX1_addDoor wsX1_addDoor) := goodIn_app (goodIn_of _ (by decide +kernel)) ggX3_build_X1_addDoor
theorem dX3_build_0 : decode cX3_build 0 = .ok (.iload_n 1, 1) := by decide +kernel
theorem dX3_build_1 : decode cX3_build 1 = .ok (.iconst 0, 1) := by decide +kernel
theorem dX3_build_2 : decode cX3_build 2 = .ok (.bipush 99, 2) := by decide +kernel
theorem dX3_build_4 : decode cX3_build 4 = .ok (.invokestatic 19, 3) := by decide +kernel
theorem dX3_build_7 : decode cX3_build 7 = .ok (.ifCond .ne 13, 3) := by decide +kernel
theorem dX3_build_10 : decode cX3_build 10 = .ok (.new 23, 3) := by decide +kernel
theorem dX3_build_13 : decode cX3_build 13 = .ok (.dup, 1) := by decide +kernel
theorem dX3_build_14 : decode cX3_build 14 = .ok (.ldc 25, 2) := by decide +kernel
theorem dX3_build_16 : decode cX3_build 16 = .ok (.invokespecial 27, 3) := by decide +kernel
theorem dX3_build_19 : decode cX3_build 19 = .ok (.athrow, 1) := by decide +kernel
theorem dX3_build_20 : decode cX3_build 20 = .ok (.iload_n 2, 1) := by decide +kernel
theorem dX3_build_21 : decode cX3_build 21 = .ok (.invokestatic 30, 3) := by decide +kernel
theorem dX3_build_24 : decode cX3_build 24 = .ok (.ifCond .eq 10, 3) := by decide +kernel
theorem dX3_build_27 : decode cX3_build 27 = .ok (.iload_n 3, 1) := by decide +kernel
theorem dX3_build_28 : decode cX3_build 28 = .ok (.invokestatic 34, 3) := by decide +kernel
theorem dX3_build_31 : decode cX3_build 31 = .ok (.ifCond .ne 13, 3) := by decide +kernel
theorem dX3_build_34 : decode cX3_build 34 = .ok (.new 23, 3) := by decide +kernel
theorem dX3_build_37 : decode cX3_build 37 = .ok (.dup, 1) := by decide +kernel
theorem dX3_build_38 : decode cX3_build 38 = .ok (.ldc 37, 2) := by decide +kernel
theorem dX3_build_40 : decode cX3_build 40 = .ok (.invokespecial 27, 3) := by decide +kernel
theorem dX3_build_43 : decode cX3_build 43 = .ok (.athrow, 1) := by decide +kernel
theorem dX3_build_44 : decode cX3_build 44 = .ok (.aload_n 0, 1) := by decide +kernel
theorem dX3_build_45 : decode cX3_build 45 = .ok (.getfield 10, 3) := by decide +kernel
theorem dX3_build_48 : decode cX3_build 48 = .ok (.getfield 39, 3) := by decide +kernel
theorem dX3_build_51 : decode cX3_build 51 = .ok (.bipush 10, 2) := by decide +kernel
theorem dX3_build_53 : decode cX3_build 53 = .ok (.if_icmp .lt 13, 3) := by decide +kernel
theorem dX3_build_56 : decode cX3_build 56 = .ok (.new 43, 3) := by decide +kernel
theorem dX3_build_59 : decode cX3_build 59 = .ok (.dup, 1) := by decide +kernel
theorem dX3_build_60 : decode cX3_build 60 = .ok (.ldc 45, 2) := by decide +kernel
theorem dX3_build_62 : decode cX3_build 62 = .ok (.invokespecial 47, 3) := by decide +kernel
theorem dX3_build_65 : decode cX3_build 65 = .ok (.athrow, 1) := by decide +kernel
theorem dX3_build_66 : decode cX3_build 66 = .ok (.aload_n 0, 1) := by decide +kernel
theorem dX3_build_67 : decode cX3_build 67 = .ok (.getfield 10, 3) := by decide +kernel
theorem dX3_build_70 : decode cX3_build 70 = .ok (.iload_n 1, 1) := by decide +kernel
theorem dX3_build_71 : decode cX3_build 71 = .ok (.iload_n 2, 1) := by decide +kernel
theorem dX3_build_72 : decode cX3_build 72 = .ok (.iload_n 3, 1) := by decide +kernel
theorem dX3_build_73 : decode cX3_build 73 = .ok (.invokevirtual 48, 3) := by decide +kernel
theorem dX3_build_76 : decode cX3_build 76 = .ok (.ireturn, 1) := by decide +kernel
set_option maxRecDepth 20000 in
theorem ggX3_ask_X1_isDoor : GoodIn wsX3_ask wsX1_isDoor := goodIn_r _ [15, 16, 36, 37, 38, 39, 40] (by decide +kernel) (by decide +kernel)
set_option maxRecDepth 20000 in
theorem gX3_ask_X1_isDoor : GoodIn wsX3_ask (wsV RX3 52 RX1 yX1_isDoor wsX1_isDoor) := goodIn_app (goodIn_of _ (by decide +kernel)) ggX3_ask_X1_isDoor
set_option maxRecDepth 20000 in
theorem ggX3_ask_X3_isIn : GoodIn wsX3_ask wsX3_isIn := goodIn_r _ [20] (by decide +kernel) (by decide +kernel)
set_option maxRecDepth 20000 in
theorem gX3_ask_X3_isIn : GoodIn wsX3_ask (va_wsS RX3 19 yX3_isIn wsX3_isIn) := goodIn_app (goodIn_of _ (by decide +kernel)) ggX3_ask_X3_isIn
set_option maxRecDepth 20000 in
theorem ggX3_ask_X0_placeOf : GoodIn wsX3_ask wsX0_placeOf := goodIn_r _ [25, 26, 27, 41, 42, 43, 44, 45, 46, 47, 48, 49, 50, 51, 52, 53, 54] (by decide +kernel) (by decide +kernel)
set_option maxRecDepth 20000 in
theorem gX3_ask_X0_placeOf : GoodIn wsX3_ask (wsV RX3 71 RX0 yX0_placeOf wsX0_placeOf) := goodIn_app (goodIn_of _ (by decide +kernel)) ggX3_ask_X0_placeOf
set_option maxRecDepth 20000 in
theorem ggX3_ask_X0_addAsked : GoodIn wsX3_ask wsX0_addAsked := goodIn_r _ [31, 26, 27, 32, 33, 41, 42, 43, 44, 45, 46, 47, 48, 49, 50, 51, 52, 53, 54] (by decide +kernel) (by decide +kernel)
set_option maxRecDepth 20000 in
theorem gX3_ask_X0_addAsked : GoodIn wsX3_ask (wsV RX3 80 RX0 yX0_addAsked wsX0_addAsked) := goodIn_app (goodIn_of _ (by decide +kernel)) ggX3_ask_X0_addAsked
theorem dX3_ask_0 : decode cX3_ask 0 = .ok (.aload_n 0, 1) := by decide +kernel
theorem dX3_ask_1 : decode cX3_ask 1 = .ok (.getfield 10, 3) := by decide +kernel
theorem dX3_ask_4 : decode cX3_ask 4 = .ok (.iload_n 1, 1) := by decide +kernel
theorem dX3_ask_5 : decode cX3_ask 5 = .ok (.invokevirtual 52, 3) := by decide +kernel
theorem dX3_ask_8 : decode cX3_ask 8 = .ok (.ifCond .eq 14, 3) := by decide +kernel
theorem dX3_ask_11 : decode cX3_ask 11 = .ok (.aload_n 0, 1) := by decide +kernel
theorem dX3_ask_12 : decode cX3_ask 12 = .ok (.getfield 10, 3) := by decide +kernel
theorem dX3_ask_15 : decode cX3_ask 15 = .ok (.iload_n 2, 1) := by decide +kernel
theorem dX3_ask_16 : decode cX3_ask 16 = .ok (.invokevirtual 52, 3) := by decide +kernel
theorem dX3_ask_19 : decode cX3_ask 19 = .ok (.ifCond .ne 13, 3) := by decide +kernel
theorem dX3_ask_22 : decode cX3_ask 22 = .ok (.new 55, 3) := by decide +kernel
theorem dX3_ask_25 : decode cX3_ask 25 = .ok (.dup, 1) := by decide +kernel
theorem dX3_ask_26 : decode cX3_ask 26 = .ok (.ldc 57, 2) := by decide +kernel
theorem dX3_ask_28 : decode cX3_ask 28 = .ok (.invokespecial 59, 3) := by decide +kernel
theorem dX3_ask_31 : decode cX3_ask 31 = .ok (.athrow, 1) := by decide +kernel
theorem dX3_ask_32 : decode cX3_ask 32 = .ok (.iload_n 1, 1) := by decide +kernel
theorem dX3_ask_33 : decode cX3_ask 33 = .ok (.iload_n 2, 1) := by decide +kernel
theorem dX3_ask_34 : decode cX3_ask 34 = .ok (.if_icmp .eq 12, 3) := by decide +kernel
theorem dX3_ask_37 : decode cX3_ask 37 = .ok (.iload_n 3, 1) := by decide +kernel
theorem dX3_ask_38 : decode cX3_ask 38 = .ok (.iconst 1, 1) := by decide +kernel
theorem dX3_ask_39 : decode cX3_ask 39 = .ok (.iconst 5, 1) := by decide +kernel
theorem dX3_ask_40 : decode cX3_ask 40 = .ok (.invokestatic 19, 3) := by decide +kernel
theorem dX3_ask_43 : decode cX3_ask 43 = .ok (.ifCond .ne 13, 3) := by decide +kernel
theorem dX3_ask_46 : decode cX3_ask 46 = .ok (.new 23, 3) := by decide +kernel
theorem dX3_ask_49 : decode cX3_ask 49 = .ok (.dup, 1) := by decide +kernel
theorem dX3_ask_50 : decode cX3_ask 50 = .ok (.ldc 60, 2) := by decide +kernel
theorem dX3_ask_52 : decode cX3_ask 52 = .ok (.invokespecial 27, 3) := by decide +kernel
theorem dX3_ask_55 : decode cX3_ask 55 = .ok (.athrow, 1) := by decide +kernel
theorem dX3_ask_56 : decode cX3_ask 56 = .ok (.aload_n 0, 1) := by decide +kernel
theorem dX3_ask_57 : decode cX3_ask 57 = .ok (.getfield 10, 3) := by decide +kernel
theorem dX3_ask_60 : decode cX3_ask 60 = .ok (.getfield 62, 3) := by decide +kernel
theorem dX3_ask_63 : decode cX3_ask 63 = .ok (.iload_n 1, 1) := by decide +kernel
theorem dX3_ask_64 : decode cX3_ask 64 = .ok (.aaload, 1) := by decide +kernel
theorem dX3_ask_65 : decode cX3_ask 65 = .ok (.astore 4, 2) := by decide +kernel
theorem dX3_ask_67 : decode cX3_ask 67 = .ok (.aload 4, 2) := by decide +kernel
theorem dX3_ask_69 : decode cX3_ask 69 = .ok (.getfield 66, 3) := by decide +kernel
theorem dX3_ask_72 : decode cX3_ask 72 = .ok (.ifCond .ne 21, 3) := by decide +kernel
theorem dX3_ask_75 : decode cX3_ask 75 = .ok (.aload 4, 2) := by decide +kernel
theorem dX3_ask_77 : decode cX3_ask 77 = .ok (.iload_n 2, 1) := by decide +kernel
theorem dX3_ask_78 : decode cX3_ask 78 = .ok (.invokevirtual 71, 3) := by decide +kernel
theorem dX3_ask_81 : decode cX3_ask 81 = .ok (.ifCond .ge 12, 3) := by decide +kernel
theorem dX3_ask_84 : decode cX3_ask 84 = .ok (.aload 4, 2) := by decide +kernel
theorem dX3_ask_86 : decode cX3_ask 86 = .ok (.getfield 75, 3) := by decide +kernel
theorem dX3_ask_89 : decode cX3_ask 89 = .ok (.iconst 4, 1) := by decide +kernel
theorem dX3_ask_90 : decode cX3_ask 90 = .ok (.if_icmp .lt 13, 3) := by decide +kernel
theorem dX3_ask_93 : decode cX3_ask 93 = .ok (.new 43, 3) := by decide +kernel
theorem dX3_ask_96 : decode cX3_ask 96 = .ok (.dup, 1) := by decide +kernel
theorem dX3_ask_97 : decode cX3_ask 97 = .ok (.ldc 78, 2) := by decide +kernel
theorem dX3_ask_99 : decode cX3_ask 99 = .ok (.invokespecial 47, 3) := by decide +kernel
theorem dX3_ask_102 : decode cX3_ask 102 = .ok (.athrow, 1) := by decide +kernel
theorem dX3_ask_103 : decode cX3_ask 103 = .ok (.aload 4, 2) := by decide +kernel
theorem dX3_ask_105 : decode cX3_ask 105 = .ok (.iload_n 2, 1) := by decide +kernel
theorem dX3_ask_106 : decode cX3_ask 106 = .ok (.iload_n 3, 1) := by decide +kernel
theorem dX3_ask_107 : decode cX3_ask 107 = .ok (.invokevirtual 80, 3) := by decide +kernel
theorem dX3_ask_110 : decode cX3_ask 110 = .ok (.aload 4, 2) := by decide +kernel
theorem dX3_ask_112 : decode cX3_ask 112 = .ok (.getfield 75, 3) := by decide +kernel
theorem dX3_ask_115 : decode cX3_ask 115 = .ok (.ireturn, 1) := by decide +kernel
set_option maxRecDepth 20000 in
theorem ggX3_set_X1_isDoor : GoodIn wsX3_set wsX1_isDoor := goodIn_r _ [13, 14, 27, 28, 29, 30, 31] (by decide +kernel) (by decide +kernel)
set_option maxRecDepth 20000 in
theorem gX3_set_X1_isDoor : GoodIn wsX3_set (wsV RX3 52 RX1 yX1_isDoor wsX1_isDoor) := goodIn_app (goodIn_of _ (by decide +kernel)) ggX3_set_X1_isDoor
set_option maxRecDepth 20000 in
theorem ggX3_set_X3_isRule : GoodIn wsX3_set wsX3_isRule := goodIn_r _ [18, 19, 20, 17, 21] (by decide +kernel) (by decide +kernel)
set_option maxRecDepth 20000 in
theorem gX3_set_X3_isRule : GoodIn wsX3_set (va_wsS RX3 34 yX3_isRule wsX3_isRule) := goodIn_app (goodIn_of _ (by decide +kernel)) ggX3_set_X3_isRule
set_option maxRecDepth 20000 in
theorem ggX3_set_X3_isPatience : GoodIn wsX3_set wsX3_isPatience := goodIn_r _ [24, 19, 20, 17, 21] (by decide +kernel) (by decide +kernel)
set_option maxRecDepth 20000 in
theorem gX3_set_X3_isPatience : GoodIn wsX3_set (va_wsS RX3 30 yX3_isPatience wsX3_isPatience) := goodIn_app (goodIn_of _ (by decide +kernel)) ggX3_set_X3_isPatience
theorem dX3_set_0 : decode cX3_set 0 = .ok (.aload_n 0, 1) := by decide +kernel
theorem dX3_set_1 : decode cX3_set 1 = .ok (.getfield 10, 3) := by decide +kernel
theorem dX3_set_4 : decode cX3_set 4 = .ok (.iload_n 1, 1) := by decide +kernel
theorem dX3_set_5 : decode cX3_set 5 = .ok (.invokevirtual 52, 3) := by decide +kernel
theorem dX3_set_8 : decode cX3_set 8 = .ok (.ifCond .ne 13, 3) := by decide +kernel
theorem dX3_set_11 : decode cX3_set 11 = .ok (.new 55, 3) := by decide +kernel
theorem dX3_set_14 : decode cX3_set 14 = .ok (.dup, 1) := by decide +kernel
theorem dX3_set_15 : decode cX3_set 15 = .ok (.ldc 57, 2) := by decide +kernel
theorem dX3_set_17 : decode cX3_set 17 = .ok (.invokespecial 59, 3) := by decide +kernel
theorem dX3_set_20 : decode cX3_set 20 = .ok (.athrow, 1) := by decide +kernel
theorem dX3_set_21 : decode cX3_set 21 = .ok (.iload_n 2, 1) := by decide +kernel
theorem dX3_set_22 : decode cX3_set 22 = .ok (.invokestatic 34, 3) := by decide +kernel
theorem dX3_set_25 : decode cX3_set 25 = .ok (.ifCond .eq 10, 3) := by decide +kernel
theorem dX3_set_28 : decode cX3_set 28 = .ok (.iload_n 3, 1) := by decide +kernel
theorem dX3_set_29 : decode cX3_set 29 = .ok (.invokestatic 30, 3) := by decide +kernel
theorem dX3_set_32 : decode cX3_set 32 = .ok (.ifCond .ne 13, 3) := by decide +kernel
theorem dX3_set_35 : decode cX3_set 35 = .ok (.new 23, 3) := by decide +kernel
theorem dX3_set_38 : decode cX3_set 38 = .ok (.dup, 1) := by decide +kernel
theorem dX3_set_39 : decode cX3_set 39 = .ok (.ldc 84, 2) := by decide +kernel
theorem dX3_set_41 : decode cX3_set 41 = .ok (.invokespecial 27, 3) := by decide +kernel
theorem dX3_set_44 : decode cX3_set 44 = .ok (.athrow, 1) := by decide +kernel
theorem dX3_set_45 : decode cX3_set 45 = .ok (.aload_n 0, 1) := by decide +kernel
theorem dX3_set_46 : decode cX3_set 46 = .ok (.getfield 10, 3) := by decide +kernel
theorem dX3_set_49 : decode cX3_set 49 = .ok (.getfield 62, 3) := by decide +kernel
theorem dX3_set_52 : decode cX3_set 52 = .ok (.iload_n 1, 1) := by decide +kernel
theorem dX3_set_53 : decode cX3_set 53 = .ok (.aaload, 1) := by decide +kernel
theorem dX3_set_54 : decode cX3_set 54 = .ok (.astore 4, 2) := by decide +kernel
theorem dX3_set_56 : decode cX3_set 56 = .ok (.bipush 100, 2) := by decide +kernel
theorem dX3_set_58 : decode cX3_set 58 = .ok (.aload 4, 2) := by decide +kernel
theorem dX3_set_60 : decode cX3_set 60 = .ok (.getfield 86, 3) := by decide +kernel
theorem dX3_set_63 : decode cX3_set 63 = .ok (.imul, 1) := by decide +kernel
theorem dX3_set_64 : decode cX3_set 64 = .ok (.aload 4, 2) := by decide +kernel
theorem dX3_set_66 : decode cX3_set 66 = .ok (.getfield 89, 3) := by decide +kernel
theorem dX3_set_69 : decode cX3_set 69 = .ok (.iadd, 1) := by decide +kernel
theorem dX3_set_70 : decode cX3_set 70 = .ok (.istore 5, 2) := by decide +kernel
theorem dX3_set_72 : decode cX3_set 72 = .ok (.aload 4, 2) := by decide +kernel
theorem dX3_set_74 : decode cX3_set 74 = .ok (.iload_n 2, 1) := by decide +kernel
theorem dX3_set_75 : decode cX3_set 75 = .ok (.putfield 86, 3) := by decide +kernel
theorem dX3_set_78 : decode cX3_set 78 = .ok (.aload 4, 2) := by decide +kernel
theorem dX3_set_80 : decode cX3_set 80 = .ok (.iload_n 3, 1) := by decide +kernel
theorem dX3_set_81 : decode cX3_set 81 = .ok (.putfield 89, 3) := by decide +kernel
theorem dX3_set_84 : decode cX3_set 84 = .ok (.iload 5, 2) := by decide +kernel
theorem dX3_set_86 : decode cX3_set 86 = .ok (.ireturn, 1) := by decide +kernel
set_option maxRecDepth 20000 in
theorem ggX3_whisper_X1_isDoor : GoodIn wsX3_whisper wsX1_isDoor := goodIn_r _ [10, 11, 59, 60, 61, 62, 63] (by decide +kernel) (by decide +kernel)
set_option maxRecDepth 20000 in
theorem gX3_whisper_X1_isDoor : GoodIn wsX3_whisper (wsV RX3 52 RX1 yX1_isDoor wsX1_isDoor) := goodIn_app (goodIn_of _ (by decide +kernel)) ggX3_whisper_X1_isDoor
set_option maxRecDepth 20000 in
theorem ggX3_whisper_X3_isIn : GoodIn wsX3_whisper wsX3_isIn := goodIn_r _ [15] (by decide +kernel) (by decide +kernel)
set_option maxRecDepth 20000 in
theorem gX3_whisper_X3_isIn : GoodIn wsX3_whisper (va_wsS RX3 19 yX3_isIn wsX3_isIn) := goodIn_app (goodIn_of _ (by decide +kernel)) ggX3_whisper_X3_isIn
set_option maxRecDepth 20000 in
theorem ggX3_whisper_X1_hearToken : GoodIn wsX3_whisper wsX1_hearToken := goodIn_r _ [19, 20, 21, 22, 23, 7, 8, 9, 10, 11, 24, 25, 26, 27, 28, 29, 30, 31, 32, 33, 34, 35, 36, 37, 38, 39, 40, 41, 42, 43, 44, 45, 46, 47, 48, 49, 50, 51, 52, 53, 54, 55, 56, 59, 60, 61, 62, 63, 64, 65, 66, 67, 68, 69, 70, 71, 72, 73, 74, 75, 76, 77, 78, 79, 80, 81, 82, 83, 84] (by decide +kernel) (by decide +kernel)
set_option maxRecDepth 20000 in
theorem gX3_whisper_X1_hearToken : GoodIn wsX3_whisper (wsV RX3 94 RX1 yX1_hearToken wsX1_hearToken) := goodIn_app (goodIn_of _ (by decide +kernel)) ggX3_whisper_X1_hearToken
theorem dX3_whisper_0 : decode cX3_whisper 0 = .ok (.aload_n 0, 1) := by decide +kernel
theorem dX3_whisper_1 : decode cX3_whisper 1 = .ok (.getfield 10, 3) := by decide +kernel
theorem dX3_whisper_4 : decode cX3_whisper 4 = .ok (.iload_n 1, 1) := by decide +kernel
theorem dX3_whisper_5 : decode cX3_whisper 5 = .ok (.invokevirtual 52, 3) := by decide +kernel
theorem dX3_whisper_8 : decode cX3_whisper 8 = .ok (.ifCond .ne 13, 3) := by decide +kernel
theorem dX3_whisper_11 : decode cX3_whisper 11 = .ok (.new 55, 3) := by decide +kernel
theorem dX3_whisper_14 : decode cX3_whisper 14 = .ok (.dup, 1) := by decide +kernel
theorem dX3_whisper_15 : decode cX3_whisper 15 = .ok (.ldc 57, 2) := by decide +kernel
theorem dX3_whisper_17 : decode cX3_whisper 17 = .ok (.invokespecial 59, 3) := by decide +kernel
theorem dX3_whisper_20 : decode cX3_whisper 20 = .ok (.athrow, 1) := by decide +kernel
theorem dX3_whisper_21 : decode cX3_whisper 21 = .ok (.iload_n 2, 1) := by decide +kernel
theorem dX3_whisper_22 : decode cX3_whisper 22 = .ok (.iconst 0, 1) := by decide +kernel
theorem dX3_whisper_23 : decode cX3_whisper 23 = .ok (.bipush 99, 2) := by decide +kernel
theorem dX3_whisper_25 : decode cX3_whisper 25 = .ok (.invokestatic 19, 3) := by decide +kernel
theorem dX3_whisper_28 : decode cX3_whisper 28 = .ok (.ifCond .ne 13, 3) := by decide +kernel
theorem dX3_whisper_31 : decode cX3_whisper 31 = .ok (.new 23, 3) := by decide +kernel
theorem dX3_whisper_34 : decode cX3_whisper 34 = .ok (.dup, 1) := by decide +kernel
theorem dX3_whisper_35 : decode cX3_whisper 35 = .ok (.ldc 92, 2) := by decide +kernel
theorem dX3_whisper_37 : decode cX3_whisper 37 = .ok (.invokespecial 27, 3) := by decide +kernel
theorem dX3_whisper_40 : decode cX3_whisper 40 = .ok (.athrow, 1) := by decide +kernel
theorem dX3_whisper_41 : decode cX3_whisper 41 = .ok (.aload_n 0, 1) := by decide +kernel
theorem dX3_whisper_42 : decode cX3_whisper 42 = .ok (.getfield 10, 3) := by decide +kernel
theorem dX3_whisper_45 : decode cX3_whisper 45 = .ok (.iload_n 1, 1) := by decide +kernel
theorem dX3_whisper_46 : decode cX3_whisper 46 = .ok (.iload_n 2, 1) := by decide +kernel
theorem dX3_whisper_47 : decode cX3_whisper 47 = .ok (.invokevirtual 94, 3) := by decide +kernel
theorem dX3_whisper_50 : decode cX3_whisper 50 = .ok (.ireturn, 1) := by decide +kernel
set_option maxRecDepth 20000 in
theorem ggX3_door_X1_isDoor : GoodIn wsX3_door wsX1_isDoor := goodIn_r _ [9, 10, 34, 35, 36, 37, 38] (by decide +kernel) (by decide +kernel)
set_option maxRecDepth 20000 in
theorem gX3_door_X1_isDoor : GoodIn wsX3_door (wsV RX3 52 RX1 yX1_isDoor wsX1_isDoor) := goodIn_app (goodIn_of _ (by decide +kernel)) ggX3_door_X1_isDoor
set_option maxRecDepth 20000 in
theorem ggX3_door_X3_isIn : GoodIn wsX3_door wsX3_isIn := goodIn_r _ [14] (by decide +kernel) (by decide +kernel)
set_option maxRecDepth 20000 in
theorem gX3_door_X3_isIn : GoodIn wsX3_door (va_wsS RX3 19 yX3_isIn wsX3_isIn) := goodIn_app (goodIn_of _ (by decide +kernel)) ggX3_door_X3_isIn
set_option maxRecDepth 20000 in
theorem ggX3_door_X0_fact : GoodIn wsX3_door wsX0_fact := goodIn_r _ [19, 20, 21, 22, 23, 24, 25, 26, 27, 28, 29, 18, 30, 31, 39, 40, 41, 42, 43, 44, 45, 46, 47, 48, 49, 50, 51, 52] (by decide +kernel) (by decide +kernel)
set_option maxRecDepth 20000 in
theorem gX3_door_X0_fact : GoodIn wsX3_door (wsV RX3 100 RX0 yX0_fact wsX0_fact) := goodIn_app (goodIn_of _ (by decide +kernel)) ggX3_door_X0_fact
theorem dX3_door_0 : decode cX3_door 0 = .ok (.aload_n 0, 1) := by decide +kernel
theorem dX3_door_1 : decode cX3_door 1 = .ok (.getfield 10, 3) := by decide +kernel
theorem dX3_door_4 : decode cX3_door 4 = .ok (.iload_n 1, 1) := by decide +kernel
theorem dX3_door_5 : decode cX3_door 5 = .ok (.invokevirtual 52, 3) := by decide +kernel
theorem dX3_door_8 : decode cX3_door 8 = .ok (.ifCond .eq 13, 3) := by decide +kernel
theorem dX3_door_11 : decode cX3_door 11 = .ok (.iload_n 2, 1) := by decide +kernel
theorem dX3_door_12 : decode cX3_door 12 = .ok (.iconst 0, 1) := by decide +kernel
theorem dX3_door_13 : decode cX3_door 13 = .ok (.bipush 8, 2) := by decide +kernel
theorem dX3_door_15 : decode cX3_door 15 = .ok (.invokestatic 19, 3) := by decide +kernel
theorem dX3_door_18 : decode cX3_door 18 = .ok (.ifCond .ne 13, 3) := by decide +kernel
theorem dX3_door_21 : decode cX3_door 21 = .ok (.new 55, 3) := by decide +kernel
theorem dX3_door_24 : decode cX3_door 24 = .ok (.dup, 1) := by decide +kernel
theorem dX3_door_25 : decode cX3_door 25 = .ok (.ldc 98, 2) := by decide +kernel
theorem dX3_door_27 : decode cX3_door 27 = .ok (.invokespecial 59, 3) := by decide +kernel
theorem dX3_door_30 : decode cX3_door 30 = .ok (.athrow, 1) := by decide +kernel
theorem dX3_door_31 : decode cX3_door 31 = .ok (.aload_n 0, 1) := by decide +kernel
theorem dX3_door_32 : decode cX3_door 32 = .ok (.getfield 10, 3) := by decide +kernel
theorem dX3_door_35 : decode cX3_door 35 = .ok (.getfield 62, 3) := by decide +kernel
theorem dX3_door_38 : decode cX3_door 38 = .ok (.iload_n 1, 1) := by decide +kernel
theorem dX3_door_39 : decode cX3_door 39 = .ok (.aaload, 1) := by decide +kernel
theorem dX3_door_40 : decode cX3_door 40 = .ok (.iload_n 2, 1) := by decide +kernel
theorem dX3_door_41 : decode cX3_door 41 = .ok (.invokevirtual 100, 3) := by decide +kernel
theorem dX3_door_44 : decode cX3_door 44 = .ok (.ireturn, 1) := by decide +kernel
set_option maxRecDepth 20000 in
theorem ggX3_asks_X1_isDoor : GoodIn wsX3_asks wsX1_isDoor := goodIn_r _ [10, 11, 27, 28, 29, 30, 31] (by decide +kernel) (by decide +kernel)
set_option maxRecDepth 20000 in
theorem gX3_asks_X1_isDoor : GoodIn wsX3_asks (wsV RX3 52 RX1 yX1_isDoor wsX1_isDoor) := goodIn_app (goodIn_of _ (by decide +kernel)) ggX3_asks_X1_isDoor
set_option maxRecDepth 20000 in
theorem ggX3_asks_X3_isIn : GoodIn wsX3_asks wsX3_isIn := goodIn_r _ [15] (by decide +kernel) (by decide +kernel)
set_option maxRecDepth 20000 in
theorem gX3_asks_X3_isIn : GoodIn wsX3_asks (va_wsS RX3 19 yX3_isIn wsX3_isIn) := goodIn_app (goodIn_of _ (by decide +kernel)) ggX3_asks_X3_isIn
set_option maxRecDepth 20000 in
theorem ggX3_asks_X0_askedFact : GoodIn wsX3_asks wsX0_askedFact := goodIn_r _ [20, 21, 22, 23, 24, 13, 14, 15, 32, 33, 34, 35, 36, 37, 38, 39, 40, 41, 42, 43, 44, 45] (by decide +kernel) (by decide +kernel)
set_option maxRecDepth 20000 in
theorem gX3_asks_X0_askedFact : GoodIn wsX3_asks (wsV RX3 107 RX0 yX0_askedFact wsX0_askedFact) := goodIn_app (goodIn_of _ (by decide +kernel)) ggX3_asks_X0_askedFact
theorem dX3_asks_0 : decode cX3_asks 0 = .ok (.aload_n 0, 1) := by decide +kernel
theorem dX3_asks_1 : decode cX3_asks 1 = .ok (.getfield 10, 3) := by decide +kernel
theorem dX3_asks_4 : decode cX3_asks 4 = .ok (.iload_n 1, 1) := by decide +kernel
theorem dX3_asks_5 : decode cX3_asks 5 = .ok (.invokevirtual 52, 3) := by decide +kernel
theorem dX3_asks_8 : decode cX3_asks 8 = .ok (.ifCond .eq 12, 3) := by decide +kernel
theorem dX3_asks_11 : decode cX3_asks 11 = .ok (.iload_n 3, 1) := by decide +kernel
theorem dX3_asks_12 : decode cX3_asks 12 = .ok (.iconst 0, 1) := by decide +kernel
theorem dX3_asks_13 : decode cX3_asks 13 = .ok (.iconst 2, 1) := by decide +kernel
theorem dX3_asks_14 : decode cX3_asks 14 = .ok (.invokestatic 19, 3) := by decide +kernel
theorem dX3_asks_17 : decode cX3_asks 17 = .ok (.ifCond .ne 13, 3) := by decide +kernel
theorem dX3_asks_20 : decode cX3_asks 20 = .ok (.new 55, 3) := by decide +kernel
theorem dX3_asks_23 : decode cX3_asks 23 = .ok (.dup, 1) := by decide +kernel
theorem dX3_asks_24 : decode cX3_asks 24 = .ok (.ldc 103, 2) := by decide +kernel
theorem dX3_asks_26 : decode cX3_asks 26 = .ok (.invokespecial 59, 3) := by decide +kernel
theorem dX3_asks_29 : decode cX3_asks 29 = .ok (.athrow, 1) := by decide +kernel
theorem dX3_asks_30 : decode cX3_asks 30 = .ok (.aload_n 0, 1) := by decide +kernel
theorem dX3_asks_31 : decode cX3_asks 31 = .ok (.getfield 10, 3) := by decide +kernel
theorem dX3_asks_34 : decode cX3_asks 34 = .ok (.getfield 62, 3) := by decide +kernel
theorem dX3_asks_37 : decode cX3_asks 37 = .ok (.iload_n 1, 1) := by decide +kernel
theorem dX3_asks_38 : decode cX3_asks 38 = .ok (.aaload, 1) := by decide +kernel
theorem dX3_asks_39 : decode cX3_asks 39 = .ok (.astore 4, 2) := by decide +kernel
theorem dX3_asks_41 : decode cX3_asks 41 = .ok (.iload_n 2, 1) := by decide +kernel
theorem dX3_asks_42 : decode cX3_asks 42 = .ok (.iconst 0, 1) := by decide +kernel
theorem dX3_asks_43 : decode cX3_asks 43 = .ok (.aload 4, 2) := by decide +kernel
theorem dX3_asks_45 : decode cX3_asks 45 = .ok (.getfield 75, 3) := by decide +kernel
theorem dX3_asks_48 : decode cX3_asks 48 = .ok (.iconst 1, 1) := by decide +kernel
theorem dX3_asks_49 : decode cX3_asks 49 = .ok (.isub, 1) := by decide +kernel
theorem dX3_asks_50 : decode cX3_asks 50 = .ok (.invokestatic 19, 3) := by decide +kernel
theorem dX3_asks_53 : decode cX3_asks 53 = .ok (.ifCond .ne 13, 3) := by decide +kernel
theorem dX3_asks_56 : decode cX3_asks 56 = .ok (.new 55, 3) := by decide +kernel
theorem dX3_asks_59 : decode cX3_asks 59 = .ok (.dup, 1) := by decide +kernel
theorem dX3_asks_60 : decode cX3_asks 60 = .ok (.ldc 105, 2) := by decide +kernel
theorem dX3_asks_62 : decode cX3_asks 62 = .ok (.invokespecial 59, 3) := by decide +kernel
theorem dX3_asks_65 : decode cX3_asks 65 = .ok (.athrow, 1) := by decide +kernel
theorem dX3_asks_66 : decode cX3_asks 66 = .ok (.aload 4, 2) := by decide +kernel
theorem dX3_asks_68 : decode cX3_asks 68 = .ok (.iload_n 2, 1) := by decide +kernel
theorem dX3_asks_69 : decode cX3_asks 69 = .ok (.iload_n 3, 1) := by decide +kernel
theorem dX3_asks_70 : decode cX3_asks 70 = .ok (.invokevirtual 107, 3) := by decide +kernel
theorem dX3_asks_73 : decode cX3_asks 73 = .ok (.ireturn, 1) := by decide +kernel
set_option maxRecDepth 20000 in
theorem ggX3_voice_X3_isIn : GoodIn wsX3_voice wsX3_isIn := goodIn_r _ [9] (by decide +kernel) (by decide +kernel)
end
section
set_option maxRecDepth 20000 in
theorem gX3_voice_X3_isIn : GoodIn wsX3_voice (va_wsS RX3 19 yX3_isIn wsX3_isIn) := goodIn_app (goodIn_of _ (by decide +kernel)) ggX3_voice_X3_isIn
set_option maxRecDepth 20000 in
theorem ggX3_voice_X2_fact : GoodIn wsX3_voice wsX2_fact := goodIn_r _ [14, 15, 16, 17, 18, 19, 7, 8, 9, 27, 28, 29, 30, 31, 32, 33] (by decide +kernel) (by decide +kernel)
set_option maxRecDepth 20000 in
theorem gX3_voice_X2_fact : GoodIn wsX3_voice (wsV RX3 122 RX2 yX2_fact wsX2_fact) := goodIn_app (goodIn_of _ (by decide +kernel)) ggX3_voice_X2_fact
theorem dX3_voice_0 : decode cX3_voice 0 = .ok (.iload_n 1, 1) := by decide +kernel
theorem dX3_voice_1 : decode cX3_voice 1 = .ok (.iconst 0, 1) := by decide +kernel
theorem dX3_voice_2 : decode cX3_voice 2 = .ok (.aload_n 0, 1) := by decide +kernel
theorem dX3_voice_3 : decode cX3_voice 3 = .ok (.getfield 10, 3) := by decide +kernel
theorem dX3_voice_6 : decode cX3_voice 6 = .ok (.getfield 111, 3) := by decide +kernel
theorem dX3_voice_9 : decode cX3_voice 9 = .ok (.getfield 115, 3) := by decide +kernel
theorem dX3_voice_12 : decode cX3_voice 12 = .ok (.iconst 1, 1) := by decide +kernel
theorem dX3_voice_13 : decode cX3_voice 13 = .ok (.isub, 1) := by decide +kernel
theorem dX3_voice_14 : decode cX3_voice 14 = .ok (.invokestatic 19, 3) := by decide +kernel
theorem dX3_voice_17 : decode cX3_voice 17 = .ok (.ifCond .eq 12, 3) := by decide +kernel
theorem dX3_voice_20 : decode cX3_voice 20 = .ok (.iload_n 2, 1) := by decide +kernel
theorem dX3_voice_21 : decode cX3_voice 21 = .ok (.iconst 0, 1) := by decide +kernel
theorem dX3_voice_22 : decode cX3_voice 22 = .ok (.iconst 3, 1) := by decide +kernel
theorem dX3_voice_23 : decode cX3_voice 23 = .ok (.invokestatic 19, 3) := by decide +kernel
theorem dX3_voice_26 : decode cX3_voice 26 = .ok (.ifCond .ne 13, 3) := by decide +kernel
theorem dX3_voice_29 : decode cX3_voice 29 = .ok (.new 55, 3) := by decide +kernel
theorem dX3_voice_32 : decode cX3_voice 32 = .ok (.dup, 1) := by decide +kernel
theorem dX3_voice_33 : decode cX3_voice 33 = .ok (.ldc 120, 2) := by decide +kernel
theorem dX3_voice_35 : decode cX3_voice 35 = .ok (.invokespecial 59, 3) := by decide +kernel
theorem dX3_voice_38 : decode cX3_voice 38 = .ok (.athrow, 1) := by decide +kernel
theorem dX3_voice_39 : decode cX3_voice 39 = .ok (.aload_n 0, 1) := by decide +kernel
theorem dX3_voice_40 : decode cX3_voice 40 = .ok (.getfield 10, 3) := by decide +kernel
theorem dX3_voice_43 : decode cX3_voice 43 = .ok (.getfield 111, 3) := by decide +kernel
theorem dX3_voice_46 : decode cX3_voice 46 = .ok (.iload_n 1, 1) := by decide +kernel
theorem dX3_voice_47 : decode cX3_voice 47 = .ok (.iload_n 2, 1) := by decide +kernel
theorem dX3_voice_48 : decode cX3_voice 48 = .ok (.invokevirtual 122, 3) := by decide +kernel
theorem dX3_voice_51 : decode cX3_voice 51 = .ok (.ireturn, 1) := by decide +kernel
set_option maxRecDepth 20000 in
theorem ggX3_count_X3_isIn : GoodIn wsX3_count wsX3_isIn := goodIn_r _ [7] (by decide +kernel) (by decide +kernel)
set_option maxRecDepth 20000 in
theorem gX3_count_X3_isIn : GoodIn wsX3_count (va_wsS RX3 19 yX3_isIn wsX3_isIn) := goodIn_app (goodIn_of _ (by decide +kernel)) ggX3_count_X3_isIn
set_option maxRecDepth 20000 in
theorem ggX3_count_X1_fact : GoodIn wsX3_count wsX1_fact := goodIn_r _ [12, 13, 14, 15, 16, 17, 18, 19, 20, 11, 21, 22, 23, 24, 25, 26, 27, 30, 31, 32, 33, 34, 35, 36, 37, 38, 39, 40, 41, 42, 43, 44, 45, 46, 47, 48, 49, 50, 51, 52, 53, 54, 55] (by decide +kernel) (by decide +kernel)
set_option maxRecDepth 20000 in
theorem gX3_count_X1_fact : GoodIn wsX3_count (wsV RX3 126 RX1 yX1_fact wsX1_fact) := goodIn_app (goodIn_of _ (by decide +kernel)) ggX3_count_X1_fact
theorem dX3_count_0 : decode cX3_count 0 = .ok (.iload_n 1, 1) := by decide +kernel
theorem dX3_count_1 : decode cX3_count 1 = .ok (.iconst 0, 1) := by decide +kernel
theorem dX3_count_2 : decode cX3_count 2 = .ok (.bipush 8, 2) := by decide +kernel
theorem dX3_count_4 : decode cX3_count 4 = .ok (.invokestatic 19, 3) := by decide +kernel
theorem dX3_count_7 : decode cX3_count 7 = .ok (.ifCond .ne 13, 3) := by decide +kernel
theorem dX3_count_10 : decode cX3_count 10 = .ok (.new 55, 3) := by decide +kernel
theorem dX3_count_13 : decode cX3_count 13 = .ok (.dup, 1) := by decide +kernel
theorem dX3_count_14 : decode cX3_count 14 = .ok (.ldc 124, 2) := by decide +kernel
theorem dX3_count_16 : decode cX3_count 16 = .ok (.invokespecial 59, 3) := by decide +kernel
theorem dX3_count_19 : decode cX3_count 19 = .ok (.athrow, 1) := by decide +kernel
theorem dX3_count_20 : decode cX3_count 20 = .ok (.aload_n 0, 1) := by decide +kernel
theorem dX3_count_21 : decode cX3_count 21 = .ok (.getfield 10, 3) := by decide +kernel
theorem dX3_count_24 : decode cX3_count 24 = .ok (.iload_n 1, 1) := by decide +kernel
theorem dX3_count_25 : decode cX3_count 25 = .ok (.invokevirtual 126, 3) := by decide +kernel
theorem dX3_count_28 : decode cX3_count 28 = .ok (.ireturn, 1) := by decide +kernel
set_option maxRecDepth 20000 in
theorem ggX3_reach_X1_isDoor : GoodIn wsX3_reach wsX1_isDoor := goodIn_r _ [8, 9, 24, 25, 26, 27, 28] (by decide +kernel) (by decide +kernel)
set_option maxRecDepth 20000 in
theorem gX3_reach_X1_isDoor : GoodIn wsX3_reach (wsV RX3 52 RX1 yX1_isDoor wsX1_isDoor) := goodIn_app (goodIn_of _ (by decide +kernel)) ggX3_reach_X1_isDoor
set_option maxRecDepth 20000 in
theorem ggX3_reach_X1_reachedFrom : GoodIn wsX3_reach wsX1_reachedFrom := goodIn_r _ [13, 9, 14, 15, 16, 7, 17, 18, 19, 20, 21, 5, 6, 8, 24, 25, 26, 27, 28, 29, 30, 31, 32, 33, 34, 35, 36, 37, 38, 39, 40, 41, 42] (by decide +kernel) (by decide +kernel)
set_option maxRecDepth 20000 in
theorem gX3_reach_X1_reachedFrom : GoodIn wsX3_reach (wsV RX3 127 RX1 yX1_reachedFrom wsX1_reachedFrom) := goodIn_app (goodIn_of _ (by decide +kernel)) ggX3_reach_X1_reachedFrom
theorem dX3_reach_0 : decode cX3_reach 0 = .ok (.aload_n 0, 1) := by decide +kernel
theorem dX3_reach_1 : decode cX3_reach 1 = .ok (.getfield 10, 3) := by decide +kernel
theorem dX3_reach_4 : decode cX3_reach 4 = .ok (.iload_n 1, 1) := by decide +kernel
theorem dX3_reach_5 : decode cX3_reach 5 = .ok (.invokevirtual 52, 3) := by decide +kernel
theorem dX3_reach_8 : decode cX3_reach 8 = .ok (.ifCond .ne 13, 3) := by decide +kernel
theorem dX3_reach_11 : decode cX3_reach 11 = .ok (.new 55, 3) := by decide +kernel
theorem dX3_reach_14 : decode cX3_reach 14 = .ok (.dup, 1) := by decide +kernel
theorem dX3_reach_15 : decode cX3_reach 15 = .ok (.ldc 57, 2) := by decide +kernel
theorem dX3_reach_17 : decode cX3_reach 17 = .ok (.invokespecial 59, 3) := by decide +kernel
theorem dX3_reach_20 : decode cX3_reach 20 = .ok (.athrow, 1) := by decide +kernel
theorem dX3_reach_21 : decode cX3_reach 21 = .ok (.aload_n 0, 1) := by decide +kernel
theorem dX3_reach_22 : decode cX3_reach 22 = .ok (.getfield 10, 3) := by decide +kernel
theorem dX3_reach_25 : decode cX3_reach 25 = .ok (.iload_n 1, 1) := by decide +kernel
theorem dX3_reach_26 : decode cX3_reach 26 = .ok (.invokevirtual 127, 3) := by decide +kernel
theorem dX3_reach_29 : decode cX3_reach 29 = .ok (.ireturn, 1) := by decide +kernel
set_option maxRecDepth 20000 in
theorem ggX3_pass_X3_isIn : GoodIn wsX3_pass wsX3_isIn := goodIn_r _ [7] (by decide +kernel) (by decide +kernel)
set_option maxRecDepth 20000 in
theorem gX3_pass_X3_isIn : GoodIn wsX3_pass (va_wsS RX3 19 yX3_isIn wsX3_isIn) := goodIn_app (goodIn_of _ (by decide +kernel)) ggX3_pass_X3_isIn
set_option maxRecDepth 20000 in
theorem ggX3_pass_X1_tickOn : GoodIn wsX3_pass wsX1_tickOn := goodIn_r _ [12, 13, 14, 15, 16, 17, 18, 19, 20, 21, 22, 23, 24, 25, 26, 27, 28, 29, 30, 31, 32, 33, 34, 35, 36, 37, 38, 39, 40, 41, 42, 43, 44, 45, 46, 47, 48, 49, 50, 51, 52, 53, 11, 54, 55, 56, 57, 58, 59, 60, 61, 62, 63, 64, 65, 66, 67, 68, 69, 70, 71, 72, 73, 74, 75, 76, 77, 78, 79, 80, 81, 82, 83, 84, 85, 86, 87, 88, 89, 90, 91, 92, 93, 94, 95, 96, 97, 98, 99, 100, 101, 102, 103, 104, 105, 106, 107, 108, 109, 110, 111, 112, 113, 114, 115, 116, 117, 118, 119, 120, 121, 122, 123, 124, 125, 126, 127, 128, 131, 132, 133, 134, 135, 136, 137, 138, 139, 140, 141, 142, 143, 144, 145, 146, 147, 148, 149, 150, 151, 152, 153, 154, 155, 156] (by decide +kernel) (by decide +kernel)
set_option maxRecDepth 20000 in
theorem gX3_pass_X1_tickOn : GoodIn wsX3_pass (wsV RX3 132 RX1 yX1_tickOn wsX1_tickOn) := goodIn_app (goodIn_of _ (by decide +kernel)) ggX3_pass_X1_tickOn
theorem dX3_pass_0 : decode cX3_pass 0 = .ok (.iload_n 1, 1) := by decide +kernel
theorem dX3_pass_1 : decode cX3_pass 1 = .ok (.iconst 1, 1) := by decide +kernel
theorem dX3_pass_2 : decode cX3_pass 2 = .ok (.sipush 200, 3) := by decide +kernel
theorem dX3_pass_5 : decode cX3_pass 5 = .ok (.invokestatic 19, 3) := by decide +kernel
theorem dX3_pass_8 : decode cX3_pass 8 = .ok (.ifCond .ne 13, 3) := by decide +kernel
theorem dX3_pass_11 : decode cX3_pass 11 = .ok (.new 23, 3) := by decide +kernel
theorem dX3_pass_14 : decode cX3_pass 14 = .ok (.dup, 1) := by decide +kernel
theorem dX3_pass_15 : decode cX3_pass 15 = .ok (.ldc 130, 2) := by decide +kernel
theorem dX3_pass_17 : decode cX3_pass 17 = .ok (.invokespecial 27, 3) := by decide +kernel
theorem dX3_pass_20 : decode cX3_pass 20 = .ok (.athrow, 1) := by decide +kernel
theorem dX3_pass_21 : decode cX3_pass 21 = .ok (.iconst 0, 1) := by decide +kernel
theorem dX3_pass_22 : decode cX3_pass 22 = .ok (.istore_n 2, 1) := by decide +kernel
theorem dX3_pass_23 : decode cX3_pass 23 = .ok (.iconst 0, 1) := by decide +kernel
theorem dX3_pass_24 : decode cX3_pass 24 = .ok (.istore_n 3, 1) := by decide +kernel
theorem dX3_pass_25 : decode cX3_pass 25 = .ok (.iload_n 3, 1) := by decide +kernel
theorem dX3_pass_26 : decode cX3_pass 26 = .ok (.iload_n 1, 1) := by decide +kernel
theorem dX3_pass_27 : decode cX3_pass 27 = .ok (.if_icmp .ge 19, 3) := by decide +kernel
theorem dX3_pass_30 : decode cX3_pass 30 = .ok (.iload_n 2, 1) := by decide +kernel
theorem dX3_pass_31 : decode cX3_pass 31 = .ok (.aload_n 0, 1) := by decide +kernel
theorem dX3_pass_32 : decode cX3_pass 32 = .ok (.getfield 10, 3) := by decide +kernel
theorem dX3_pass_35 : decode cX3_pass 35 = .ok (.invokevirtual 132, 3) := by decide +kernel
theorem dX3_pass_38 : decode cX3_pass 38 = .ok (.iadd, 1) := by decide +kernel
theorem dX3_pass_39 : decode cX3_pass 39 = .ok (.istore_n 2, 1) := by decide +kernel
theorem dX3_pass_40 : decode cX3_pass 40 = .ok (.iinc 3 1, 3) := by decide +kernel
theorem dX3_pass_43 : decode cX3_pass 43 = .ok (.goto (-18), 3) := by decide +kernel
theorem dX3_pass_46 : decode cX3_pass 46 = .ok (.iload_n 2, 1) := by decide +kernel
theorem dX3_pass_47 : decode cX3_pass 47 = .ok (.ireturn, 1) := by decide +kernel
set_option maxRecDepth 20000 in
theorem ggX3_opens_X1_isDoor : GoodIn wsX3_opens wsX1_isDoor := goodIn_r _ [11, 12, 150, 151, 152, 153, 154] (by decide +kernel) (by decide +kernel)
set_option maxRecDepth 20000 in
theorem gX3_opens_X1_isDoor : GoodIn wsX3_opens (wsV RX3 52 RX1 yX1_isDoor wsX1_isDoor) := goodIn_app (goodIn_of _ (by decide +kernel)) ggX3_opens_X1_isDoor
set_option maxRecDepth 20000 in
theorem ggX3_opens_X1_copyFrom : GoodIn wsX3_opens wsX1_copyFrom := goodIn_r _ [16, 17, 12, 18, 19, 20, 21, 22, 23, 24, 25, 26, 27, 28, 29, 30, 31, 32, 33, 34, 35, 36, 37, 38, 39, 40, 41, 42, 43, 44, 45, 46, 47, 48, 49, 50, 51, 52, 53, 54, 55, 150, 151, 152, 153, 154, 155, 156, 157, 158, 159, 160, 161, 162, 163, 164, 165, 166, 167, 168, 169, 170, 171, 172, 173, 174, 175] (by decide +kernel) (by decide +kernel)
set_option maxRecDepth 20000 in
theorem gX3_opens_X1_copyFrom : GoodIn wsX3_opens (wsV RX3 136 RX1 yX1_copyFrom wsX1_copyFrom) := goodIn_app (goodIn_of _ (by decide +kernel)) ggX3_opens_X1_copyFrom
set_option maxRecDepth 20000 in
theorem ggX3_opens_X1_tickOn : GoodIn wsX3_opens wsX1_tickOn := goodIn_r _ [59, 12, 18, 19, 60, 61, 62, 63, 64, 65, 66, 17, 67, 68, 69, 23, 70, 28, 29, 71, 72, 73, 46, 74, 48, 54, 50, 52, 53, 55, 75, 76, 77, 78, 49, 79, 80, 81, 82, 83, 84, 85, 10, 86, 87, 8, 9, 11, 88, 89, 90, 91, 39, 92, 93, 94, 95, 32, 33, 96, 97, 98, 99, 100, 101, 102, 103, 104, 105, 106, 107, 26, 108, 109, 110, 111, 40, 41, 42, 112, 113, 114, 115, 116, 117, 118, 119, 120, 121, 122, 123, 124, 125, 126, 127, 128, 129, 130, 131, 132, 133, 134, 135, 27, 136, 137, 138, 139, 30, 140, 141, 142, 143, 31, 144, 145, 146, 147, 150, 151, 152, 153, 154, 169, 170, 171, 172, 173, 174, 175, 155, 156, 157, 158, 159, 160, 161, 162, 163, 164, 165, 166, 167, 168] (by decide +kernel) (by decide +kernel)
set_option maxRecDepth 20000 in
theorem gX3_opens_X1_tickOn : GoodIn wsX3_opens (wsV RX3 132 RX1 yX1_tickOn wsX1_tickOn) := goodIn_app (goodIn_of _ (by decide +kernel)) ggX3_opens_X1_tickOn
theorem dX3_opens_0 : decode cX3_opens 0 = .ok (.aload_n 0, 1) := by decide +kernel
theorem dX3_opens_1 : decode cX3_opens 1 = .ok (.getfield 10, 3) := by decide +kernel
theorem dX3_opens_4 : decode cX3_opens 4 = .ok (.iload_n 1, 1) := by decide +kernel
theorem dX3_opens_5 : decode cX3_opens 5 = .ok (.invokevirtual 52, 3) := by decide +kernel
theorem dX3_opens_8 : decode cX3_opens 8 = .ok (.ifCond .ne 13, 3) := by decide +kernel
theorem dX3_opens_11 : decode cX3_opens 11 = .ok (.new 55, 3) := by decide +kernel
theorem dX3_opens_14 : decode cX3_opens 14 = .ok (.dup, 1) := by decide +kernel
theorem dX3_opens_15 : decode cX3_opens 15 = .ok (.ldc 57, 2) := by decide +kernel
theorem dX3_opens_17 : decode cX3_opens 17 = .ok (.invokespecial 59, 3) := by decide +kernel
theorem dX3_opens_20 : decode cX3_opens 20 = .ok (.athrow, 1) := by decide +kernel
theorem dX3_opens_21 : decode cX3_opens 21 = .ok (.aload_n 0, 1) := by decide +kernel
theorem dX3_opens_22 : decode cX3_opens 22 = .ok (.getfield 10, 3) := by decide +kernel
theorem dX3_opens_25 : decode cX3_opens 25 = .ok (.getfield 62, 3) := by decide +kernel
theorem dX3_opens_28 : decode cX3_opens 28 = .ok (.iload_n 1, 1) := by decide +kernel
theorem dX3_opens_29 : decode cX3_opens 29 = .ok (.aaload, 1) := by decide +kernel
theorem dX3_opens_30 : decode cX3_opens 30 = .ok (.getfield 66, 3) := by decide +kernel
theorem dX3_opens_33 : decode cX3_opens 33 = .ok (.iconst 2, 1) := by decide +kernel
theorem dX3_opens_34 : decode cX3_opens 34 = .ok (.if_icmp .ne 5, 3) := by decide +kernel
theorem dX3_opens_37 : decode cX3_opens 37 = .ok (.iconst 0, 1) := by decide +kernel
theorem dX3_opens_38 : decode cX3_opens 38 = .ok (.ireturn, 1) := by decide +kernel
theorem dX3_opens_39 : decode cX3_opens 39 = .ok (.aload_n 0, 1) := by decide +kernel
theorem dX3_opens_40 : decode cX3_opens 40 = .ok (.getfield 16, 3) := by decide +kernel
theorem dX3_opens_43 : decode cX3_opens 43 = .ok (.aload_n 0, 1) := by decide +kernel
theorem dX3_opens_44 : decode cX3_opens 44 = .ok (.getfield 10, 3) := by decide +kernel
theorem dX3_opens_47 : decode cX3_opens 47 = .ok (.invokevirtual 136, 3) := by decide +kernel
theorem dX3_opens_50 : decode cX3_opens 50 = .ok (.iconst 1, 1) := by decide +kernel
theorem dX3_opens_51 : decode cX3_opens 51 = .ok (.istore_n 2, 1) := by decide +kernel
theorem dX3_opens_52 : decode cX3_opens 52 = .ok (.iload_n 2, 1) := by decide +kernel
theorem dX3_opens_53 : decode cX3_opens 53 = .ok (.bipush 100, 2) := by decide +kernel
theorem dX3_opens_55 : decode cX3_opens 55 = .ok (.if_icmp .gt 35, 3) := by decide +kernel
theorem dX3_opens_58 : decode cX3_opens 58 = .ok (.aload_n 0, 1) := by decide +kernel
theorem dX3_opens_59 : decode cX3_opens 59 = .ok (.getfield 16, 3) := by decide +kernel
theorem dX3_opens_62 : decode cX3_opens 62 = .ok (.invokevirtual 132, 3) := by decide +kernel
theorem dX3_opens_65 : decode cX3_opens 65 = .ok (.pop, 1) := by decide +kernel
theorem dX3_opens_66 : decode cX3_opens 66 = .ok (.aload_n 0, 1) := by decide +kernel
theorem dX3_opens_67 : decode cX3_opens 67 = .ok (.getfield 16, 3) := by decide +kernel
theorem dX3_opens_70 : decode cX3_opens 70 = .ok (.getfield 62, 3) := by decide +kernel
theorem dX3_opens_73 : decode cX3_opens 73 = .ok (.iload_n 1, 1) := by decide +kernel
theorem dX3_opens_74 : decode cX3_opens 74 = .ok (.aaload, 1) := by decide +kernel
theorem dX3_opens_75 : decode cX3_opens 75 = .ok (.getfield 66, 3) := by decide +kernel
theorem dX3_opens_78 : decode cX3_opens 78 = .ok (.iconst 2, 1) := by decide +kernel
theorem dX3_opens_79 : decode cX3_opens 79 = .ok (.if_icmp .ne 5, 3) := by decide +kernel
theorem dX3_opens_82 : decode cX3_opens 82 = .ok (.iload_n 2, 1) := by decide +kernel
theorem dX3_opens_83 : decode cX3_opens 83 = .ok (.ireturn, 1) := by decide +kernel
theorem dX3_opens_84 : decode cX3_opens 84 = .ok (.iinc 2 1, 3) := by decide +kernel
theorem dX3_opens_87 : decode cX3_opens 87 = .ok (.goto (-35), 3) := by decide +kernel
theorem dX3_opens_90 : decode cX3_opens 90 = .ok (.iconst (-1), 1) := by decide +kernel
theorem dX3_opens_91 : decode cX3_opens 91 = .ok (.ireturn, 1) := by decide +kernel
set_option maxRecDepth 20000 in
theorem ggX3_would_X1_isDoor : GoodIn wsX3_would wsX1_isDoor := goodIn_r _ [10, 11, 170, 171, 172, 173, 174] (by decide +kernel) (by decide +kernel)
set_option maxRecDepth 20000 in
theorem gX3_would_X1_isDoor : GoodIn wsX3_would (wsV RX3 52 RX1 yX1_isDoor wsX1_isDoor) := goodIn_app (goodIn_of _ (by decide +kernel)) ggX3_would_X1_isDoor
set_option maxRecDepth 20000 in
theorem ggX3_would_X3_isIn : GoodIn wsX3_would wsX3_isIn := goodIn_r _ [15] (by decide +kernel) (by decide +kernel)
set_option maxRecDepth 20000 in
theorem gX3_would_X3_isIn : GoodIn wsX3_would (va_wsS RX3 19 yX3_isIn wsX3_isIn) := goodIn_app (goodIn_of _ (by decide +kernel)) ggX3_would_X3_isIn
set_option maxRecDepth 20000 in
theorem ggX3_would_X3_openedByWhisper : GoodIn wsX3_would wsX3_openedByWhisper := goodIn_r _ [19, 20, 5, 21, 22, 23, 24, 25, 9, 26, 27, 11, 28, 29, 30, 31, 32, 33, 34, 35, 36, 37, 38, 39, 40, 41, 42, 43, 44, 45, 46, 47, 48, 49, 50, 51, 52, 53, 54, 55, 56, 57, 58, 59, 60, 61, 62, 63, 64, 65, 66, 67, 68, 69, 70, 71, 72, 7, 8, 10, 73, 74, 75, 76, 77, 78, 79, 80, 81, 82, 83, 84, 85, 86, 87, 88, 89, 90, 91, 92, 93, 94, 95, 96, 97, 98, 99, 100, 101, 102, 103, 104, 105, 106, 107, 108, 109, 110, 111, 112, 113, 114, 115, 116, 117, 118, 119, 120, 121, 122, 123, 124, 125, 126, 127, 128, 129, 130, 131, 132, 133, 134, 135, 136, 137, 138, 139, 140, 141, 142, 143, 144, 145, 146, 147, 148, 149, 150, 151, 152, 153, 154, 155, 156, 157, 158, 159, 160, 161, 162, 163, 164, 165, 166, 167, 168, 169, 170, 171, 172, 173, 174, 175, 176, 177, 178, 179, 180, 181, 182, 183, 184, 185, 186, 187, 188, 189, 190, 191, 192, 193, 194, 195] (by decide +kernel) (by decide +kernel)
set_option maxRecDepth 20000 in
theorem gX3_would_X3_openedByWhisper : GoodIn wsX3_would (wsV RX3 142 RX3 yX3_openedByWhisper wsX3_openedByWhisper) := goodIn_app (goodIn_of _ (by decide +kernel)) ggX3_would_X3_openedByWhisper
theorem dX3_would_0 : decode cX3_would 0 = .ok (.aload_n 0, 1) := by decide +kernel
theorem dX3_would_1 : decode cX3_would 1 = .ok (.getfield 10, 3) := by decide +kernel
theorem dX3_would_4 : decode cX3_would 4 = .ok (.iload_n 1, 1) := by decide +kernel
theorem dX3_would_5 : decode cX3_would 5 = .ok (.invokevirtual 52, 3) := by decide +kernel
theorem dX3_would_8 : decode cX3_would 8 = .ok (.ifCond .ne 13, 3) := by decide +kernel
theorem dX3_would_11 : decode cX3_would 11 = .ok (.new 55, 3) := by decide +kernel
theorem dX3_would_14 : decode cX3_would 14 = .ok (.dup, 1) := by decide +kernel
theorem dX3_would_15 : decode cX3_would 15 = .ok (.ldc 57, 2) := by decide +kernel
theorem dX3_would_17 : decode cX3_would 17 = .ok (.invokespecial 59, 3) := by decide +kernel
theorem dX3_would_20 : decode cX3_would 20 = .ok (.athrow, 1) := by decide +kernel
theorem dX3_would_21 : decode cX3_would 21 = .ok (.iload_n 2, 1) := by decide +kernel
theorem dX3_would_22 : decode cX3_would 22 = .ok (.iconst 1, 1) := by decide +kernel
theorem dX3_would_23 : decode cX3_would 23 = .ok (.bipush 100, 2) := by decide +kernel
theorem dX3_would_25 : decode cX3_would 25 = .ok (.invokestatic 19, 3) := by decide +kernel
theorem dX3_would_28 : decode cX3_would 28 = .ok (.ifCond .ne 13, 3) := by decide +kernel
theorem dX3_would_31 : decode cX3_would 31 = .ok (.new 23, 3) := by decide +kernel
theorem dX3_would_34 : decode cX3_would 34 = .ok (.dup, 1) := by decide +kernel
theorem dX3_would_35 : decode cX3_would 35 = .ok (.ldc 140, 2) := by decide +kernel
theorem dX3_would_37 : decode cX3_would 37 = .ok (.invokespecial 27, 3) := by decide +kernel
theorem dX3_would_40 : decode cX3_would 40 = .ok (.athrow, 1) := by decide +kernel
theorem dX3_would_41 : decode cX3_would 41 = .ok (.aload_n 0, 1) := by decide +kernel
theorem dX3_would_42 : decode cX3_would 42 = .ok (.iload_n 1, 1) := by decide +kernel
theorem dX3_would_43 : decode cX3_would 43 = .ok (.iload_n 2, 1) := by decide +kernel
theorem dX3_would_44 : decode cX3_would 44 = .ok (.invokevirtual 142, 3) := by decide +kernel
theorem dX3_would_47 : decode cX3_would 47 = .ok (.ireturn, 1) := by decide +kernel
set_option maxRecDepth 20000 in
theorem ggX3_best_X3_isIn : GoodIn wsX3_best wsX3_isIn := goodIn_r _ [8] (by decide +kernel) (by decide +kernel)
set_option maxRecDepth 20000 in
theorem gX3_best_X3_isIn : GoodIn wsX3_best (va_wsS RX3 19 yX3_isIn wsX3_isIn) := goodIn_app (goodIn_of _ (by decide +kernel)) ggX3_best_X3_isIn
set_option maxRecDepth 20000 in
theorem ggX3_best_X3_openedByWhisper : GoodIn wsX3_best wsX3_openedByWhisper := goodIn_r _ [12, 13, 3, 14, 15, 16, 17, 18, 19, 20, 21, 22, 23, 24, 25, 26, 27, 28, 29, 30, 31, 32, 33, 34, 35, 36, 37, 38, 39, 40, 41, 42, 43, 44, 45, 46, 47, 48, 49, 50, 51, 52, 53, 54, 55, 56, 57, 58, 59, 60, 61, 62, 63, 64, 65, 66, 67, 68, 69, 70, 71, 72, 73, 74, 75, 76, 77, 78, 79, 80, 81, 82, 83, 84, 85, 86, 87, 88, 89, 90, 91, 92, 93, 94, 95, 96, 97, 98, 99, 100, 101, 102, 103, 104, 105, 106, 107, 108, 109, 110, 111, 112, 113, 114, 115, 116, 117, 118, 119, 120, 121, 122, 123, 124, 125, 126, 127, 128, 129, 130, 131, 132, 133, 134, 135, 136, 137, 138, 139, 140, 141, 142, 143, 144, 145, 146, 147, 148, 149, 150, 151, 152, 153, 154, 155, 156, 157, 158, 159, 160, 161, 162, 163, 164, 165, 173, 174, 175, 176, 177, 178, 179, 180, 181, 182, 183, 184, 185, 186, 187, 188, 189, 190, 191, 192, 193, 194, 195, 196, 197, 198, 199, 200] (by decide +kernel) (by decide +kernel)
set_option maxRecDepth 20000 in
theorem gX3_best_X3_openedByWhisper : GoodIn wsX3_best (wsV RX3 142 RX3 yX3_openedByWhisper wsX3_openedByWhisper) := goodIn_app (goodIn_of _ (by decide +kernel)) ggX3_best_X3_openedByWhisper
set_option maxRecDepth 20000 in
theorem ggX3_best_J6_bitCount_0f7a4 : GoodIn wsX3_best wsJ6_bitCount_0f7a4 := goodIn_r _ [169, 170, 171, 172] (by decide +kernel) (by decide +kernel)
set_option maxRecDepth 20000 in
theorem gX3_best_J6_bitCount_0f7a4 : GoodIn wsX3_best (va_wsS RX3 147 yJ6_bitCount_0f7a4 wsJ6_bitCount_0f7a4) := goodIn_app (goodIn_of _ (by decide +kernel)) ggX3_best_J6_bitCount_0f7a4
theorem dX3_best_0 : decode cX3_best 0 = .ok (.iload_n 1, 1) := by decide +kernel
theorem dX3_best_1 : decode cX3_best 1 = .ok (.iconst 1, 1) := by decide +kernel
theorem dX3_best_2 : decode cX3_best 2 = .ok (.bipush 30, 2) := by decide +kernel
theorem dX3_best_4 : decode cX3_best 4 = .ok (.invokestatic 19, 3) := by decide +kernel
theorem dX3_best_7 : decode cX3_best 7 = .ok (.ifCond .ne 13, 3) := by decide +kernel
theorem dX3_best_10 : decode cX3_best 10 = .ok (.new 23, 3) := by decide +kernel
theorem dX3_best_13 : decode cX3_best 13 = .ok (.dup, 1) := by decide +kernel
theorem dX3_best_14 : decode cX3_best 14 = .ok (.ldc 145, 2) := by decide +kernel
theorem dX3_best_16 : decode cX3_best 16 = .ok (.invokespecial 27, 3) := by decide +kernel
theorem dX3_best_19 : decode cX3_best 19 = .ok (.athrow, 1) := by decide +kernel
theorem dX3_best_20 : decode cX3_best 20 = .ok (.iconst (-1), 1) := by decide +kernel
theorem dX3_best_21 : decode cX3_best 21 = .ok (.istore_n 2, 1) := by decide +kernel
theorem dX3_best_22 : decode cX3_best 22 = .ok (.iconst (-1), 1) := by decide +kernel
theorem dX3_best_23 : decode cX3_best 23 = .ok (.istore_n 3, 1) := by decide +kernel
theorem dX3_best_24 : decode cX3_best 24 = .ok (.iconst 0, 1) := by decide +kernel
theorem dX3_best_25 : decode cX3_best 25 = .ok (.istore 4, 2) := by decide +kernel
theorem dX3_best_27 : decode cX3_best 27 = .ok (.iload 4, 2) := by decide +kernel
theorem dX3_best_29 : decode cX3_best 29 = .ok (.aload_n 0, 1) := by decide +kernel
theorem dX3_best_30 : decode cX3_best 30 = .ok (.getfield 10, 3) := by decide +kernel
theorem dX3_best_33 : decode cX3_best 33 = .ok (.getfield 39, 3) := by decide +kernel
theorem dX3_best_36 : decode cX3_best 36 = .ok (.if_icmp .ge 33, 3) := by decide +kernel
theorem dX3_best_39 : decode cX3_best 39 = .ok (.aload_n 0, 1) := by decide +kernel
theorem dX3_best_40 : decode cX3_best 40 = .ok (.iload 4, 2) := by decide +kernel
theorem dX3_best_42 : decode cX3_best 42 = .ok (.iload_n 1, 1) := by decide +kernel
theorem dX3_best_43 : decode cX3_best 43 = .ok (.invokevirtual 142, 3) := by decide +kernel
theorem dX3_best_46 : decode cX3_best 46 = .ok (.invokestatic 147, 3) := by decide +kernel
theorem dX3_best_49 : decode cX3_best 49 = .ok (.istore 5, 2) := by decide +kernel
theorem dX3_best_51 : decode cX3_best 51 = .ok (.iload 5, 2) := by decide +kernel
theorem dX3_best_53 : decode cX3_best 53 = .ok (.iload_n 3, 1) := by decide +kernel
theorem dX3_best_54 : decode cX3_best 54 = .ok (.if_icmp .le 9, 3) := by decide +kernel
theorem dX3_best_57 : decode cX3_best 57 = .ok (.iload 5, 2) := by decide +kernel
theorem dX3_best_59 : decode cX3_best 59 = .ok (.istore_n 3, 1) := by decide +kernel
theorem dX3_best_60 : decode cX3_best 60 = .ok (.iload 4, 2) := by decide +kernel
theorem dX3_best_62 : decode cX3_best 62 = .ok (.istore_n 2, 1) := by decide +kernel
theorem dX3_best_63 : decode cX3_best 63 = .ok (.iinc 4 1, 3) := by decide +kernel
theorem dX3_best_66 : decode cX3_best 66 = .ok (.goto (-39), 3) := by decide +kernel
theorem dX3_best_69 : decode cX3_best 69 = .ok (.iload_n 2, 1) := by decide +kernel
theorem dX3_best_70 : decode cX3_best 70 = .ok (.ireturn, 1) := by decide +kernel
theorem dX3_mean_0 : decode cX3_mean 0 = .ok (.iconst 0, 1) := by decide +kernel
theorem dX3_mean_1 : decode cX3_mean 1 = .ok (.istore_n 1, 1) := by decide +kernel
theorem dX3_mean_2 : decode cX3_mean 2 = .ok (.iconst 0, 1) := by decide +kernel
theorem dX3_mean_3 : decode cX3_mean 3 = .ok (.istore_n 2, 1) := by decide +kernel
theorem dX3_mean_4 : decode cX3_mean 4 = .ok (.iconst 0, 1) := by decide +kernel
theorem dX3_mean_5 : decode cX3_mean 5 = .ok (.istore_n 3, 1) := by decide +kernel
theorem dX3_mean_6 : decode cX3_mean 6 = .ok (.iload_n 3, 1) := by decide +kernel
theorem dX3_mean_7 : decode cX3_mean 7 = .ok (.aload_n 0, 1) := by decide +kernel
theorem dX3_mean_8 : decode cX3_mean 8 = .ok (.getfield 10, 3) := by decide +kernel
theorem dX3_mean_11 : decode cX3_mean 11 = .ok (.getfield 39, 3) := by decide +kernel
theorem dX3_mean_14 : decode cX3_mean 14 = .ok (.if_icmp .ge 39, 3) := by decide +kernel
theorem dX3_mean_17 : decode cX3_mean 17 = .ok (.iload_n 1, 1) := by decide +kernel
theorem dX3_mean_18 : decode cX3_mean 18 = .ok (.aload_n 0, 1) := by decide +kernel
theorem dX3_mean_19 : decode cX3_mean 19 = .ok (.getfield 10, 3) := by decide +kernel
theorem dX3_mean_22 : decode cX3_mean 22 = .ok (.getfield 62, 3) := by decide +kernel
theorem dX3_mean_25 : decode cX3_mean 25 = .ok (.iload_n 3, 1) := by decide +kernel
theorem dX3_mean_26 : decode cX3_mean 26 = .ok (.aaload, 1) := by decide +kernel
theorem dX3_mean_27 : decode cX3_mean 27 = .ok (.getfield 152, 3) := by decide +kernel
theorem dX3_mean_30 : decode cX3_mean 30 = .ok (.iadd, 1) := by decide +kernel
theorem dX3_mean_31 : decode cX3_mean 31 = .ok (.istore_n 1, 1) := by decide +kernel
theorem dX3_mean_32 : decode cX3_mean 32 = .ok (.iload_n 2, 1) := by decide +kernel
theorem dX3_mean_33 : decode cX3_mean 33 = .ok (.aload_n 0, 1) := by decide +kernel
theorem dX3_mean_34 : decode cX3_mean 34 = .ok (.getfield 10, 3) := by decide +kernel
theorem dX3_mean_37 : decode cX3_mean 37 = .ok (.getfield 62, 3) := by decide +kernel
theorem dX3_mean_40 : decode cX3_mean 40 = .ok (.iload_n 3, 1) := by decide +kernel
theorem dX3_mean_41 : decode cX3_mean 41 = .ok (.aaload, 1) := by decide +kernel
theorem dX3_mean_42 : decode cX3_mean 42 = .ok (.getfield 155, 3) := by decide +kernel
theorem dX3_mean_45 : decode cX3_mean 45 = .ok (.iadd, 1) := by decide +kernel
theorem dX3_mean_46 : decode cX3_mean 46 = .ok (.istore_n 2, 1) := by decide +kernel
theorem dX3_mean_47 : decode cX3_mean 47 = .ok (.iinc 3 1, 3) := by decide +kernel
theorem dX3_mean_50 : decode cX3_mean 50 = .ok (.goto (-44), 3) := by decide +kernel
theorem dX3_mean_53 : decode cX3_mean 53 = .ok (.iload_n 1, 1) := by decide +kernel
theorem dX3_mean_54 : decode cX3_mean 54 = .ok (.iload_n 2, 1) := by decide +kernel
theorem dX3_mean_55 : decode cX3_mean 55 = .ok (.iadd, 1) := by decide +kernel
theorem dX3_mean_56 : decode cX3_mean 56 = .ok (.istore_n 3, 1) := by decide +kernel
theorem dX3_mean_57 : decode cX3_mean 57 = .ok (.iload_n 3, 1) := by decide +kernel
theorem dX3_mean_58 : decode cX3_mean 58 = .ok (.ifCond .le 11, 3) := by decide +kernel
theorem dX3_mean_61 : decode cX3_mean 61 = .ok (.iload_n 1, 1) := by decide +kernel
theorem dX3_mean_62 : decode cX3_mean 62 = .ok (.i2d, 1) := by decide +kernel
theorem dX3_mean_63 : decode cX3_mean 63 = .ok (.iload_n 3, 1) := by decide +kernel
theorem dX3_mean_64 : decode cX3_mean 64 = .ok (.i2d, 1) := by decide +kernel
theorem dX3_mean_65 : decode cX3_mean 65 = .ok (.ddiv, 1) := by decide +kernel
theorem dX3_mean_66 : decode cX3_mean 66 = .ok (.goto 4, 3) := by decide +kernel
theorem dX3_mean_69 : decode cX3_mean 69 = .ok (.dconst 0, 1) := by decide +kernel
theorem dX3_mean_70 : decode cX3_mean 70 = .ok (.dreturn, 1) := by decide +kernel
set_option maxRecDepth 20000 in
theorem ggX3_digest_X1_fact : GoodIn wsX3_digest wsX1_fact := goodIn_r _ [12, 13, 14, 15, 16, 17, 18, 19, 20, 11, 21, 22, 23, 24, 25, 26, 27, 70, 71, 72, 73, 74, 75, 76, 77, 78, 79, 80, 81, 82, 83, 84, 85, 86, 87, 88, 89, 90, 91, 92, 93, 94, 95] (by decide +kernel) (by decide +kernel)
set_option maxRecDepth 20000 in
theorem gX3_digest_X1_fact : GoodIn wsX3_digest (wsV RX3 126 RX1 yX1_fact wsX1_fact) := goodIn_app (goodIn_of _ (by decide +kernel)) ggX3_digest_X1_fact
set_option maxRecDepth 20000 in
theorem ggX3_digest_X3_digestOfDoor : GoodIn wsX3_digest wsX3_digestOfDoor := goodIn_r _ [31, 2, 32, 33, 34, 35, 36, 37, 38, 39, 40, 41, 42, 43, 44, 45, 46, 47, 48, 49, 50, 51, 52, 53, 54, 55, 56, 30, 57, 82, 83, 84, 85, 86, 87, 88, 89, 90, 91, 92, 93, 94, 95] (by decide +kernel) (by decide +kernel)
set_option maxRecDepth 20000 in
theorem gX3_digest_X3_digestOfDoor : GoodIn wsX3_digest (va_wsS RX3 162 yX3_digestOfDoor wsX3_digestOfDoor) := goodIn_app (goodIn_of _ (by decide +kernel)) ggX3_digest_X3_digestOfDoor
set_option maxRecDepth 20000 in
theorem ggX3_digest_X2_fact : GoodIn wsX3_digest wsX2_fact := goodIn_r _ [62, 63, 64, 65, 66, 67, 56, 30, 57, 75, 76, 77, 78, 79, 80, 81] (by decide +kernel) (by decide +kernel)
set_option maxRecDepth 20000 in
theorem gX3_digest_X2_fact : GoodIn wsX3_digest (wsV RX3 122 RX2 yX2_fact wsX2_fact) := goodIn_app (goodIn_of _ (by decide +kernel)) ggX3_digest_X2_fact
theorem dX3_digest_0 : decode cX3_digest 0 = .ok (.ldc2_w 158, 3) := by decide +kernel
theorem dX3_digest_3 : decode cX3_digest 3 = .ok (.lstore_n 1, 1) := by decide +kernel
theorem dX3_digest_4 : decode cX3_digest 4 = .ok (.iconst 0, 1) := by decide +kernel
theorem dX3_digest_5 : decode cX3_digest 5 = .ok (.istore_n 3, 1) := by decide +kernel
theorem dX3_digest_6 : decode cX3_digest 6 = .ok (.iload_n 3, 1) := by decide +kernel
theorem dX3_digest_7 : decode cX3_digest 7 = .ok (.bipush 9, 2) := by decide +kernel
theorem dX3_digest_9 : decode cX3_digest 9 = .ok (.if_icmp .ge 25, 3) := by decide +kernel
theorem dX3_digest_12 : decode cX3_digest 12 = .ok (.lload_n 1, 1) := by decide +kernel
theorem dX3_digest_13 : decode cX3_digest 13 = .ok (.ldc2_w 160, 3) := by decide +kernel
theorem dX3_digest_16 : decode cX3_digest 16 = .ok (.lmul, 1) := by decide +kernel
theorem dX3_digest_17 : decode cX3_digest 17 = .ok (.aload_n 0, 1) := by decide +kernel
theorem dX3_digest_18 : decode cX3_digest 18 = .ok (.getfield 10, 3) := by decide +kernel
theorem dX3_digest_21 : decode cX3_digest 21 = .ok (.iload_n 3, 1) := by decide +kernel
theorem dX3_digest_22 : decode cX3_digest 22 = .ok (.invokevirtual 126, 3) := by decide +kernel
theorem dX3_digest_25 : decode cX3_digest 25 = .ok (.i2l, 1) := by decide +kernel
theorem dX3_digest_26 : decode cX3_digest 26 = .ok (.ladd, 1) := by decide +kernel
theorem dX3_digest_27 : decode cX3_digest 27 = .ok (.lstore_n 1, 1) := by decide +kernel
theorem dX3_digest_28 : decode cX3_digest 28 = .ok (.iinc 3 1, 3) := by decide +kernel
theorem dX3_digest_31 : decode cX3_digest 31 = .ok (.goto (-25), 3) := by decide +kernel
theorem dX3_digest_34 : decode cX3_digest 34 = .ok (.iconst 0, 1) := by decide +kernel
theorem dX3_digest_35 : decode cX3_digest 35 = .ok (.istore_n 3, 1) := by decide +kernel
theorem dX3_digest_36 : decode cX3_digest 36 = .ok (.iload_n 3, 1) := by decide +kernel
theorem dX3_digest_37 : decode cX3_digest 37 = .ok (.aload_n 0, 1) := by decide +kernel
theorem dX3_digest_38 : decode cX3_digest 38 = .ok (.getfield 10, 3) := by decide +kernel
theorem dX3_digest_41 : decode cX3_digest 41 = .ok (.getfield 39, 3) := by decide +kernel
theorem dX3_digest_44 : decode cX3_digest 44 = .ok (.if_icmp .ge 23, 3) := by decide +kernel
theorem dX3_digest_47 : decode cX3_digest 47 = .ok (.lload_n 1, 1) := by decide +kernel
theorem dX3_digest_48 : decode cX3_digest 48 = .ok (.aload_n 0, 1) := by decide +kernel
theorem dX3_digest_49 : decode cX3_digest 49 = .ok (.getfield 10, 3) := by decide +kernel
theorem dX3_digest_52 : decode cX3_digest 52 = .ok (.getfield 62, 3) := by decide +kernel
theorem dX3_digest_55 : decode cX3_digest 55 = .ok (.iload_n 3, 1) := by decide +kernel
theorem dX3_digest_56 : decode cX3_digest 56 = .ok (.aaload, 1) := by decide +kernel
theorem dX3_digest_57 : decode cX3_digest 57 = .ok (.invokestatic 162, 3) := by decide +kernel
theorem dX3_digest_60 : decode cX3_digest 60 = .ok (.lstore_n 1, 1) := by decide +kernel
theorem dX3_digest_61 : decode cX3_digest 61 = .ok (.iinc 3 1, 3) := by decide +kernel
theorem dX3_digest_64 : decode cX3_digest 64 = .ok (.goto (-28), 3) := by decide +kernel
theorem dX3_digest_67 : decode cX3_digest 67 = .ok (.iconst 0, 1) := by decide +kernel
theorem dX3_digest_68 : decode cX3_digest 68 = .ok (.istore_n 3, 1) := by decide +kernel
theorem dX3_digest_69 : decode cX3_digest 69 = .ok (.iload_n 3, 1) := by decide +kernel
theorem dX3_digest_70 : decode cX3_digest 70 = .ok (.aload_n 0, 1) := by decide +kernel
theorem dX3_digest_71 : decode cX3_digest 71 = .ok (.getfield 10, 3) := by decide +kernel
theorem dX3_digest_74 : decode cX3_digest 74 = .ok (.getfield 111, 3) := by decide +kernel
theorem dX3_digest_77 : decode cX3_digest 77 = .ok (.getfield 115, 3) := by decide +kernel
theorem dX3_digest_80 : decode cX3_digest 80 = .ok (.if_icmp .ge 45, 3) := by decide +kernel
theorem dX3_digest_83 : decode cX3_digest 83 = .ok (.iconst 0, 1) := by decide +kernel
theorem dX3_digest_84 : decode cX3_digest 84 = .ok (.istore 4, 2) := by decide +kernel
theorem dX3_digest_86 : decode cX3_digest 86 = .ok (.iload 4, 2) := by decide +kernel
theorem dX3_digest_88 : decode cX3_digest 88 = .ok (.iconst 4, 1) := by decide +kernel
theorem dX3_digest_89 : decode cX3_digest 89 = .ok (.if_icmp .ge 30, 3) := by decide +kernel
theorem dX3_digest_92 : decode cX3_digest 92 = .ok (.lload_n 1, 1) := by decide +kernel
theorem dX3_digest_93 : decode cX3_digest 93 = .ok (.ldc2_w 160, 3) := by decide +kernel
theorem dX3_digest_96 : decode cX3_digest 96 = .ok (.lmul, 1) := by decide +kernel
theorem dX3_digest_97 : decode cX3_digest 97 = .ok (.aload_n 0, 1) := by decide +kernel
theorem dX3_digest_98 : decode cX3_digest 98 = .ok (.getfield 10, 3) := by decide +kernel
theorem dX3_digest_101 : decode cX3_digest 101 = .ok (.getfield 111, 3) := by decide +kernel
theorem dX3_digest_104 : decode cX3_digest 104 = .ok (.iload_n 3, 1) := by decide +kernel
theorem dX3_digest_105 : decode cX3_digest 105 = .ok (.iload 4, 2) := by decide +kernel
theorem dX3_digest_107 : decode cX3_digest 107 = .ok (.invokevirtual 122, 3) := by decide +kernel
theorem dX3_digest_110 : decode cX3_digest 110 = .ok (.i2l, 1) := by decide +kernel
theorem dX3_digest_111 : decode cX3_digest 111 = .ok (.ladd, 1) := by decide +kernel
theorem dX3_digest_112 : decode cX3_digest 112 = .ok (.lstore_n 1, 1) := by decide +kernel
theorem dX3_digest_113 : decode cX3_digest 113 = .ok (.iinc 4 1, 3) := by decide +kernel
theorem dX3_digest_116 : decode cX3_digest 116 = .ok (.goto (-30), 3) := by decide +kernel
theorem dX3_digest_119 : decode cX3_digest 119 = .ok (.iinc 3 1, 3) := by decide +kernel
theorem dX3_digest_122 : decode cX3_digest 122 = .ok (.goto (-53), 3) := by decide +kernel
theorem dX3_digest_125 : decode cX3_digest 125 = .ok (.lload_n 1, 1) := by decide +kernel
theorem dX3_digest_126 : decode cX3_digest 126 = .ok (.lreturn, 1) := by decide +kernel
set_option maxRecDepth 20000 in
theorem ggX3_digestOfDoor_X0_fact : GoodIn wsX3_digestOfDoor wsX0_fact := goodIn_r _ [7, 8, 9, 10, 11, 12, 13, 14, 15, 16, 17, 6, 18, 19, 29, 30, 31, 32, 33, 34, 35, 36, 37, 38, 39, 40, 41, 42] (by decide +kernel) (by decide +kernel)
set_option maxRecDepth 20000 in
theorem gX3_digestOfDoor_X0_fact : GoodIn wsX3_digestOfDoor (wsV RX3 100 RX0 yX0_fact wsX0_fact) := goodIn_app (goodIn_of _ (by decide +kernel)) ggX3_digestOfDoor_X0_fact
set_option maxRecDepth 20000 in
theorem ggX3_digestOfDoor_X0_askedFact : GoodIn wsX3_digestOfDoor wsX0_askedFact := goodIn_r _ [23, 11, 24, 25, 19, 26, 27, 28, 29, 30, 31, 32, 33, 34, 35, 36, 37, 38, 39, 40, 41, 42] (by decide +kernel) (by decide +kernel)
set_option maxRecDepth 20000 in
theorem gX3_digestOfDoor_X0_askedFact : GoodIn wsX3_digestOfDoor (wsV RX3 107 RX0 yX0_askedFact wsX0_askedFact) := goodIn_app (goodIn_of _ (by decide +kernel)) ggX3_digestOfDoor_X0_askedFact
set_option maxRecDepth 20000 in
theorem ggX3_openedByWhisper_X1_copyFrom : GoodIn wsX3_openedByWhisper wsX1_copyFrom := goodIn_r _ [9, 10, 11, 12, 13, 14, 15, 16, 17, 18, 19, 20, 21, 22, 23, 24, 25, 26, 27, 28, 29, 30, 31, 32, 33, 34, 35, 36, 37, 38, 39, 40, 41, 42, 43, 44, 45, 46, 47, 48, 49, 157, 158, 159, 160, 161, 162, 163, 164, 165, 166, 167, 168, 169, 170, 171, 172, 173, 174, 175, 176, 177, 178, 179, 180, 181, 182] (by decide +kernel) (by decide +kernel)
set_option maxRecDepth 20000 in
theorem gX3_openedByWhisper_X1_copyFrom : GoodIn wsX3_openedByWhisper (wsV RX3 136 RX1 yX1_copyFrom wsX1_copyFrom) := goodIn_app (goodIn_of _ (by decide +kernel)) ggX3_openedByWhisper_X1_copyFrom
set_option maxRecDepth 20000 in
theorem ggX3_openedByWhisper_X1_hearToken : GoodIn wsX3_openedByWhisper wsX1_hearToken := goodIn_r _ [53, 12, 54, 55, 56, 57, 58, 8, 59, 11, 60, 61, 62, 17, 63, 22, 23, 25, 64, 65, 66, 67, 68, 13, 69, 70, 71, 72, 73, 74, 20, 75, 76, 77, 40, 78, 42, 43, 44, 46, 47, 48, 49, 157, 158, 159, 160, 161, 162, 163, 164, 165, 166, 167, 168, 169, 170, 171, 172, 173, 174, 175, 176, 177, 178, 179, 180, 181, 182] (by decide +kernel) (by decide +kernel)
set_option maxRecDepth 20000 in
theorem gX3_openedByWhisper_X1_hearToken : GoodIn wsX3_openedByWhisper (wsV RX3 94 RX1 yX1_hearToken wsX1_hearToken) := goodIn_app (goodIn_of _ (by decide +kernel)) ggX3_openedByWhisper_X1_hearToken
set_option maxRecDepth 20000 in
theorem ggX3_openedByWhisper_X1_tickOn : GoodIn wsX3_openedByWhisper wsX1_tickOn := goodIn_r _ [82, 11, 12, 13, 83, 84, 85, 86, 87, 88, 54, 10, 89, 90, 91, 17, 92, 22, 23, 93, 94, 95, 40, 96, 42, 48, 44, 46, 47, 49, 97, 76, 77, 78, 43, 98, 99, 100, 101, 102, 103, 104, 8, 105, 56, 57, 58, 59, 106, 107, 108, 109, 33, 110, 111, 112, 113, 26, 27, 75, 64, 65, 66, 67, 68, 69, 70, 71, 72, 73, 74, 20, 114, 115, 116, 117, 34, 35, 36, 118, 119, 120, 121, 122, 123, 124, 125, 126, 127, 128, 129, 130, 131, 132, 133, 134, 135, 136, 137, 138, 139, 140, 141, 21, 142, 143, 144, 145, 24, 146, 61, 62, 63, 25, 147, 148, 149, 150, 157, 158, 159, 160, 161, 176, 177, 178, 179, 180, 181, 182, 162, 163, 164, 165, 166, 167, 168, 169, 170, 171, 172, 173, 174, 175] (by decide +kernel) (by decide +kernel)
set_option maxRecDepth 20000 in
theorem gX3_openedByWhisper_X1_tickOn : GoodIn wsX3_openedByWhisper (wsV RX3 132 RX1 yX1_tickOn wsX1_tickOn) := goodIn_app (goodIn_of _ (by decide +kernel)) ggX3_openedByWhisper_X1_tickOn
set_option maxRecDepth 20000 in
theorem ggX3_openedByWhisper_X1_openDoors : GoodIn wsX3_openedByWhisper wsX1_openDoors := goodIn_r _ [154, 11, 12, 54, 157, 158, 159, 160, 161, 162, 163, 164, 165, 166, 167, 168, 169, 170, 171, 172, 173, 174, 175] (by decide +kernel) (by decide +kernel)
set_option maxRecDepth 20000 in
theorem gX3_openedByWhisper_X1_openDoors : GoodIn wsX3_openedByWhisper (wsV RX3 169 RX1 yX1_openDoors wsX1_openDoors) := goodIn_app (goodIn_of _ (by decide +kernel)) ggX3_openedByWhisper_X1_openDoors
theorem dX3_isIn_0 : decode cX3_isIn 0 = .ok (.iload_n 0, 1) := by decide +kernel
theorem dX3_isIn_1 : decode cX3_isIn 1 = .ok (.iload_n 1, 1) := by decide +kernel
theorem dX3_isIn_2 : decode cX3_isIn 2 = .ok (.if_icmp .lt 12, 3) := by decide +kernel
theorem dX3_isIn_5 : decode cX3_isIn 5 = .ok (.iload_n 0, 1) := by decide +kernel
theorem dX3_isIn_6 : decode cX3_isIn 6 = .ok (.iload_n 2, 1) := by decide +kernel
theorem dX3_isIn_7 : decode cX3_isIn 7 = .ok (.if_icmp .gt 7, 3) := by decide +kernel
theorem dX3_isIn_10 : decode cX3_isIn 10 = .ok (.iconst 1, 1) := by decide +kernel
theorem dX3_isIn_11 : decode cX3_isIn 11 = .ok (.goto 4, 3) := by decide +kernel
theorem dX3_isIn_14 : decode cX3_isIn 14 = .ok (.iconst 0, 1) := by decide +kernel
theorem dX3_isIn_15 : decode cX3_isIn 15 = .ok (.ireturn, 1) := by decide +kernel
set_option maxRecDepth 20000 in
theorem ggX3_isPatience_X3_isIn : GoodIn wsX3_isPatience wsX3_isIn := goodIn_r _ [4] (by decide +kernel) (by decide +kernel)
set_option maxRecDepth 20000 in
theorem gX3_isPatience_X3_isIn : GoodIn wsX3_isPatience (va_wsS RX3 19 yX3_isIn wsX3_isIn) := goodIn_app (goodIn_of _ (by decide +kernel)) ggX3_isPatience_X3_isIn
theorem dX3_isPatience_0 : decode cX3_isPatience 0 = .ok (.iload_n 0, 1) := by decide +kernel
theorem dX3_isPatience_1 : decode cX3_isPatience 1 = .ok (.iconst 1, 1) := by decide +kernel
theorem dX3_isPatience_2 : decode cX3_isPatience 2 = .ok (.bipush 20, 2) := by decide +kernel
theorem dX3_isPatience_4 : decode cX3_isPatience 4 = .ok (.invokestatic 19, 3) := by decide +kernel
theorem dX3_isPatience_7 : decode cX3_isPatience 7 = .ok (.ireturn, 1) := by decide +kernel
set_option maxRecDepth 20000 in
theorem ggX3_isRule_X3_isIn : GoodIn wsX3_isRule wsX3_isIn := goodIn_r _ [4] (by decide +kernel) (by decide +kernel)
set_option maxRecDepth 20000 in
theorem gX3_isRule_X3_isIn : GoodIn wsX3_isRule (va_wsS RX3 19 yX3_isIn wsX3_isIn) := goodIn_app (goodIn_of _ (by decide +kernel)) ggX3_isRule_X3_isIn
theorem dX3_isRule_0 : decode cX3_isRule 0 = .ok (.iload_n 0, 1) := by decide +kernel
theorem dX3_isRule_1 : decode cX3_isRule 1 = .ok (.iconst 0, 1) := by decide +kernel
theorem dX3_isRule_2 : decode cX3_isRule 2 = .ok (.iconst 3, 1) := by decide +kernel
theorem dX3_isRule_3 : decode cX3_isRule 3 = .ok (.invokestatic 19, 3) := by decide +kernel
theorem dX3_isRule_6 : decode cX3_isRule 6 = .ok (.ireturn, 1) := by decide +kernel
theorem dX4_init_0 : decode cX4_init 0 = .ok (.aload_n 0, 1) := by decide +kernel
theorem dX4_init_1 : decode cX4_init 1 = .ok (.invokespecial 1, 3) := by decide +kernel
theorem dX4_init_4 : decode cX4_init 4 = .ok (.aload_n 0, 1) := by decide +kernel
theorem dX4_init_5 : decode cX4_init 5 = .ok (.bipush 90, 2) := by decide +kernel
theorem dX4_init_7 : decode cX4_init 7 = .ok (.newarray .int, 2) := by decide +kernel
theorem dX4_init_9 : decode cX4_init 9 = .ok (.putfield 9, 3) := by decide +kernel
theorem dX4_init_12 : decode cX4_init 12 = .ok (.aload_n 0, 1) := by decide +kernel
theorem dX4_init_13 : decode cX4_init 13 = .ok (.bipush 120, 2) := by decide +kernel
theorem dX4_init_15 : decode cX4_init 15 = .ok (.newarray .int, 2) := by decide +kernel
theorem dX4_init_17 : decode cX4_init 17 = .ok (.putfield 13, 3) := by decide +kernel
theorem dX4_init_20 : decode cX4_init 20 = .ok (.aload_n 0, 1) := by decide +kernel
theorem dX4_init_21 : decode cX4_init 21 = .ok (.sipush 2000, 3) := by decide +kernel
theorem dX4_init_24 : decode cX4_init 24 = .ok (.newarray .int, 2) := by decide +kernel
theorem dX4_init_26 : decode cX4_init 26 = .ok (.putfield 16, 3) := by decide +kernel
theorem dX4_init_29 : decode cX4_init 29 = .ok (.aload_n 0, 1) := by decide +kernel
theorem dX4_init_30 : decode cX4_init 30 = .ok (.sipush 300, 3) := by decide +kernel
theorem dX4_init_33 : decode cX4_init 33 = .ok (.newarray .int, 2) := by decide +kernel
theorem dX4_init_35 : decode cX4_init 35 = .ok (.putfield 19, 3) := by decide +kernel
theorem dX4_init_38 : decode cX4_init 38 = .ok (.aload_n 0, 1) := by decide +kernel
theorem dX4_init_39 : decode cX4_init 39 = .ok (.iconst 3, 1) := by decide +kernel
theorem dX4_init_40 : decode cX4_init 40 = .ok (.newarray .int, 2) := by decide +kernel
theorem dX4_init_42 : decode cX4_init 42 = .ok (.putfield 22, 3) := by decide +kernel
theorem dX4_init_45 : decode cX4_init 45 = .ok (.aload_n 0, 1) := by decide +kernel
theorem dX4_init_46 : decode cX4_init 46 = .ok (.sipush 300, 3) := by decide +kernel
theorem dX4_init_49 : decode cX4_init 49 = .ok (.newarray .int, 2) := by decide +kernel
theorem dX4_init_51 : decode cX4_init 51 = .ok (.putfield 25, 3) := by decide +kernel
theorem dX4_init_54 : decode cX4_init 54 = .ok (.return_, 1) := by decide +kernel
theorem dX4_thrown_0 : decode cX4_thrown 0 = .ok (.aload_n 0, 1) := by decide +kernel
theorem dX4_thrown_1 : decode cX4_thrown 1 = .ok (.getfield 28, 3) := by decide +kernel
theorem dX4_thrown_4 : decode cX4_thrown 4 = .ok (.ireturn, 1) := by decide +kernel
theorem dX4_fail_0 : decode cX4_fail 0 = .ok (.aload_n 0, 1) := by decide +kernel
theorem dX4_fail_1 : decode cX4_fail 1 = .ok (.iload_n 1, 1) := by decide +kernel
theorem dX4_fail_2 : decode cX4_fail 2 = .ok (.putfield 28, 3) := by decide +kernel
theorem dX4_fail_5 : decode cX4_fail 5 = .ok (.iconst 0, 1) := by decide +kernel
theorem dX4_fail_6 : decode cX4_fail 6 = .ok (.ireturn, 1) := by decide +kernel
theorem dX4_isIn_0 : decode cX4_isIn 0 = .ok (.iload_n 0, 1) := by decide +kernel
theorem dX4_isIn_1 : decode cX4_isIn 1 = .ok (.iload_n 1, 1) := by decide +kernel
theorem dX4_isIn_2 : decode cX4_isIn 2 = .ok (.if_icmp .lt 12, 3) := by decide +kernel
theorem dX4_isIn_5 : decode cX4_isIn 5 = .ok (.iload_n 0, 1) := by decide +kernel
theorem dX4_isIn_6 : decode cX4_isIn 6 = .ok (.iload_n 2, 1) := by decide +kernel
theorem dX4_isIn_7 : decode cX4_isIn 7 = .ok (.if_icmp .gt 7, 3) := by decide +kernel
theorem dX4_isIn_10 : decode cX4_isIn 10 = .ok (.iconst 1, 1) := by decide +kernel
theorem dX4_isIn_11 : decode cX4_isIn 11 = .ok (.goto 4, 3) := by decide +kernel
theorem dX4_isIn_14 : decode cX4_isIn 14 = .ok (.iconst 0, 1) := by decide +kernel
theorem dX4_isIn_15 : decode cX4_isIn 15 = .ok (.ireturn, 1) := by decide +kernel
set_option maxRecDepth 20000 in
theorem ggX4_isDoor_X4_isIn : GoodIn wsX4_isDoor wsX4_isIn := goodIn_r _ [5] (by decide +kernel) (by decide +kernel)
set_option maxRecDepth 20000 in
theorem gX4_isDoor_X4_isIn : GoodIn wsX4_isDoor (va_wsS RX4 35 yX4_isIn wsX4_isIn) := goodIn_app (goodIn_of _ (by decide +kernel)) ggX4_isDoor_X4_isIn
theorem dX4_isDoor_0 : decode cX4_isDoor 0 = .ok (.iload_n 1, 1) := by decide +kernel
theorem dX4_isDoor_1 : decode cX4_isDoor 1 = .ok (.iconst 0, 1) := by decide +kernel
theorem dX4_isDoor_2 : decode cX4_isDoor 2 = .ok (.aload_n 0, 1) := by decide +kernel
theorem dX4_isDoor_3 : decode cX4_isDoor 3 = .ok (.getfield 32, 3) := by decide +kernel
theorem dX4_isDoor_6 : decode cX4_isDoor 6 = .ok (.iconst 1, 1) := by decide +kernel
theorem dX4_isDoor_7 : decode cX4_isDoor 7 = .ok (.isub, 1) := by decide +kernel
theorem dX4_isDoor_8 : decode cX4_isDoor 8 = .ok (.invokestatic 35, 3) := by decide +kernel
theorem dX4_isDoor_11 : decode cX4_isDoor 11 = .ok (.ireturn, 1) := by decide +kernel
set_option maxRecDepth 20000 in
theorem ggX4_build_X4_isIn : GoodIn wsX4_build wsX4_isIn := goodIn_r _ [12] (by decide +kernel) (by decide +kernel)
set_option maxRecDepth 20000 in
theorem gX4_build_X4_isIn : GoodIn wsX4_build (va_wsS RX4 35 yX4_isIn wsX4_isIn) := goodIn_app (goodIn_of _ (by decide +kernel)) ggX4_build_X4_isIn
set_option maxRecDepth 20000 in
theorem ggX4_build_X4_fail : GoodIn wsX4_build wsX4_fail := goodIn_r _ [16, 1, 17, 18, 19, 20, 21, 22, 23, 24] (by decide +kernel) (by decide +kernel)
set_option maxRecDepth 20000 in
theorem gX4_build_X4_fail : GoodIn wsX4_build (wsV RX4 39 RX4 yX4_fail wsX4_fail) := goodIn_app (goodIn_of _ (by decide +kernel)) ggX4_build_X4_fail
theorem dX4_build_0 : decode cX4_build 0 = .ok (.aload_n 0, 1) := by decide +kernel
theorem dX4_build_1 : decode cX4_build 1 = .ok (.iconst 0, 1) := by decide +kernel
theorem dX4_build_2 : decode cX4_build 2 = .ok (.putfield 28, 3) := by decide +kernel
theorem dX4_build_5 : decode cX4_build 5 = .ok (.iload_n 1, 1) := by decide +kernel
theorem dX4_build_6 : decode cX4_build 6 = .ok (.iconst 0, 1) := by decide +kernel
theorem dX4_build_7 : decode cX4_build 7 = .ok (.bipush 99, 2) := by decide +kernel
theorem dX4_build_9 : decode cX4_build 9 = .ok (.invokestatic 35, 3) := by decide +kernel
theorem dX4_build_12 : decode cX4_build 12 = .ok (.ifCond .eq 22, 3) := by decide +kernel
theorem dX4_build_15 : decode cX4_build 15 = .ok (.iload_n 2, 1) := by decide +kernel
theorem dX4_build_16 : decode cX4_build 16 = .ok (.iconst 1, 1) := by decide +kernel
theorem dX4_build_17 : decode cX4_build 17 = .ok (.bipush 20, 2) := by decide +kernel
theorem dX4_build_19 : decode cX4_build 19 = .ok (.invokestatic 35, 3) := by decide +kernel
theorem dX4_build_22 : decode cX4_build 22 = .ok (.ifCond .eq 12, 3) := by decide +kernel
theorem dX4_build_25 : decode cX4_build 25 = .ok (.iload_n 3, 1) := by decide +kernel
theorem dX4_build_26 : decode cX4_build 26 = .ok (.iconst 0, 1) := by decide +kernel
theorem dX4_build_27 : decode cX4_build 27 = .ok (.iconst 3, 1) := by decide +kernel
theorem dX4_build_28 : decode cX4_build 28 = .ok (.invokestatic 35, 3) := by decide +kernel
theorem dX4_build_31 : decode cX4_build 31 = .ok (.ifCond .ne 9, 3) := by decide +kernel
theorem dX4_build_34 : decode cX4_build 34 = .ok (.aload_n 0, 1) := by decide +kernel
theorem dX4_build_35 : decode cX4_build 35 = .ok (.iconst 1, 1) := by decide +kernel
theorem dX4_build_36 : decode cX4_build 36 = .ok (.invokevirtual 39, 3) := by decide +kernel
theorem dX4_build_39 : decode cX4_build 39 = .ok (.ireturn, 1) := by decide +kernel
theorem dX4_build_40 : decode cX4_build 40 = .ok (.aload_n 0, 1) := by decide +kernel
theorem dX4_build_41 : decode cX4_build 41 = .ok (.getfield 32, 3) := by decide +kernel
theorem dX4_build_44 : decode cX4_build 44 = .ok (.bipush 10, 2) := by decide +kernel
theorem dX4_build_46 : decode cX4_build 46 = .ok (.if_icmp .ne 9, 3) := by decide +kernel
theorem dX4_build_49 : decode cX4_build 49 = .ok (.aload_n 0, 1) := by decide +kernel
theorem dX4_build_50 : decode cX4_build 50 = .ok (.iconst 2, 1) := by decide +kernel
theorem dX4_build_51 : decode cX4_build 51 = .ok (.invokevirtual 39, 3) := by decide +kernel
theorem dX4_build_54 : decode cX4_build 54 = .ok (.ireturn, 1) := by decide +kernel
theorem dX4_build_55 : decode cX4_build 55 = .ok (.bipush 9, 2) := by decide +kernel
theorem dX4_build_57 : decode cX4_build 57 = .ok (.newarray .int, 2) := by decide +kernel
theorem dX4_build_59 : decode cX4_build 59 = .ok (.dup, 1) := by decide +kernel
theorem dX4_build_60 : decode cX4_build 60 = .ok (.iconst 0, 1) := by decide +kernel
theorem dX4_build_61 : decode cX4_build 61 = .ok (.iload_n 1, 1) := by decide +kernel
theorem dX4_build_62 : decode cX4_build 62 = .ok (.iastore, 1) := by decide +kernel
theorem dX4_build_63 : decode cX4_build 63 = .ok (.dup, 1) := by decide +kernel
theorem dX4_build_64 : decode cX4_build 64 = .ok (.iconst 1, 1) := by decide +kernel
theorem dX4_build_65 : decode cX4_build 65 = .ok (.iload_n 2, 1) := by decide +kernel
theorem dX4_build_66 : decode cX4_build 66 = .ok (.iastore, 1) := by decide +kernel
theorem dX4_build_67 : decode cX4_build 67 = .ok (.dup, 1) := by decide +kernel
theorem dX4_build_68 : decode cX4_build 68 = .ok (.iconst 2, 1) := by decide +kernel
theorem dX4_build_69 : decode cX4_build 69 = .ok (.iload_n 3, 1) := by decide +kernel
theorem dX4_build_70 : decode cX4_build 70 = .ok (.iastore, 1) := by decide +kernel
theorem dX4_build_71 : decode cX4_build 71 = .ok (.dup, 1) := by decide +kernel
theorem dX4_build_72 : decode cX4_build 72 = .ok (.iconst 3, 1) := by decide +kernel
theorem dX4_build_73 : decode cX4_build 73 = .ok (.iconst 0, 1) := by decide +kernel
theorem dX4_build_74 : decode cX4_build 74 = .ok (.iastore, 1) := by decide +kernel
theorem dX4_build_75 : decode cX4_build 75 = .ok (.dup, 1) := by decide +kernel
theorem dX4_build_76 : decode cX4_build 76 = .ok (.iconst 4, 1) := by decide +kernel
theorem dX4_build_77 : decode cX4_build 77 = .ok (.iconst 0, 1) := by decide +kernel
theorem dX4_build_78 : decode cX4_build 78 = .ok (.iastore, 1) := by decide +kernel
theorem dX4_build_79 : decode cX4_build 79 = .ok (.dup, 1) := by decide +kernel
theorem dX4_build_80 : decode cX4_build 80 = .ok (.iconst 5, 1) := by decide +kernel
theorem dX4_build_81 : decode cX4_build 81 = .ok (.iconst 0, 1) := by decide +kernel
theorem dX4_build_82 : decode cX4_build 82 = .ok (.iastore, 1) := by decide +kernel
theorem dX4_build_83 : decode cX4_build 83 = .ok (.dup, 1) := by decide +kernel
theorem dX4_build_84 : decode cX4_build 84 = .ok (.bipush 6, 2) := by decide +kernel
theorem dX4_build_86 : decode cX4_build 86 = .ok (.iconst 0, 1) := by decide +kernel
theorem dX4_build_87 : decode cX4_build 87 = .ok (.iastore, 1) := by decide +kernel
theorem dX4_build_88 : decode cX4_build 88 = .ok (.dup, 1) := by decide +kernel
theorem dX4_build_89 : decode cX4_build 89 = .ok (.bipush 7, 2) := by decide +kernel
theorem dX4_build_91 : decode cX4_build 91 = .ok (.iconst 0, 1) := by decide +kernel
theorem dX4_build_92 : decode cX4_build 92 = .ok (.iastore, 1) := by decide +kernel
theorem dX4_build_93 : decode cX4_build 93 = .ok (.dup, 1) := by decide +kernel
theorem dX4_build_94 : decode cX4_build 94 = .ok (.bipush 8, 2) := by decide +kernel
theorem dX4_build_96 : decode cX4_build 96 = .ok (.iconst 0, 1) := by decide +kernel
theorem dX4_build_97 : decode cX4_build 97 = .ok (.iastore, 1) := by decide +kernel
theorem dX4_build_98 : decode cX4_build 98 = .ok (.astore 4, 2) := by decide +kernel
theorem dX4_build_100 : decode cX4_build 100 = .ok (.aload 4, 2) := by decide +kernel
theorem dX4_build_102 : decode cX4_build 102 = .ok (.iconst 0, 1) := by decide +kernel
theorem dX4_build_103 : decode cX4_build 103 = .ok (.aload_n 0, 1) := by decide +kernel
theorem dX4_build_104 : decode cX4_build 104 = .ok (.getfield 9, 3) := by decide +kernel
theorem dX4_build_107 : decode cX4_build 107 = .ok (.bipush 9, 2) := by decide +kernel
theorem dX4_build_109 : decode cX4_build 109 = .ok (.aload_n 0, 1) := by decide +kernel
theorem dX4_build_110 : decode cX4_build 110 = .ok (.getfield 32, 3) := by decide +kernel
theorem dX4_build_113 : decode cX4_build 113 = .ok (.imul, 1) := by decide +kernel
theorem dX4_build_114 : decode cX4_build 114 = .ok (.bipush 9, 2) := by decide +kernel
theorem dX4_build_116 : decode cX4_build 116 = .ok (.invokestatic 43, 3) := by decide +kernel
theorem dX4_build_119 : decode cX4_build 119 = .ok (.aload_n 0, 1) := by decide +kernel
theorem dX4_build_120 : decode cX4_build 120 = .ok (.dup, 1) := by decide +kernel
theorem dX4_build_121 : decode cX4_build 121 = .ok (.getfield 32, 3) := by decide +kernel
theorem dX4_build_124 : decode cX4_build 124 = .ok (.iconst 1, 1) := by decide +kernel
theorem dX4_build_125 : decode cX4_build 125 = .ok (.iadd, 1) := by decide +kernel
theorem dX4_build_126 : decode cX4_build 126 = .ok (.putfield 32, 3) := by decide +kernel
theorem dX4_build_129 : decode cX4_build 129 = .ok (.aload_n 0, 1) := by decide +kernel
theorem dX4_build_130 : decode cX4_build 130 = .ok (.getfield 32, 3) := by decide +kernel
theorem dX4_build_133 : decode cX4_build 133 = .ok (.iconst 1, 1) := by decide +kernel
theorem dX4_build_134 : decode cX4_build 134 = .ok (.isub, 1) := by decide +kernel
theorem dX4_build_135 : decode cX4_build 135 = .ok (.ireturn, 1) := by decide +kernel
set_option maxRecDepth 20000 in
theorem ggX4_place_X4_va : GoodIn wsX4_place wsX4_va := goodIn_r _ [5, 6, 12, 13, 14, 15, 16, 17, 18, 19] (by decide +kernel) (by decide +kernel)
set_option maxRecDepth 20000 in
theorem gX4_place_X4_va : GoodIn wsX4_place (wsV RX4 49 RX4 yX4_va wsX4_va) := goodIn_app (goodIn_of _ (by decide +kernel)) ggX4_place_X4_va
set_option maxRecDepth 20000 in
theorem ggX4_place_X4_li : GoodIn wsX4_place wsX4_li := goodIn_r _ [10, 11, 12, 13, 14, 15, 16, 17, 18, 19] (by decide +kernel) (by decide +kernel)
set_option maxRecDepth 20000 in
theorem gX4_place_X4_li : GoodIn wsX4_place (wsV RX4 53 RX4 yX4_li wsX4_li) := goodIn_app (goodIn_of _ (by decide +kernel)) ggX4_place_X4_li
set_option maxRecDepth 20000 in
theorem ggX4_ask_X4_isDoor : GoodIn wsX4_ask wsX4_isDoor := goodIn_r _ [6, 7, 8, 9, 5, 10, 37, 38, 39, 40, 41, 42, 43, 44] (by decide +kernel) (by decide +kernel)
set_option maxRecDepth 20000 in
theorem gX4_ask_X4_isDoor : GoodIn wsX4_ask (wsV RX4 57 RX4 yX4_isDoor wsX4_isDoor) := goodIn_app (goodIn_of _ (by decide +kernel)) ggX4_ask_X4_isDoor
set_option maxRecDepth 20000 in
theorem ggX4_ask_X4_fail : GoodIn wsX4_ask wsX4_fail := goodIn_r _ [14, 1, 37, 38, 39, 40, 41, 42, 43, 44] (by decide +kernel) (by decide +kernel)
set_option maxRecDepth 20000 in
theorem gX4_ask_X4_fail : GoodIn wsX4_ask (wsV RX4 39 RX4 yX4_fail wsX4_fail) := goodIn_app (goodIn_of _ (by decide +kernel)) ggX4_ask_X4_fail
set_option maxRecDepth 20000 in
theorem ggX4_ask_X4_isIn : GoodIn wsX4_ask wsX4_isIn := goodIn_r _ [10] (by decide +kernel) (by decide +kernel)
set_option maxRecDepth 20000 in
theorem gX4_ask_X4_isIn : GoodIn wsX4_ask (va_wsS RX4 35 yX4_isIn wsX4_isIn) := goodIn_app (goodIn_of _ (by decide +kernel)) ggX4_ask_X4_isIn
set_option maxRecDepth 20000 in
theorem ggX4_ask_X4_va : GoodIn wsX4_ask wsX4_va := goodIn_r _ [18, 19, 37, 38, 39, 40, 41, 42, 43, 44] (by decide +kernel) (by decide +kernel)
set_option maxRecDepth 20000 in
theorem gX4_ask_X4_va : GoodIn wsX4_ask (wsV RX4 49 RX4 yX4_va wsX4_va) := goodIn_app (goodIn_of _ (by decide +kernel)) ggX4_ask_X4_va
set_option maxRecDepth 20000 in
theorem ggX4_ask_X4_place : GoodIn wsX4_ask wsX4_place := goodIn_r _ [23, 15, 16, 17, 5, 18, 19, 24, 25, 26, 27, 28, 37, 38, 39, 40, 41, 42, 43, 44] (by decide +kernel) (by decide +kernel)
set_option maxRecDepth 20000 in
theorem gX4_ask_X4_place : GoodIn wsX4_ask (wsV RX4 61 RX4 yX4_place wsX4_place) := goodIn_app (goodIn_of _ (by decide +kernel)) ggX4_ask_X4_place
set_option maxRecDepth 20000 in
theorem ggX4_ask_X4_setLink : GoodIn wsX4_ask wsX4_setLink := goodIn_r _ [32, 28, 37, 38, 39, 40, 41, 42, 43, 44] (by decide +kernel) (by decide +kernel)
set_option maxRecDepth 20000 in
theorem gX4_ask_X4_setLink : GoodIn wsX4_ask (wsV RX4 64 RX4 yX4_setLink wsX4_setLink) := goodIn_app (goodIn_of _ (by decide +kernel)) ggX4_ask_X4_setLink
set_option maxRecDepth 20000 in
theorem ggX4_ask_X4_put : GoodIn wsX4_ask wsX4_put := goodIn_r _ [36, 19, 37, 38, 39, 40, 41, 42, 43, 44] (by decide +kernel) (by decide +kernel)
set_option maxRecDepth 20000 in
theorem gX4_ask_X4_put : GoodIn wsX4_ask (wsV RX4 68 RX4 yX4_put wsX4_put) := goodIn_app (goodIn_of _ (by decide +kernel)) ggX4_ask_X4_put
theorem dX4_ask_0 : decode cX4_ask 0 = .ok (.aload_n 0, 1) := by decide +kernel
theorem dX4_ask_1 : decode cX4_ask 1 = .ok (.iconst 0, 1) := by decide +kernel
theorem dX4_ask_2 : decode cX4_ask 2 = .ok (.putfield 28, 3) := by decide +kernel
theorem dX4_ask_5 : decode cX4_ask 5 = .ok (.aload_n 0, 1) := by decide +kernel
theorem dX4_ask_6 : decode cX4_ask 6 = .ok (.iload_n 1, 1) := by decide +kernel
theorem dX4_ask_7 : decode cX4_ask 7 = .ok (.invokevirtual 57, 3) := by decide +kernel
theorem dX4_ask_10 : decode cX4_ask 10 = .ok (.ifCond .eq 11, 3) := by decide +kernel
theorem dX4_ask_13 : decode cX4_ask 13 = .ok (.aload_n 0, 1) := by decide +kernel
theorem dX4_ask_14 : decode cX4_ask 14 = .ok (.iload_n 2, 1) := by decide +kernel
theorem dX4_ask_15 : decode cX4_ask 15 = .ok (.invokevirtual 57, 3) := by decide +kernel
theorem dX4_ask_18 : decode cX4_ask 18 = .ok (.ifCond .ne 9, 3) := by decide +kernel
theorem dX4_ask_21 : decode cX4_ask 21 = .ok (.aload_n 0, 1) := by decide +kernel
theorem dX4_ask_22 : decode cX4_ask 22 = .ok (.iconst 1, 1) := by decide +kernel
theorem dX4_ask_23 : decode cX4_ask 23 = .ok (.invokevirtual 39, 3) := by decide +kernel
theorem dX4_ask_26 : decode cX4_ask 26 = .ok (.ireturn, 1) := by decide +kernel
theorem dX4_ask_27 : decode cX4_ask 27 = .ok (.iload_n 1, 1) := by decide +kernel
theorem dX4_ask_28 : decode cX4_ask 28 = .ok (.iload_n 2, 1) := by decide +kernel
theorem dX4_ask_29 : decode cX4_ask 29 = .ok (.if_icmp .eq 12, 3) := by decide +kernel
theorem dX4_ask_32 : decode cX4_ask 32 = .ok (.iload_n 3, 1) := by decide +kernel
theorem dX4_ask_33 : decode cX4_ask 33 = .ok (.iconst 1, 1) := by decide +kernel
theorem dX4_ask_34 : decode cX4_ask 34 = .ok (.iconst 5, 1) := by decide +kernel
theorem dX4_ask_35 : decode cX4_ask 35 = .ok (.invokestatic 35, 3) := by decide +kernel
theorem dX4_ask_38 : decode cX4_ask 38 = .ok (.ifCond .ne 9, 3) := by decide +kernel
theorem dX4_ask_41 : decode cX4_ask 41 = .ok (.aload_n 0, 1) := by decide +kernel
theorem dX4_ask_42 : decode cX4_ask 42 = .ok (.iconst 2, 1) := by decide +kernel
theorem dX4_ask_43 : decode cX4_ask 43 = .ok (.invokevirtual 39, 3) := by decide +kernel
theorem dX4_ask_46 : decode cX4_ask 46 = .ok (.ireturn, 1) := by decide +kernel
theorem dX4_ask_47 : decode cX4_ask 47 = .ok (.aload_n 0, 1) := by decide +kernel
theorem dX4_ask_48 : decode cX4_ask 48 = .ok (.iload_n 1, 1) := by decide +kernel
theorem dX4_ask_49 : decode cX4_ask 49 = .ok (.iconst 3, 1) := by decide +kernel
theorem dX4_ask_50 : decode cX4_ask 50 = .ok (.invokevirtual 49, 3) := by decide +kernel
theorem dX4_ask_53 : decode cX4_ask 53 = .ok (.ifCond .ne 23, 3) := by decide +kernel
theorem dX4_ask_56 : decode cX4_ask 56 = .ok (.aload_n 0, 1) := by decide +kernel
theorem dX4_ask_57 : decode cX4_ask 57 = .ok (.iload_n 1, 1) := by decide +kernel
theorem dX4_ask_58 : decode cX4_ask 58 = .ok (.iload_n 2, 1) := by decide +kernel
theorem dX4_ask_59 : decode cX4_ask 59 = .ok (.invokevirtual 61, 3) := by decide +kernel
theorem dX4_ask_62 : decode cX4_ask 62 = .ok (.iconst (-1), 1) := by decide +kernel
theorem dX4_ask_63 : decode cX4_ask 63 = .ok (.if_icmp .ne 13, 3) := by decide +kernel
theorem dX4_ask_66 : decode cX4_ask 66 = .ok (.aload_n 0, 1) := by decide +kernel
theorem dX4_ask_67 : decode cX4_ask 67 = .ok (.iload_n 1, 1) := by decide +kernel
theorem dX4_ask_68 : decode cX4_ask 68 = .ok (.iconst 5, 1) := by decide +kernel
theorem dX4_ask_69 : decode cX4_ask 69 = .ok (.invokevirtual 49, 3) := by decide +kernel
theorem dX4_ask_72 : decode cX4_ask 72 = .ok (.iconst 4, 1) := by decide +kernel
theorem dX4_ask_73 : decode cX4_ask 73 = .ok (.if_icmp .ne 9, 3) := by decide +kernel
theorem dX4_ask_76 : decode cX4_ask 76 = .ok (.aload_n 0, 1) := by decide +kernel
theorem dX4_ask_77 : decode cX4_ask 77 = .ok (.iconst 3, 1) := by decide +kernel
theorem dX4_ask_78 : decode cX4_ask 78 = .ok (.invokevirtual 39, 3) := by decide +kernel
theorem dX4_ask_81 : decode cX4_ask 81 = .ok (.ireturn, 1) := by decide +kernel
theorem dX4_ask_82 : decode cX4_ask 82 = .ok (.aload_n 0, 1) := by decide +kernel
theorem dX4_ask_83 : decode cX4_ask 83 = .ok (.iload_n 1, 1) := by decide +kernel
theorem dX4_ask_84 : decode cX4_ask 84 = .ok (.iconst 5, 1) := by decide +kernel
theorem dX4_ask_85 : decode cX4_ask 85 = .ok (.invokevirtual 49, 3) := by decide +kernel
theorem dX4_ask_88 : decode cX4_ask 88 = .ok (.istore 4, 2) := by decide +kernel
theorem dX4_ask_90 : decode cX4_ask 90 = .ok (.aload_n 0, 1) := by decide +kernel
theorem dX4_ask_91 : decode cX4_ask 91 = .ok (.iload_n 1, 1) := by decide +kernel
theorem dX4_ask_92 : decode cX4_ask 92 = .ok (.iload 4, 2) := by decide +kernel
theorem dX4_ask_94 : decode cX4_ask 94 = .ok (.iconst 0, 1) := by decide +kernel
theorem dX4_ask_95 : decode cX4_ask 95 = .ok (.iload_n 2, 1) := by decide +kernel
theorem dX4_ask_96 : decode cX4_ask 96 = .ok (.invokevirtual 64, 3) := by decide +kernel
theorem dX4_ask_99 : decode cX4_ask 99 = .ok (.aload_n 0, 1) := by decide +kernel
theorem dX4_ask_100 : decode cX4_ask 100 = .ok (.iload_n 1, 1) := by decide +kernel
theorem dX4_ask_101 : decode cX4_ask 101 = .ok (.iload 4, 2) := by decide +kernel
theorem dX4_ask_103 : decode cX4_ask 103 = .ok (.iconst 1, 1) := by decide +kernel
theorem dX4_ask_104 : decode cX4_ask 104 = .ok (.iload_n 3, 1) := by decide +kernel
theorem dX4_ask_105 : decode cX4_ask 105 = .ok (.invokevirtual 64, 3) := by decide +kernel
theorem dX4_ask_108 : decode cX4_ask 108 = .ok (.aload_n 0, 1) := by decide +kernel
theorem dX4_ask_109 : decode cX4_ask 109 = .ok (.iload_n 1, 1) := by decide +kernel
theorem dX4_ask_110 : decode cX4_ask 110 = .ok (.iload 4, 2) := by decide +kernel
theorem dX4_ask_112 : decode cX4_ask 112 = .ok (.iconst 2, 1) := by decide +kernel
theorem dX4_ask_113 : decode cX4_ask 113 = .ok (.iconst (-1), 1) := by decide +kernel
theorem dX4_ask_114 : decode cX4_ask 114 = .ok (.invokevirtual 64, 3) := by decide +kernel
theorem dX4_ask_117 : decode cX4_ask 117 = .ok (.aload_n 0, 1) := by decide +kernel
theorem dX4_ask_118 : decode cX4_ask 118 = .ok (.iload_n 1, 1) := by decide +kernel
theorem dX4_ask_119 : decode cX4_ask 119 = .ok (.iconst 5, 1) := by decide +kernel
theorem dX4_ask_120 : decode cX4_ask 120 = .ok (.iload 4, 2) := by decide +kernel
theorem dX4_ask_122 : decode cX4_ask 122 = .ok (.iconst 1, 1) := by decide +kernel
theorem dX4_ask_123 : decode cX4_ask 123 = .ok (.iadd, 1) := by decide +kernel
theorem dX4_ask_124 : decode cX4_ask 124 = .ok (.invokevirtual 68, 3) := by decide +kernel
theorem dX4_ask_127 : decode cX4_ask 127 = .ok (.iload 4, 2) := by decide +kernel
theorem dX4_ask_129 : decode cX4_ask 129 = .ok (.iconst 1, 1) := by decide +kernel
theorem dX4_ask_130 : decode cX4_ask 130 = .ok (.iadd, 1) := by decide +kernel
theorem dX4_ask_131 : decode cX4_ask 131 = .ok (.ireturn, 1) := by decide +kernel
set_option maxRecDepth 20000 in
theorem ggX4_set_X4_isDoor : GoodIn wsX4_set wsX4_isDoor := goodIn_r _ [6, 7, 8, 9, 5, 10, 24, 25, 26, 27, 28, 29, 30, 31] (by decide +kernel) (by decide +kernel)
set_option maxRecDepth 20000 in
theorem gX4_set_X4_isDoor : GoodIn wsX4_set (wsV RX4 57 RX4 yX4_isDoor wsX4_isDoor) := goodIn_app (goodIn_of _ (by decide +kernel)) ggX4_set_X4_isDoor
set_option maxRecDepth 20000 in
theorem ggX4_set_X4_fail : GoodIn wsX4_set wsX4_fail := goodIn_r _ [14, 1, 24, 25, 26, 27, 28, 29, 30, 31] (by decide +kernel) (by decide +kernel)
set_option maxRecDepth 20000 in
theorem gX4_set_X4_fail : GoodIn wsX4_set (wsV RX4 39 RX4 yX4_fail wsX4_fail) := goodIn_app (goodIn_of _ (by decide +kernel)) ggX4_set_X4_fail
set_option maxRecDepth 20000 in
theorem ggX4_set_X4_isIn : GoodIn wsX4_set wsX4_isIn := goodIn_r _ [10] (by decide +kernel) (by decide +kernel)
set_option maxRecDepth 20000 in
theorem gX4_set_X4_isIn : GoodIn wsX4_set (va_wsS RX4 35 yX4_isIn wsX4_isIn) := goodIn_app (goodIn_of _ (by decide +kernel)) ggX4_set_X4_isIn
set_option maxRecDepth 20000 in
theorem ggX4_set_X4_va : GoodIn wsX4_set wsX4_va := goodIn_r _ [18, 19, 24, 25, 26, 27, 28, 29, 30, 31] (by decide +kernel) (by decide +kernel)
set_option maxRecDepth 20000 in
theorem gX4_set_X4_va : GoodIn wsX4_set (wsV RX4 49 RX4 yX4_va wsX4_va) := goodIn_app (goodIn_of _ (by decide +kernel)) ggX4_set_X4_va
set_option maxRecDepth 20000 in
theorem ggX4_set_X4_put : GoodIn wsX4_set wsX4_put := goodIn_r _ [23, 19, 24, 25, 26, 27, 28, 29, 30, 31] (by decide +kernel) (by decide +kernel)
set_option maxRecDepth 20000 in
theorem gX4_set_X4_put : GoodIn wsX4_set (wsV RX4 68 RX4 yX4_put wsX4_put) := goodIn_app (goodIn_of _ (by decide +kernel)) ggX4_set_X4_put
theorem dX4_set_0 : decode cX4_set 0 = .ok (.aload_n 0, 1) := by decide +kernel
theorem dX4_set_1 : decode cX4_set 1 = .ok (.iconst 0, 1) := by decide +kernel
theorem dX4_set_2 : decode cX4_set 2 = .ok (.putfield 28, 3) := by decide +kernel
theorem dX4_set_5 : decode cX4_set 5 = .ok (.aload_n 0, 1) := by decide +kernel
theorem dX4_set_6 : decode cX4_set 6 = .ok (.iload_n 1, 1) := by decide +kernel
theorem dX4_set_7 : decode cX4_set 7 = .ok (.invokevirtual 57, 3) := by decide +kernel
theorem dX4_set_10 : decode cX4_set 10 = .ok (.ifCond .ne 9, 3) := by decide +kernel
theorem dX4_set_13 : decode cX4_set 13 = .ok (.aload_n 0, 1) := by decide +kernel
theorem dX4_set_14 : decode cX4_set 14 = .ok (.iconst 1, 1) := by decide +kernel
theorem dX4_set_15 : decode cX4_set 15 = .ok (.invokevirtual 39, 3) := by decide +kernel
theorem dX4_set_18 : decode cX4_set 18 = .ok (.ireturn, 1) := by decide +kernel
theorem dX4_set_19 : decode cX4_set 19 = .ok (.iload_n 2, 1) := by decide +kernel
theorem dX4_set_20 : decode cX4_set 20 = .ok (.iconst 0, 1) := by decide +kernel
theorem dX4_set_21 : decode cX4_set 21 = .ok (.iconst 3, 1) := by decide +kernel
theorem dX4_set_22 : decode cX4_set 22 = .ok (.invokestatic 35, 3) := by decide +kernel
theorem dX4_set_25 : decode cX4_set 25 = .ok (.ifCond .eq 13, 3) := by decide +kernel
theorem dX4_set_28 : decode cX4_set 28 = .ok (.iload_n 3, 1) := by decide +kernel
theorem dX4_set_29 : decode cX4_set 29 = .ok (.iconst 1, 1) := by decide +kernel
theorem dX4_set_30 : decode cX4_set 30 = .ok (.bipush 20, 2) := by decide +kernel
theorem dX4_set_32 : decode cX4_set 32 = .ok (.invokestatic 35, 3) := by decide +kernel
theorem dX4_set_35 : decode cX4_set 35 = .ok (.ifCond .ne 9, 3) := by decide +kernel
theorem dX4_set_38 : decode cX4_set 38 = .ok (.aload_n 0, 1) := by decide +kernel
theorem dX4_set_39 : decode cX4_set 39 = .ok (.iconst 2, 1) := by decide +kernel
theorem dX4_set_40 : decode cX4_set 40 = .ok (.invokevirtual 39, 3) := by decide +kernel
theorem dX4_set_43 : decode cX4_set 43 = .ok (.ireturn, 1) := by decide +kernel
theorem dX4_set_44 : decode cX4_set 44 = .ok (.bipush 100, 2) := by decide +kernel
theorem dX4_set_46 : decode cX4_set 46 = .ok (.aload_n 0, 1) := by decide +kernel
theorem dX4_set_47 : decode cX4_set 47 = .ok (.iload_n 1, 1) := by decide +kernel
theorem dX4_set_48 : decode cX4_set 48 = .ok (.iconst 2, 1) := by decide +kernel
theorem dX4_set_49 : decode cX4_set 49 = .ok (.invokevirtual 49, 3) := by decide +kernel
theorem dX4_set_52 : decode cX4_set 52 = .ok (.imul, 1) := by decide +kernel
theorem dX4_set_53 : decode cX4_set 53 = .ok (.aload_n 0, 1) := by decide +kernel
theorem dX4_set_54 : decode cX4_set 54 = .ok (.iload_n 1, 1) := by decide +kernel
theorem dX4_set_55 : decode cX4_set 55 = .ok (.iconst 1, 1) := by decide +kernel
theorem dX4_set_56 : decode cX4_set 56 = .ok (.invokevirtual 49, 3) := by decide +kernel
theorem dX4_set_59 : decode cX4_set 59 = .ok (.iadd, 1) := by decide +kernel
theorem dX4_set_60 : decode cX4_set 60 = .ok (.istore 4, 2) := by decide +kernel
theorem dX4_set_62 : decode cX4_set 62 = .ok (.aload_n 0, 1) := by decide +kernel
theorem dX4_set_63 : decode cX4_set 63 = .ok (.iload_n 1, 1) := by decide +kernel
theorem dX4_set_64 : decode cX4_set 64 = .ok (.iconst 2, 1) := by decide +kernel
theorem dX4_set_65 : decode cX4_set 65 = .ok (.iload_n 2, 1) := by decide +kernel
theorem dX4_set_66 : decode cX4_set 66 = .ok (.invokevirtual 68, 3) := by decide +kernel
theorem dX4_set_69 : decode cX4_set 69 = .ok (.aload_n 0, 1) := by decide +kernel
theorem dX4_set_70 : decode cX4_set 70 = .ok (.iload_n 1, 1) := by decide +kernel
theorem dX4_set_71 : decode cX4_set 71 = .ok (.iconst 1, 1) := by decide +kernel
theorem dX4_set_72 : decode cX4_set 72 = .ok (.iload_n 3, 1) := by decide +kernel
theorem dX4_set_73 : decode cX4_set 73 = .ok (.invokevirtual 68, 3) := by decide +kernel
theorem dX4_set_76 : decode cX4_set 76 = .ok (.iload 4, 2) := by decide +kernel
theorem dX4_set_78 : decode cX4_set 78 = .ok (.ireturn, 1) := by decide +kernel
set_option maxRecDepth 20000 in
theorem ggX4_wake_X4_va : GoodIn wsX4_wake wsX4_va := goodIn_r _ [5, 6, 30, 31, 32, 33, 34, 35, 36, 37] (by decide +kernel) (by decide +kernel)
set_option maxRecDepth 20000 in
theorem gX4_wake_X4_va : GoodIn wsX4_wake (wsV RX4 49 RX4 yX4_va wsX4_va) := goodIn_app (goodIn_of _ (by decide +kernel)) ggX4_wake_X4_va
set_option maxRecDepth 20000 in
theorem ggX4_wake_X4_state : GoodIn wsX4_wake wsX4_state := goodIn_r _ [10, 11, 12, 13, 4, 14, 6, 30, 31, 32, 33, 34, 35, 36, 37] (by decide +kernel) (by decide +kernel)
set_option maxRecDepth 20000 in
theorem gX4_wake_X4_state : GoodIn wsX4_wake (wsV RX4 72 RX4 yX4_state wsX4_state) := goodIn_app (goodIn_of _ (by decide +kernel)) ggX4_wake_X4_state
set_option maxRecDepth 20000 in
theorem ggX4_wake_X4_put : GoodIn wsX4_wake wsX4_put := goodIn_r _ [14, 6, 30, 31, 32, 33, 34, 35, 36, 37] (by decide +kernel) (by decide +kernel)
set_option maxRecDepth 20000 in
theorem gX4_wake_X4_put : GoodIn wsX4_wake (wsV RX4 68 RX4 yX4_put wsX4_put) := goodIn_app (goodIn_of _ (by decide +kernel)) ggX4_wake_X4_put
set_option maxRecDepth 20000 in
theorem ggX4_wake_X4_setLink : GoodIn wsX4_wake wsX4_setLink := goodIn_r _ [18, 19, 30, 31, 32, 33, 34, 35, 36, 37] (by decide +kernel) (by decide +kernel)
set_option maxRecDepth 20000 in
theorem gX4_wake_X4_setLink : GoodIn wsX4_wake (wsV RX4 64 RX4 yX4_setLink wsX4_setLink) := goodIn_app (goodIn_of _ (by decide +kernel)) ggX4_wake_X4_setLink
set_option maxRecDepth 20000 in
theorem ggX4_wake_X4_li : GoodIn wsX4_wake wsX4_li := goodIn_r _ [23, 19, 30, 31, 32, 33, 34, 35, 36, 37] (by decide +kernel) (by decide +kernel)
set_option maxRecDepth 20000 in
theorem gX4_wake_X4_li : GoodIn wsX4_wake (wsV RX4 53 RX4 yX4_li wsX4_li) := goodIn_app (goodIn_of _ (by decide +kernel)) ggX4_wake_X4_li
set_option maxRecDepth 20000 in
theorem ggX4_wake_X4_send : GoodIn wsX4_wake wsX4_send := goodIn_r _ [27, 28, 29, 30, 31, 32, 33, 34, 35, 36, 37] (by decide +kernel) (by decide +kernel)
set_option maxRecDepth 20000 in
theorem gX4_wake_X4_send : GoodIn wsX4_wake (wsV RX4 75 RX4 yX4_send wsX4_send) := goodIn_app (goodIn_of _ (by decide +kernel)) ggX4_wake_X4_send
set_option maxRecDepth 20000 in
theorem ggX4_state_X4_put : GoodIn wsX4_state wsX4_put := goodIn_r _ [5, 6, 7, 8, 9, 10, 11, 12, 13, 14] (by decide +kernel) (by decide +kernel)
set_option maxRecDepth 20000 in
theorem gX4_state_X4_put : GoodIn wsX4_state (wsV RX4 68 RX4 yX4_put wsX4_put) := goodIn_app (goodIn_of _ (by decide +kernel)) ggX4_state_X4_put
set_option maxRecDepth 20000 in
theorem ggX4_turn_X4_state : GoodIn wsX4_turn wsX4_state := goodIn_r _ [5, 6, 7, 8, 4, 9, 10, 15, 16, 17, 18, 19, 20, 21, 22] (by decide +kernel) (by decide +kernel)
set_option maxRecDepth 20000 in
theorem gX4_turn_X4_state : GoodIn wsX4_turn (wsV RX4 72 RX4 yX4_state wsX4_state) := goodIn_app (goodIn_of _ (by decide +kernel)) ggX4_turn_X4_state
set_option maxRecDepth 20000 in
theorem ggX4_turn_X4_va : GoodIn wsX4_turn wsX4_va := goodIn_r _ [14, 10, 15, 16, 17, 18, 19, 20, 21, 22] (by decide +kernel) (by decide +kernel)
set_option maxRecDepth 20000 in
theorem gX4_turn_X4_va : GoodIn wsX4_turn (wsV RX4 49 RX4 yX4_va wsX4_va) := goodIn_app (goodIn_of _ (by decide +kernel)) ggX4_turn_X4_va
set_option maxRecDepth 20000 in
theorem ggX4_turn_X4_put : GoodIn wsX4_turn wsX4_put := goodIn_r _ [9, 10, 15, 16, 17, 18, 19, 20, 21, 22] (by decide +kernel) (by decide +kernel)
set_option maxRecDepth 20000 in
theorem gX4_turn_X4_put : GoodIn wsX4_turn (wsV RX4 68 RX4 yX4_put wsX4_put) := goodIn_app (goodIn_of _ (by decide +kernel)) ggX4_turn_X4_put
set_option maxRecDepth 20000 in
theorem ggX4_whisper_X4_isDoor : GoodIn wsX4_whisper wsX4_isDoor := goodIn_r _ [6, 7, 8, 9, 5, 10, 47, 48, 49, 50, 51, 52, 53, 54] (by decide +kernel) (by decide +kernel)
set_option maxRecDepth 20000 in
theorem gX4_whisper_X4_isDoor : GoodIn wsX4_whisper (wsV RX4 57 RX4 yX4_isDoor wsX4_isDoor) := goodIn_app (goodIn_of _ (by decide +kernel)) ggX4_whisper_X4_isDoor
set_option maxRecDepth 20000 in
theorem ggX4_whisper_X4_isIn : GoodIn wsX4_whisper wsX4_isIn := goodIn_r _ [10] (by decide +kernel) (by decide +kernel)
set_option maxRecDepth 20000 in
theorem gX4_whisper_X4_isIn : GoodIn wsX4_whisper (va_wsS RX4 35 yX4_isIn wsX4_isIn) := goodIn_app (goodIn_of _ (by decide +kernel)) ggX4_whisper_X4_isIn
set_option maxRecDepth 20000 in
theorem ggX4_whisper_X4_va : GoodIn wsX4_whisper wsX4_va := goodIn_r _ [14, 15, 47, 48, 49, 50, 51, 52, 53, 54] (by decide +kernel) (by decide +kernel)
set_option maxRecDepth 20000 in
theorem gX4_whisper_X4_va : GoodIn wsX4_whisper (wsV RX4 49 RX4 yX4_va wsX4_va) := goodIn_app (goodIn_of _ (by decide +kernel)) ggX4_whisper_X4_va
set_option maxRecDepth 20000 in
theorem ggX4_whisper_X4_wake : GoodIn wsX4_whisper wsX4_wake := goodIn_r _ [19, 11, 12, 13, 5, 14, 15, 20, 21, 22, 23, 24, 25, 26, 27, 28, 29, 30, 31, 32, 33, 34, 35, 36, 37, 38, 39, 40, 41, 42, 47, 48, 49, 50, 51, 52, 53, 54] (by decide +kernel) (by decide +kernel)
set_option maxRecDepth 20000 in
theorem gX4_whisper_X4_wake : GoodIn wsX4_whisper (wsV RX4 78 RX4 yX4_wake wsX4_wake) := goodIn_app (goodIn_of _ (by decide +kernel)) ggX4_whisper_X4_wake
set_option maxRecDepth 20000 in
theorem ggX4_whisper_X4_turn : GoodIn wsX4_whisper wsX4_turn := goodIn_r _ [46, 20, 21, 22, 5, 23, 24, 25, 26, 27, 15, 11, 12, 13, 14, 47, 48, 49, 50, 51, 52, 53, 54] (by decide +kernel) (by decide +kernel)
set_option maxRecDepth 20000 in
theorem gX4_whisper_X4_turn : GoodIn wsX4_whisper (wsV RX4 82 RX4 yX4_turn wsX4_turn) := goodIn_app (goodIn_of _ (by decide +kernel)) ggX4_whisper_X4_turn
theorem dX4_whisper_0 : decode cX4_whisper 0 = .ok (.aload_n 0, 1) := by decide +kernel
theorem dX4_whisper_1 : decode cX4_whisper 1 = .ok (.aload_n 0, 1) := by decide +kernel
theorem dX4_whisper_2 : decode cX4_whisper 2 = .ok (.iload_n 1, 1) := by decide +kernel
theorem dX4_whisper_3 : decode cX4_whisper 3 = .ok (.invokevirtual 57, 3) := by decide +kernel
theorem dX4_whisper_6 : decode cX4_whisper 6 = .ok (.ifCond .ne 7, 3) := by decide +kernel
theorem dX4_whisper_9 : decode cX4_whisper 9 = .ok (.iconst 1, 1) := by decide +kernel
theorem dX4_whisper_10 : decode cX4_whisper 10 = .ok (.goto 18, 3) := by decide +kernel
theorem dX4_whisper_13 : decode cX4_whisper 13 = .ok (.iload_n 2, 1) := by decide +kernel
theorem dX4_whisper_14 : decode cX4_whisper 14 = .ok (.iconst 0, 1) := by decide +kernel
theorem dX4_whisper_15 : decode cX4_whisper 15 = .ok (.bipush 99, 2) := by decide +kernel
theorem dX4_whisper_17 : decode cX4_whisper 17 = .ok (.invokestatic 35, 3) := by decide +kernel
theorem dX4_whisper_20 : decode cX4_whisper 20 = .ok (.ifCond .ne 7, 3) := by decide +kernel
theorem dX4_whisper_23 : decode cX4_whisper 23 = .ok (.iconst 2, 1) := by decide +kernel
theorem dX4_whisper_24 : decode cX4_whisper 24 = .ok (.goto 4, 3) := by decide +kernel
theorem dX4_whisper_27 : decode cX4_whisper 27 = .ok (.iconst 0, 1) := by decide +kernel
theorem dX4_whisper_28 : decode cX4_whisper 28 = .ok (.putfield 28, 3) := by decide +kernel
theorem dX4_whisper_31 : decode cX4_whisper 31 = .ok (.aload_n 0, 1) := by decide +kernel
theorem dX4_whisper_32 : decode cX4_whisper 32 = .ok (.getfield 28, 3) := by decide +kernel
theorem dX4_whisper_35 : decode cX4_whisper 35 = .ok (.ifCond .ne 12, 3) := by decide +kernel
theorem dX4_whisper_38 : decode cX4_whisper 38 = .ok (.aload_n 0, 1) := by decide +kernel
theorem dX4_whisper_39 : decode cX4_whisper 39 = .ok (.iload_n 1, 1) := by decide +kernel
theorem dX4_whisper_40 : decode cX4_whisper 40 = .ok (.iconst 3, 1) := by decide +kernel
theorem dX4_whisper_41 : decode cX4_whisper 41 = .ok (.invokevirtual 49, 3) := by decide +kernel
theorem dX4_whisper_44 : decode cX4_whisper 44 = .ok (.ifCond .eq 5, 3) := by decide +kernel
theorem dX4_whisper_47 : decode cX4_whisper 47 = .ok (.iconst 0, 1) := by decide +kernel
theorem dX4_whisper_48 : decode cX4_whisper 48 = .ok (.ireturn, 1) := by decide +kernel
theorem dX4_whisper_49 : decode cX4_whisper 49 = .ok (.iload_n 2, 1) := by decide +kernel
theorem dX4_whisper_50 : decode cX4_whisper 50 = .ok (.aload_n 0, 1) := by decide +kernel
theorem dX4_whisper_51 : decode cX4_whisper 51 = .ok (.iload_n 1, 1) := by decide +kernel
theorem dX4_whisper_52 : decode cX4_whisper 52 = .ok (.iconst 0, 1) := by decide +kernel
theorem dX4_whisper_53 : decode cX4_whisper 53 = .ok (.invokevirtual 49, 3) := by decide +kernel
theorem dX4_whisper_56 : decode cX4_whisper 56 = .ok (.if_icmp .ne 7, 3) := by decide +kernel
theorem dX4_whisper_59 : decode cX4_whisper 59 = .ok (.iconst 1, 1) := by decide +kernel
theorem dX4_whisper_60 : decode cX4_whisper 60 = .ok (.goto 4, 3) := by decide +kernel
theorem dX4_whisper_63 : decode cX4_whisper 63 = .ok (.iconst 0, 1) := by decide +kernel
theorem dX4_whisper_64 : decode cX4_whisper 64 = .ok (.istore_n 3, 1) := by decide +kernel
theorem dX4_whisper_65 : decode cX4_whisper 65 = .ok (.iload_n 3, 1) := by decide +kernel
theorem dX4_whisper_66 : decode cX4_whisper 66 = .ok (.ifCond .eq 11, 3) := by decide +kernel
theorem dX4_whisper_69 : decode cX4_whisper 69 = .ok (.aload_n 0, 1) := by decide +kernel
theorem dX4_whisper_70 : decode cX4_whisper 70 = .ok (.iload_n 1, 1) := by decide +kernel
theorem dX4_whisper_71 : decode cX4_whisper 71 = .ok (.invokevirtual 78, 3) := by decide +kernel
theorem dX4_whisper_74 : decode cX4_whisper 74 = .ok (.goto 9, 3) := by decide +kernel
theorem dX4_whisper_77 : decode cX4_whisper 77 = .ok (.aload_n 0, 1) := by decide +kernel
theorem dX4_whisper_78 : decode cX4_whisper 78 = .ok (.iload_n 1, 1) := by decide +kernel
theorem dX4_whisper_79 : decode cX4_whisper 79 = .ok (.iconst 0, 1) := by decide +kernel
theorem dX4_whisper_80 : decode cX4_whisper 80 = .ok (.invokevirtual 82, 3) := by decide +kernel
theorem dX4_whisper_83 : decode cX4_whisper 83 = .ok (.iload_n 3, 1) := by decide +kernel
theorem dX4_whisper_84 : decode cX4_whisper 84 = .ok (.ireturn, 1) := by decide +kernel
set_option maxRecDepth 20000 in
theorem ggX4_answers_X4_va : GoodIn wsX4_answers wsX4_va := goodIn_r _ [5, 6, 12, 13, 14, 15, 16, 17, 18, 19] (by decide +kernel) (by decide +kernel)
set_option maxRecDepth 20000 in
theorem gX4_answers_X4_va : GoodIn wsX4_answers (wsV RX4 49 RX4 yX4_va wsX4_va) := goodIn_app (goodIn_of _ (by decide +kernel)) ggX4_answers_X4_va
set_option maxRecDepth 20000 in
theorem ggX4_answers_X4_li : GoodIn wsX4_answers wsX4_li := goodIn_r _ [10, 11, 12, 13, 14, 15, 16, 17, 18, 19] (by decide +kernel) (by decide +kernel)
set_option maxRecDepth 20000 in
theorem gX4_answers_X4_li : GoodIn wsX4_answers (wsV RX4 53 RX4 yX4_li wsX4_li) := goodIn_app (goodIn_of _ (by decide +kernel)) ggX4_answers_X4_li
set_option maxRecDepth 20000 in
theorem ggX4_doorTold_X4_va : GoodIn wsX4_doorTold wsX4_va := goodIn_r _ [5, 6, 16, 17, 18, 19, 20, 21, 22, 23] (by decide +kernel) (by decide +kernel)
set_option maxRecDepth 20000 in
theorem gX4_doorTold_X4_va : GoodIn wsX4_doorTold (wsV RX4 49 RX4 yX4_va wsX4_va) := goodIn_app (goodIn_of _ (by decide +kernel)) ggX4_doorTold_X4_va
set_option maxRecDepth 20000 in
theorem ggX4_doorTold_X4_answers : GoodIn wsX4_doorTold wsX4_answers := goodIn_r _ [10, 1, 2, 3, 4, 5, 6, 11, 12, 13, 14, 15, 16, 17, 18, 19, 20, 21, 22, 23] (by decide +kernel) (by decide +kernel)
set_option maxRecDepth 20000 in
theorem gX4_doorTold_X4_answers : GoodIn wsX4_doorTold (wsV RX4 86 RX4 yX4_answers wsX4_answers) := goodIn_app (goodIn_of _ (by decide +kernel)) ggX4_doorTold_X4_answers
set_option maxRecDepth 20000 in
theorem ggX4_door_X4_isDoor : GoodIn wsX4_door wsX4_isDoor := goodIn_r _ [6, 7, 8, 9, 5, 10, 33, 34, 35, 36, 37, 38, 39, 40] (by decide +kernel) (by decide +kernel)
set_option maxRecDepth 20000 in
theorem gX4_door_X4_isDoor : GoodIn wsX4_door (wsV RX4 57 RX4 yX4_isDoor wsX4_isDoor) := goodIn_app (goodIn_of _ (by decide +kernel)) ggX4_door_X4_isDoor
set_option maxRecDepth 20000 in
theorem ggX4_door_X4_isIn : GoodIn wsX4_door wsX4_isIn := goodIn_r _ [10] (by decide +kernel) (by decide +kernel)
set_option maxRecDepth 20000 in
theorem gX4_door_X4_isIn : GoodIn wsX4_door (va_wsS RX4 35 yX4_isIn wsX4_isIn) := goodIn_app (goodIn_of _ (by decide +kernel)) ggX4_door_X4_isIn
set_option maxRecDepth 20000 in
theorem ggX4_door_X4_doorTold : GoodIn wsX4_door wsX4_doorTold := goodIn_r _ [14, 15, 16, 17, 5, 18, 19, 20, 21, 22, 23, 24, 25, 26, 27, 28, 33, 34, 35, 36, 37, 38, 39, 40] (by decide +kernel) (by decide +kernel)
set_option maxRecDepth 20000 in
theorem gX4_door_X4_doorTold : GoodIn wsX4_door (wsV RX4 90 RX4 yX4_doorTold wsX4_doorTold) := goodIn_app (goodIn_of _ (by decide +kernel)) ggX4_door_X4_doorTold
set_option maxRecDepth 20000 in
theorem ggX4_door_X4_fail : GoodIn wsX4_door wsX4_fail := goodIn_r _ [32, 1, 33, 34, 35, 36, 37, 38, 39, 40] (by decide +kernel) (by decide +kernel)
set_option maxRecDepth 20000 in
theorem gX4_door_X4_fail : GoodIn wsX4_door (wsV RX4 39 RX4 yX4_fail wsX4_fail) := goodIn_app (goodIn_of _ (by decide +kernel)) ggX4_door_X4_fail
theorem dX4_door_0 : decode cX4_door 0 = .ok (.aload_n 0, 1) := by decide +kernel
theorem dX4_door_1 : decode cX4_door 1 = .ok (.iconst 0, 1) := by decide +kernel
theorem dX4_door_2 : decode cX4_door 2 = .ok (.putfield 28, 3) := by decide +kernel
theorem dX4_door_5 : decode cX4_door 5 = .ok (.aload_n 0, 1) := by decide +kernel
theorem dX4_door_6 : decode cX4_door 6 = .ok (.iload_n 1, 1) := by decide +kernel
theorem dX4_door_7 : decode cX4_door 7 = .ok (.invokevirtual 57, 3) := by decide +kernel
theorem dX4_door_10 : decode cX4_door 10 = .ok (.ifCond .eq 22, 3) := by decide +kernel
theorem dX4_door_13 : decode cX4_door 13 = .ok (.iload_n 2, 1) := by decide +kernel
theorem dX4_door_14 : decode cX4_door 14 = .ok (.iconst 0, 1) := by decide +kernel
theorem dX4_door_15 : decode cX4_door 15 = .ok (.bipush 8, 2) := by decide +kernel
theorem dX4_door_17 : decode cX4_door 17 = .ok (.invokestatic 35, 3) := by decide +kernel
theorem dX4_door_20 : decode cX4_door 20 = .ok (.ifCond .eq 12, 3) := by decide +kernel
theorem dX4_door_23 : decode cX4_door 23 = .ok (.aload_n 0, 1) := by decide +kernel
theorem dX4_door_24 : decode cX4_door 24 = .ok (.iload_n 1, 1) := by decide +kernel
theorem dX4_door_25 : decode cX4_door 25 = .ok (.iload_n 2, 1) := by decide +kernel
theorem dX4_door_26 : decode cX4_door 26 = .ok (.invokevirtual 90, 3) := by decide +kernel
theorem dX4_door_29 : decode cX4_door 29 = .ok (.goto 8, 3) := by decide +kernel
theorem dX4_door_32 : decode cX4_door 32 = .ok (.aload_n 0, 1) := by decide +kernel
theorem dX4_door_33 : decode cX4_door 33 = .ok (.iconst 1, 1) := by decide +kernel
theorem dX4_door_34 : decode cX4_door 34 = .ok (.invokevirtual 39, 3) := by decide +kernel
theorem dX4_door_37 : decode cX4_door 37 = .ok (.ireturn, 1) := by decide +kernel
set_option maxRecDepth 20000 in
theorem ggX4_asked_X4_va : GoodIn wsX4_asked wsX4_va := goodIn_r _ [5, 6, 12, 13, 14, 15, 16, 17, 18, 19] (by decide +kernel) (by decide +kernel)
set_option maxRecDepth 20000 in
theorem gX4_asked_X4_va : GoodIn wsX4_asked (wsV RX4 49 RX4 yX4_va wsX4_va) := goodIn_app (goodIn_of _ (by decide +kernel)) ggX4_asked_X4_va
set_option maxRecDepth 20000 in
theorem ggX4_asked_X4_li : GoodIn wsX4_asked wsX4_li := goodIn_r _ [10, 11, 12, 13, 14, 15, 16, 17, 18, 19] (by decide +kernel) (by decide +kernel)
set_option maxRecDepth 20000 in
theorem gX4_asked_X4_li : GoodIn wsX4_asked (wsV RX4 53 RX4 yX4_li wsX4_li) := goodIn_app (goodIn_of _ (by decide +kernel)) ggX4_asked_X4_li
set_option maxRecDepth 20000 in
theorem ggX4_asks_X4_isDoor : GoodIn wsX4_asks wsX4_isDoor := goodIn_r _ [6, 7, 8, 9, 5, 10, 29, 30, 31, 32, 33, 34, 35, 36] (by decide +kernel) (by decide +kernel)
set_option maxRecDepth 20000 in
theorem gX4_asks_X4_isDoor : GoodIn wsX4_asks (wsV RX4 57 RX4 yX4_isDoor wsX4_isDoor) := goodIn_app (goodIn_of _ (by decide +kernel)) ggX4_asks_X4_isDoor
set_option maxRecDepth 20000 in
theorem ggX4_asks_X4_va : GoodIn wsX4_asks wsX4_va := goodIn_r _ [14, 15, 29, 30, 31, 32, 33, 34, 35, 36] (by decide +kernel) (by decide +kernel)
set_option maxRecDepth 20000 in
theorem gX4_asks_X4_va : GoodIn wsX4_asks (wsV RX4 49 RX4 yX4_va wsX4_va) := goodIn_app (goodIn_of _ (by decide +kernel)) ggX4_asks_X4_va
set_option maxRecDepth 20000 in
theorem ggX4_asks_X4_isIn : GoodIn wsX4_asks wsX4_isIn := goodIn_r _ [10] (by decide +kernel) (by decide +kernel)
set_option maxRecDepth 20000 in
theorem gX4_asks_X4_isIn : GoodIn wsX4_asks (va_wsS RX4 35 yX4_isIn wsX4_isIn) := goodIn_app (goodIn_of _ (by decide +kernel)) ggX4_asks_X4_isIn
set_option maxRecDepth 20000 in
theorem ggX4_asks_X4_asked : GoodIn wsX4_asks wsX4_asked := goodIn_r _ [19, 11, 12, 13, 5, 14, 15, 20, 21, 22, 23, 24, 29, 30, 31, 32, 33, 34, 35, 36] (by decide +kernel) (by decide +kernel)
set_option maxRecDepth 20000 in
theorem gX4_asks_X4_asked : GoodIn wsX4_asks (wsV RX4 93 RX4 yX4_asked wsX4_asked) := goodIn_app (goodIn_of _ (by decide +kernel)) ggX4_asks_X4_asked
set_option maxRecDepth 20000 in
theorem ggX4_asks_X4_fail : GoodIn wsX4_asks wsX4_fail := goodIn_r _ [28, 1, 29, 30, 31, 32, 33, 34, 35, 36] (by decide +kernel) (by decide +kernel)
set_option maxRecDepth 20000 in
theorem gX4_asks_X4_fail : GoodIn wsX4_asks (wsV RX4 39 RX4 yX4_fail wsX4_fail) := goodIn_app (goodIn_of _ (by decide +kernel)) ggX4_asks_X4_fail
theorem dX4_asks_0 : decode cX4_asks 0 = .ok (.aload_n 0, 1) := by decide +kernel
theorem dX4_asks_1 : decode cX4_asks 1 = .ok (.iconst 0, 1) := by decide +kernel
theorem dX4_asks_2 : decode cX4_asks 2 = .ok (.putfield 28, 3) := by decide +kernel
theorem dX4_asks_5 : decode cX4_asks 5 = .ok (.aload_n 0, 1) := by decide +kernel
theorem dX4_asks_6 : decode cX4_asks 6 = .ok (.iload_n 1, 1) := by decide +kernel
theorem dX4_asks_7 : decode cX4_asks 7 = .ok (.invokevirtual 57, 3) := by decide +kernel
theorem dX4_asks_10 : decode cX4_asks 10 = .ok (.ifCond .eq 38, 3) := by decide +kernel
theorem dX4_asks_13 : decode cX4_asks 13 = .ok (.iload_n 2, 1) := by decide +kernel
theorem dX4_asks_14 : decode cX4_asks 14 = .ok (.iconst 0, 1) := by decide +kernel
theorem dX4_asks_15 : decode cX4_asks 15 = .ok (.aload_n 0, 1) := by decide +kernel
theorem dX4_asks_16 : decode cX4_asks 16 = .ok (.iload_n 1, 1) := by decide +kernel
theorem dX4_asks_17 : decode cX4_asks 17 = .ok (.iconst 5, 1) := by decide +kernel
theorem dX4_asks_18 : decode cX4_asks 18 = .ok (.invokevirtual 49, 3) := by decide +kernel
theorem dX4_asks_21 : decode cX4_asks 21 = .ok (.iconst 1, 1) := by decide +kernel
theorem dX4_asks_22 : decode cX4_asks 22 = .ok (.isub, 1) := by decide +kernel
theorem dX4_asks_23 : decode cX4_asks 23 = .ok (.invokestatic 35, 3) := by decide +kernel
theorem dX4_asks_26 : decode cX4_asks 26 = .ok (.ifCond .eq 22, 3) := by decide +kernel
theorem dX4_asks_29 : decode cX4_asks 29 = .ok (.iload_n 3, 1) := by decide +kernel
theorem dX4_asks_30 : decode cX4_asks 30 = .ok (.iconst 0, 1) := by decide +kernel
theorem dX4_asks_31 : decode cX4_asks 31 = .ok (.iconst 2, 1) := by decide +kernel
theorem dX4_asks_32 : decode cX4_asks 32 = .ok (.invokestatic 35, 3) := by decide +kernel
theorem dX4_asks_35 : decode cX4_asks 35 = .ok (.ifCond .eq 13, 3) := by decide +kernel
theorem dX4_asks_38 : decode cX4_asks 38 = .ok (.aload_n 0, 1) := by decide +kernel
theorem dX4_asks_39 : decode cX4_asks 39 = .ok (.iload_n 1, 1) := by decide +kernel
theorem dX4_asks_40 : decode cX4_asks 40 = .ok (.iload_n 2, 1) := by decide +kernel
theorem dX4_asks_41 : decode cX4_asks 41 = .ok (.iload_n 3, 1) := by decide +kernel
theorem dX4_asks_42 : decode cX4_asks 42 = .ok (.invokevirtual 93, 3) := by decide +kernel
theorem dX4_asks_45 : decode cX4_asks 45 = .ok (.goto 8, 3) := by decide +kernel
theorem dX4_asks_48 : decode cX4_asks 48 = .ok (.aload_n 0, 1) := by decide +kernel
theorem dX4_asks_49 : decode cX4_asks 49 = .ok (.iconst 1, 1) := by decide +kernel
theorem dX4_asks_50 : decode cX4_asks 50 = .ok (.invokevirtual 39, 3) := by decide +kernel
theorem dX4_asks_53 : decode cX4_asks 53 = .ok (.ireturn, 1) := by decide +kernel
set_option maxRecDepth 20000 in
theorem ggX4_voice_X4_isIn : GoodIn wsX4_voice wsX4_isIn := goodIn_r _ [7] (by decide +kernel) (by decide +kernel)
set_option maxRecDepth 20000 in
theorem gX4_voice_X4_isIn : GoodIn wsX4_voice (va_wsS RX4 35 yX4_isIn wsX4_isIn) := goodIn_app (goodIn_of _ (by decide +kernel)) ggX4_voice_X4_isIn
set_option maxRecDepth 20000 in
theorem ggX4_voice_X4_fail : GoodIn wsX4_voice wsX4_fail := goodIn_r _ [11, 1, 12, 13, 14, 15, 16, 17, 18, 19] (by decide +kernel) (by decide +kernel)
set_option maxRecDepth 20000 in
theorem gX4_voice_X4_fail : GoodIn wsX4_voice (wsV RX4 39 RX4 yX4_fail wsX4_fail) := goodIn_app (goodIn_of _ (by decide +kernel)) ggX4_voice_X4_fail
theorem dX4_voice_0 : decode cX4_voice 0 = .ok (.aload_n 0, 1) := by decide +kernel
theorem dX4_voice_1 : decode cX4_voice 1 = .ok (.iconst 0, 1) := by decide +kernel
theorem dX4_voice_2 : decode cX4_voice 2 = .ok (.putfield 28, 3) := by decide +kernel
theorem dX4_voice_5 : decode cX4_voice 5 = .ok (.iload_n 1, 1) := by decide +kernel
theorem dX4_voice_6 : decode cX4_voice 6 = .ok (.iconst 0, 1) := by decide +kernel
theorem dX4_voice_7 : decode cX4_voice 7 = .ok (.aload_n 0, 1) := by decide +kernel
theorem dX4_voice_8 : decode cX4_voice 8 = .ok (.getfield 22, 3) := by decide +kernel
theorem dX4_voice_11 : decode cX4_voice 11 = .ok (.iconst 1, 1) := by decide +kernel
theorem dX4_voice_12 : decode cX4_voice 12 = .ok (.iaload, 1) := by decide +kernel
theorem dX4_voice_13 : decode cX4_voice 13 = .ok (.iconst 1, 1) := by decide +kernel
theorem dX4_voice_14 : decode cX4_voice 14 = .ok (.isub, 1) := by decide +kernel
theorem dX4_voice_15 : decode cX4_voice 15 = .ok (.invokestatic 35, 3) := by decide +kernel
theorem dX4_voice_18 : decode cX4_voice 18 = .ok (.ifCond .eq 25, 3) := by decide +kernel
theorem dX4_voice_21 : decode cX4_voice 21 = .ok (.iload_n 2, 1) := by decide +kernel
theorem dX4_voice_22 : decode cX4_voice 22 = .ok (.iconst 0, 1) := by decide +kernel
theorem dX4_voice_23 : decode cX4_voice 23 = .ok (.iconst 3, 1) := by decide +kernel
theorem dX4_voice_24 : decode cX4_voice 24 = .ok (.invokestatic 35, 3) := by decide +kernel
theorem dX4_voice_27 : decode cX4_voice 27 = .ok (.ifCond .eq 16, 3) := by decide +kernel
theorem dX4_voice_30 : decode cX4_voice 30 = .ok (.aload_n 0, 1) := by decide +kernel
theorem dX4_voice_31 : decode cX4_voice 31 = .ok (.getfield 19, 3) := by decide +kernel
theorem dX4_voice_34 : decode cX4_voice 34 = .ok (.iconst 5, 1) := by decide +kernel
theorem dX4_voice_35 : decode cX4_voice 35 = .ok (.iload_n 1, 1) := by decide +kernel
theorem dX4_voice_36 : decode cX4_voice 36 = .ok (.imul, 1) := by decide +kernel
theorem dX4_voice_37 : decode cX4_voice 37 = .ok (.iload_n 2, 1) := by decide +kernel
theorem dX4_voice_38 : decode cX4_voice 38 = .ok (.iadd, 1) := by decide +kernel
theorem dX4_voice_39 : decode cX4_voice 39 = .ok (.iaload, 1) := by decide +kernel
theorem dX4_voice_40 : decode cX4_voice 40 = .ok (.goto 8, 3) := by decide +kernel
theorem dX4_voice_43 : decode cX4_voice 43 = .ok (.aload_n 0, 1) := by decide +kernel
theorem dX4_voice_44 : decode cX4_voice 44 = .ok (.iconst 1, 1) := by decide +kernel
theorem dX4_voice_45 : decode cX4_voice 45 = .ok (.invokevirtual 39, 3) := by decide +kernel
theorem dX4_voice_48 : decode cX4_voice 48 = .ok (.ireturn, 1) := by decide +kernel
set_option maxRecDepth 20000 in
theorem ggX4_openOnes_X4_va : GoodIn wsX4_openOnes wsX4_va := goodIn_r _ [6, 7, 8, 9, 10, 11, 12, 13, 14, 15] (by decide +kernel) (by decide +kernel)
set_option maxRecDepth 20000 in
theorem gX4_openOnes_X4_va : GoodIn wsX4_openOnes (wsV RX4 49 RX4 yX4_va wsX4_va) := goodIn_app (goodIn_of _ (by decide +kernel)) ggX4_openOnes_X4_va
theorem dX4_openOnes_0 : decode cX4_openOnes 0 = .ok (.iconst 0, 1) := by decide +kernel
theorem dX4_openOnes_1 : decode cX4_openOnes 1 = .ok (.istore_n 1, 1) := by decide +kernel
theorem dX4_openOnes_2 : decode cX4_openOnes 2 = .ok (.iconst 0, 1) := by decide +kernel
theorem dX4_openOnes_3 : decode cX4_openOnes 3 = .ok (.istore_n 2, 1) := by decide +kernel
theorem dX4_openOnes_4 : decode cX4_openOnes 4 = .ok (.iload_n 2, 1) := by decide +kernel
theorem dX4_openOnes_5 : decode cX4_openOnes 5 = .ok (.aload_n 0, 1) := by decide +kernel
theorem dX4_openOnes_6 : decode cX4_openOnes 6 = .ok (.getfield 32, 3) := by decide +kernel
theorem dX4_openOnes_9 : decode cX4_openOnes 9 = .ok (.if_icmp .ge 29, 3) := by decide +kernel
theorem dX4_openOnes_12 : decode cX4_openOnes 12 = .ok (.iload_n 1, 1) := by decide +kernel
theorem dX4_openOnes_13 : decode cX4_openOnes 13 = .ok (.aload_n 0, 1) := by decide +kernel
theorem dX4_openOnes_14 : decode cX4_openOnes 14 = .ok (.iload_n 2, 1) := by decide +kernel
theorem dX4_openOnes_15 : decode cX4_openOnes 15 = .ok (.iconst 3, 1) := by decide +kernel
theorem dX4_openOnes_16 : decode cX4_openOnes 16 = .ok (.invokevirtual 49, 3) := by decide +kernel
theorem dX4_openOnes_19 : decode cX4_openOnes 19 = .ok (.iconst 2, 1) := by decide +kernel
theorem dX4_openOnes_20 : decode cX4_openOnes 20 = .ok (.if_icmp .ne 9, 3) := by decide +kernel
theorem dX4_openOnes_23 : decode cX4_openOnes 23 = .ok (.iconst 1, 1) := by decide +kernel
theorem dX4_openOnes_24 : decode cX4_openOnes 24 = .ok (.iload_n 2, 1) := by decide +kernel
theorem dX4_openOnes_25 : decode cX4_openOnes 25 = .ok (.ishl, 1) := by decide +kernel
theorem dX4_openOnes_26 : decode cX4_openOnes 26 = .ok (.goto 4, 3) := by decide +kernel
theorem dX4_openOnes_29 : decode cX4_openOnes 29 = .ok (.iconst 0, 1) := by decide +kernel
theorem dX4_openOnes_30 : decode cX4_openOnes 30 = .ok (.ior, 1) := by decide +kernel
theorem dX4_openOnes_31 : decode cX4_openOnes 31 = .ok (.istore_n 1, 1) := by decide +kernel
theorem dX4_openOnes_32 : decode cX4_openOnes 32 = .ok (.iinc 2 1, 3) := by decide +kernel
theorem dX4_openOnes_35 : decode cX4_openOnes 35 = .ok (.goto (-31), 3) := by decide +kernel
theorem dX4_openOnes_38 : decode cX4_openOnes 38 = .ok (.iload_n 1, 1) := by decide +kernel
theorem dX4_openOnes_39 : decode cX4_openOnes 39 = .ok (.ireturn, 1) := by decide +kernel
set_option maxRecDepth 20000 in
theorem ggX4_counted_X4_va : GoodIn wsX4_counted wsX4_va := goodIn_r _ [7, 8, 13, 14, 15, 16, 17, 18, 19, 20] (by decide +kernel) (by decide +kernel)
set_option maxRecDepth 20000 in
theorem gX4_counted_X4_va : GoodIn wsX4_counted (wsV RX4 49 RX4 yX4_va wsX4_va) := goodIn_app (goodIn_of _ (by decide +kernel)) ggX4_counted_X4_va
set_option maxRecDepth 20000 in
theorem ggX4_counted_X4_openOnes : GoodIn wsX4_counted wsX4_openOnes := goodIn_r _ [12, 2, 3, 4, 5, 6, 7, 8, 13, 14, 15, 16, 17, 18, 19, 20] (by decide +kernel) (by decide +kernel)
set_option maxRecDepth 20000 in
theorem gX4_counted_X4_openOnes : GoodIn wsX4_counted (wsV RX4 96 RX4 yX4_openOnes wsX4_openOnes) := goodIn_app (goodIn_of _ (by decide +kernel)) ggX4_counted_X4_openOnes
theorem dX4_counted_0 : decode cX4_counted 0 = .ok (.iconst 0, 1) := by decide +kernel
theorem dX4_counted_1 : decode cX4_counted 1 = .ok (.istore_n 2, 1) := by decide +kernel
theorem dX4_counted_2 : decode cX4_counted 2 = .ok (.iload_n 1, 1) := by decide +kernel
theorem dX4_counted_3 : decode cX4_counted 3 = .ok (.tableswitch 109 0 7 #[45, 52, 57, 57, 57, 57, 95, 102], 45) := by decide +kernel
theorem dX4_counted_48 : decode cX4_counted 48 = .ok (.aload_n 0, 1) := by decide +kernel
theorem dX4_counted_49 : decode cX4_counted 49 = .ok (.getfield 22, 3) := by decide +kernel
theorem dX4_counted_52 : decode cX4_counted 52 = .ok (.iconst 0, 1) := by decide +kernel
theorem dX4_counted_53 : decode cX4_counted 53 = .ok (.iaload, 1) := by decide +kernel
theorem dX4_counted_54 : decode cX4_counted 54 = .ok (.ireturn, 1) := by decide +kernel
theorem dX4_counted_55 : decode cX4_counted 55 = .ok (.aload_n 0, 1) := by decide +kernel
theorem dX4_counted_56 : decode cX4_counted 56 = .ok (.getfield 32, 3) := by decide +kernel
theorem dX4_counted_59 : decode cX4_counted 59 = .ok (.ireturn, 1) := by decide +kernel
theorem dX4_counted_60 : decode cX4_counted 60 = .ok (.iconst 0, 1) := by decide +kernel
theorem dX4_counted_61 : decode cX4_counted 61 = .ok (.istore_n 3, 1) := by decide +kernel
theorem dX4_counted_62 : decode cX4_counted 62 = .ok (.iload_n 3, 1) := by decide +kernel
theorem dX4_counted_63 : decode cX4_counted 63 = .ok (.aload_n 0, 1) := by decide +kernel
theorem dX4_counted_64 : decode cX4_counted 64 = .ok (.getfield 32, 3) := by decide +kernel
theorem dX4_counted_67 : decode cX4_counted 67 = .ok (.if_icmp .ge 29, 3) := by decide +kernel
theorem dX4_counted_70 : decode cX4_counted 70 = .ok (.iload_n 2, 1) := by decide +kernel
theorem dX4_counted_71 : decode cX4_counted 71 = .ok (.aload_n 0, 1) := by decide +kernel
theorem dX4_counted_72 : decode cX4_counted 72 = .ok (.iload_n 3, 1) := by decide +kernel
theorem dX4_counted_73 : decode cX4_counted 73 = .ok (.iconst 3, 1) := by decide +kernel
theorem dX4_counted_74 : decode cX4_counted 74 = .ok (.invokevirtual 49, 3) := by decide +kernel
theorem dX4_counted_77 : decode cX4_counted 77 = .ok (.iload_n 1, 1) := by decide +kernel
theorem dX4_counted_78 : decode cX4_counted 78 = .ok (.iconst 2, 1) := by decide +kernel
theorem dX4_counted_79 : decode cX4_counted 79 = .ok (.isub, 1) := by decide +kernel
theorem dX4_counted_80 : decode cX4_counted 80 = .ok (.if_icmp .ne 7, 3) := by decide +kernel
theorem dX4_counted_83 : decode cX4_counted 83 = .ok (.iconst 1, 1) := by decide +kernel
theorem dX4_counted_84 : decode cX4_counted 84 = .ok (.goto 4, 3) := by decide +kernel
theorem dX4_counted_87 : decode cX4_counted 87 = .ok (.iconst 0, 1) := by decide +kernel
theorem dX4_counted_88 : decode cX4_counted 88 = .ok (.iadd, 1) := by decide +kernel
theorem dX4_counted_89 : decode cX4_counted 89 = .ok (.istore_n 2, 1) := by decide +kernel
theorem dX4_counted_90 : decode cX4_counted 90 = .ok (.iinc 3 1, 3) := by decide +kernel
theorem dX4_counted_93 : decode cX4_counted 93 = .ok (.goto (-31), 3) := by decide +kernel
theorem dX4_counted_96 : decode cX4_counted 96 = .ok (.iload_n 2, 1) := by decide +kernel
theorem dX4_counted_97 : decode cX4_counted 97 = .ok (.ireturn, 1) := by decide +kernel
theorem dX4_counted_98 : decode cX4_counted 98 = .ok (.aload_n 0, 1) := by decide +kernel
theorem dX4_counted_99 : decode cX4_counted 99 = .ok (.getfield 22, 3) := by decide +kernel
theorem dX4_counted_102 : decode cX4_counted 102 = .ok (.iconst 1, 1) := by decide +kernel
theorem dX4_counted_103 : decode cX4_counted 103 = .ok (.iaload, 1) := by decide +kernel
theorem dX4_counted_104 : decode cX4_counted 104 = .ok (.ireturn, 1) := by decide +kernel
theorem dX4_counted_105 : decode cX4_counted 105 = .ok (.aload_n 0, 1) := by decide +kernel
theorem dX4_counted_106 : decode cX4_counted 106 = .ok (.getfield 22, 3) := by decide +kernel
theorem dX4_counted_109 : decode cX4_counted 109 = .ok (.iconst 2, 1) := by decide +kernel
theorem dX4_counted_110 : decode cX4_counted 110 = .ok (.iaload, 1) := by decide +kernel
theorem dX4_counted_111 : decode cX4_counted 111 = .ok (.ireturn, 1) := by decide +kernel
theorem dX4_counted_112 : decode cX4_counted 112 = .ok (.aload_n 0, 1) := by decide +kernel
theorem dX4_counted_113 : decode cX4_counted 113 = .ok (.invokevirtual 96, 3) := by decide +kernel
theorem dX4_counted_116 : decode cX4_counted 116 = .ok (.ireturn, 1) := by decide +kernel
set_option maxRecDepth 20000 in
theorem ggX4_count_X4_isIn : GoodIn wsX4_count wsX4_isIn := goodIn_r _ [5] (by decide +kernel) (by decide +kernel)
set_option maxRecDepth 20000 in
theorem gX4_count_X4_isIn : GoodIn wsX4_count (va_wsS RX4 35 yX4_isIn wsX4_isIn) := goodIn_app (goodIn_of _ (by decide +kernel)) ggX4_count_X4_isIn
set_option maxRecDepth 20000 in
theorem ggX4_count_X4_counted : GoodIn wsX4_count wsX4_counted := goodIn_r _ [9, 10, 11, 12, 13, 14, 4, 15, 16, 17, 18, 19, 20, 25, 26, 27, 28, 29, 30, 31, 32] (by decide +kernel) (by decide +kernel)
set_option maxRecDepth 20000 in
theorem gX4_count_X4_counted : GoodIn wsX4_count (wsV RX4 100 RX4 yX4_counted wsX4_counted) := goodIn_app (goodIn_of _ (by decide +kernel)) ggX4_count_X4_counted
set_option maxRecDepth 20000 in
theorem ggX4_count_X4_fail : GoodIn wsX4_count wsX4_fail := goodIn_r _ [24, 1, 25, 26, 27, 28, 29, 30, 31, 32] (by decide +kernel) (by decide +kernel)
set_option maxRecDepth 20000 in
theorem gX4_count_X4_fail : GoodIn wsX4_count (wsV RX4 39 RX4 yX4_fail wsX4_fail) := goodIn_app (goodIn_of _ (by decide +kernel)) ggX4_count_X4_fail
theorem dX4_count_0 : decode cX4_count 0 = .ok (.aload_n 0, 1) := by decide +kernel
theorem dX4_count_1 : decode cX4_count 1 = .ok (.iconst 0, 1) := by decide +kernel
theorem dX4_count_2 : decode cX4_count 2 = .ok (.putfield 28, 3) := by decide +kernel
theorem dX4_count_5 : decode cX4_count 5 = .ok (.iload_n 1, 1) := by decide +kernel
theorem dX4_count_6 : decode cX4_count 6 = .ok (.iconst 0, 1) := by decide +kernel
theorem dX4_count_7 : decode cX4_count 7 = .ok (.bipush 8, 2) := by decide +kernel
theorem dX4_count_9 : decode cX4_count 9 = .ok (.invokestatic 35, 3) := by decide +kernel
theorem dX4_count_12 : decode cX4_count 12 = .ok (.ifCond .eq 11, 3) := by decide +kernel
theorem dX4_count_15 : decode cX4_count 15 = .ok (.aload_n 0, 1) := by decide +kernel
theorem dX4_count_16 : decode cX4_count 16 = .ok (.iload_n 1, 1) := by decide +kernel
theorem dX4_count_17 : decode cX4_count 17 = .ok (.invokevirtual 100, 3) := by decide +kernel
theorem dX4_count_20 : decode cX4_count 20 = .ok (.goto 8, 3) := by decide +kernel
theorem dX4_count_23 : decode cX4_count 23 = .ok (.aload_n 0, 1) := by decide +kernel
theorem dX4_count_24 : decode cX4_count 24 = .ok (.iconst 1, 1) := by decide +kernel
theorem dX4_count_25 : decode cX4_count 25 = .ok (.invokevirtual 39, 3) := by decide +kernel
theorem dX4_count_28 : decode cX4_count 28 = .ok (.ireturn, 1) := by decide +kernel
set_option maxRecDepth 20000 in
theorem ggX4_reach_X4_isDoor : GoodIn wsX4_reach wsX4_isDoor := goodIn_r _ [7, 2, 8, 9, 6, 10, 25, 26, 27, 28, 29, 30, 31, 32] (by decide +kernel) (by decide +kernel)
set_option maxRecDepth 20000 in
theorem gX4_reach_X4_isDoor : GoodIn wsX4_reach (wsV RX4 57 RX4 yX4_isDoor wsX4_isDoor) := goodIn_app (goodIn_of _ (by decide +kernel)) ggX4_reach_X4_isDoor
set_option maxRecDepth 20000 in
theorem ggX4_reach_X4_fail : GoodIn wsX4_reach wsX4_fail := goodIn_r _ [14, 1, 25, 26, 27, 28, 29, 30, 31, 32] (by decide +kernel) (by decide +kernel)
set_option maxRecDepth 20000 in
theorem gX4_reach_X4_fail : GoodIn wsX4_reach (wsV RX4 39 RX4 yX4_fail wsX4_fail) := goodIn_app (goodIn_of _ (by decide +kernel)) ggX4_reach_X4_fail
set_option maxRecDepth 20000 in
theorem ggX4_reach_X4_va : GoodIn wsX4_reach wsX4_va := goodIn_r _ [18, 19, 25, 26, 27, 28, 29, 30, 31, 32] (by decide +kernel) (by decide +kernel)
set_option maxRecDepth 20000 in
theorem gX4_reach_X4_va : GoodIn wsX4_reach (wsV RX4 49 RX4 yX4_va wsX4_va) := goodIn_app (goodIn_of _ (by decide +kernel)) ggX4_reach_X4_va
set_option maxRecDepth 20000 in
theorem ggX4_reach_X4_li : GoodIn wsX4_reach wsX4_li := goodIn_r _ [23, 24, 25, 26, 27, 28, 29, 30, 31, 32] (by decide +kernel) (by decide +kernel)
set_option maxRecDepth 20000 in
theorem gX4_reach_X4_li : GoodIn wsX4_reach (wsV RX4 53 RX4 yX4_li wsX4_li) := goodIn_app (goodIn_of _ (by decide +kernel)) ggX4_reach_X4_li
theorem dX4_reach_0 : decode cX4_reach 0 = .ok (.aload_n 0, 1) := by decide +kernel
theorem dX4_reach_1 : decode cX4_reach 1 = .ok (.iconst 0, 1) := by decide +kernel
theorem dX4_reach_2 : decode cX4_reach 2 = .ok (.putfield 28, 3) := by decide +kernel
theorem dX4_reach_5 : decode cX4_reach 5 = .ok (.aload_n 0, 1) := by decide +kernel
theorem dX4_reach_6 : decode cX4_reach 6 = .ok (.iload_n 1, 1) := by decide +kernel
theorem dX4_reach_7 : decode cX4_reach 7 = .ok (.invokevirtual 57, 3) := by decide +kernel
theorem dX4_reach_10 : decode cX4_reach 10 = .ok (.ifCond .ne 9, 3) := by decide +kernel
theorem dX4_reach_13 : decode cX4_reach 13 = .ok (.aload_n 0, 1) := by decide +kernel
theorem dX4_reach_14 : decode cX4_reach 14 = .ok (.iconst 1, 1) := by decide +kernel
theorem dX4_reach_15 : decode cX4_reach 15 = .ok (.invokevirtual 39, 3) := by decide +kernel
theorem dX4_reach_18 : decode cX4_reach 18 = .ok (.ireturn, 1) := by decide +kernel
theorem dX4_reach_19 : decode cX4_reach 19 = .ok (.iconst 0, 1) := by decide +kernel
theorem dX4_reach_20 : decode cX4_reach 20 = .ok (.istore_n 2, 1) := by decide +kernel
theorem dX4_reach_21 : decode cX4_reach 21 = .ok (.iconst 0, 1) := by decide +kernel
theorem dX4_reach_22 : decode cX4_reach 22 = .ok (.istore_n 3, 1) := by decide +kernel
theorem dX4_reach_23 : decode cX4_reach 23 = .ok (.iload_n 3, 1) := by decide +kernel
theorem dX4_reach_24 : decode cX4_reach 24 = .ok (.aload_n 0, 1) := by decide +kernel
theorem dX4_reach_25 : decode cX4_reach 25 = .ok (.iload_n 1, 1) := by decide +kernel
theorem dX4_reach_26 : decode cX4_reach 26 = .ok (.iconst 5, 1) := by decide +kernel
theorem dX4_reach_27 : decode cX4_reach 27 = .ok (.invokevirtual 49, 3) := by decide +kernel
theorem dX4_reach_30 : decode cX4_reach 30 = .ok (.if_icmp .ge 21, 3) := by decide +kernel
theorem dX4_reach_33 : decode cX4_reach 33 = .ok (.iload_n 2, 1) := by decide +kernel
theorem dX4_reach_34 : decode cX4_reach 34 = .ok (.iconst 1, 1) := by decide +kernel
theorem dX4_reach_35 : decode cX4_reach 35 = .ok (.aload_n 0, 1) := by decide +kernel
theorem dX4_reach_36 : decode cX4_reach 36 = .ok (.iload_n 1, 1) := by decide +kernel
theorem dX4_reach_37 : decode cX4_reach 37 = .ok (.iload_n 3, 1) := by decide +kernel
theorem dX4_reach_38 : decode cX4_reach 38 = .ok (.iconst 0, 1) := by decide +kernel
theorem dX4_reach_39 : decode cX4_reach 39 = .ok (.invokevirtual 53, 3) := by decide +kernel
theorem dX4_reach_42 : decode cX4_reach 42 = .ok (.ishl, 1) := by decide +kernel
theorem dX4_reach_43 : decode cX4_reach 43 = .ok (.ior, 1) := by decide +kernel
theorem dX4_reach_44 : decode cX4_reach 44 = .ok (.istore_n 2, 1) := by decide +kernel
theorem dX4_reach_45 : decode cX4_reach 45 = .ok (.iinc 3 1, 3) := by decide +kernel
theorem dX4_reach_48 : decode cX4_reach 48 = .ok (.goto (-25), 3) := by decide +kernel
theorem dX4_reach_51 : decode cX4_reach 51 = .ok (.iconst 0, 1) := by decide +kernel
theorem dX4_reach_52 : decode cX4_reach 52 = .ok (.istore_n 3, 1) := by decide +kernel
theorem dX4_reach_53 : decode cX4_reach 53 = .ok (.iload_n 3, 1) := by decide +kernel
theorem dX4_reach_54 : decode cX4_reach 54 = .ok (.aload_n 0, 1) := by decide +kernel
theorem dX4_reach_55 : decode cX4_reach 55 = .ok (.getfield 32, 3) := by decide +kernel
theorem dX4_reach_58 : decode cX4_reach 58 = .ok (.if_icmp .ge 72, 3) := by decide +kernel
theorem dX4_reach_61 : decode cX4_reach 61 = .ok (.iconst 0, 1) := by decide +kernel
theorem dX4_reach_62 : decode cX4_reach 62 = .ok (.istore 4, 2) := by decide +kernel
theorem dX4_reach_64 : decode cX4_reach 64 = .ok (.iload 4, 2) := by decide +kernel
theorem dX4_reach_66 : decode cX4_reach 66 = .ok (.aload_n 0, 1) := by decide +kernel
theorem dX4_reach_67 : decode cX4_reach 67 = .ok (.getfield 32, 3) := by decide +kernel
theorem dX4_reach_70 : decode cX4_reach 70 = .ok (.if_icmp .ge 54, 3) := by decide +kernel
theorem dX4_reach_73 : decode cX4_reach 73 = .ok (.iconst 0, 1) := by decide +kernel
theorem dX4_reach_74 : decode cX4_reach 74 = .ok (.istore 5, 2) := by decide +kernel
theorem dX4_reach_76 : decode cX4_reach 76 = .ok (.iload 5, 2) := by decide +kernel
theorem dX4_reach_78 : decode cX4_reach 78 = .ok (.aload_n 0, 1) := by decide +kernel
theorem dX4_reach_79 : decode cX4_reach 79 = .ok (.iload 4, 2) := by decide +kernel
theorem dX4_reach_81 : decode cX4_reach 81 = .ok (.iconst 5, 1) := by decide +kernel
theorem dX4_reach_82 : decode cX4_reach 82 = .ok (.invokevirtual 49, 3) := by decide +kernel
theorem dX4_reach_85 : decode cX4_reach 85 = .ok (.if_icmp .ge 33, 3) := by decide +kernel
theorem dX4_reach_88 : decode cX4_reach 88 = .ok (.iload_n 2, 1) := by decide +kernel
theorem dX4_reach_89 : decode cX4_reach 89 = .ok (.iload 4, 2) := by decide +kernel
theorem dX4_reach_91 : decode cX4_reach 91 = .ok (.ishr, 1) := by decide +kernel
theorem dX4_reach_92 : decode cX4_reach 92 = .ok (.iconst 1, 1) := by decide +kernel
theorem dX4_reach_93 : decode cX4_reach 93 = .ok (.iand, 1) := by decide +kernel
theorem dX4_reach_94 : decode cX4_reach 94 = .ok (.iconst 1, 1) := by decide +kernel
theorem dX4_reach_95 : decode cX4_reach 95 = .ok (.if_icmp .ne 23, 3) := by decide +kernel
theorem dX4_reach_98 : decode cX4_reach 98 = .ok (.iload_n 2, 1) := by decide +kernel
theorem dX4_reach_99 : decode cX4_reach 99 = .ok (.iconst 1, 1) := by decide +kernel
theorem dX4_reach_100 : decode cX4_reach 100 = .ok (.aload_n 0, 1) := by decide +kernel
theorem dX4_reach_101 : decode cX4_reach 101 = .ok (.iload 4, 2) := by decide +kernel
theorem dX4_reach_103 : decode cX4_reach 103 = .ok (.iload 5, 2) := by decide +kernel
theorem dX4_reach_105 : decode cX4_reach 105 = .ok (.iconst 0, 1) := by decide +kernel
theorem dX4_reach_106 : decode cX4_reach 106 = .ok (.invokevirtual 53, 3) := by decide +kernel
theorem dX4_reach_109 : decode cX4_reach 109 = .ok (.ishl, 1) := by decide +kernel
theorem dX4_reach_110 : decode cX4_reach 110 = .ok (.ior, 1) := by decide +kernel
theorem dX4_reach_111 : decode cX4_reach 111 = .ok (.istore_n 2, 1) := by decide +kernel
theorem dX4_reach_112 : decode cX4_reach 112 = .ok (.iinc 5 1, 3) := by decide +kernel
theorem dX4_reach_115 : decode cX4_reach 115 = .ok (.goto (-39), 3) := by decide +kernel
theorem dX4_reach_118 : decode cX4_reach 118 = .ok (.iinc 4 1, 3) := by decide +kernel
theorem dX4_reach_121 : decode cX4_reach 121 = .ok (.goto (-57), 3) := by decide +kernel
theorem dX4_reach_124 : decode cX4_reach 124 = .ok (.iinc 3 1, 3) := by decide +kernel
theorem dX4_reach_127 : decode cX4_reach 127 = .ok (.goto (-74), 3) := by decide +kernel
theorem dX4_reach_130 : decode cX4_reach 130 = .ok (.iload_n 2, 1) := by decide +kernel
theorem dX4_reach_131 : decode cX4_reach 131 = .ok (.ireturn, 1) := by decide +kernel
set_option maxRecDepth 20000 in
theorem ggX4_hear_X4_va : GoodIn wsX4_hear wsX4_va := goodIn_r _ [7, 8, 40, 41, 42, 43, 44, 45, 46, 47] (by decide +kernel) (by decide +kernel)
set_option maxRecDepth 20000 in
theorem gX4_hear_X4_va : GoodIn wsX4_hear (wsV RX4 49 RX4 yX4_va wsX4_va) := goodIn_app (goodIn_of _ (by decide +kernel)) ggX4_hear_X4_va
set_option maxRecDepth 20000 in
theorem ggX4_hear_X4_place : GoodIn wsX4_hear wsX4_place := goodIn_r _ [12, 3, 4, 5, 6, 7, 8, 13, 14, 15, 16, 17, 40, 41, 42, 43, 44, 45, 46, 47] (by decide +kernel) (by decide +kernel)
set_option maxRecDepth 20000 in
theorem gX4_hear_X4_place : GoodIn wsX4_hear (wsV RX4 61 RX4 yX4_place wsX4_place) := goodIn_app (goodIn_of _ (by decide +kernel)) ggX4_hear_X4_place
set_option maxRecDepth 20000 in
theorem ggX4_hear_X4_li : GoodIn wsX4_hear wsX4_li := goodIn_r _ [16, 17, 40, 41, 42, 43, 44, 45, 46, 47] (by decide +kernel) (by decide +kernel)
set_option maxRecDepth 20000 in
theorem gX4_hear_X4_li : GoodIn wsX4_hear (wsV RX4 53 RX4 yX4_li wsX4_li) := goodIn_app (goodIn_of _ (by decide +kernel)) ggX4_hear_X4_li
set_option maxRecDepth 20000 in
theorem ggX4_hear_X4_setLink : GoodIn wsX4_hear wsX4_setLink := goodIn_r _ [21, 17, 40, 41, 42, 43, 44, 45, 46, 47] (by decide +kernel) (by decide +kernel)
set_option maxRecDepth 20000 in
theorem gX4_hear_X4_setLink : GoodIn wsX4_hear (wsV RX4 64 RX4 yX4_setLink wsX4_setLink) := goodIn_app (goodIn_of _ (by decide +kernel)) ggX4_hear_X4_setLink
set_option maxRecDepth 20000 in
theorem ggX4_hear_X4_send : GoodIn wsX4_hear wsX4_send := goodIn_r _ [25, 26, 27, 40, 41, 42, 43, 44, 45, 46, 47] (by decide +kernel) (by decide +kernel)
set_option maxRecDepth 20000 in
theorem gX4_hear_X4_send : GoodIn wsX4_hear (wsV RX4 75 RX4 yX4_send wsX4_send) := goodIn_app (goodIn_of _ (by decide +kernel)) ggX4_hear_X4_send
set_option maxRecDepth 20000 in
theorem ggX4_hear_X4_wake : GoodIn wsX4_hear wsX4_wake := goodIn_r _ [31, 3, 4, 5, 6, 7, 8, 32, 33, 34, 35, 36, 37, 38, 39, 18, 19, 20, 21, 17, 13, 14, 15, 16, 22, 23, 24, 25, 26, 27, 40, 41, 42, 43, 44, 45, 46, 47] (by decide +kernel) (by decide +kernel)
set_option maxRecDepth 20000 in
theorem gX4_hear_X4_wake : GoodIn wsX4_hear (wsV RX4 78 RX4 yX4_wake wsX4_wake) := goodIn_app (goodIn_of _ (by decide +kernel)) ggX4_hear_X4_wake
set_option maxRecDepth 20000 in
theorem ggX4_hear_X4_put : GoodIn wsX4_hear wsX4_put := goodIn_r _ [39, 8, 40, 41, 42, 43, 44, 45, 46, 47] (by decide +kernel) (by decide +kernel)
set_option maxRecDepth 20000 in
theorem gX4_hear_X4_put : GoodIn wsX4_hear (wsV RX4 68 RX4 yX4_put wsX4_put) := goodIn_app (goodIn_of _ (by decide +kernel)) ggX4_hear_X4_put
set_option maxRecDepth 20000 in
theorem ggX4_says_X4_answers : GoodIn wsX4_says wsX4_answers := goodIn_r _ [5, 6, 7, 8, 4, 9, 10, 11, 12, 13, 14, 15, 16, 17, 18, 19, 20, 21, 22, 23] (by decide +kernel) (by decide +kernel)
set_option maxRecDepth 20000 in
theorem gX4_says_X4_answers : GoodIn wsX4_says (wsV RX4 86 RX4 yX4_answers wsX4_answers) := goodIn_app (goodIn_of _ (by decide +kernel)) ggX4_says_X4_answers
set_option maxRecDepth 20000 in
theorem ggX4_says_X4_va : GoodIn wsX4_says wsX4_va := goodIn_r _ [9, 10, 16, 17, 18, 19, 20, 21, 22, 23] (by decide +kernel) (by decide +kernel)
set_option maxRecDepth 20000 in
theorem gX4_says_X4_va : GoodIn wsX4_says (wsV RX4 49 RX4 yX4_va wsX4_va) := goodIn_app (goodIn_of _ (by decide +kernel)) ggX4_says_X4_va
set_option maxRecDepth 20000 in
theorem ggX4_decide_X4_says : GoodIn wsX4_decide wsX4_says := goodIn_r _ [6, 7, 8, 9, 5, 10, 11, 12, 13, 14, 15, 16, 17, 18, 19, 20, 39, 40, 41, 42, 43, 44, 45, 46] (by decide +kernel) (by decide +kernel)
set_option maxRecDepth 20000 in
theorem gX4_decide_X4_says : GoodIn wsX4_decide (wsV RX4 103 RX4 yX4_says wsX4_says) := goodIn_app (goodIn_of _ (by decide +kernel)) ggX4_decide_X4_says
set_option maxRecDepth 20000 in
theorem ggX4_decide_X4_turn : GoodIn wsX4_decide wsX4_turn := goodIn_r _ [24, 25, 26, 27, 5, 28, 29, 30, 31, 32, 15, 11, 12, 13, 14, 39, 40, 41, 42, 43, 44, 45, 46] (by decide +kernel) (by decide +kernel)
set_option maxRecDepth 20000 in
theorem gX4_decide_X4_turn : GoodIn wsX4_decide (wsV RX4 82 RX4 yX4_turn wsX4_turn) := goodIn_app (goodIn_of _ (by decide +kernel)) ggX4_decide_X4_turn
set_option maxRecDepth 20000 in
theorem ggX4_decide_X4_va : GoodIn wsX4_decide wsX4_va := goodIn_r _ [14, 15, 39, 40, 41, 42, 43, 44, 45, 46] (by decide +kernel) (by decide +kernel)
set_option maxRecDepth 20000 in
theorem gX4_decide_X4_va : GoodIn wsX4_decide (wsV RX4 49 RX4 yX4_va wsX4_va) := goodIn_app (goodIn_of _ (by decide +kernel)) ggX4_decide_X4_va
set_option maxRecDepth 20000 in
theorem ggX4_decide_X4_send : GoodIn wsX4_decide wsX4_send := goodIn_r _ [36, 37, 38, 39, 40, 41, 42, 43, 44, 45, 46] (by decide +kernel) (by decide +kernel)
set_option maxRecDepth 20000 in
theorem gX4_decide_X4_send : GoodIn wsX4_decide (wsV RX4 75 RX4 yX4_send wsX4_send) := goodIn_app (goodIn_of _ (by decide +kernel)) ggX4_decide_X4_send
set_option maxRecDepth 20000 in
theorem ggX4_decide_X4_put : GoodIn wsX4_decide wsX4_put := goodIn_r _ [32, 15, 39, 40, 41, 42, 43, 44, 45, 46] (by decide +kernel) (by decide +kernel)
set_option maxRecDepth 20000 in
theorem gX4_decide_X4_put : GoodIn wsX4_decide (wsV RX4 68 RX4 yX4_put wsX4_put) := goodIn_app (goodIn_of _ (by decide +kernel)) ggX4_decide_X4_put
set_option maxRecDepth 20000 in
theorem ggX4_listen_X4_hear : GoodIn wsX4_listen wsX4_hear := goodIn_r _ [12, 3, 13, 14, 15, 16, 11, 17, 18, 19, 20, 21, 22, 23, 24, 25, 26, 27, 28, 29, 30, 31, 32, 33, 34, 35, 1, 2, 36, 37, 38, 39, 40, 41, 42, 43, 44, 45, 46, 47, 48, 49, 50, 51, 52, 53, 54, 55] (by decide +kernel) (by decide +kernel)
set_option maxRecDepth 20000 in
theorem gX4_listen_X4_hear : GoodIn wsX4_listen (wsV RX4 106 RX4 yX4_hear wsX4_hear) := goodIn_app (goodIn_of _ (by decide +kernel)) ggX4_listen_X4_hear
theorem dX4_listen_0 : decode cX4_listen 0 = .ok (.iconst 0, 1) := by decide +kernel
theorem dX4_listen_1 : decode cX4_listen 1 = .ok (.istore_n 1, 1) := by decide +kernel
theorem dX4_listen_2 : decode cX4_listen 2 = .ok (.iconst 0, 1) := by decide +kernel
theorem dX4_listen_3 : decode cX4_listen 3 = .ok (.istore_n 2, 1) := by decide +kernel
theorem dX4_listen_4 : decode cX4_listen 4 = .ok (.iconst 0, 1) := by decide +kernel
theorem dX4_listen_5 : decode cX4_listen 5 = .ok (.istore_n 3, 1) := by decide +kernel
theorem dX4_listen_6 : decode cX4_listen 6 = .ok (.iload_n 3, 1) := by decide +kernel
theorem dX4_listen_7 : decode cX4_listen 7 = .ok (.aload_n 0, 1) := by decide +kernel
theorem dX4_listen_8 : decode cX4_listen 8 = .ok (.getfield 22, 3) := by decide +kernel
theorem dX4_listen_11 : decode cX4_listen 11 = .ok (.iconst 1, 1) := by decide +kernel
theorem dX4_listen_12 : decode cX4_listen 12 = .ok (.iaload, 1) := by decide +kernel
theorem dX4_listen_13 : decode cX4_listen 13 = .ok (.if_icmp .ge 81, 3) := by decide +kernel
theorem dX4_listen_16 : decode cX4_listen 16 = .ok (.aload_n 0, 1) := by decide +kernel
theorem dX4_listen_17 : decode cX4_listen 17 = .ok (.getfield 19, 3) := by decide +kernel
theorem dX4_listen_20 : decode cX4_listen 20 = .ok (.iconst 5, 1) := by decide +kernel
theorem dX4_listen_21 : decode cX4_listen 21 = .ok (.iload_n 3, 1) := by decide +kernel
theorem dX4_listen_22 : decode cX4_listen 22 = .ok (.imul, 1) := by decide +kernel
theorem dX4_listen_23 : decode cX4_listen 23 = .ok (.iconst 3, 1) := by decide +kernel
theorem dX4_listen_24 : decode cX4_listen 24 = .ok (.iadd, 1) := by decide +kernel
theorem dX4_listen_25 : decode cX4_listen 25 = .ok (.dup2, 1) := by decide +kernel
theorem dX4_listen_26 : decode cX4_listen 26 = .ok (.iaload, 1) := by decide +kernel
theorem dX4_listen_27 : decode cX4_listen 27 = .ok (.iconst 1, 1) := by decide +kernel
theorem dX4_listen_28 : decode cX4_listen 28 = .ok (.isub, 1) := by decide +kernel
theorem dX4_listen_29 : decode cX4_listen 29 = .ok (.iastore, 1) := by decide +kernel
theorem dX4_listen_30 : decode cX4_listen 30 = .ok (.aload_n 0, 1) := by decide +kernel
theorem dX4_listen_31 : decode cX4_listen 31 = .ok (.getfield 19, 3) := by decide +kernel
theorem dX4_listen_34 : decode cX4_listen 34 = .ok (.iconst 5, 1) := by decide +kernel
theorem dX4_listen_35 : decode cX4_listen 35 = .ok (.iload_n 3, 1) := by decide +kernel
theorem dX4_listen_36 : decode cX4_listen 36 = .ok (.imul, 1) := by decide +kernel
theorem dX4_listen_37 : decode cX4_listen 37 = .ok (.iconst 3, 1) := by decide +kernel
theorem dX4_listen_38 : decode cX4_listen 38 = .ok (.iadd, 1) := by decide +kernel
theorem dX4_listen_39 : decode cX4_listen 39 = .ok (.iaload, 1) := by decide +kernel
theorem dX4_listen_40 : decode cX4_listen 40 = .ok (.ifCond .ne 27, 3) := by decide +kernel
theorem dX4_listen_43 : decode cX4_listen 43 = .ok (.aload_n 0, 1) := by decide +kernel
theorem dX4_listen_44 : decode cX4_listen 44 = .ok (.getfield 19, 3) := by decide +kernel
theorem dX4_listen_47 : decode cX4_listen 47 = .ok (.iconst 5, 1) := by decide +kernel
theorem dX4_listen_48 : decode cX4_listen 48 = .ok (.iload_n 3, 1) := by decide +kernel
theorem dX4_listen_49 : decode cX4_listen 49 = .ok (.imul, 1) := by decide +kernel
theorem dX4_listen_50 : decode cX4_listen 50 = .ok (.aload_n 0, 1) := by decide +kernel
theorem dX4_listen_51 : decode cX4_listen 51 = .ok (.getfield 25, 3) := by decide +kernel
theorem dX4_listen_54 : decode cX4_listen 54 = .ok (.iconst 5, 1) := by decide +kernel
theorem dX4_listen_55 : decode cX4_listen 55 = .ok (.iload_n 1, 1) := by decide +kernel
theorem dX4_listen_56 : decode cX4_listen 56 = .ok (.imul, 1) := by decide +kernel
theorem dX4_listen_57 : decode cX4_listen 57 = .ok (.iconst 5, 1) := by decide +kernel
theorem dX4_listen_58 : decode cX4_listen 58 = .ok (.invokestatic 43, 3) := by decide +kernel
theorem dX4_listen_61 : decode cX4_listen 61 = .ok (.iinc 1 1, 3) := by decide +kernel
theorem dX4_listen_64 : decode cX4_listen 64 = .ok (.goto 24, 3) := by decide +kernel
theorem dX4_listen_67 : decode cX4_listen 67 = .ok (.aload_n 0, 1) := by decide +kernel
theorem dX4_listen_68 : decode cX4_listen 68 = .ok (.getfield 19, 3) := by decide +kernel
theorem dX4_listen_71 : decode cX4_listen 71 = .ok (.iconst 5, 1) := by decide +kernel
theorem dX4_listen_72 : decode cX4_listen 72 = .ok (.iload_n 3, 1) := by decide +kernel
theorem dX4_listen_73 : decode cX4_listen 73 = .ok (.imul, 1) := by decide +kernel
theorem dX4_listen_74 : decode cX4_listen 74 = .ok (.aload_n 0, 1) := by decide +kernel
theorem dX4_listen_75 : decode cX4_listen 75 = .ok (.getfield 19, 3) := by decide +kernel
theorem dX4_listen_78 : decode cX4_listen 78 = .ok (.iconst 5, 1) := by decide +kernel
theorem dX4_listen_79 : decode cX4_listen 79 = .ok (.iload_n 2, 1) := by decide +kernel
theorem dX4_listen_80 : decode cX4_listen 80 = .ok (.imul, 1) := by decide +kernel
theorem dX4_listen_81 : decode cX4_listen 81 = .ok (.iconst 5, 1) := by decide +kernel
theorem dX4_listen_82 : decode cX4_listen 82 = .ok (.invokestatic 43, 3) := by decide +kernel
theorem dX4_listen_85 : decode cX4_listen 85 = .ok (.iinc 2 1, 3) := by decide +kernel
theorem dX4_listen_88 : decode cX4_listen 88 = .ok (.iinc 3 1, 3) := by decide +kernel
theorem dX4_listen_91 : decode cX4_listen 91 = .ok (.goto (-85), 3) := by decide +kernel
theorem dX4_listen_94 : decode cX4_listen 94 = .ok (.aload_n 0, 1) := by decide +kernel
theorem dX4_listen_95 : decode cX4_listen 95 = .ok (.getfield 22, 3) := by decide +kernel
theorem dX4_listen_98 : decode cX4_listen 98 = .ok (.iconst 1, 1) := by decide +kernel
theorem dX4_listen_99 : decode cX4_listen 99 = .ok (.iload_n 2, 1) := by decide +kernel
theorem dX4_listen_100 : decode cX4_listen 100 = .ok (.iastore, 1) := by decide +kernel
theorem dX4_listen_101 : decode cX4_listen 101 = .ok (.iconst 0, 1) := by decide +kernel
theorem dX4_listen_102 : decode cX4_listen 102 = .ok (.istore_n 3, 1) := by decide +kernel
theorem dX4_listen_103 : decode cX4_listen 103 = .ok (.iload_n 3, 1) := by decide +kernel
theorem dX4_listen_104 : decode cX4_listen 104 = .ok (.iload_n 1, 1) := by decide +kernel
theorem dX4_listen_105 : decode cX4_listen 105 = .ok (.if_icmp .ge 14, 3) := by decide +kernel
theorem dX4_listen_108 : decode cX4_listen 108 = .ok (.aload_n 0, 1) := by decide +kernel
theorem dX4_listen_109 : decode cX4_listen 109 = .ok (.iload_n 3, 1) := by decide +kernel
theorem dX4_listen_110 : decode cX4_listen 110 = .ok (.invokevirtual 106, 3) := by decide +kernel
theorem dX4_listen_113 : decode cX4_listen 113 = .ok (.iinc 3 1, 3) := by decide +kernel
theorem dX4_listen_116 : decode cX4_listen 116 = .ok (.goto (-13), 3) := by decide +kernel
theorem dX4_listen_119 : decode cX4_listen 119 = .ok (.return_, 1) := by decide +kernel
set_option maxRecDepth 20000 in
theorem ggX4_tickOn_X4_va : GoodIn wsX4_tickOn wsX4_va := goodIn_r _ [7, 8, 69, 70, 71, 72, 73, 74, 75, 76] (by decide +kernel) (by decide +kernel)
set_option maxRecDepth 20000 in
theorem gX4_tickOn_X4_va : GoodIn wsX4_tickOn (wsV RX4 49 RX4 yX4_va wsX4_va) := goodIn_app (goodIn_of _ (by decide +kernel)) ggX4_tickOn_X4_va
set_option maxRecDepth 20000 in
theorem ggX4_tickOn_X4_put : GoodIn wsX4_tickOn wsX4_put := goodIn_r _ [12, 8, 69, 70, 71, 72, 73, 74, 75, 76] (by decide +kernel) (by decide +kernel)
set_option maxRecDepth 20000 in
theorem gX4_tickOn_X4_put : GoodIn wsX4_tickOn (wsV RX4 68 RX4 yX4_put wsX4_put) := goodIn_app (goodIn_of _ (by decide +kernel)) ggX4_tickOn_X4_put
set_option maxRecDepth 20000 in
theorem ggX4_tickOn_X4_listen : GoodIn wsX4_tickOn wsX4_listen := goodIn_r _ [16, 2, 17, 18, 19, 20, 21, 22, 23, 24, 25, 6, 26, 27, 3, 4, 5, 7, 8, 28, 29, 30, 31, 32, 33, 34, 35, 36, 37, 38, 39, 40, 41, 42, 43, 44, 45, 46, 47, 48, 49, 50, 51, 52, 9, 10, 11, 12, 69, 70, 71, 72, 73, 74, 75, 76] (by decide +kernel) (by decide +kernel)
set_option maxRecDepth 20000 in
theorem gX4_tickOn_X4_listen : GoodIn wsX4_tickOn (wsV RX4 109 RX4 yX4_listen wsX4_listen) := goodIn_app (goodIn_of _ (by decide +kernel)) ggX4_tickOn_X4_listen
set_option maxRecDepth 20000 in
theorem ggX4_tickOn_X4_answers : GoodIn wsX4_tickOn wsX4_answers := goodIn_r _ [56, 3, 4, 5, 6, 7, 8, 32, 33, 34, 35, 36, 69, 70, 71, 72, 73, 74, 75, 76] (by decide +kernel) (by decide +kernel)
set_option maxRecDepth 20000 in
theorem gX4_tickOn_X4_answers : GoodIn wsX4_tickOn (wsV RX4 86 RX4 yX4_answers wsX4_answers) := goodIn_app (goodIn_of _ (by decide +kernel)) ggX4_tickOn_X4_answers
set_option maxRecDepth 20000 in
theorem ggX4_tickOn_X4_decide : GoodIn wsX4_tickOn wsX4_decide := goodIn_r _ [60, 27, 61, 62, 63, 6, 64, 53, 54, 55, 56, 3, 4, 5, 7, 8, 32, 33, 34, 35, 36, 65, 66, 67, 68, 49, 50, 51, 52, 9, 10, 11, 12, 41, 42, 43, 44, 2, 17, 69, 70, 71, 72, 73, 74, 75, 76] (by decide +kernel) (by decide +kernel)
set_option maxRecDepth 20000 in
theorem gX4_tickOn_X4_decide : GoodIn wsX4_tickOn (wsV RX4 112 RX4 yX4_decide wsX4_decide) := goodIn_app (goodIn_of _ (by decide +kernel)) ggX4_tickOn_X4_decide
theorem dX4_tickOn_0 : decode cX4_tickOn 0 = .ok (.iconst 0, 1) := by decide +kernel
theorem dX4_tickOn_1 : decode cX4_tickOn 1 = .ok (.istore_n 1, 1) := by decide +kernel
theorem dX4_tickOn_2 : decode cX4_tickOn 2 = .ok (.iconst 0, 1) := by decide +kernel
theorem dX4_tickOn_3 : decode cX4_tickOn 3 = .ok (.istore_n 2, 1) := by decide +kernel
theorem dX4_tickOn_4 : decode cX4_tickOn 4 = .ok (.iload_n 2, 1) := by decide +kernel
theorem dX4_tickOn_5 : decode cX4_tickOn 5 = .ok (.aload_n 0, 1) := by decide +kernel
theorem dX4_tickOn_6 : decode cX4_tickOn 6 = .ok (.getfield 32, 3) := by decide +kernel
theorem dX4_tickOn_9 : decode cX4_tickOn 9 = .ok (.if_icmp .ge 62, 3) := by decide +kernel
theorem dX4_tickOn_12 : decode cX4_tickOn 12 = .ok (.aload_n 0, 1) := by decide +kernel
theorem dX4_tickOn_13 : decode cX4_tickOn 13 = .ok (.iload_n 2, 1) := by decide +kernel
theorem dX4_tickOn_14 : decode cX4_tickOn 14 = .ok (.iconst 3, 1) := by decide +kernel
theorem dX4_tickOn_15 : decode cX4_tickOn 15 = .ok (.invokevirtual 49, 3) := by decide +kernel
theorem dX4_tickOn_18 : decode cX4_tickOn 18 = .ok (.iconst 2, 1) := by decide +kernel
theorem dX4_tickOn_19 : decode cX4_tickOn 19 = .ok (.if_icmp .eq 16, 3) := by decide +kernel
theorem dX4_tickOn_22 : decode cX4_tickOn 22 = .ok (.aload_n 0, 1) := by decide +kernel
theorem dX4_tickOn_23 : decode cX4_tickOn 23 = .ok (.iload_n 2, 1) := by decide +kernel
theorem dX4_tickOn_24 : decode cX4_tickOn 24 = .ok (.iconst 3, 1) := by decide +kernel
theorem dX4_tickOn_25 : decode cX4_tickOn 25 = .ok (.invokevirtual 49, 3) := by decide +kernel
theorem dX4_tickOn_28 : decode cX4_tickOn 28 = .ok (.iconst 3, 1) := by decide +kernel
theorem dX4_tickOn_29 : decode cX4_tickOn 29 = .ok (.if_icmp .eq 6, 3) := by decide +kernel
theorem dX4_tickOn_32 : decode cX4_tickOn 32 = .ok (.goto 33, 3) := by decide +kernel
theorem dX4_tickOn_35 : decode cX4_tickOn 35 = .ok (.aload_n 0, 1) := by decide +kernel
theorem dX4_tickOn_36 : decode cX4_tickOn 36 = .ok (.iload_n 2, 1) := by decide +kernel
theorem dX4_tickOn_37 : decode cX4_tickOn 37 = .ok (.iconst 4, 1) := by decide +kernel
theorem dX4_tickOn_38 : decode cX4_tickOn 38 = .ok (.aload_n 0, 1) := by decide +kernel
theorem dX4_tickOn_39 : decode cX4_tickOn 39 = .ok (.iload_n 2, 1) := by decide +kernel
theorem dX4_tickOn_40 : decode cX4_tickOn 40 = .ok (.iconst 4, 1) := by decide +kernel
theorem dX4_tickOn_41 : decode cX4_tickOn 41 = .ok (.invokevirtual 49, 3) := by decide +kernel
theorem dX4_tickOn_44 : decode cX4_tickOn 44 = .ok (.iconst 1, 1) := by decide +kernel
theorem dX4_tickOn_45 : decode cX4_tickOn 45 = .ok (.isub, 1) := by decide +kernel
theorem dX4_tickOn_46 : decode cX4_tickOn 46 = .ok (.invokevirtual 68, 3) := by decide +kernel
theorem dX4_tickOn_49 : decode cX4_tickOn 49 = .ok (.aload_n 0, 1) := by decide +kernel
theorem dX4_tickOn_50 : decode cX4_tickOn 50 = .ok (.iload_n 2, 1) := by decide +kernel
theorem dX4_tickOn_51 : decode cX4_tickOn 51 = .ok (.iconst 4, 1) := by decide +kernel
theorem dX4_tickOn_52 : decode cX4_tickOn 52 = .ok (.invokevirtual 49, 3) := by decide +kernel
theorem dX4_tickOn_55 : decode cX4_tickOn 55 = .ok (.ifCond .ne 10, 3) := by decide +kernel
theorem dX4_tickOn_58 : decode cX4_tickOn 58 = .ok (.aload_n 0, 1) := by decide +kernel
theorem dX4_tickOn_59 : decode cX4_tickOn 59 = .ok (.iload_n 2, 1) := by decide +kernel
theorem dX4_tickOn_60 : decode cX4_tickOn 60 = .ok (.iconst 3, 1) := by decide +kernel
theorem dX4_tickOn_61 : decode cX4_tickOn 61 = .ok (.iconst 0, 1) := by decide +kernel
theorem dX4_tickOn_62 : decode cX4_tickOn 62 = .ok (.invokevirtual 68, 3) := by decide +kernel
theorem dX4_tickOn_65 : decode cX4_tickOn 65 = .ok (.iinc 2 1, 3) := by decide +kernel
theorem dX4_tickOn_68 : decode cX4_tickOn 68 = .ok (.goto (-64), 3) := by decide +kernel
theorem dX4_tickOn_71 : decode cX4_tickOn 71 = .ok (.aload_n 0, 1) := by decide +kernel
theorem dX4_tickOn_72 : decode cX4_tickOn 72 = .ok (.invokevirtual 109, 3) := by decide +kernel
theorem dX4_tickOn_75 : decode cX4_tickOn 75 = .ok (.iconst 0, 1) := by decide +kernel
theorem dX4_tickOn_76 : decode cX4_tickOn 76 = .ok (.istore_n 2, 1) := by decide +kernel
theorem dX4_tickOn_77 : decode cX4_tickOn 77 = .ok (.iload_n 2, 1) := by decide +kernel
theorem dX4_tickOn_78 : decode cX4_tickOn 78 = .ok (.aload_n 0, 1) := by decide +kernel
theorem dX4_tickOn_79 : decode cX4_tickOn 79 = .ok (.getfield 32, 3) := by decide +kernel
theorem dX4_tickOn_82 : decode cX4_tickOn 82 = .ok (.if_icmp .ge 76, 3) := by decide +kernel
theorem dX4_tickOn_85 : decode cX4_tickOn 85 = .ok (.aload_n 0, 1) := by decide +kernel
theorem dX4_tickOn_86 : decode cX4_tickOn 86 = .ok (.iload_n 2, 1) := by decide +kernel
theorem dX4_tickOn_87 : decode cX4_tickOn 87 = .ok (.iconst 3, 1) := by decide +kernel
theorem dX4_tickOn_88 : decode cX4_tickOn 88 = .ok (.invokevirtual 49, 3) := by decide +kernel
theorem dX4_tickOn_91 : decode cX4_tickOn 91 = .ok (.iconst 1, 1) := by decide +kernel
theorem dX4_tickOn_92 : decode cX4_tickOn 92 = .ok (.if_icmp .eq 6, 3) := by decide +kernel
theorem dX4_tickOn_95 : decode cX4_tickOn 95 = .ok (.goto 57, 3) := by decide +kernel
theorem dX4_tickOn_98 : decode cX4_tickOn 98 = .ok (.aload_n 0, 1) := by decide +kernel
theorem dX4_tickOn_99 : decode cX4_tickOn 99 = .ok (.iload_n 2, 1) := by decide +kernel
theorem dX4_tickOn_100 : decode cX4_tickOn 100 = .ok (.iconst 4, 1) := by decide +kernel
theorem dX4_tickOn_101 : decode cX4_tickOn 101 = .ok (.aload_n 0, 1) := by decide +kernel
theorem dX4_tickOn_102 : decode cX4_tickOn 102 = .ok (.iload_n 2, 1) := by decide +kernel
theorem dX4_tickOn_103 : decode cX4_tickOn 103 = .ok (.iconst 4, 1) := by decide +kernel
theorem dX4_tickOn_104 : decode cX4_tickOn 104 = .ok (.invokevirtual 49, 3) := by decide +kernel
theorem dX4_tickOn_107 : decode cX4_tickOn 107 = .ok (.iconst 1, 1) := by decide +kernel
theorem dX4_tickOn_108 : decode cX4_tickOn 108 = .ok (.isub, 1) := by decide +kernel
theorem dX4_tickOn_109 : decode cX4_tickOn 109 = .ok (.invokevirtual 68, 3) := by decide +kernel
theorem dX4_tickOn_112 : decode cX4_tickOn 112 = .ok (.aload_n 0, 1) := by decide +kernel
theorem dX4_tickOn_113 : decode cX4_tickOn 113 = .ok (.iload_n 2, 1) := by decide +kernel
theorem dX4_tickOn_114 : decode cX4_tickOn 114 = .ok (.iconst 4, 1) := by decide +kernel
theorem dX4_tickOn_115 : decode cX4_tickOn 115 = .ok (.invokevirtual 49, 3) := by decide +kernel
theorem dX4_tickOn_118 : decode cX4_tickOn 118 = .ok (.ifCond .eq 18, 3) := by decide +kernel
theorem dX4_tickOn_121 : decode cX4_tickOn 121 = .ok (.aload_n 0, 1) := by decide +kernel
theorem dX4_tickOn_122 : decode cX4_tickOn 122 = .ok (.iload_n 2, 1) := by decide +kernel
theorem dX4_tickOn_123 : decode cX4_tickOn 123 = .ok (.iconst 0, 1) := by decide +kernel
theorem dX4_tickOn_124 : decode cX4_tickOn 124 = .ok (.invokevirtual 86, 3) := by decide +kernel
theorem dX4_tickOn_127 : decode cX4_tickOn 127 = .ok (.aload_n 0, 1) := by decide +kernel
theorem dX4_tickOn_128 : decode cX4_tickOn 128 = .ok (.iload_n 2, 1) := by decide +kernel
theorem dX4_tickOn_129 : decode cX4_tickOn 129 = .ok (.iconst 5, 1) := by decide +kernel
theorem dX4_tickOn_130 : decode cX4_tickOn 130 = .ok (.invokevirtual 49, 3) := by decide +kernel
theorem dX4_tickOn_133 : decode cX4_tickOn 133 = .ok (.if_icmp .ne 19, 3) := by decide +kernel
theorem dX4_tickOn_136 : decode cX4_tickOn 136 = .ok (.iload_n 1, 1) := by decide +kernel
theorem dX4_tickOn_137 : decode cX4_tickOn 137 = .ok (.aload_n 0, 1) := by decide +kernel
theorem dX4_tickOn_138 : decode cX4_tickOn 138 = .ok (.iload_n 2, 1) := by decide +kernel
theorem dX4_tickOn_139 : decode cX4_tickOn 139 = .ok (.invokevirtual 112, 3) := by decide +kernel
theorem dX4_tickOn_142 : decode cX4_tickOn 142 = .ok (.ifCond .eq 7, 3) := by decide +kernel
theorem dX4_tickOn_145 : decode cX4_tickOn 145 = .ok (.iconst 1, 1) := by decide +kernel
theorem dX4_tickOn_146 : decode cX4_tickOn 146 = .ok (.goto 4, 3) := by decide +kernel
theorem dX4_tickOn_149 : decode cX4_tickOn 149 = .ok (.iconst 0, 1) := by decide +kernel
theorem dX4_tickOn_150 : decode cX4_tickOn 150 = .ok (.iadd, 1) := by decide +kernel
theorem dX4_tickOn_151 : decode cX4_tickOn 151 = .ok (.istore_n 1, 1) := by decide +kernel
theorem dX4_tickOn_152 : decode cX4_tickOn 152 = .ok (.iinc 2 1, 3) := by decide +kernel
theorem dX4_tickOn_155 : decode cX4_tickOn 155 = .ok (.goto (-78), 3) := by decide +kernel
theorem dX4_tickOn_158 : decode cX4_tickOn 158 = .ok (.aload_n 0, 1) := by decide +kernel
theorem dX4_tickOn_159 : decode cX4_tickOn 159 = .ok (.getfield 22, 3) := by decide +kernel
theorem dX4_tickOn_162 : decode cX4_tickOn 162 = .ok (.iconst 0, 1) := by decide +kernel
theorem dX4_tickOn_163 : decode cX4_tickOn 163 = .ok (.dup2, 1) := by decide +kernel
theorem dX4_tickOn_164 : decode cX4_tickOn 164 = .ok (.iaload, 1) := by decide +kernel
theorem dX4_tickOn_165 : decode cX4_tickOn 165 = .ok (.iconst 1, 1) := by decide +kernel
theorem dX4_tickOn_166 : decode cX4_tickOn 166 = .ok (.iadd, 1) := by decide +kernel
theorem dX4_tickOn_167 : decode cX4_tickOn 167 = .ok (.iastore, 1) := by decide +kernel
theorem dX4_tickOn_168 : decode cX4_tickOn 168 = .ok (.iload_n 1, 1) := by decide +kernel
theorem dX4_tickOn_169 : decode cX4_tickOn 169 = .ok (.ireturn, 1) := by decide +kernel
set_option maxRecDepth 20000 in
theorem ggX4_pass_X4_isIn : GoodIn wsX4_pass wsX4_isIn := goodIn_r _ [5] (by decide +kernel) (by decide +kernel)
set_option maxRecDepth 20000 in
theorem gX4_pass_X4_isIn : GoodIn wsX4_pass (va_wsS RX4 35 yX4_isIn wsX4_isIn) := goodIn_app (goodIn_of _ (by decide +kernel)) ggX4_pass_X4_isIn
set_option maxRecDepth 20000 in
theorem ggX4_pass_X4_fail : GoodIn wsX4_pass wsX4_fail := goodIn_r _ [9, 1, 81, 82, 83, 84, 85, 86, 87, 88] (by decide +kernel) (by decide +kernel)
end
section
set_option maxRecDepth 20000 in
theorem gX4_pass_X4_fail : GoodIn wsX4_pass (wsV RX4 39 RX4 yX4_fail wsX4_fail) := goodIn_app (goodIn_of _ (by decide +kernel)) ggX4_pass_X4_fail
set_option maxRecDepth 20000 in
theorem ggX4_pass_X4_tickOn : GoodIn wsX4_pass wsX4_tickOn := goodIn_r _ [13, 14, 15, 16, 17, 18, 4, 19, 20, 21, 22, 23, 24, 25, 26, 27, 28, 29, 30, 31, 32, 33, 34, 35, 36, 37, 38, 39, 40, 41, 42, 43, 44, 45, 46, 47, 48, 49, 50, 51, 52, 53, 54, 55, 56, 57, 58, 59, 60, 61, 62, 63, 64, 65, 66, 67, 68, 69, 70, 71, 72, 73, 74, 75, 76, 77, 78, 79, 80, 81, 82, 83, 84, 85, 86, 87, 88] (by decide +kernel) (by decide +kernel)
set_option maxRecDepth 20000 in
theorem gX4_pass_X4_tickOn : GoodIn wsX4_pass (wsV RX4 115 RX4 yX4_tickOn wsX4_tickOn) := goodIn_app (goodIn_of _ (by decide +kernel)) ggX4_pass_X4_tickOn
theorem dX4_pass_0 : decode cX4_pass 0 = .ok (.aload_n 0, 1) := by decide +kernel
theorem dX4_pass_1 : decode cX4_pass 1 = .ok (.iconst 0, 1) := by decide +kernel
theorem dX4_pass_2 : decode cX4_pass 2 = .ok (.putfield 28, 3) := by decide +kernel
theorem dX4_pass_5 : decode cX4_pass 5 = .ok (.iload_n 1, 1) := by decide +kernel
theorem dX4_pass_6 : decode cX4_pass 6 = .ok (.iconst 1, 1) := by decide +kernel
theorem dX4_pass_7 : decode cX4_pass 7 = .ok (.sipush 200, 3) := by decide +kernel
theorem dX4_pass_10 : decode cX4_pass 10 = .ok (.invokestatic 35, 3) := by decide +kernel
theorem dX4_pass_13 : decode cX4_pass 13 = .ok (.ifCond .ne 9, 3) := by decide +kernel
theorem dX4_pass_16 : decode cX4_pass 16 = .ok (.aload_n 0, 1) := by decide +kernel
theorem dX4_pass_17 : decode cX4_pass 17 = .ok (.iconst 1, 1) := by decide +kernel
theorem dX4_pass_18 : decode cX4_pass 18 = .ok (.invokevirtual 39, 3) := by decide +kernel
theorem dX4_pass_21 : decode cX4_pass 21 = .ok (.ireturn, 1) := by decide +kernel
theorem dX4_pass_22 : decode cX4_pass 22 = .ok (.iconst 0, 1) := by decide +kernel
theorem dX4_pass_23 : decode cX4_pass 23 = .ok (.istore_n 2, 1) := by decide +kernel
theorem dX4_pass_24 : decode cX4_pass 24 = .ok (.iconst 0, 1) := by decide +kernel
theorem dX4_pass_25 : decode cX4_pass 25 = .ok (.istore_n 3, 1) := by decide +kernel
theorem dX4_pass_26 : decode cX4_pass 26 = .ok (.iload_n 3, 1) := by decide +kernel
theorem dX4_pass_27 : decode cX4_pass 27 = .ok (.iload_n 1, 1) := by decide +kernel
theorem dX4_pass_28 : decode cX4_pass 28 = .ok (.if_icmp .ge 16, 3) := by decide +kernel
theorem dX4_pass_31 : decode cX4_pass 31 = .ok (.iload_n 2, 1) := by decide +kernel
theorem dX4_pass_32 : decode cX4_pass 32 = .ok (.aload_n 0, 1) := by decide +kernel
theorem dX4_pass_33 : decode cX4_pass 33 = .ok (.invokevirtual 115, 3) := by decide +kernel
theorem dX4_pass_36 : decode cX4_pass 36 = .ok (.iadd, 1) := by decide +kernel
theorem dX4_pass_37 : decode cX4_pass 37 = .ok (.istore_n 2, 1) := by decide +kernel
theorem dX4_pass_38 : decode cX4_pass 38 = .ok (.iinc 3 1, 3) := by decide +kernel
theorem dX4_pass_41 : decode cX4_pass 41 = .ok (.goto (-15), 3) := by decide +kernel
theorem dX4_pass_44 : decode cX4_pass 44 = .ok (.iload_n 2, 1) := by decide +kernel
theorem dX4_pass_45 : decode cX4_pass 45 = .ok (.ireturn, 1) := by decide +kernel
set_option maxRecDepth 20000 in
theorem ggX4_bringBack_X4_all : GoodIn wsX4_bringBack wsX4_all := goodIn_r _ [9, 10, 11, 12, 13, 14, 15, 16, 17, 18, 19, 20, 21, 22, 23] (by decide +kernel) (by decide +kernel)
set_option maxRecDepth 20000 in
theorem gX4_bringBack_X4_all : GoodIn wsX4_bringBack (wsV RX4 123 RX4 yX4_all wsX4_all) := goodIn_app (goodIn_of _ (by decide +kernel)) ggX4_bringBack_X4_all
set_option maxRecDepth 20000 in
theorem ggX4_opens_X4_isDoor : GoodIn wsX4_opens wsX4_isDoor := goodIn_r _ [6, 7, 8, 9, 5, 10, 103, 104, 105, 106, 107, 108, 109, 110] (by decide +kernel) (by decide +kernel)
set_option maxRecDepth 20000 in
theorem gX4_opens_X4_isDoor : GoodIn wsX4_opens (wsV RX4 57 RX4 yX4_isDoor wsX4_isDoor) := goodIn_app (goodIn_of _ (by decide +kernel)) ggX4_opens_X4_isDoor
set_option maxRecDepth 20000 in
theorem ggX4_opens_X4_fail : GoodIn wsX4_opens wsX4_fail := goodIn_r _ [14, 1, 103, 104, 105, 106, 107, 108, 109, 110] (by decide +kernel) (by decide +kernel)
set_option maxRecDepth 20000 in
theorem gX4_opens_X4_fail : GoodIn wsX4_opens (wsV RX4 39 RX4 yX4_fail wsX4_fail) := goodIn_app (goodIn_of _ (by decide +kernel)) ggX4_opens_X4_fail
set_option maxRecDepth 20000 in
theorem ggX4_opens_X4_kept : GoodIn wsX4_opens wsX4_kept := goodIn_r _ [18, 19, 20, 21, 22, 23, 24, 25, 26, 27, 28, 29, 103, 104, 105, 106, 107, 108, 109, 110] (by decide +kernel) (by decide +kernel)
set_option maxRecDepth 20000 in
theorem gX4_opens_X4_kept : GoodIn wsX4_opens (wsV RX4 127 RX4 yX4_kept wsX4_kept) := goodIn_app (goodIn_of _ (by decide +kernel)) ggX4_opens_X4_kept
set_option maxRecDepth 20000 in
theorem ggX4_opens_X4_va : GoodIn wsX4_opens wsX4_va := goodIn_r _ [33, 20, 103, 104, 105, 106, 107, 108, 109, 110] (by decide +kernel) (by decide +kernel)
set_option maxRecDepth 20000 in
theorem gX4_opens_X4_va : GoodIn wsX4_opens (wsV RX4 49 RX4 yX4_va wsX4_va) := goodIn_app (goodIn_of _ (by decide +kernel)) ggX4_opens_X4_va
set_option maxRecDepth 20000 in
theorem ggX4_opens_X4_tickOn : GoodIn wsX4_opens wsX4_tickOn := goodIn_r _ [37, 7, 29, 30, 31, 32, 5, 33, 20, 38, 39, 40, 41, 42, 43, 44, 45, 28, 46, 47, 48, 49, 50, 51, 52, 53, 54, 27, 55, 56, 57, 58, 59, 60, 61, 62, 26, 63, 64, 65, 66, 67, 68, 69, 70, 71, 72, 73, 74, 75, 76, 77, 78, 79, 80, 81, 82, 83, 84, 85, 86, 87, 88, 89, 90, 91, 92, 93, 94, 103, 104, 105, 106, 107, 108, 109, 110] (by decide +kernel) (by decide +kernel)
set_option maxRecDepth 20000 in
theorem gX4_opens_X4_tickOn : GoodIn wsX4_opens (wsV RX4 115 RX4 yX4_tickOn wsX4_tickOn) := goodIn_app (goodIn_of _ (by decide +kernel)) ggX4_opens_X4_tickOn
set_option maxRecDepth 20000 in
theorem ggX4_opens_X4_bringBack : GoodIn wsX4_opens wsX4_bringBack := goodIn_r _ [98, 47, 48, 49, 50, 99, 100, 101, 5, 102, 19, 20, 26, 27, 28, 29, 103, 104, 105, 106, 107, 108, 109, 110] (by decide +kernel) (by decide +kernel)
set_option maxRecDepth 20000 in
theorem gX4_opens_X4_bringBack : GoodIn wsX4_opens (wsV RX4 130 RX4 yX4_bringBack wsX4_bringBack) := goodIn_app (goodIn_of _ (by decide +kernel)) ggX4_opens_X4_bringBack
theorem dX4_opens_0 : decode cX4_opens 0 = .ok (.aload_n 0, 1) := by decide +kernel
theorem dX4_opens_1 : decode cX4_opens 1 = .ok (.iconst 0, 1) := by decide +kernel
theorem dX4_opens_2 : decode cX4_opens 2 = .ok (.putfield 28, 3) := by decide +kernel
theorem dX4_opens_5 : decode cX4_opens 5 = .ok (.aload_n 0, 1) := by decide +kernel
theorem dX4_opens_6 : decode cX4_opens 6 = .ok (.iload_n 1, 1) := by decide +kernel
theorem dX4_opens_7 : decode cX4_opens 7 = .ok (.invokevirtual 57, 3) := by decide +kernel
theorem dX4_opens_10 : decode cX4_opens 10 = .ok (.ifCond .ne 9, 3) := by decide +kernel
theorem dX4_opens_13 : decode cX4_opens 13 = .ok (.aload_n 0, 1) := by decide +kernel
theorem dX4_opens_14 : decode cX4_opens 14 = .ok (.iconst 1, 1) := by decide +kernel
theorem dX4_opens_15 : decode cX4_opens 15 = .ok (.invokevirtual 39, 3) := by decide +kernel
theorem dX4_opens_18 : decode cX4_opens 18 = .ok (.ireturn, 1) := by decide +kernel
theorem dX4_opens_19 : decode cX4_opens 19 = .ok (.aload_n 0, 1) := by decide +kernel
theorem dX4_opens_20 : decode cX4_opens 20 = .ok (.invokevirtual 127, 3) := by decide +kernel
theorem dX4_opens_23 : decode cX4_opens 23 = .ok (.astore_n 2, 1) := by decide +kernel
theorem dX4_opens_24 : decode cX4_opens 24 = .ok (.iconst 0, 1) := by decide +kernel
theorem dX4_opens_25 : decode cX4_opens 25 = .ok (.istore_n 3, 1) := by decide +kernel
theorem dX4_opens_26 : decode cX4_opens 26 = .ok (.iload_n 3, 1) := by decide +kernel
theorem dX4_opens_27 : decode cX4_opens 27 = .ok (.bipush 100, 2) := by decide +kernel
theorem dX4_opens_29 : decode cX4_opens 29 = .ok (.if_icmp .ge 24, 3) := by decide +kernel
theorem dX4_opens_32 : decode cX4_opens 32 = .ok (.aload_n 0, 1) := by decide +kernel
theorem dX4_opens_33 : decode cX4_opens 33 = .ok (.iload_n 1, 1) := by decide +kernel
theorem dX4_opens_34 : decode cX4_opens 34 = .ok (.iconst 3, 1) := by decide +kernel
theorem dX4_opens_35 : decode cX4_opens 35 = .ok (.invokevirtual 49, 3) := by decide +kernel
theorem dX4_opens_38 : decode cX4_opens 38 = .ok (.iconst 2, 1) := by decide +kernel
theorem dX4_opens_39 : decode cX4_opens 39 = .ok (.if_icmp .eq 14, 3) := by decide +kernel
theorem dX4_opens_42 : decode cX4_opens 42 = .ok (.aload_n 0, 1) := by decide +kernel
theorem dX4_opens_43 : decode cX4_opens 43 = .ok (.invokevirtual 115, 3) := by decide +kernel
theorem dX4_opens_46 : decode cX4_opens 46 = .ok (.pop, 1) := by decide +kernel
theorem dX4_opens_47 : decode cX4_opens 47 = .ok (.iinc 3 1, 3) := by decide +kernel
theorem dX4_opens_50 : decode cX4_opens 50 = .ok (.goto (-24), 3) := by decide +kernel
theorem dX4_opens_53 : decode cX4_opens 53 = .ok (.aload_n 0, 1) := by decide +kernel
theorem dX4_opens_54 : decode cX4_opens 54 = .ok (.iload_n 1, 1) := by decide +kernel
theorem dX4_opens_55 : decode cX4_opens 55 = .ok (.iconst 3, 1) := by decide +kernel
theorem dX4_opens_56 : decode cX4_opens 56 = .ok (.invokevirtual 49, 3) := by decide +kernel
theorem dX4_opens_59 : decode cX4_opens 59 = .ok (.iconst 2, 1) := by decide +kernel
theorem dX4_opens_60 : decode cX4_opens 60 = .ok (.if_icmp .eq 5, 3) := by decide +kernel
theorem dX4_opens_63 : decode cX4_opens 63 = .ok (.iconst (-1), 1) := by decide +kernel
theorem dX4_opens_64 : decode cX4_opens 64 = .ok (.istore_n 3, 1) := by decide +kernel
theorem dX4_opens_65 : decode cX4_opens 65 = .ok (.aload_n 0, 1) := by decide +kernel
theorem dX4_opens_66 : decode cX4_opens 66 = .ok (.aload_n 2, 1) := by decide +kernel
theorem dX4_opens_67 : decode cX4_opens 67 = .ok (.invokevirtual 130, 3) := by decide +kernel
theorem dX4_opens_70 : decode cX4_opens 70 = .ok (.iload_n 3, 1) := by decide +kernel
theorem dX4_opens_71 : decode cX4_opens 71 = .ok (.ireturn, 1) := by decide +kernel
set_option maxRecDepth 20000 in
theorem ggX4_opened_X4_kept : GoodIn wsX4_opened wsX4_kept := goodIn_r _ [5, 6, 7, 8, 9, 10, 11, 12, 13, 14, 15, 16, 107, 108, 109, 110, 111, 112, 113, 114] (by decide +kernel) (by decide +kernel)
set_option maxRecDepth 20000 in
theorem gX4_opened_X4_kept : GoodIn wsX4_opened (wsV RX4 127 RX4 yX4_kept wsX4_kept) := goodIn_app (goodIn_of _ (by decide +kernel)) ggX4_opened_X4_kept
set_option maxRecDepth 20000 in
theorem ggX4_opened_X4_va : GoodIn wsX4_opened wsX4_va := goodIn_r _ [20, 7, 107, 108, 109, 110, 111, 112, 113, 114] (by decide +kernel) (by decide +kernel)
set_option maxRecDepth 20000 in
theorem gX4_opened_X4_va : GoodIn wsX4_opened (wsV RX4 49 RX4 yX4_va wsX4_va) := goodIn_app (goodIn_of _ (by decide +kernel)) ggX4_opened_X4_va
set_option maxRecDepth 20000 in
theorem ggX4_opened_X4_whisper : GoodIn wsX4_opened wsX4_whisper := goodIn_r _ [24, 25, 26, 27, 28, 4, 29, 30, 31, 32, 33, 17, 18, 19, 20, 7, 34, 35, 36, 37, 38, 39, 40, 41, 42, 43, 44, 45, 46, 47, 48, 49, 13, 50, 51, 52, 53, 54, 55, 56, 57, 16, 15, 58, 59, 60, 61, 107, 108, 109, 110, 111, 112, 113, 114] (by decide +kernel) (by decide +kernel)
set_option maxRecDepth 20000 in
theorem gX4_opened_X4_whisper : GoodIn wsX4_opened (wsV RX4 134 RX4 yX4_whisper wsX4_whisper) := goodIn_app (goodIn_of _ (by decide +kernel)) ggX4_opened_X4_whisper
set_option maxRecDepth 20000 in
theorem ggX4_opened_X4_tickOn : GoodIn wsX4_opened wsX4_tickOn := goodIn_r _ [65, 30, 16, 17, 18, 19, 4, 20, 7, 42, 43, 44, 45, 66, 67, 68, 69, 15, 70, 71, 72, 73, 74, 75, 76, 77, 78, 14, 79, 80, 81, 82, 50, 51, 52, 53, 13, 46, 47, 48, 49, 54, 55, 56, 57, 34, 35, 36, 37, 38, 39, 40, 41, 83, 84, 85, 86, 87, 88, 89, 90, 91, 92, 93, 94, 58, 59, 60, 61, 107, 108, 109, 110, 111, 112, 113, 114] (by decide +kernel) (by decide +kernel)
set_option maxRecDepth 20000 in
theorem gX4_opened_X4_tickOn : GoodIn wsX4_opened (wsV RX4 115 RX4 yX4_tickOn wsX4_tickOn) := goodIn_app (goodIn_of _ (by decide +kernel)) ggX4_opened_X4_tickOn
set_option maxRecDepth 20000 in
theorem ggX4_opened_X4_openOnes : GoodIn wsX4_opened wsX4_openOnes := goodIn_r _ [98, 30, 17, 18, 19, 4, 20, 7, 107, 108, 109, 110, 111, 112, 113, 114] (by decide +kernel) (by decide +kernel)
set_option maxRecDepth 20000 in
theorem gX4_opened_X4_openOnes : GoodIn wsX4_opened (wsV RX4 96 RX4 yX4_openOnes wsX4_openOnes) := goodIn_app (goodIn_of _ (by decide +kernel)) ggX4_opened_X4_openOnes
set_option maxRecDepth 20000 in
theorem ggX4_opened_X4_bringBack : GoodIn wsX4_opened wsX4_bringBack := goodIn_r _ [102, 71, 72, 73, 74, 103, 104, 105, 4, 106, 6, 7, 13, 14, 15, 16, 107, 108, 109, 110, 111, 112, 113, 114] (by decide +kernel) (by decide +kernel)
set_option maxRecDepth 20000 in
theorem gX4_opened_X4_bringBack : GoodIn wsX4_opened (wsV RX4 130 RX4 yX4_bringBack wsX4_bringBack) := goodIn_app (goodIn_of _ (by decide +kernel)) ggX4_opened_X4_bringBack
set_option maxRecDepth 20000 in
theorem ggX4_would_X4_isDoor : GoodIn wsX4_would wsX4_isDoor := goodIn_r _ [6, 7, 8, 9, 5, 10, 115, 116, 117, 118, 119, 120, 121, 122] (by decide +kernel) (by decide +kernel)
set_option maxRecDepth 20000 in
theorem gX4_would_X4_isDoor : GoodIn wsX4_would (wsV RX4 57 RX4 yX4_isDoor wsX4_isDoor) := goodIn_app (goodIn_of _ (by decide +kernel)) ggX4_would_X4_isDoor
set_option maxRecDepth 20000 in
theorem ggX4_would_X4_fail : GoodIn wsX4_would wsX4_fail := goodIn_r _ [14, 1, 115, 116, 117, 118, 119, 120, 121, 122] (by decide +kernel) (by decide +kernel)
set_option maxRecDepth 20000 in
theorem gX4_would_X4_fail : GoodIn wsX4_would (wsV RX4 39 RX4 yX4_fail wsX4_fail) := goodIn_app (goodIn_of _ (by decide +kernel)) ggX4_would_X4_fail
set_option maxRecDepth 20000 in
theorem ggX4_would_X4_isIn : GoodIn wsX4_would wsX4_isIn := goodIn_r _ [10] (by decide +kernel) (by decide +kernel)
set_option maxRecDepth 20000 in
theorem gX4_would_X4_isIn : GoodIn wsX4_would (va_wsS RX4 35 yX4_isIn wsX4_isIn) := goodIn_app (goodIn_of _ (by decide +kernel)) ggX4_would_X4_isIn
set_option maxRecDepth 20000 in
theorem ggX4_would_X4_opened : GoodIn wsX4_would wsX4_opened := goodIn_r _ [18, 19, 20, 21, 5, 22, 23, 24, 25, 26, 27, 28, 29, 30, 31, 32, 33, 34, 35, 36, 37, 38, 39, 40, 41, 1, 2, 3, 4, 6, 7, 8, 9, 10, 42, 43, 44, 45, 46, 47, 48, 49, 50, 51, 52, 53, 54, 55, 56, 57, 58, 59, 60, 61, 62, 63, 64, 65, 66, 67, 68, 69, 70, 71, 72, 73, 74, 75, 76, 77, 78, 79, 80, 81, 82, 83, 84, 85, 86, 87, 88, 89, 90, 91, 92, 93, 94, 95, 96, 97, 98, 99, 100, 101, 102, 103, 104, 105, 106, 107, 108, 109, 110, 111, 112, 113, 114, 115, 116, 117, 118, 119, 120, 121, 122] (by decide +kernel) (by decide +kernel)
set_option maxRecDepth 20000 in
theorem gX4_would_X4_opened : GoodIn wsX4_would (wsV RX4 138 RX4 yX4_opened wsX4_opened) := goodIn_app (goodIn_of _ (by decide +kernel)) ggX4_would_X4_opened
theorem dX4_would_0 : decode cX4_would 0 = .ok (.aload_n 0, 1) := by decide +kernel
theorem dX4_would_1 : decode cX4_would 1 = .ok (.iconst 0, 1) := by decide +kernel
theorem dX4_would_2 : decode cX4_would 2 = .ok (.putfield 28, 3) := by decide +kernel
theorem dX4_would_5 : decode cX4_would 5 = .ok (.aload_n 0, 1) := by decide +kernel
theorem dX4_would_6 : decode cX4_would 6 = .ok (.iload_n 1, 1) := by decide +kernel
theorem dX4_would_7 : decode cX4_would 7 = .ok (.invokevirtual 57, 3) := by decide +kernel
theorem dX4_would_10 : decode cX4_would 10 = .ok (.ifCond .ne 9, 3) := by decide +kernel
theorem dX4_would_13 : decode cX4_would 13 = .ok (.aload_n 0, 1) := by decide +kernel
theorem dX4_would_14 : decode cX4_would 14 = .ok (.iconst 1, 1) := by decide +kernel
theorem dX4_would_15 : decode cX4_would 15 = .ok (.invokevirtual 39, 3) := by decide +kernel
theorem dX4_would_18 : decode cX4_would 18 = .ok (.ireturn, 1) := by decide +kernel
theorem dX4_would_19 : decode cX4_would 19 = .ok (.iload_n 2, 1) := by decide +kernel
theorem dX4_would_20 : decode cX4_would 20 = .ok (.iconst 1, 1) := by decide +kernel
theorem dX4_would_21 : decode cX4_would 21 = .ok (.bipush 100, 2) := by decide +kernel
theorem dX4_would_23 : decode cX4_would 23 = .ok (.invokestatic 35, 3) := by decide +kernel
theorem dX4_would_26 : decode cX4_would 26 = .ok (.ifCond .eq 12, 3) := by decide +kernel
theorem dX4_would_29 : decode cX4_would 29 = .ok (.aload_n 0, 1) := by decide +kernel
theorem dX4_would_30 : decode cX4_would 30 = .ok (.iload_n 1, 1) := by decide +kernel
theorem dX4_would_31 : decode cX4_would 31 = .ok (.iload_n 2, 1) := by decide +kernel
theorem dX4_would_32 : decode cX4_would 32 = .ok (.invokevirtual 138, 3) := by decide +kernel
theorem dX4_would_35 : decode cX4_would 35 = .ok (.goto 8, 3) := by decide +kernel
theorem dX4_would_38 : decode cX4_would 38 = .ok (.aload_n 0, 1) := by decide +kernel
theorem dX4_would_39 : decode cX4_would 39 = .ok (.iconst 2, 1) := by decide +kernel
theorem dX4_would_40 : decode cX4_would 40 = .ok (.invokevirtual 39, 3) := by decide +kernel
theorem dX4_would_43 : decode cX4_would 43 = .ok (.ireturn, 1) := by decide +kernel
set_option maxRecDepth 20000 in
theorem ggX4_best_X4_isIn : GoodIn wsX4_best wsX4_isIn := goodIn_r _ [6] (by decide +kernel) (by decide +kernel)
set_option maxRecDepth 20000 in
theorem gX4_best_X4_isIn : GoodIn wsX4_best (va_wsS RX4 35 yX4_isIn wsX4_isIn) := goodIn_app (goodIn_of _ (by decide +kernel)) ggX4_best_X4_isIn
set_option maxRecDepth 20000 in
theorem ggX4_best_X4_fail : GoodIn wsX4_best wsX4_fail := goodIn_r _ [10, 1, 122, 123, 124, 125, 126, 127, 128, 129] (by decide +kernel) (by decide +kernel)
set_option maxRecDepth 20000 in
theorem gX4_best_X4_fail : GoodIn wsX4_best (wsV RX4 39 RX4 yX4_fail wsX4_fail) := goodIn_app (goodIn_of _ (by decide +kernel)) ggX4_best_X4_fail
set_option maxRecDepth 20000 in
theorem ggX4_best_X4_opened : GoodIn wsX4_best wsX4_opened := goodIn_r _ [14, 15, 16, 17, 5, 18, 19, 20, 21, 22, 23, 24, 25, 26, 27, 28, 29, 30, 31, 32, 33, 34, 35, 36, 37, 1, 38, 39, 40, 41, 2, 3, 4, 6, 42, 43, 44, 45, 46, 47, 48, 49, 50, 51, 52, 53, 54, 55, 56, 57, 58, 59, 60, 61, 62, 63, 64, 65, 66, 67, 68, 69, 70, 71, 72, 73, 74, 75, 76, 77, 78, 79, 80, 81, 82, 83, 84, 85, 86, 87, 88, 89, 90, 91, 92, 93, 94, 95, 96, 97, 98, 99, 100, 101, 102, 103, 104, 105, 106, 107, 108, 109, 110, 111, 112, 113, 114, 122, 123, 124, 125, 126, 127, 128, 129] (by decide +kernel) (by decide +kernel)
set_option maxRecDepth 20000 in
theorem gX4_best_X4_opened : GoodIn wsX4_best (wsV RX4 138 RX4 yX4_opened wsX4_opened) := goodIn_app (goodIn_of _ (by decide +kernel)) ggX4_best_X4_opened
set_option maxRecDepth 20000 in
theorem ggX4_best_J6_bitCount_0f7a4 : GoodIn wsX4_best wsJ6_bitCount_0f7a4 := goodIn_r _ [118, 119, 120, 121] (by decide +kernel) (by decide +kernel)
set_option maxRecDepth 20000 in
theorem gX4_best_J6_bitCount_0f7a4 : GoodIn wsX4_best (va_wsS RX4 141 yJ6_bitCount_0f7a4 wsJ6_bitCount_0f7a4) := goodIn_app (goodIn_of _ (by decide +kernel)) ggX4_best_J6_bitCount_0f7a4
theorem dX4_best_0 : decode cX4_best 0 = .ok (.aload_n 0, 1) := by decide +kernel
theorem dX4_best_1 : decode cX4_best 1 = .ok (.iconst 0, 1) := by decide +kernel
theorem dX4_best_2 : decode cX4_best 2 = .ok (.putfield 28, 3) := by decide +kernel
theorem dX4_best_5 : decode cX4_best 5 = .ok (.iload_n 1, 1) := by decide +kernel
theorem dX4_best_6 : decode cX4_best 6 = .ok (.iconst 1, 1) := by decide +kernel
theorem dX4_best_7 : decode cX4_best 7 = .ok (.bipush 30, 2) := by decide +kernel
theorem dX4_best_9 : decode cX4_best 9 = .ok (.invokestatic 35, 3) := by decide +kernel
theorem dX4_best_12 : decode cX4_best 12 = .ok (.ifCond .ne 9, 3) := by decide +kernel
theorem dX4_best_15 : decode cX4_best 15 = .ok (.aload_n 0, 1) := by decide +kernel
theorem dX4_best_16 : decode cX4_best 16 = .ok (.iconst 1, 1) := by decide +kernel
theorem dX4_best_17 : decode cX4_best 17 = .ok (.invokevirtual 39, 3) := by decide +kernel
theorem dX4_best_20 : decode cX4_best 20 = .ok (.ireturn, 1) := by decide +kernel
theorem dX4_best_21 : decode cX4_best 21 = .ok (.iconst (-1), 1) := by decide +kernel
theorem dX4_best_22 : decode cX4_best 22 = .ok (.istore_n 2, 1) := by decide +kernel
theorem dX4_best_23 : decode cX4_best 23 = .ok (.iconst (-1), 1) := by decide +kernel
theorem dX4_best_24 : decode cX4_best 24 = .ok (.istore_n 3, 1) := by decide +kernel
theorem dX4_best_25 : decode cX4_best 25 = .ok (.iconst 0, 1) := by decide +kernel
theorem dX4_best_26 : decode cX4_best 26 = .ok (.istore 4, 2) := by decide +kernel
theorem dX4_best_28 : decode cX4_best 28 = .ok (.iload 4, 2) := by decide +kernel
theorem dX4_best_30 : decode cX4_best 30 = .ok (.aload_n 0, 1) := by decide +kernel
theorem dX4_best_31 : decode cX4_best 31 = .ok (.getfield 32, 3) := by decide +kernel
theorem dX4_best_34 : decode cX4_best 34 = .ok (.if_icmp .ge 36, 3) := by decide +kernel
theorem dX4_best_37 : decode cX4_best 37 = .ok (.aload_n 0, 1) := by decide +kernel
theorem dX4_best_38 : decode cX4_best 38 = .ok (.iload 4, 2) := by decide +kernel
theorem dX4_best_40 : decode cX4_best 40 = .ok (.iload_n 1, 1) := by decide +kernel
theorem dX4_best_41 : decode cX4_best 41 = .ok (.invokevirtual 138, 3) := by decide +kernel
theorem dX4_best_44 : decode cX4_best 44 = .ok (.invokestatic 141, 3) := by decide +kernel
theorem dX4_best_47 : decode cX4_best 47 = .ok (.istore 5, 2) := by decide +kernel
theorem dX4_best_49 : decode cX4_best 49 = .ok (.iload 5, 2) := by decide +kernel
theorem dX4_best_51 : decode cX4_best 51 = .ok (.iload_n 3, 1) := by decide +kernel
theorem dX4_best_52 : decode cX4_best 52 = .ok (.if_icmp .gt 6, 3) := by decide +kernel
theorem dX4_best_55 : decode cX4_best 55 = .ok (.goto 9, 3) := by decide +kernel
theorem dX4_best_58 : decode cX4_best 58 = .ok (.iload 4, 2) := by decide +kernel
theorem dX4_best_60 : decode cX4_best 60 = .ok (.istore_n 2, 1) := by decide +kernel
theorem dX4_best_61 : decode cX4_best 61 = .ok (.iload 5, 2) := by decide +kernel
theorem dX4_best_63 : decode cX4_best 63 = .ok (.istore_n 3, 1) := by decide +kernel
theorem dX4_best_64 : decode cX4_best 64 = .ok (.iinc 4 1, 3) := by decide +kernel
theorem dX4_best_67 : decode cX4_best 67 = .ok (.goto (-39), 3) := by decide +kernel
theorem dX4_best_70 : decode cX4_best 70 = .ok (.iload_n 2, 1) := by decide +kernel
theorem dX4_best_71 : decode cX4_best 71 = .ok (.ireturn, 1) := by decide +kernel
set_option maxRecDepth 20000 in
theorem ggX4_mean_X4_va : GoodIn wsX4_mean wsX4_va := goodIn_r _ [7, 8, 9, 10, 11, 12, 13, 14, 15, 16] (by decide +kernel) (by decide +kernel)
set_option maxRecDepth 20000 in
theorem gX4_mean_X4_va : GoodIn wsX4_mean (wsV RX4 49 RX4 yX4_va wsX4_va) := goodIn_app (goodIn_of _ (by decide +kernel)) ggX4_mean_X4_va
theorem dX4_mean_0 : decode cX4_mean 0 = .ok (.aload_n 0, 1) := by decide +kernel
theorem dX4_mean_1 : decode cX4_mean 1 = .ok (.iconst 0, 1) := by decide +kernel
theorem dX4_mean_2 : decode cX4_mean 2 = .ok (.putfield 28, 3) := by decide +kernel
theorem dX4_mean_5 : decode cX4_mean 5 = .ok (.iconst 0, 1) := by decide +kernel
theorem dX4_mean_6 : decode cX4_mean 6 = .ok (.istore_n 1, 1) := by decide +kernel
theorem dX4_mean_7 : decode cX4_mean 7 = .ok (.iconst 0, 1) := by decide +kernel
theorem dX4_mean_8 : decode cX4_mean 8 = .ok (.istore_n 2, 1) := by decide +kernel
theorem dX4_mean_9 : decode cX4_mean 9 = .ok (.iconst 0, 1) := by decide +kernel
theorem dX4_mean_10 : decode cX4_mean 10 = .ok (.istore_n 3, 1) := by decide +kernel
theorem dX4_mean_11 : decode cX4_mean 11 = .ok (.iload_n 3, 1) := by decide +kernel
theorem dX4_mean_12 : decode cX4_mean 12 = .ok (.aload_n 0, 1) := by decide +kernel
theorem dX4_mean_13 : decode cX4_mean 13 = .ok (.getfield 32, 3) := by decide +kernel
theorem dX4_mean_16 : decode cX4_mean 16 = .ok (.if_icmp .ge 37, 3) := by decide +kernel
theorem dX4_mean_19 : decode cX4_mean 19 = .ok (.iload_n 1, 1) := by decide +kernel
theorem dX4_mean_20 : decode cX4_mean 20 = .ok (.aload_n 0, 1) := by decide +kernel
theorem dX4_mean_21 : decode cX4_mean 21 = .ok (.iload_n 3, 1) := by decide +kernel
theorem dX4_mean_22 : decode cX4_mean 22 = .ok (.bipush 6, 2) := by decide +kernel
theorem dX4_mean_24 : decode cX4_mean 24 = .ok (.invokevirtual 49, 3) := by decide +kernel
theorem dX4_mean_27 : decode cX4_mean 27 = .ok (.iadd, 1) := by decide +kernel
theorem dX4_mean_28 : decode cX4_mean 28 = .ok (.istore_n 1, 1) := by decide +kernel
theorem dX4_mean_29 : decode cX4_mean 29 = .ok (.iload_n 2, 1) := by decide +kernel
theorem dX4_mean_30 : decode cX4_mean 30 = .ok (.aload_n 0, 1) := by decide +kernel
theorem dX4_mean_31 : decode cX4_mean 31 = .ok (.iload_n 3, 1) := by decide +kernel
theorem dX4_mean_32 : decode cX4_mean 32 = .ok (.bipush 6, 2) := by decide +kernel
theorem dX4_mean_34 : decode cX4_mean 34 = .ok (.invokevirtual 49, 3) := by decide +kernel
theorem dX4_mean_37 : decode cX4_mean 37 = .ok (.aload_n 0, 1) := by decide +kernel
theorem dX4_mean_38 : decode cX4_mean 38 = .ok (.iload_n 3, 1) := by decide +kernel
theorem dX4_mean_39 : decode cX4_mean 39 = .ok (.bipush 7, 2) := by decide +kernel
theorem dX4_mean_41 : decode cX4_mean 41 = .ok (.invokevirtual 49, 3) := by decide +kernel
theorem dX4_mean_44 : decode cX4_mean 44 = .ok (.iadd, 1) := by decide +kernel
theorem dX4_mean_45 : decode cX4_mean 45 = .ok (.iadd, 1) := by decide +kernel
theorem dX4_mean_46 : decode cX4_mean 46 = .ok (.istore_n 2, 1) := by decide +kernel
theorem dX4_mean_47 : decode cX4_mean 47 = .ok (.iinc 3 1, 3) := by decide +kernel
theorem dX4_mean_50 : decode cX4_mean 50 = .ok (.goto (-39), 3) := by decide +kernel
theorem dX4_mean_53 : decode cX4_mean 53 = .ok (.iload_n 2, 1) := by decide +kernel
theorem dX4_mean_54 : decode cX4_mean 54 = .ok (.ifCond .ne 7, 3) := by decide +kernel
theorem dX4_mean_57 : decode cX4_mean 57 = .ok (.dconst 0, 1) := by decide +kernel
theorem dX4_mean_58 : decode cX4_mean 58 = .ok (.goto 8, 3) := by decide +kernel
theorem dX4_mean_61 : decode cX4_mean 61 = .ok (.iload_n 1, 1) := by decide +kernel
theorem dX4_mean_62 : decode cX4_mean 62 = .ok (.i2d, 1) := by decide +kernel
theorem dX4_mean_63 : decode cX4_mean 63 = .ok (.iload_n 2, 1) := by decide +kernel
theorem dX4_mean_64 : decode cX4_mean 64 = .ok (.i2d, 1) := by decide +kernel
theorem dX4_mean_65 : decode cX4_mean 65 = .ok (.ddiv, 1) := by decide +kernel
theorem dX4_mean_66 : decode cX4_mean 66 = .ok (.dreturn, 1) := by decide +kernel
set_option maxRecDepth 20000 in
theorem ggX4_digest_X4_counted : GoodIn wsX4_digest wsX4_counted := goodIn_r _ [11, 5, 4, 12, 13, 14, 10, 15, 16, 17, 18, 19, 20, 38, 39, 40, 41, 42, 43, 44, 45] (by decide +kernel) (by decide +kernel)
set_option maxRecDepth 20000 in
theorem gX4_digest_X4_counted : GoodIn wsX4_digest (wsV RX4 100 RX4 yX4_counted wsX4_counted) := goodIn_app (goodIn_of _ (by decide +kernel)) ggX4_digest_X4_counted
set_option maxRecDepth 20000 in
theorem ggX4_digest_X4_doorTold : GoodIn wsX4_digest wsX4_doorTold := goodIn_r _ [24, 12, 13, 14, 10, 15, 16, 25, 26, 27, 28, 29, 30, 31, 32, 33, 38, 39, 40, 41, 42, 43, 44, 45] (by decide +kernel) (by decide +kernel)
set_option maxRecDepth 20000 in
theorem gX4_digest_X4_doorTold : GoodIn wsX4_digest (wsV RX4 90 RX4 yX4_doorTold wsX4_doorTold) := goodIn_app (goodIn_of _ (by decide +kernel)) ggX4_digest_X4_doorTold
set_option maxRecDepth 20000 in
theorem ggX4_digest_X4_va : GoodIn wsX4_digest wsX4_va := goodIn_r _ [15, 16, 38, 39, 40, 41, 42, 43, 44, 45] (by decide +kernel) (by decide +kernel)
set_option maxRecDepth 20000 in
theorem gX4_digest_X4_va : GoodIn wsX4_digest (wsV RX4 49 RX4 yX4_va wsX4_va) := goodIn_app (goodIn_of _ (by decide +kernel)) ggX4_digest_X4_va
set_option maxRecDepth 20000 in
theorem ggX4_digest_X4_asked : GoodIn wsX4_digest wsX4_asked := goodIn_r _ [37, 12, 13, 14, 10, 15, 16, 29, 30, 31, 32, 33, 38, 39, 40, 41, 42, 43, 44, 45] (by decide +kernel) (by decide +kernel)
set_option maxRecDepth 20000 in
theorem gX4_digest_X4_asked : GoodIn wsX4_digest (wsV RX4 93 RX4 yX4_asked wsX4_asked) := goodIn_app (goodIn_of _ (by decide +kernel)) ggX4_digest_X4_asked
theorem dX4_digest_0 : decode cX4_digest 0 = .ok (.aload_n 0, 1) := by decide +kernel
theorem dX4_digest_1 : decode cX4_digest 1 = .ok (.iconst 0, 1) := by decide +kernel
theorem dX4_digest_2 : decode cX4_digest 2 = .ok (.putfield 28, 3) := by decide +kernel
theorem dX4_digest_5 : decode cX4_digest 5 = .ok (.ldc2_w 146, 3) := by decide +kernel
theorem dX4_digest_8 : decode cX4_digest 8 = .ok (.lstore_n 1, 1) := by decide +kernel
theorem dX4_digest_9 : decode cX4_digest 9 = .ok (.iconst 0, 1) := by decide +kernel
theorem dX4_digest_10 : decode cX4_digest 10 = .ok (.istore_n 3, 1) := by decide +kernel
theorem dX4_digest_11 : decode cX4_digest 11 = .ok (.iload_n 3, 1) := by decide +kernel
theorem dX4_digest_12 : decode cX4_digest 12 = .ok (.bipush 9, 2) := by decide +kernel
theorem dX4_digest_14 : decode cX4_digest 14 = .ok (.if_icmp .ge 22, 3) := by decide +kernel
theorem dX4_digest_17 : decode cX4_digest 17 = .ok (.lload_n 1, 1) := by decide +kernel
theorem dX4_digest_18 : decode cX4_digest 18 = .ok (.ldc2_w 148, 3) := by decide +kernel
theorem dX4_digest_21 : decode cX4_digest 21 = .ok (.lmul, 1) := by decide +kernel
theorem dX4_digest_22 : decode cX4_digest 22 = .ok (.aload_n 0, 1) := by decide +kernel
theorem dX4_digest_23 : decode cX4_digest 23 = .ok (.iload_n 3, 1) := by decide +kernel
theorem dX4_digest_24 : decode cX4_digest 24 = .ok (.invokevirtual 100, 3) := by decide +kernel
theorem dX4_digest_27 : decode cX4_digest 27 = .ok (.i2l, 1) := by decide +kernel
theorem dX4_digest_28 : decode cX4_digest 28 = .ok (.ladd, 1) := by decide +kernel
theorem dX4_digest_29 : decode cX4_digest 29 = .ok (.lstore_n 1, 1) := by decide +kernel
theorem dX4_digest_30 : decode cX4_digest 30 = .ok (.iinc 3 1, 3) := by decide +kernel
theorem dX4_digest_33 : decode cX4_digest 33 = .ok (.goto (-22), 3) := by decide +kernel
theorem dX4_digest_36 : decode cX4_digest 36 = .ok (.iconst 0, 1) := by decide +kernel
theorem dX4_digest_37 : decode cX4_digest 37 = .ok (.istore_n 3, 1) := by decide +kernel
theorem dX4_digest_38 : decode cX4_digest 38 = .ok (.iload_n 3, 1) := by decide +kernel
theorem dX4_digest_39 : decode cX4_digest 39 = .ok (.aload_n 0, 1) := by decide +kernel
theorem dX4_digest_40 : decode cX4_digest 40 = .ok (.getfield 32, 3) := by decide +kernel
theorem dX4_digest_43 : decode cX4_digest 43 = .ok (.if_icmp .ge 92, 3) := by decide +kernel
theorem dX4_digest_46 : decode cX4_digest 46 = .ok (.iconst 0, 1) := by decide +kernel
theorem dX4_digest_47 : decode cX4_digest 47 = .ok (.istore 4, 2) := by decide +kernel
theorem dX4_digest_49 : decode cX4_digest 49 = .ok (.iload 4, 2) := by decide +kernel
theorem dX4_digest_51 : decode cX4_digest 51 = .ok (.bipush 9, 2) := by decide +kernel
theorem dX4_digest_53 : decode cX4_digest 53 = .ok (.if_icmp .ge 24, 3) := by decide +kernel
theorem dX4_digest_56 : decode cX4_digest 56 = .ok (.lload_n 1, 1) := by decide +kernel
theorem dX4_digest_57 : decode cX4_digest 57 = .ok (.ldc2_w 148, 3) := by decide +kernel
theorem dX4_digest_60 : decode cX4_digest 60 = .ok (.lmul, 1) := by decide +kernel
theorem dX4_digest_61 : decode cX4_digest 61 = .ok (.aload_n 0, 1) := by decide +kernel
theorem dX4_digest_62 : decode cX4_digest 62 = .ok (.iload_n 3, 1) := by decide +kernel
theorem dX4_digest_63 : decode cX4_digest 63 = .ok (.iload 4, 2) := by decide +kernel
theorem dX4_digest_65 : decode cX4_digest 65 = .ok (.invokevirtual 90, 3) := by decide +kernel
theorem dX4_digest_68 : decode cX4_digest 68 = .ok (.i2l, 1) := by decide +kernel
theorem dX4_digest_69 : decode cX4_digest 69 = .ok (.ladd, 1) := by decide +kernel
theorem dX4_digest_70 : decode cX4_digest 70 = .ok (.lstore_n 1, 1) := by decide +kernel
theorem dX4_digest_71 : decode cX4_digest 71 = .ok (.iinc 4 1, 3) := by decide +kernel
theorem dX4_digest_74 : decode cX4_digest 74 = .ok (.goto (-25), 3) := by decide +kernel
theorem dX4_digest_77 : decode cX4_digest 77 = .ok (.iconst 0, 1) := by decide +kernel
theorem dX4_digest_78 : decode cX4_digest 78 = .ok (.istore 4, 2) := by decide +kernel
theorem dX4_digest_80 : decode cX4_digest 80 = .ok (.iload 4, 2) := by decide +kernel
theorem dX4_digest_82 : decode cX4_digest 82 = .ok (.aload_n 0, 1) := by decide +kernel
theorem dX4_digest_83 : decode cX4_digest 83 = .ok (.iload_n 3, 1) := by decide +kernel
theorem dX4_digest_84 : decode cX4_digest 84 = .ok (.iconst 5, 1) := by decide +kernel
theorem dX4_digest_85 : decode cX4_digest 85 = .ok (.invokevirtual 49, 3) := by decide +kernel
theorem dX4_digest_88 : decode cX4_digest 88 = .ok (.if_icmp .ge 41, 3) := by decide +kernel
theorem dX4_digest_91 : decode cX4_digest 91 = .ok (.iconst 0, 1) := by decide +kernel
theorem dX4_digest_92 : decode cX4_digest 92 = .ok (.istore 5, 2) := by decide +kernel
theorem dX4_digest_94 : decode cX4_digest 94 = .ok (.iload 5, 2) := by decide +kernel
theorem dX4_digest_96 : decode cX4_digest 96 = .ok (.iconst 3, 1) := by decide +kernel
theorem dX4_digest_97 : decode cX4_digest 97 = .ok (.if_icmp .ge 26, 3) := by decide +kernel
theorem dX4_digest_100 : decode cX4_digest 100 = .ok (.lload_n 1, 1) := by decide +kernel
theorem dX4_digest_101 : decode cX4_digest 101 = .ok (.ldc2_w 148, 3) := by decide +kernel
theorem dX4_digest_104 : decode cX4_digest 104 = .ok (.lmul, 1) := by decide +kernel
theorem dX4_digest_105 : decode cX4_digest 105 = .ok (.aload_n 0, 1) := by decide +kernel
theorem dX4_digest_106 : decode cX4_digest 106 = .ok (.iload_n 3, 1) := by decide +kernel
theorem dX4_digest_107 : decode cX4_digest 107 = .ok (.iload 4, 2) := by decide +kernel
theorem dX4_digest_109 : decode cX4_digest 109 = .ok (.iload 5, 2) := by decide +kernel
theorem dX4_digest_111 : decode cX4_digest 111 = .ok (.invokevirtual 93, 3) := by decide +kernel
theorem dX4_digest_114 : decode cX4_digest 114 = .ok (.i2l, 1) := by decide +kernel
theorem dX4_digest_115 : decode cX4_digest 115 = .ok (.ladd, 1) := by decide +kernel
theorem dX4_digest_116 : decode cX4_digest 116 = .ok (.lstore_n 1, 1) := by decide +kernel
theorem dX4_digest_117 : decode cX4_digest 117 = .ok (.iinc 5 1, 3) := by decide +kernel
theorem dX4_digest_120 : decode cX4_digest 120 = .ok (.goto (-26), 3) := by decide +kernel
theorem dX4_digest_123 : decode cX4_digest 123 = .ok (.iinc 4 1, 3) := by decide +kernel
theorem dX4_digest_126 : decode cX4_digest 126 = .ok (.goto (-46), 3) := by decide +kernel
theorem dX4_digest_129 : decode cX4_digest 129 = .ok (.iinc 3 1, 3) := by decide +kernel
theorem dX4_digest_132 : decode cX4_digest 132 = .ok (.goto (-94), 3) := by decide +kernel
theorem dX4_digest_135 : decode cX4_digest 135 = .ok (.iconst 0, 1) := by decide +kernel
theorem dX4_digest_136 : decode cX4_digest 136 = .ok (.istore_n 3, 1) := by decide +kernel
theorem dX4_digest_137 : decode cX4_digest 137 = .ok (.iload_n 3, 1) := by decide +kernel
theorem dX4_digest_138 : decode cX4_digest 138 = .ok (.aload_n 0, 1) := by decide +kernel
theorem dX4_digest_139 : decode cX4_digest 139 = .ok (.getfield 22, 3) := by decide +kernel
theorem dX4_digest_142 : decode cX4_digest 142 = .ok (.iconst 1, 1) := by decide +kernel
theorem dX4_digest_143 : decode cX4_digest 143 = .ok (.iaload, 1) := by decide +kernel
theorem dX4_digest_144 : decode cX4_digest 144 = .ok (.if_icmp .ge 43, 3) := by decide +kernel
theorem dX4_digest_147 : decode cX4_digest 147 = .ok (.iconst 0, 1) := by decide +kernel
theorem dX4_digest_148 : decode cX4_digest 148 = .ok (.istore 4, 2) := by decide +kernel
theorem dX4_digest_150 : decode cX4_digest 150 = .ok (.iload 4, 2) := by decide +kernel
theorem dX4_digest_152 : decode cX4_digest 152 = .ok (.iconst 4, 1) := by decide +kernel
theorem dX4_digest_153 : decode cX4_digest 153 = .ok (.if_icmp .ge 28, 3) := by decide +kernel
theorem dX4_digest_156 : decode cX4_digest 156 = .ok (.lload_n 1, 1) := by decide +kernel
theorem dX4_digest_157 : decode cX4_digest 157 = .ok (.ldc2_w 148, 3) := by decide +kernel
theorem dX4_digest_160 : decode cX4_digest 160 = .ok (.lmul, 1) := by decide +kernel
theorem dX4_digest_161 : decode cX4_digest 161 = .ok (.aload_n 0, 1) := by decide +kernel
theorem dX4_digest_162 : decode cX4_digest 162 = .ok (.getfield 19, 3) := by decide +kernel
theorem dX4_digest_165 : decode cX4_digest 165 = .ok (.iconst 5, 1) := by decide +kernel
theorem dX4_digest_166 : decode cX4_digest 166 = .ok (.iload_n 3, 1) := by decide +kernel
theorem dX4_digest_167 : decode cX4_digest 167 = .ok (.imul, 1) := by decide +kernel
theorem dX4_digest_168 : decode cX4_digest 168 = .ok (.iload 4, 2) := by decide +kernel
theorem dX4_digest_170 : decode cX4_digest 170 = .ok (.iadd, 1) := by decide +kernel
theorem dX4_digest_171 : decode cX4_digest 171 = .ok (.iaload, 1) := by decide +kernel
theorem dX4_digest_172 : decode cX4_digest 172 = .ok (.i2l, 1) := by decide +kernel
theorem dX4_digest_173 : decode cX4_digest 173 = .ok (.ladd, 1) := by decide +kernel
theorem dX4_digest_174 : decode cX4_digest 174 = .ok (.lstore_n 1, 1) := by decide +kernel
theorem dX4_digest_175 : decode cX4_digest 175 = .ok (.iinc 4 1, 3) := by decide +kernel
theorem dX4_digest_178 : decode cX4_digest 178 = .ok (.goto (-28), 3) := by decide +kernel
theorem dX4_digest_181 : decode cX4_digest 181 = .ok (.iinc 3 1, 3) := by decide +kernel
theorem dX4_digest_184 : decode cX4_digest 184 = .ok (.goto (-47), 3) := by decide +kernel
theorem dX4_digest_187 : decode cX4_digest 187 = .ok (.lload_n 1, 1) := by decide +kernel
theorem dX4_digest_188 : decode cX4_digest 188 = .ok (.lreturn, 1) := by decide +kernel
theorem dJ6_bitCount_0f7a4_0 : decode cJ6_bitCount_0f7a4 0 = .ok (.iload_n 0, 1) := by decide +kernel
theorem dJ6_bitCount_0f7a4_1 : decode cJ6_bitCount_0f7a4 1 = .ok (.iload_n 0, 1) := by decide +kernel
theorem dJ6_bitCount_0f7a4_2 : decode cJ6_bitCount_0f7a4 2 = .ok (.iconst 1, 1) := by decide +kernel
theorem dJ6_bitCount_0f7a4_3 : decode cJ6_bitCount_0f7a4 3 = .ok (.iushr, 1) := by decide +kernel
theorem dJ6_bitCount_0f7a4_4 : decode cJ6_bitCount_0f7a4 4 = .ok (.ldc_w 265, 3) := by decide +kernel
theorem dJ6_bitCount_0f7a4_7 : decode cJ6_bitCount_0f7a4 7 = .ok (.iand, 1) := by decide +kernel
theorem dJ6_bitCount_0f7a4_8 : decode cJ6_bitCount_0f7a4 8 = .ok (.isub, 1) := by decide +kernel
theorem dJ6_bitCount_0f7a4_9 : decode cJ6_bitCount_0f7a4 9 = .ok (.istore_n 0, 1) := by decide +kernel
theorem dJ6_bitCount_0f7a4_10 : decode cJ6_bitCount_0f7a4 10 = .ok (.iload_n 0, 1) := by decide +kernel
theorem dJ6_bitCount_0f7a4_11 : decode cJ6_bitCount_0f7a4 11 = .ok (.ldc_w 266, 3) := by decide +kernel
theorem dJ6_bitCount_0f7a4_14 : decode cJ6_bitCount_0f7a4 14 = .ok (.iand, 1) := by decide +kernel
theorem dJ6_bitCount_0f7a4_15 : decode cJ6_bitCount_0f7a4 15 = .ok (.iload_n 0, 1) := by decide +kernel
theorem dJ6_bitCount_0f7a4_16 : decode cJ6_bitCount_0f7a4 16 = .ok (.iconst 2, 1) := by decide +kernel
theorem dJ6_bitCount_0f7a4_17 : decode cJ6_bitCount_0f7a4 17 = .ok (.iushr, 1) := by decide +kernel
theorem dJ6_bitCount_0f7a4_18 : decode cJ6_bitCount_0f7a4 18 = .ok (.ldc_w 266, 3) := by decide +kernel
theorem dJ6_bitCount_0f7a4_21 : decode cJ6_bitCount_0f7a4 21 = .ok (.iand, 1) := by decide +kernel
theorem dJ6_bitCount_0f7a4_22 : decode cJ6_bitCount_0f7a4 22 = .ok (.iadd, 1) := by decide +kernel
theorem dJ6_bitCount_0f7a4_23 : decode cJ6_bitCount_0f7a4 23 = .ok (.istore_n 0, 1) := by decide +kernel
theorem dJ6_bitCount_0f7a4_24 : decode cJ6_bitCount_0f7a4 24 = .ok (.iload_n 0, 1) := by decide +kernel
theorem dJ6_bitCount_0f7a4_25 : decode cJ6_bitCount_0f7a4 25 = .ok (.iload_n 0, 1) := by decide +kernel
theorem dJ6_bitCount_0f7a4_26 : decode cJ6_bitCount_0f7a4 26 = .ok (.iconst 4, 1) := by decide +kernel
theorem dJ6_bitCount_0f7a4_27 : decode cJ6_bitCount_0f7a4 27 = .ok (.iushr, 1) := by decide +kernel
theorem dJ6_bitCount_0f7a4_28 : decode cJ6_bitCount_0f7a4 28 = .ok (.iadd, 1) := by decide +kernel
theorem dJ6_bitCount_0f7a4_29 : decode cJ6_bitCount_0f7a4 29 = .ok (.ldc_w 267, 3) := by decide +kernel
theorem dJ6_bitCount_0f7a4_32 : decode cJ6_bitCount_0f7a4 32 = .ok (.iand, 1) := by decide +kernel
theorem dJ6_bitCount_0f7a4_33 : decode cJ6_bitCount_0f7a4 33 = .ok (.istore_n 0, 1) := by decide +kernel
theorem dJ6_bitCount_0f7a4_34 : decode cJ6_bitCount_0f7a4 34 = .ok (.iload_n 0, 1) := by decide +kernel
theorem dJ6_bitCount_0f7a4_35 : decode cJ6_bitCount_0f7a4 35 = .ok (.iload_n 0, 1) := by decide +kernel
theorem dJ6_bitCount_0f7a4_36 : decode cJ6_bitCount_0f7a4 36 = .ok (.bipush 8, 2) := by decide +kernel
theorem dJ6_bitCount_0f7a4_38 : decode cJ6_bitCount_0f7a4 38 = .ok (.iushr, 1) := by decide +kernel
theorem dJ6_bitCount_0f7a4_39 : decode cJ6_bitCount_0f7a4 39 = .ok (.iadd, 1) := by decide +kernel
theorem dJ6_bitCount_0f7a4_40 : decode cJ6_bitCount_0f7a4 40 = .ok (.istore_n 0, 1) := by decide +kernel
theorem dJ6_bitCount_0f7a4_41 : decode cJ6_bitCount_0f7a4 41 = .ok (.iload_n 0, 1) := by decide +kernel
theorem dJ6_bitCount_0f7a4_42 : decode cJ6_bitCount_0f7a4 42 = .ok (.iload_n 0, 1) := by decide +kernel
theorem dJ6_bitCount_0f7a4_43 : decode cJ6_bitCount_0f7a4 43 = .ok (.bipush 16, 2) := by decide +kernel
theorem dJ6_bitCount_0f7a4_45 : decode cJ6_bitCount_0f7a4 45 = .ok (.iushr, 1) := by decide +kernel
theorem dJ6_bitCount_0f7a4_46 : decode cJ6_bitCount_0f7a4 46 = .ok (.iadd, 1) := by decide +kernel
theorem dJ6_bitCount_0f7a4_47 : decode cJ6_bitCount_0f7a4 47 = .ok (.istore_n 0, 1) := by decide +kernel
theorem dJ6_bitCount_0f7a4_48 : decode cJ6_bitCount_0f7a4 48 = .ok (.iload_n 0, 1) := by decide +kernel
theorem dJ6_bitCount_0f7a4_49 : decode cJ6_bitCount_0f7a4 49 = .ok (.bipush 63, 2) := by decide +kernel
theorem dJ6_bitCount_0f7a4_51 : decode cJ6_bitCount_0f7a4 51 = .ok (.iand, 1) := by decide +kernel
theorem dJ6_bitCount_0f7a4_52 : decode cJ6_bitCount_0f7a4 52 = .ok (.ireturn, 1) := by decide +kernel
set_option maxRecDepth 20000 in
theorem ggL_build_X3_build : GoodIn wsL_build wsX3_build := goodIn_ca (goodIn_ca (goodIn_r _ [7, 8, 9, 10, 11, 12, 13, 14, 15, 6, 16, 17, 18, 19, 20, 21, 22, 23, 24, 25, 26, 27, 28, 29, 30, 31, 32, 33, 34, 35, 36, 37, 38, 39, 40, 41, 42, 43, 44, 45, 46, 47, 48, 49, 50, 51, 52, 53] (by decide +kernel) (by decide +kernel)) (goodIn_sub (fun _ h => List.mem_cons_of_mem _ (List.mem_append_left _ (List.mem_append_right _ h))) (by decide +kernel))) (goodIn_sub (fun _ h => List.mem_cons_of_mem _ (List.mem_append_right _ h)) (by decide +kernel))
set_option maxRecDepth 20000 in
theorem gL_build_X3_build : GoodIn wsL_build (wsV RL 7 RX3 yX3_build wsX3_build) := goodIn_app (goodIn_of _ (by decide +kernel)) ggL_build_X3_build
theorem dL_build_0 : decode cL_build 0 = .ok (.aload 4, 2) := by decide +kernel
theorem dL_build_2 : decode cL_build 2 = .ok (.iconst 0, 1) := by decide +kernel
theorem dL_build_3 : decode cL_build 3 = .ok (.aload_n 0, 1) := by decide +kernel
theorem dL_build_4 : decode cL_build 4 = .ok (.iload_n 1, 1) := by decide +kernel
theorem dL_build_5 : decode cL_build 5 = .ok (.iload_n 2, 1) := by decide +kernel
theorem dL_build_6 : decode cL_build 6 = .ok (.iload_n 3, 1) := by decide +kernel
theorem dL_build_7 : decode cL_build 7 = .ok (.invokevirtual 7, 3) := by decide +kernel
theorem dL_build_10 : decode cL_build 10 = .ok (.i2l, 1) := by decide +kernel
theorem dL_build_11 : decode cL_build 11 = .ok (.lastore, 1) := by decide +kernel
theorem dL_build_12 : decode cL_build 12 = .ok (.goto 11, 3) := by decide +kernel
theorem dL_build_15 : decode cL_build 15 = .ok (.astore 5, 2) := by decide +kernel
theorem dL_build_17 : decode cL_build 17 = .ok (.iconst 1, 1) := by decide +kernel
theorem dL_build_18 : decode cL_build 18 = .ok (.ireturn, 1) := by decide +kernel
theorem dL_build_19 : decode cL_build 19 = .ok (.astore 5, 2) := by decide +kernel
theorem dL_build_21 : decode cL_build 21 = .ok (.iconst 2, 1) := by decide +kernel
theorem dL_build_22 : decode cL_build 22 = .ok (.ireturn, 1) := by decide +kernel
theorem dL_build_23 : decode cL_build 23 = .ok (.iconst 0, 1) := by decide +kernel
theorem dL_build_24 : decode cL_build 24 = .ok (.ireturn, 1) := by decide +kernel
set_option maxRecDepth 20000 in
theorem ggL_ask_X3_ask : GoodIn wsL_ask wsX3_ask := goodIn_ca (goodIn_ca (goodIn_ca (goodIn_r _ [8, 9, 10, 11, 12, 13, 14, 15, 16, 17, 18, 19, 20, 21, 22, 23, 24, 25, 26, 7, 27, 28, 29, 30, 31, 32, 33, 34, 35, 36, 37, 38, 39, 40, 41, 42, 43, 44, 45, 46, 47, 48, 49, 50, 51, 52, 53, 54, 55, 56, 57, 58, 59, 60, 61] (by decide +kernel) (by decide +kernel)) (goodIn_sub (fun _ h => List.mem_cons_of_mem _ (List.mem_append_left _ (List.mem_append_left _ (List.mem_append_right _ h)))) (by decide +kernel))) (goodIn_sub (fun _ h => List.mem_cons_of_mem _ (List.mem_append_left _ (List.mem_append_right _ h))) (by decide +kernel))) (goodIn_sub (fun _ h => List.mem_cons_of_mem _ (List.mem_append_right _ h)) (by decide +kernel))
set_option maxRecDepth 20000 in
theorem gL_ask_X3_ask : GoodIn wsL_ask (wsV RL 17 RX3 yX3_ask wsX3_ask) := goodIn_app (goodIn_of _ (by decide +kernel)) ggL_ask_X3_ask
theorem dL_ask_0 : decode cL_ask 0 = .ok (.aload 4, 2) := by decide +kernel
theorem dL_ask_2 : decode cL_ask 2 = .ok (.iconst 0, 1) := by decide +kernel
theorem dL_ask_3 : decode cL_ask 3 = .ok (.aload_n 0, 1) := by decide +kernel
theorem dL_ask_4 : decode cL_ask 4 = .ok (.iload_n 1, 1) := by decide +kernel
theorem dL_ask_5 : decode cL_ask 5 = .ok (.iload_n 2, 1) := by decide +kernel
theorem dL_ask_6 : decode cL_ask 6 = .ok (.iload_n 3, 1) := by decide +kernel
theorem dL_ask_7 : decode cL_ask 7 = .ok (.invokevirtual 17, 3) := by decide +kernel
theorem dL_ask_10 : decode cL_ask 10 = .ok (.i2l, 1) := by decide +kernel
theorem dL_ask_11 : decode cL_ask 11 = .ok (.lastore, 1) := by decide +kernel
theorem dL_ask_12 : decode cL_ask 12 = .ok (.goto 15, 3) := by decide +kernel
theorem dL_ask_15 : decode cL_ask 15 = .ok (.astore 5, 2) := by decide +kernel
theorem dL_ask_17 : decode cL_ask 17 = .ok (.iconst 1, 1) := by decide +kernel
theorem dL_ask_18 : decode cL_ask 18 = .ok (.ireturn, 1) := by decide +kernel
theorem dL_ask_19 : decode cL_ask 19 = .ok (.astore 5, 2) := by decide +kernel
theorem dL_ask_21 : decode cL_ask 21 = .ok (.iconst 2, 1) := by decide +kernel
theorem dL_ask_22 : decode cL_ask 22 = .ok (.ireturn, 1) := by decide +kernel
theorem dL_ask_23 : decode cL_ask 23 = .ok (.astore 5, 2) := by decide +kernel
theorem dL_ask_25 : decode cL_ask 25 = .ok (.iconst 3, 1) := by decide +kernel
theorem dL_ask_26 : decode cL_ask 26 = .ok (.ireturn, 1) := by decide +kernel
theorem dL_ask_27 : decode cL_ask 27 = .ok (.iconst 0, 1) := by decide +kernel
theorem dL_ask_28 : decode cL_ask 28 = .ok (.ireturn, 1) := by decide +kernel
set_option maxRecDepth 20000 in
theorem ggL_set_X3_set : GoodIn wsL_set wsX3_set := goodIn_ca (goodIn_ca (goodIn_r _ [7, 8, 9, 10, 11, 12, 13, 14, 15, 16, 17, 18, 19, 20, 21, 22, 23, 6, 24, 25, 26, 27, 28, 29, 30, 31, 32, 33, 34, 35, 36, 37, 38, 39, 40, 41, 42, 43, 44, 45, 46, 47, 48, 49, 50, 51] (by decide +kernel) (by decide +kernel)) (goodIn_sub (fun _ h => List.mem_cons_of_mem _ (List.mem_append_left _ (List.mem_append_right _ h))) (by decide +kernel))) (goodIn_sub (fun _ h => List.mem_cons_of_mem _ (List.mem_append_right _ h)) (by decide +kernel))
set_option maxRecDepth 20000 in
theorem gL_set_X3_set : GoodIn wsL_set (wsV RL 22 RX3 yX3_set wsX3_set) := goodIn_app (goodIn_of _ (by decide +kernel)) ggL_set_X3_set
theorem dL_set_0 : decode cL_set 0 = .ok (.aload 4, 2) := by decide +kernel
theorem dL_set_2 : decode cL_set 2 = .ok (.iconst 0, 1) := by decide +kernel
theorem dL_set_3 : decode cL_set 3 = .ok (.aload_n 0, 1) := by decide +kernel
theorem dL_set_4 : decode cL_set 4 = .ok (.iload_n 1, 1) := by decide +kernel
theorem dL_set_5 : decode cL_set 5 = .ok (.iload_n 2, 1) := by decide +kernel
theorem dL_set_6 : decode cL_set 6 = .ok (.iload_n 3, 1) := by decide +kernel
theorem dL_set_7 : decode cL_set 7 = .ok (.invokevirtual 22, 3) := by decide +kernel
theorem dL_set_10 : decode cL_set 10 = .ok (.i2l, 1) := by decide +kernel
theorem dL_set_11 : decode cL_set 11 = .ok (.lastore, 1) := by decide +kernel
theorem dL_set_12 : decode cL_set 12 = .ok (.goto 11, 3) := by decide +kernel
theorem dL_set_15 : decode cL_set 15 = .ok (.astore 5, 2) := by decide +kernel
theorem dL_set_17 : decode cL_set 17 = .ok (.iconst 1, 1) := by decide +kernel
theorem dL_set_18 : decode cL_set 18 = .ok (.ireturn, 1) := by decide +kernel
theorem dL_set_19 : decode cL_set 19 = .ok (.astore 5, 2) := by decide +kernel
theorem dL_set_21 : decode cL_set 21 = .ok (.iconst 2, 1) := by decide +kernel
theorem dL_set_22 : decode cL_set 22 = .ok (.ireturn, 1) := by decide +kernel
theorem dL_set_23 : decode cL_set 23 = .ok (.iconst 0, 1) := by decide +kernel
theorem dL_set_24 : decode cL_set 24 = .ok (.ireturn, 1) := by decide +kernel
set_option maxRecDepth 20000 in
theorem ggL_whisper_X3_whisper : GoodIn wsL_whisper wsX3_whisper := goodIn_ca (goodIn_ca (goodIn_r _ [7, 8, 9, 10, 11, 12, 13, 14, 15, 16, 17, 18, 19, 20, 6, 21, 22, 23, 24, 25, 26, 27, 28, 29, 30, 31, 32, 33, 34, 35, 36, 37, 38, 39, 40, 41, 42, 43, 44, 45, 46, 47, 48, 49, 50, 51, 52, 53, 54, 55, 56, 57, 58, 59, 60, 61, 62, 63, 64, 65, 66, 67, 68, 69, 70, 71, 72, 73, 74, 75, 76, 77, 78, 79, 80, 81, 82, 83, 84, 85, 86, 87, 88, 89, 90] (by decide +kernel) (by decide +kernel)) (goodIn_sub (fun _ h => List.mem_cons_of_mem _ (List.mem_append_left _ (List.mem_append_right _ h))) (by decide +kernel))) (goodIn_sub (fun _ h => List.mem_cons_of_mem _ (List.mem_append_right _ h)) (by decide +kernel))
set_option maxRecDepth 20000 in
theorem gL_whisper_X3_whisper : GoodIn wsL_whisper (wsV RL 25 RX3 yX3_whisper wsX3_whisper) := goodIn_app (goodIn_of _ (by decide +kernel)) ggL_whisper_X3_whisper
theorem dL_whisper_0 : decode cL_whisper 0 = .ok (.aload_n 3, 1) := by decide +kernel
theorem dL_whisper_1 : decode cL_whisper 1 = .ok (.iconst 0, 1) := by decide +kernel
theorem dL_whisper_2 : decode cL_whisper 2 = .ok (.aload_n 0, 1) := by decide +kernel
theorem dL_whisper_3 : decode cL_whisper 3 = .ok (.iload_n 1, 1) := by decide +kernel
theorem dL_whisper_4 : decode cL_whisper 4 = .ok (.iload_n 2, 1) := by decide +kernel
theorem dL_whisper_5 : decode cL_whisper 5 = .ok (.invokevirtual 25, 3) := by decide +kernel
theorem dL_whisper_8 : decode cL_whisper 8 = .ok (.ifCond .eq 7, 3) := by decide +kernel
theorem dL_whisper_11 : decode cL_whisper 11 = .ok (.lconst 1, 1) := by decide +kernel
theorem dL_whisper_12 : decode cL_whisper 12 = .ok (.goto 4, 3) := by decide +kernel
theorem dL_whisper_15 : decode cL_whisper 15 = .ok (.lconst 0, 1) := by decide +kernel
theorem dL_whisper_16 : decode cL_whisper 16 = .ok (.lastore, 1) := by decide +kernel
theorem dL_whisper_17 : decode cL_whisper 17 = .ok (.goto 11, 3) := by decide +kernel
theorem dL_whisper_20 : decode cL_whisper 20 = .ok (.astore 4, 2) := by decide +kernel
theorem dL_whisper_22 : decode cL_whisper 22 = .ok (.iconst 1, 1) := by decide +kernel
theorem dL_whisper_23 : decode cL_whisper 23 = .ok (.ireturn, 1) := by decide +kernel
theorem dL_whisper_24 : decode cL_whisper 24 = .ok (.astore 4, 2) := by decide +kernel
theorem dL_whisper_26 : decode cL_whisper 26 = .ok (.iconst 2, 1) := by decide +kernel
theorem dL_whisper_27 : decode cL_whisper 27 = .ok (.ireturn, 1) := by decide +kernel
theorem dL_whisper_28 : decode cL_whisper 28 = .ok (.iconst 0, 1) := by decide +kernel
theorem dL_whisper_29 : decode cL_whisper 29 = .ok (.ireturn, 1) := by decide +kernel
set_option maxRecDepth 20000 in
theorem ggL_door_X3_door : GoodIn wsL_door wsX3_door := goodIn_ca (goodIn_r _ [6, 7, 8, 9, 10, 11, 12, 13, 14, 15, 16, 17, 18, 5, 19, 20, 21, 22, 23, 24, 25, 26, 27, 28, 29, 30, 31, 32, 33, 34, 35, 36, 37, 38, 39, 40, 41, 42, 43, 44, 45, 46, 47, 48, 49, 50, 51, 52, 53, 54, 55, 56, 57] (by decide +kernel) (by decide +kernel)) (goodIn_sub (fun _ h => List.mem_cons_of_mem _ (List.mem_append_right _ h)) (by decide +kernel))
set_option maxRecDepth 20000 in
theorem gL_door_X3_door : GoodIn wsL_door (wsV RL 29 RX3 yX3_door wsX3_door) := goodIn_app (goodIn_of _ (by decide +kernel)) ggL_door_X3_door
theorem dL_door_0 : decode cL_door 0 = .ok (.aload_n 3, 1) := by decide +kernel
theorem dL_door_1 : decode cL_door 1 = .ok (.iconst 0, 1) := by decide +kernel
theorem dL_door_2 : decode cL_door 2 = .ok (.aload_n 0, 1) := by decide +kernel
theorem dL_door_3 : decode cL_door 3 = .ok (.iload_n 1, 1) := by decide +kernel
theorem dL_door_4 : decode cL_door 4 = .ok (.iload_n 2, 1) := by decide +kernel
theorem dL_door_5 : decode cL_door 5 = .ok (.invokevirtual 29, 3) := by decide +kernel
theorem dL_door_8 : decode cL_door 8 = .ok (.i2l, 1) := by decide +kernel
theorem dL_door_9 : decode cL_door 9 = .ok (.lastore, 1) := by decide +kernel
theorem dL_door_10 : decode cL_door 10 = .ok (.goto 7, 3) := by decide +kernel
theorem dL_door_13 : decode cL_door 13 = .ok (.astore 4, 2) := by decide +kernel
theorem dL_door_15 : decode cL_door 15 = .ok (.iconst 1, 1) := by decide +kernel
theorem dL_door_16 : decode cL_door 16 = .ok (.ireturn, 1) := by decide +kernel
theorem dL_door_17 : decode cL_door 17 = .ok (.iconst 0, 1) := by decide +kernel
theorem dL_door_18 : decode cL_door 18 = .ok (.ireturn, 1) := by decide +kernel
set_option maxRecDepth 20000 in
theorem ggL_asks_X3_asks : GoodIn wsL_asks wsX3_asks := goodIn_ca (goodIn_r _ [6, 7, 8, 9, 10, 11, 12, 13, 14, 15, 16, 17, 18, 19, 5, 20, 21, 22, 23, 24, 25, 26, 27, 28, 29, 30, 31, 32, 33, 34, 35, 36, 37, 38, 39, 40, 41, 42, 43, 44, 45, 46, 47, 48, 49, 50] (by decide +kernel) (by decide +kernel)) (goodIn_sub (fun _ h => List.mem_cons_of_mem _ (List.mem_append_right _ h)) (by decide +kernel))
set_option maxRecDepth 20000 in
theorem gL_asks_X3_asks : GoodIn wsL_asks (wsV RL 33 RX3 yX3_asks wsX3_asks) := goodIn_app (goodIn_of _ (by decide +kernel)) ggL_asks_X3_asks
theorem dL_asks_0 : decode cL_asks 0 = .ok (.aload 4, 2) := by decide +kernel
theorem dL_asks_2 : decode cL_asks 2 = .ok (.iconst 0, 1) := by decide +kernel
theorem dL_asks_3 : decode cL_asks 3 = .ok (.aload_n 0, 1) := by decide +kernel
theorem dL_asks_4 : decode cL_asks 4 = .ok (.iload_n 1, 1) := by decide +kernel
theorem dL_asks_5 : decode cL_asks 5 = .ok (.iload_n 2, 1) := by decide +kernel
theorem dL_asks_6 : decode cL_asks 6 = .ok (.iload_n 3, 1) := by decide +kernel
theorem dL_asks_7 : decode cL_asks 7 = .ok (.invokevirtual 33, 3) := by decide +kernel
theorem dL_asks_10 : decode cL_asks 10 = .ok (.i2l, 1) := by decide +kernel
theorem dL_asks_11 : decode cL_asks 11 = .ok (.lastore, 1) := by decide +kernel
theorem dL_asks_12 : decode cL_asks 12 = .ok (.goto 7, 3) := by decide +kernel
theorem dL_asks_15 : decode cL_asks 15 = .ok (.astore 5, 2) := by decide +kernel
theorem dL_asks_17 : decode cL_asks 17 = .ok (.iconst 1, 1) := by decide +kernel
theorem dL_asks_18 : decode cL_asks 18 = .ok (.ireturn, 1) := by decide +kernel
theorem dL_asks_19 : decode cL_asks 19 = .ok (.iconst 0, 1) := by decide +kernel
theorem dL_asks_20 : decode cL_asks 20 = .ok (.ireturn, 1) := by decide +kernel
set_option maxRecDepth 20000 in
theorem ggL_voice_X3_voice : GoodIn wsL_voice wsX3_voice := goodIn_ca (goodIn_r _ [6, 7, 8, 9, 10, 11, 12, 13, 5, 14, 15, 16, 17, 18, 19, 20, 21, 22, 23, 24, 25, 26, 27, 28, 29, 30, 31, 32, 33, 34, 35, 36, 37, 38] (by decide +kernel) (by decide +kernel)) (goodIn_sub (fun _ h => List.mem_cons_of_mem _ (List.mem_append_right _ h)) (by decide +kernel))
set_option maxRecDepth 20000 in
theorem gL_voice_X3_voice : GoodIn wsL_voice (wsV RL 36 RX3 yX3_voice wsX3_voice) := goodIn_app (goodIn_of _ (by decide +kernel)) ggL_voice_X3_voice
theorem dL_voice_0 : decode cL_voice 0 = .ok (.aload_n 3, 1) := by decide +kernel
theorem dL_voice_1 : decode cL_voice 1 = .ok (.iconst 0, 1) := by decide +kernel
theorem dL_voice_2 : decode cL_voice 2 = .ok (.aload_n 0, 1) := by decide +kernel
theorem dL_voice_3 : decode cL_voice 3 = .ok (.iload_n 1, 1) := by decide +kernel
theorem dL_voice_4 : decode cL_voice 4 = .ok (.iload_n 2, 1) := by decide +kernel
theorem dL_voice_5 : decode cL_voice 5 = .ok (.invokevirtual 36, 3) := by decide +kernel
theorem dL_voice_8 : decode cL_voice 8 = .ok (.i2l, 1) := by decide +kernel
theorem dL_voice_9 : decode cL_voice 9 = .ok (.lastore, 1) := by decide +kernel
theorem dL_voice_10 : decode cL_voice 10 = .ok (.goto 7, 3) := by decide +kernel
theorem dL_voice_13 : decode cL_voice 13 = .ok (.astore 4, 2) := by decide +kernel
theorem dL_voice_15 : decode cL_voice 15 = .ok (.iconst 1, 1) := by decide +kernel
theorem dL_voice_16 : decode cL_voice 16 = .ok (.ireturn, 1) := by decide +kernel
theorem dL_voice_17 : decode cL_voice 17 = .ok (.iconst 0, 1) := by decide +kernel
theorem dL_voice_18 : decode cL_voice 18 = .ok (.ireturn, 1) := by decide +kernel
set_option maxRecDepth 20000 in
theorem ggL_count_X3_count : GoodIn wsL_count wsX3_count := goodIn_ca (goodIn_r _ [6, 7, 8, 9, 10, 11, 5, 12, 13, 14, 15, 16, 17, 18, 19, 20, 21, 22, 23, 24, 25, 26, 27, 28, 29, 30, 31, 32, 33, 34, 35, 36, 37, 38, 39, 40, 41, 42, 43, 44, 45, 46, 47, 48, 49, 50, 51, 52, 53, 54, 55, 56, 57, 58, 59, 60] (by decide +kernel) (by decide +kernel)) (goodIn_sub (fun _ h => List.mem_cons_of_mem _ (List.mem_append_right _ h)) (by decide +kernel))
set_option maxRecDepth 20000 in
theorem gL_count_X3_count : GoodIn wsL_count (wsV RL 39 RX3 yX3_count wsX3_count) := goodIn_app (goodIn_of _ (by decide +kernel)) ggL_count_X3_count
theorem dL_count_0 : decode cL_count 0 = .ok (.aload_n 2, 1) := by decide +kernel
theorem dL_count_1 : decode cL_count 1 = .ok (.iconst 0, 1) := by decide +kernel
theorem dL_count_2 : decode cL_count 2 = .ok (.aload_n 0, 1) := by decide +kernel
theorem dL_count_3 : decode cL_count 3 = .ok (.iload_n 1, 1) := by decide +kernel
theorem dL_count_4 : decode cL_count 4 = .ok (.invokevirtual 39, 3) := by decide +kernel
theorem dL_count_7 : decode cL_count 7 = .ok (.i2l, 1) := by decide +kernel
theorem dL_count_8 : decode cL_count 8 = .ok (.lastore, 1) := by decide +kernel
theorem dL_count_9 : decode cL_count 9 = .ok (.goto 6, 3) := by decide +kernel
theorem dL_count_12 : decode cL_count 12 = .ok (.astore_n 3, 1) := by decide +kernel
theorem dL_count_13 : decode cL_count 13 = .ok (.iconst 1, 1) := by decide +kernel
theorem dL_count_14 : decode cL_count 14 = .ok (.ireturn, 1) := by decide +kernel
theorem dL_count_15 : decode cL_count 15 = .ok (.iconst 0, 1) := by decide +kernel
theorem dL_count_16 : decode cL_count 16 = .ok (.ireturn, 1) := by decide +kernel
set_option maxRecDepth 20000 in
theorem ggL_reach_X3_reach : GoodIn wsL_reach wsX3_reach := goodIn_ca (goodIn_r _ [6, 7, 8, 9, 10, 11, 12, 13, 14, 15, 16, 17, 18, 19, 20, 21, 22, 23, 24, 25, 26, 27, 28, 29, 30, 31, 32, 33, 34, 35, 36, 37, 38, 39, 40, 41, 42, 43, 44, 45, 46, 47, 48] (by decide +kernel) (by decide +kernel)) (goodIn_sub (fun _ h => List.mem_cons_of_mem _ (List.mem_append_right _ h)) (by decide +kernel))
set_option maxRecDepth 20000 in
theorem gL_reach_X3_reach : GoodIn wsL_reach (wsV RL 43 RX3 yX3_reach wsX3_reach) := goodIn_app (goodIn_of _ (by decide +kernel)) ggL_reach_X3_reach
theorem dL_reach_0 : decode cL_reach 0 = .ok (.aload_n 2, 1) := by decide +kernel
theorem dL_reach_1 : decode cL_reach 1 = .ok (.iconst 0, 1) := by decide +kernel
theorem dL_reach_2 : decode cL_reach 2 = .ok (.aload_n 0, 1) := by decide +kernel
theorem dL_reach_3 : decode cL_reach 3 = .ok (.iload_n 1, 1) := by decide +kernel
theorem dL_reach_4 : decode cL_reach 4 = .ok (.invokevirtual 43, 3) := by decide +kernel
theorem dL_reach_7 : decode cL_reach 7 = .ok (.i2l, 1) := by decide +kernel
theorem dL_reach_8 : decode cL_reach 8 = .ok (.lastore, 1) := by decide +kernel
theorem dL_reach_9 : decode cL_reach 9 = .ok (.goto 6, 3) := by decide +kernel
theorem dL_reach_12 : decode cL_reach 12 = .ok (.astore_n 3, 1) := by decide +kernel
theorem dL_reach_13 : decode cL_reach 13 = .ok (.iconst 1, 1) := by decide +kernel
theorem dL_reach_14 : decode cL_reach 14 = .ok (.ireturn, 1) := by decide +kernel
theorem dL_reach_15 : decode cL_reach 15 = .ok (.iconst 0, 1) := by decide +kernel
theorem dL_reach_16 : decode cL_reach 16 = .ok (.ireturn, 1) := by decide +kernel
set_option maxRecDepth 20000 in
theorem ggL_pass_X3_pass : GoodIn wsL_pass wsX3_pass := goodIn_ca (goodIn_r _ [6, 7, 8, 9, 10, 11, 5, 12, 13, 14, 15, 16, 17, 18, 19, 20, 21, 22, 23, 24, 25, 26, 27, 28, 29, 30, 31, 32, 33, 34, 35, 36, 37, 38, 39, 40, 41, 42, 43, 44, 45, 46, 47, 48, 49, 50, 51, 52, 53, 54, 55, 56, 57, 58, 59, 60, 61, 62, 63, 64, 65, 66, 67, 68, 69, 70, 71, 72, 73, 74, 75, 76, 77, 78, 79, 80, 81, 82, 83, 84, 85, 86, 87, 88, 89, 90, 91, 92, 93, 94, 95, 96, 97, 98, 99, 100, 101, 102, 103, 104, 105, 106, 107, 108, 109, 110, 111, 112, 113, 114, 115, 116, 117, 118, 119, 120, 121, 122, 123, 124, 125, 126, 127, 128, 129, 130, 131, 132, 133, 134, 135, 136, 137, 138, 139, 140, 141, 142, 143, 144, 145, 146, 147, 148, 149, 150, 151, 152, 153, 154, 155, 156, 157, 158, 159, 160, 161] (by decide +kernel) (by decide +kernel)) (goodIn_sub (fun _ h => List.mem_cons_of_mem _ (List.mem_append_right _ h)) (by decide +kernel))
set_option maxRecDepth 20000 in
theorem gL_pass_X3_pass : GoodIn wsL_pass (wsV RL 46 RX3 yX3_pass wsX3_pass) := goodIn_app (goodIn_of _ (by decide +kernel)) ggL_pass_X3_pass
theorem dL_pass_0 : decode cL_pass 0 = .ok (.aload_n 2, 1) := by decide +kernel
theorem dL_pass_1 : decode cL_pass 1 = .ok (.iconst 0, 1) := by decide +kernel
theorem dL_pass_2 : decode cL_pass 2 = .ok (.aload_n 0, 1) := by decide +kernel
theorem dL_pass_3 : decode cL_pass 3 = .ok (.iload_n 1, 1) := by decide +kernel
theorem dL_pass_4 : decode cL_pass 4 = .ok (.invokevirtual 46, 3) := by decide +kernel
theorem dL_pass_7 : decode cL_pass 7 = .ok (.i2l, 1) := by decide +kernel
theorem dL_pass_8 : decode cL_pass 8 = .ok (.lastore, 1) := by decide +kernel
theorem dL_pass_9 : decode cL_pass 9 = .ok (.goto 6, 3) := by decide +kernel
theorem dL_pass_12 : decode cL_pass 12 = .ok (.astore_n 3, 1) := by decide +kernel
theorem dL_pass_13 : decode cL_pass 13 = .ok (.iconst 1, 1) := by decide +kernel
theorem dL_pass_14 : decode cL_pass 14 = .ok (.ireturn, 1) := by decide +kernel
theorem dL_pass_15 : decode cL_pass 15 = .ok (.iconst 0, 1) := by decide +kernel
theorem dL_pass_16 : decode cL_pass 16 = .ok (.ireturn, 1) := by decide +kernel
set_option maxRecDepth 20000 in
theorem ggL_opens_X3_opens : GoodIn wsL_opens wsX3_opens := goodIn_ca (goodIn_r _ [6, 7, 8, 9, 10, 11, 12, 13, 14, 15, 16, 17, 18, 19, 20, 21, 22, 23, 24, 25, 26, 27, 28, 29, 30, 31, 32, 33, 34, 35, 36, 37, 38, 39, 40, 41, 42, 43, 44, 45, 46, 47, 48, 49, 50, 51, 52, 53, 54, 55, 56, 57, 58, 59, 60, 61, 62, 63, 64, 65, 66, 67, 68, 69, 70, 71, 72, 73, 74, 75, 76, 77, 78, 79, 80, 81, 82, 83, 84, 85, 86, 87, 88, 89, 90, 91, 92, 93, 94, 95, 96, 97, 98, 99, 100, 101, 102, 103, 104, 105, 106, 107, 108, 109, 110, 111, 112, 113, 114, 115, 116, 117, 118, 119, 120, 121, 122, 123, 124, 125, 126, 127, 128, 129, 130, 131, 132, 133, 134, 135, 136, 137, 138, 139, 140, 141, 142, 143, 144, 145, 146, 147, 148, 149, 150, 151, 152, 153, 154, 155, 156, 157, 158, 159, 160, 161, 162, 163, 164, 165, 166, 167, 168, 169, 170, 171, 172, 173, 174, 175, 176, 177, 178, 179, 180, 181] (by decide +kernel) (by decide +kernel)) (goodIn_sub (fun _ h => List.mem_cons_of_mem _ (List.mem_append_right _ h)) (by decide +kernel))
set_option maxRecDepth 20000 in
theorem gL_opens_X3_opens : GoodIn wsL_opens (wsV RL 49 RX3 yX3_opens wsX3_opens) := goodIn_app (goodIn_of _ (by decide +kernel)) ggL_opens_X3_opens
theorem dL_opens_0 : decode cL_opens 0 = .ok (.aload_n 2, 1) := by decide +kernel
theorem dL_opens_1 : decode cL_opens 1 = .ok (.iconst 0, 1) := by decide +kernel
theorem dL_opens_2 : decode cL_opens 2 = .ok (.aload_n 0, 1) := by decide +kernel
theorem dL_opens_3 : decode cL_opens 3 = .ok (.iload_n 1, 1) := by decide +kernel
theorem dL_opens_4 : decode cL_opens 4 = .ok (.invokevirtual 49, 3) := by decide +kernel
theorem dL_opens_7 : decode cL_opens 7 = .ok (.i2l, 1) := by decide +kernel
theorem dL_opens_8 : decode cL_opens 8 = .ok (.lastore, 1) := by decide +kernel
theorem dL_opens_9 : decode cL_opens 9 = .ok (.goto 6, 3) := by decide +kernel
theorem dL_opens_12 : decode cL_opens 12 = .ok (.astore_n 3, 1) := by decide +kernel
theorem dL_opens_13 : decode cL_opens 13 = .ok (.iconst 1, 1) := by decide +kernel
theorem dL_opens_14 : decode cL_opens 14 = .ok (.ireturn, 1) := by decide +kernel
theorem dL_opens_15 : decode cL_opens 15 = .ok (.iconst 0, 1) := by decide +kernel
theorem dL_opens_16 : decode cL_opens 16 = .ok (.ireturn, 1) := by decide +kernel
set_option maxRecDepth 20000 in
theorem ggL_would_X3_would : GoodIn wsL_would wsX3_would := goodIn_ca (goodIn_ca (goodIn_r _ [7, 8, 9, 10, 11, 12, 13, 14, 15, 16, 17, 18, 19, 20, 6, 21, 22, 23, 24, 25, 26, 27, 28, 29, 30, 31, 32, 33, 34, 35, 36, 37, 38, 39, 40, 41, 42, 43, 44, 45, 46, 47, 48, 49, 50, 51, 52, 53, 54, 55, 56, 57, 58, 59, 60, 61, 62, 63, 64, 65, 66, 67, 68, 69, 70, 71, 72, 73, 74, 75, 76, 77, 78, 79, 80, 81, 82, 83, 84, 85, 86, 87, 88, 89, 90, 91, 92, 93, 94, 95, 96, 97, 98, 99, 100, 101, 102, 103, 104, 105, 106, 107, 108, 109, 110, 111, 112, 113, 114, 115, 116, 117, 118, 119, 120, 121, 122, 123, 124, 125, 126, 127, 128, 129, 130, 131, 132, 133, 134, 135, 136, 137, 138, 139, 140, 141, 142, 143, 144, 145, 146, 147, 148, 149, 150, 151, 152, 153, 154, 155, 156, 157, 158, 159, 160, 161, 162, 163, 164, 165, 166, 167, 168, 169, 170, 171, 172, 173, 174, 175, 176, 177, 178, 179, 180, 181, 182, 183, 184, 185, 186, 187, 188, 189, 190, 191, 192, 193, 194, 195, 196, 197, 198, 199, 200, 201] (by decide +kernel) (by decide +kernel)) (goodIn_sub (fun _ h => List.mem_cons_of_mem _ (List.mem_append_left _ (List.mem_append_right _ h))) (by decide +kernel))) (goodIn_sub (fun _ h => List.mem_cons_of_mem _ (List.mem_append_right _ h)) (by decide +kernel))
set_option maxRecDepth 20000 in
theorem gL_would_X3_would : GoodIn wsL_would (wsV RL 52 RX3 yX3_would wsX3_would) := goodIn_app (goodIn_of _ (by decide +kernel)) ggL_would_X3_would
theorem dL_would_0 : decode cL_would 0 = .ok (.aload_n 3, 1) := by decide +kernel
theorem dL_would_1 : decode cL_would 1 = .ok (.iconst 0, 1) := by decide +kernel
theorem dL_would_2 : decode cL_would 2 = .ok (.aload_n 0, 1) := by decide +kernel
theorem dL_would_3 : decode cL_would 3 = .ok (.iload_n 1, 1) := by decide +kernel
theorem dL_would_4 : decode cL_would 4 = .ok (.iload_n 2, 1) := by decide +kernel
theorem dL_would_5 : decode cL_would 5 = .ok (.invokevirtual 52, 3) := by decide +kernel
theorem dL_would_8 : decode cL_would 8 = .ok (.i2l, 1) := by decide +kernel
theorem dL_would_9 : decode cL_would 9 = .ok (.lastore, 1) := by decide +kernel
theorem dL_would_10 : decode cL_would 10 = .ok (.goto 11, 3) := by decide +kernel
theorem dL_would_13 : decode cL_would 13 = .ok (.astore 4, 2) := by decide +kernel
theorem dL_would_15 : decode cL_would 15 = .ok (.iconst 1, 1) := by decide +kernel
theorem dL_would_16 : decode cL_would 16 = .ok (.ireturn, 1) := by decide +kernel
theorem dL_would_17 : decode cL_would 17 = .ok (.astore 4, 2) := by decide +kernel
theorem dL_would_19 : decode cL_would 19 = .ok (.iconst 2, 1) := by decide +kernel
theorem dL_would_20 : decode cL_would 20 = .ok (.ireturn, 1) := by decide +kernel
theorem dL_would_21 : decode cL_would 21 = .ok (.iconst 0, 1) := by decide +kernel
theorem dL_would_22 : decode cL_would 22 = .ok (.ireturn, 1) := by decide +kernel
set_option maxRecDepth 20000 in
theorem ggL_best_X3_best : GoodIn wsL_best wsX3_best := goodIn_ca (goodIn_r _ [6, 7, 8, 9, 10, 11, 12, 5, 13, 14, 15, 16, 17, 18, 19, 20, 21, 22, 23, 24, 25, 26, 27, 28, 29, 30, 31, 32, 33, 34, 35, 36, 37, 38, 39, 40, 41, 42, 43, 44, 45, 46, 47, 48, 49, 50, 51, 52, 53, 54, 55, 56, 57, 58, 59, 60, 61, 62, 63, 64, 65, 66, 67, 68, 69, 70, 71, 72, 73, 74, 75, 76, 77, 78, 79, 80, 81, 82, 83, 84, 85, 86, 87, 88, 89, 90, 91, 92, 93, 94, 95, 96, 97, 98, 99, 100, 101, 102, 103, 104, 105, 106, 107, 108, 109, 110, 111, 112, 113, 114, 115, 116, 117, 118, 119, 120, 121, 122, 123, 124, 125, 126, 127, 128, 129, 130, 131, 132, 133, 134, 135, 136, 137, 138, 139, 140, 141, 142, 143, 144, 145, 146, 147, 148, 149, 150, 151, 152, 153, 154, 155, 156, 157, 158, 159, 160, 161, 162, 163, 164, 165, 166, 167, 168, 169, 170, 171, 172, 173, 174, 175, 176, 177, 178, 179, 180, 181, 182, 183, 184, 185, 186, 187, 188, 189, 190, 191, 192, 193, 194, 195, 196, 197, 198, 199, 200, 201, 202, 203, 204, 205] (by decide +kernel) (by decide +kernel)) (goodIn_sub (fun _ h => List.mem_cons_of_mem _ (List.mem_append_right _ h)) (by decide +kernel))
set_option maxRecDepth 20000 in
theorem gL_best_X3_best : GoodIn wsL_best (wsV RL 55 RX3 yX3_best wsX3_best) := goodIn_app (goodIn_of _ (by decide +kernel)) ggL_best_X3_best
theorem dL_best_0 : decode cL_best 0 = .ok (.aload_n 2, 1) := by decide +kernel
theorem dL_best_1 : decode cL_best 1 = .ok (.iconst 0, 1) := by decide +kernel
theorem dL_best_2 : decode cL_best 2 = .ok (.aload_n 0, 1) := by decide +kernel
theorem dL_best_3 : decode cL_best 3 = .ok (.iload_n 1, 1) := by decide +kernel
theorem dL_best_4 : decode cL_best 4 = .ok (.invokevirtual 55, 3) := by decide +kernel
theorem dL_best_7 : decode cL_best 7 = .ok (.i2l, 1) := by decide +kernel
theorem dL_best_8 : decode cL_best 8 = .ok (.lastore, 1) := by decide +kernel
theorem dL_best_9 : decode cL_best 9 = .ok (.goto 6, 3) := by decide +kernel
theorem dL_best_12 : decode cL_best 12 = .ok (.astore_n 3, 1) := by decide +kernel
theorem dL_best_13 : decode cL_best 13 = .ok (.iconst 1, 1) := by decide +kernel
theorem dL_best_14 : decode cL_best 14 = .ok (.ireturn, 1) := by decide +kernel
theorem dL_best_15 : decode cL_best 15 = .ok (.iconst 0, 1) := by decide +kernel
theorem dL_best_16 : decode cL_best 16 = .ok (.ireturn, 1) := by decide +kernel
set_option maxRecDepth 20000 in
theorem ggL_law_X3_init : GoodIn wsL_law wsX3_init := goodIn_r _ [9, 10, 11, 12, 13, 14, 15, 16, 17, 18, 19, 20, 21, 22, 23, 24, 25, 26, 27, 28, 29, 30, 31, 32, 33, 34, 35, 36, 37, 38, 39, 40, 41, 42, 43, 44, 45, 46, 47, 569, 570, 571, 572, 573, 559, 560, 574, 575, 576, 577, 578, 579, 580, 581, 582, 583, 584, 585, 586, 587, 588, 589, 590, 591, 592, 593, 594] (by decide +kernel) (by decide +kernel)
set_option maxRecDepth 20000 in
theorem gL_law_X3_init : GoodIn wsL_law (wsX3_init) := ggL_law_X3_init
set_option maxRecDepth 20000 in
theorem ggL_law_X4_init : GoodIn wsL_law wsX4_init := goodIn_r _ [50, 51, 11, 12, 34, 52, 53, 54, 55, 56, 57, 561, 562, 563, 564, 565, 566, 567, 568] (by decide +kernel) (by decide +kernel)
set_option maxRecDepth 20000 in
theorem gL_law_X4_init : GoodIn wsL_law (wsX4_init) := ggL_law_X4_init
set_option maxRecDepth 20000 in
theorem ggL_law_L_build : GoodIn wsL_law wsL_build := goodIn_ca (goodIn_ca (goodIn_r _ [61, 62, 63, 64, 65, 66, 2, 67, 68, 69, 70, 71, 16, 72, 73, 74, 75, 76, 77, 78, 79, 80, 81, 82, 83, 84, 15, 85, 86, 23, 87, 88, 89, 559, 560, 569, 570, 571, 572, 573, 581, 582, 583, 584, 585, 586, 587, 588, 589, 590, 591, 592, 593, 594] (by decide +kernel) (by decide +kernel)) (goodIn_sub (fun _ h => List.mem_append_left _ (List.mem_append_left _ (List.mem_append_right _ h))) (by decide +kernel))) (goodIn_sub (fun _ h => List.mem_append_left _ (List.mem_append_right _ h)) (by decide +kernel))
set_option maxRecDepth 20000 in
theorem gL_law_L_build : GoodIn wsL_law (va_wsS RL 62 yL_build wsL_build) := goodIn_app (goodIn_of _ (by decide +kernel)) ggL_law_L_build
set_option maxRecDepth 20000 in
theorem ggL_law_X4_build : GoodIn wsL_law wsX4_build := goodIn_r _ [93, 94, 95, 34, 52, 96, 97, 98, 99, 100, 101, 5, 102, 103, 104, 105, 106, 561, 562, 563, 564, 565, 566, 567, 568] (by decide +kernel) (by decide +kernel)
set_option maxRecDepth 20000 in
theorem gL_law_X4_build : GoodIn wsL_law (wsV RL 67 RX4 yX4_build wsX4_build) := goodIn_app (goodIn_of _ (by decide +kernel)) ggL_law_X4_build
set_option maxRecDepth 20000 in
theorem ggL_law_X4_thrown : GoodIn wsL_law wsX4_thrown := goodIn_r _ [110, 94, 561, 562, 563, 564, 565, 566, 567, 568] (by decide +kernel) (by decide +kernel)
set_option maxRecDepth 20000 in
theorem gL_law_X4_thrown : GoodIn wsL_law (wsV RL 68 RX4 yX4_thrown wsX4_thrown) := goodIn_app (goodIn_of _ (by decide +kernel)) ggL_law_X4_thrown
set_option maxRecDepth 20000 in
theorem ggL_law_L_ask : GoodIn wsL_law wsL_ask := goodIn_ca (goodIn_ca (goodIn_ca (goodIn_r _ [113, 114, 62, 63, 115, 116, 117, 2, 118, 119, 120, 68, 69, 70, 71, 16, 121, 122, 123, 124, 125, 126, 15, 127, 86, 73, 74, 75, 128, 129, 130, 30, 131, 132, 43, 133, 134, 135, 136, 44, 45, 559, 560, 569, 570, 571, 572, 573, 581, 582, 583, 584, 585, 586, 587, 588, 589, 590, 591, 592, 593, 594] (by decide +kernel) (by decide +kernel)) (goodIn_sub (fun _ h => List.mem_append_right _ h) (by decide +kernel))) (goodIn_sub (fun _ h => List.mem_append_left _ (List.mem_append_left _ (List.mem_append_right _ h))) (by decide +kernel))) (goodIn_sub (fun _ h => List.mem_append_left _ (List.mem_append_right _ h)) (by decide +kernel))
set_option maxRecDepth 20000 in
theorem gL_law_L_ask : GoodIn wsL_law (va_wsS RL 72 yL_ask wsL_ask) := goodIn_app (goodIn_of _ (by decide +kernel)) ggL_law_L_ask
set_option maxRecDepth 20000 in
theorem ggL_law_X4_ask : GoodIn wsL_law wsX4_ask := goodIn_r _ [140, 94, 141, 142, 143, 5, 144, 95, 100, 101, 102, 103, 104, 105, 106, 145, 146, 147, 148, 52, 149, 150, 151, 152, 153, 154, 155, 156, 53, 157, 158, 159, 160, 161, 162, 163, 164, 561, 562, 563, 564, 565, 566, 567, 568] (by decide +kernel) (by decide +kernel)
set_option maxRecDepth 20000 in
theorem gL_law_X4_ask : GoodIn wsL_law (wsV RL 74 RX4 yX4_ask wsX4_ask) := goodIn_app (goodIn_of _ (by decide +kernel)) ggL_law_X4_ask
set_option maxRecDepth 20000 in
theorem ggL_law_L_set : GoodIn wsL_law wsL_set := goodIn_ca (goodIn_ca (goodIn_r _ [167, 114, 62, 168, 169, 170, 2, 171, 119, 120, 68, 69, 16, 121, 172, 173, 124, 125, 126, 15, 127, 86, 79, 80, 81, 73, 74, 75, 76, 77, 78, 559, 560, 569, 570, 571, 572, 573, 581, 582, 583, 584, 585, 586, 587, 588, 589, 590, 591, 592, 593, 594] (by decide +kernel) (by decide +kernel)) (goodIn_sub (fun _ h => List.mem_append_right _ h) (by decide +kernel))) (goodIn_sub (fun _ h => List.mem_append_left _ (List.mem_append_left _ (List.mem_append_right _ h))) (by decide +kernel))
set_option maxRecDepth 20000 in
theorem gL_law_L_set : GoodIn wsL_law (va_wsS RL 75 yL_set wsL_set) := goodIn_app (goodIn_of _ (by decide +kernel)) ggL_law_L_set
set_option maxRecDepth 20000 in
theorem ggL_law_X4_set : GoodIn wsL_law wsX4_set := goodIn_r _ [177, 94, 141, 142, 143, 5, 144, 95, 100, 101, 102, 103, 104, 105, 106, 145, 146, 147, 148, 52, 161, 162, 163, 164, 561, 562, 563, 564, 565, 566, 567, 568] (by decide +kernel) (by decide +kernel)
set_option maxRecDepth 20000 in
theorem gL_law_X4_set : GoodIn wsL_law (wsV RL 77 RX4 yX4_set wsX4_set) := goodIn_app (goodIn_of _ (by decide +kernel)) ggL_law_X4_set
set_option maxRecDepth 20000 in
theorem ggL_law_L_whisper : GoodIn wsL_law wsL_whisper := goodIn_ca (goodIn_ca (goodIn_r _ [180, 114, 62, 181, 182, 183, 2, 184, 119, 120, 68, 69, 16, 124, 125, 126, 15, 127, 86, 73, 74, 75, 185, 186, 187, 188, 23, 189, 87, 190, 191, 192, 193, 30, 194, 195, 196, 197, 198, 199, 200, 201, 202, 27, 203, 204, 205, 206, 207, 208, 209, 210, 211, 212, 26, 213, 214, 215, 35, 36, 37, 38, 39, 559, 560, 569, 570, 571, 572, 573, 581, 582, 583, 584, 585, 586, 587, 588, 589, 590, 591, 592, 593, 594, 574, 575, 576, 577, 578, 579, 580] (by decide +kernel) (by decide +kernel)) (goodIn_sub (fun _ h => List.mem_append_right _ h) (by decide +kernel))) (goodIn_sub (fun _ h => List.mem_append_left _ (List.mem_append_left _ (List.mem_append_right _ h))) (by decide +kernel))
set_option maxRecDepth 20000 in
theorem gL_law_L_whisper : GoodIn wsL_law (va_wsS RL 78 yL_whisper wsL_whisper) := goodIn_app (goodIn_of _ (by decide +kernel)) ggL_law_L_whisper
set_option maxRecDepth 20000 in
theorem ggL_law_X4_whisper : GoodIn wsL_law wsX4_whisper := goodIn_r _ [219, 94, 141, 142, 143, 5, 144, 95, 100, 101, 102, 145, 146, 147, 148, 52, 220, 221, 222, 223, 224, 225, 226, 227, 161, 162, 163, 164, 157, 158, 159, 160, 53, 153, 154, 155, 156, 228, 229, 230, 231, 56, 55, 232, 233, 234, 235, 561, 562, 563, 564, 565, 566, 567, 568] (by decide +kernel) (by decide +kernel)
set_option maxRecDepth 20000 in
theorem gL_law_X4_whisper : GoodIn wsL_law (wsV RL 81 RX4 yX4_whisper wsX4_whisper) := goodIn_app (goodIn_of _ (by decide +kernel)) ggL_law_X4_whisper
set_option maxRecDepth 20000 in
theorem ggL_law_L_door : GoodIn wsL_law wsL_door := goodIn_ca (goodIn_r _ [238, 114, 239, 240, 241, 2, 242, 119, 120, 16, 121, 124, 125, 126, 15, 127, 86, 73, 74, 75, 243, 244, 245, 30, 246, 195, 196, 247, 132, 248, 249, 197, 250, 251, 252, 253, 45, 559, 560, 569, 570, 571, 572, 573, 581, 582, 583, 584, 585, 586, 587, 588, 589, 590, 591, 592, 593, 594] (by decide +kernel) (by decide +kernel)) (goodIn_sub (fun _ h => List.mem_append_right _ h) (by decide +kernel))
set_option maxRecDepth 20000 in
theorem gL_law_L_door : GoodIn wsL_law (va_wsS RL 82 yL_door wsL_door) := goodIn_app (goodIn_of _ (by decide +kernel)) ggL_law_L_door
set_option maxRecDepth 20000 in
theorem ggL_law_X4_door : GoodIn wsL_law wsX4_door := goodIn_r _ [257, 94, 141, 142, 143, 5, 144, 95, 100, 101, 102, 258, 259, 260, 261, 145, 146, 147, 148, 52, 262, 263, 264, 265, 153, 154, 155, 156, 53, 103, 104, 105, 106, 561, 562, 563, 564, 565, 566, 567, 568] (by decide +kernel) (by decide +kernel)
set_option maxRecDepth 20000 in
theorem gL_law_X4_door : GoodIn wsL_law (wsV RL 84 RX4 yX4_door wsX4_door) := goodIn_app (goodIn_of _ (by decide +kernel)) ggL_law_X4_door
set_option maxRecDepth 20000 in
theorem ggL_law_L_asks : GoodIn wsL_law wsL_asks := goodIn_ca (goodIn_r _ [268, 114, 269, 270, 271, 2, 272, 119, 120, 16, 121, 123, 124, 125, 126, 15, 127, 86, 73, 74, 75, 273, 274, 275, 30, 276, 132, 43, 44, 45, 559, 560, 569, 570, 571, 572, 573, 581, 582, 583, 584, 585, 586, 587, 588, 589, 590, 591, 592, 593, 594] (by decide +kernel) (by decide +kernel)) (goodIn_sub (fun _ h => List.mem_append_right _ h) (by decide +kernel))
set_option maxRecDepth 20000 in
theorem gL_law_L_asks : GoodIn wsL_law (va_wsS RL 85 yL_asks wsL_asks) := goodIn_app (goodIn_of _ (by decide +kernel)) ggL_law_L_asks
set_option maxRecDepth 20000 in
theorem ggL_law_X4_asks : GoodIn wsL_law wsX4_asks := goodIn_r _ [280, 94, 141, 142, 143, 5, 144, 95, 100, 101, 102, 145, 146, 147, 148, 52, 281, 282, 283, 284, 153, 154, 155, 156, 53, 103, 104, 105, 106, 561, 562, 563, 564, 565, 566, 567, 568] (by decide +kernel) (by decide +kernel)
set_option maxRecDepth 20000 in
theorem gL_law_X4_asks : GoodIn wsL_law (wsV RL 87 RX4 yX4_asks wsX4_asks) := goodIn_app (goodIn_of _ (by decide +kernel)) ggL_law_X4_asks
set_option maxRecDepth 20000 in
theorem ggL_law_L_voice : GoodIn wsL_law wsL_voice := goodIn_ca (goodIn_r _ [287, 114, 288, 289, 290, 2, 291, 119, 120, 16, 292, 293, 73, 74, 75, 294, 295, 296, 26, 297, 214, 35, 36, 37, 38, 559, 560, 569, 570, 571, 572, 573, 574, 575, 576, 577, 578, 579, 580] (by decide +kernel) (by decide +kernel)) (goodIn_sub (fun _ h => List.mem_append_right _ h) (by decide +kernel))
set_option maxRecDepth 20000 in
theorem gL_law_L_voice : GoodIn wsL_law (va_wsS RL 88 yL_voice wsL_voice) := goodIn_app (goodIn_of _ (by decide +kernel)) ggL_law_L_voice
set_option maxRecDepth 20000 in
theorem ggL_law_X4_voice : GoodIn wsL_law wsX4_voice := goodIn_r _ [301, 94, 56, 55, 100, 101, 5, 102, 103, 104, 105, 106, 561, 562, 563, 564, 565, 566, 567, 568] (by decide +kernel) (by decide +kernel)
set_option maxRecDepth 20000 in
theorem gL_law_X4_voice : GoodIn wsL_law (wsV RL 90 RX4 yX4_voice wsX4_voice) := goodIn_app (goodIn_of _ (by decide +kernel)) ggL_law_X4_voice
set_option maxRecDepth 20000 in
theorem ggL_law_L_count : GoodIn wsL_law wsL_count := goodIn_ca (goodIn_r _ [304, 114, 305, 306, 307, 2, 308, 119, 120, 16, 73, 74, 75, 309, 310, 311, 15, 312, 313, 86, 27, 314, 315, 316, 317, 318, 319, 23, 189, 320, 321, 322, 323, 559, 560, 569, 570, 571, 572, 573, 574, 575, 576, 577, 578, 579, 580, 581, 582, 583, 584, 585, 586, 587, 588, 589, 590, 591, 592, 593, 594] (by decide +kernel) (by decide +kernel)) (goodIn_sub (fun _ h => List.mem_append_right _ h) (by decide +kernel))
set_option maxRecDepth 20000 in
theorem gL_law_L_count : GoodIn wsL_law (va_wsS RL 91 yL_count wsL_count) := goodIn_app (goodIn_of _ (by decide +kernel)) ggL_law_L_count
set_option maxRecDepth 20000 in
theorem ggL_law_X4_count : GoodIn wsL_law wsX4_count := goodIn_r _ [327, 94, 100, 101, 5, 102, 328, 329, 330, 331, 56, 95, 145, 146, 147, 148, 52, 332, 333, 334, 335, 103, 104, 105, 106, 561, 562, 563, 564, 565, 566, 567, 568] (by decide +kernel) (by decide +kernel)
set_option maxRecDepth 20000 in
theorem gL_law_X4_count : GoodIn wsL_law (wsV RL 94 RX4 yX4_count wsX4_count) := goodIn_app (goodIn_of _ (by decide +kernel)) ggL_law_X4_count
set_option maxRecDepth 20000 in
theorem ggL_law_L_reach : GoodIn wsL_law wsL_reach := goodIn_ca (goodIn_r _ [338, 114, 339, 340, 341, 2, 342, 119, 120, 16, 124, 125, 126, 15, 127, 86, 343, 344, 345, 346, 347, 348, 349, 350, 23, 202, 203, 190, 559, 560, 569, 570, 571, 572, 573, 581, 582, 583, 584, 585, 586, 587, 588, 589, 590, 591, 592, 593, 594] (by decide +kernel) (by decide +kernel)) (goodIn_sub (fun _ h => List.mem_append_right _ h) (by decide +kernel))
set_option maxRecDepth 20000 in
theorem gL_law_L_reach : GoodIn wsL_law (va_wsS RL 95 yL_reach wsL_reach) := goodIn_app (goodIn_of _ (by decide +kernel)) ggL_law_L_reach
set_option maxRecDepth 20000 in
theorem ggL_law_X4_reach : GoodIn wsL_law wsX4_reach := goodIn_r _ [354, 94, 95, 141, 142, 143, 5, 144, 100, 101, 102, 103, 104, 105, 106, 145, 146, 147, 148, 52, 153, 154, 155, 156, 53, 561, 562, 563, 564, 565, 566, 567, 568] (by decide +kernel) (by decide +kernel)
set_option maxRecDepth 20000 in
theorem gL_law_X4_reach : GoodIn wsL_law (wsV RL 97 RX4 yX4_reach wsX4_reach) := goodIn_app (goodIn_of _ (by decide +kernel)) ggL_law_X4_reach
set_option maxRecDepth 20000 in
theorem ggL_law_L_pass : GoodIn wsL_law wsL_pass := goodIn_ca (goodIn_r _ [357, 62, 358, 359, 360, 2, 361, 68, 69, 16, 73, 74, 75, 362, 363, 364, 15, 365, 86, 23, 27, 28, 314, 366, 367, 368, 369, 189, 313, 370, 371, 372, 30, 373, 195, 196, 374, 375, 376, 26, 377, 214, 38, 35, 36, 37, 39, 378, 211, 212, 213, 215, 379, 380, 381, 382, 383, 384, 385, 386, 190, 125, 126, 127, 387, 388, 389, 390, 45, 391, 129, 130, 131, 132, 43, 210, 198, 199, 200, 201, 202, 203, 204, 205, 206, 207, 208, 209, 392, 393, 394, 395, 248, 46, 47, 396, 397, 398, 399, 400, 401, 402, 403, 404, 405, 406, 407, 250, 251, 252, 253, 408, 409, 410, 411, 412, 413, 414, 415, 247, 416, 417, 418, 419, 249, 420, 192, 193, 194, 197, 421, 422, 423, 424, 559, 560, 569, 570, 571, 572, 573, 574, 575, 576, 577, 578, 579, 580, 581, 582, 583, 584, 585, 586, 587, 588, 589, 590, 591, 592, 593, 594] (by decide +kernel) (by decide +kernel)) (goodIn_sub (fun _ h => List.mem_append_left _ (List.mem_append_left _ (List.mem_append_right _ h))) (by decide +kernel))
set_option maxRecDepth 20000 in
theorem gL_law_L_pass : GoodIn wsL_law (va_wsS RL 98 yL_pass wsL_pass) := goodIn_app (goodIn_of _ (by decide +kernel)) ggL_law_L_pass
set_option maxRecDepth 20000 in
theorem ggL_law_X4_pass : GoodIn wsL_law wsX4_pass := goodIn_r _ [428, 94, 100, 101, 5, 102, 103, 104, 105, 106, 429, 430, 431, 432, 95, 56, 145, 146, 147, 148, 52, 161, 162, 163, 164, 433, 434, 435, 436, 55, 57, 96, 97, 98, 99, 437, 438, 439, 440, 54, 149, 150, 151, 152, 153, 154, 155, 156, 53, 157, 158, 159, 160, 228, 229, 230, 231, 220, 221, 222, 223, 224, 225, 226, 227, 262, 263, 264, 265, 441, 442, 443, 444, 445, 446, 447, 448, 232, 233, 234, 235, 561, 562, 563, 564, 565, 566, 567, 568] (by decide +kernel) (by decide +kernel)
set_option maxRecDepth 20000 in
theorem gL_law_X4_pass : GoodIn wsL_law (wsV RL 100 RX4 yX4_pass wsX4_pass) := goodIn_app (goodIn_of _ (by decide +kernel)) ggL_law_X4_pass
set_option maxRecDepth 20000 in
theorem ggL_law_L_opens : GoodIn wsL_law wsL_opens := goodIn_ca (goodIn_r _ [451, 114, 452, 453, 454, 2, 455, 119, 120, 16, 121, 122, 17, 124, 125, 126, 15, 127, 86, 456, 457, 458, 459, 313, 23, 27, 460, 461, 462, 30, 463, 464, 209, 247, 195, 196, 249, 197, 132, 43, 465, 97, 98, 99, 44, 45, 248, 46, 47, 466, 467, 468, 26, 469, 214, 215, 35, 470, 36, 37, 38, 39, 362, 363, 364, 365, 28, 314, 366, 367, 368, 369, 189, 370, 371, 372, 373, 374, 375, 376, 377, 378, 211, 212, 213, 379, 380, 381, 382, 383, 384, 385, 386, 190, 387, 388, 389, 390, 391, 129, 130, 131, 210, 198, 199, 200, 201, 202, 203, 204, 205, 206, 207, 208, 392, 393, 394, 395, 396, 397, 398, 399, 400, 401, 402, 403, 404, 405, 406, 407, 250, 251, 252, 253, 408, 409, 410, 411, 412, 413, 414, 415, 416, 417, 418, 419, 420, 192, 193, 194, 421, 422, 423, 424, 559, 560, 569, 570, 571, 572, 573, 581, 582, 583, 584, 585, 586, 587, 588, 589, 590, 591, 592, 593, 594, 574, 575, 576, 577, 578, 579, 580] (by decide +kernel) (by decide +kernel)) (goodIn_sub (fun _ h => List.mem_append_right _ h) (by decide +kernel))
set_option maxRecDepth 20000 in
theorem gL_law_L_opens : GoodIn wsL_law (va_wsS RL 101 yL_opens wsL_opens) := goodIn_app (goodIn_of _ (by decide +kernel)) ggL_law_L_opens
set_option maxRecDepth 20000 in
theorem ggL_law_X4_opens : GoodIn wsL_law wsX4_opens := goodIn_r _ [474, 94, 141, 142, 143, 5, 144, 95, 100, 101, 102, 103, 104, 105, 106, 475, 476, 477, 478, 479, 52, 480, 481, 482, 483, 484, 53, 54, 55, 56, 145, 146, 147, 148, 429, 430, 431, 432, 161, 162, 163, 164, 433, 434, 435, 436, 57, 96, 97, 98, 99, 437, 438, 439, 440, 149, 150, 151, 152, 153, 154, 155, 156, 157, 158, 159, 160, 228, 229, 230, 231, 220, 221, 222, 223, 224, 225, 226, 227, 262, 263, 264, 265, 441, 442, 443, 444, 445, 446, 447, 448, 232, 233, 234, 235, 485, 486, 487, 488, 489, 490, 491, 492, 561, 562, 563, 564, 565, 566, 567, 568] (by decide +kernel) (by decide +kernel)
set_option maxRecDepth 20000 in
theorem gL_law_X4_opens : GoodIn wsL_law (wsV RL 103 RX4 yX4_opens wsX4_opens) := goodIn_app (goodIn_of _ (by decide +kernel)) ggL_law_X4_opens
set_option maxRecDepth 20000 in
theorem ggL_law_L_would : GoodIn wsL_law wsL_would := goodIn_ca (goodIn_ca (goodIn_r _ [495, 114, 62, 496, 497, 498, 2, 499, 119, 120, 68, 69, 16, 124, 125, 126, 15, 127, 86, 73, 74, 75, 500, 501, 502, 503, 17, 121, 504, 456, 457, 458, 459, 313, 23, 27, 460, 461, 462, 30, 463, 464, 209, 247, 195, 196, 249, 197, 132, 43, 465, 97, 98, 99, 44, 45, 248, 46, 47, 466, 467, 468, 26, 469, 214, 215, 35, 470, 36, 37, 38, 39, 185, 186, 187, 188, 189, 87, 190, 191, 192, 193, 194, 198, 199, 200, 201, 202, 203, 204, 205, 206, 207, 208, 210, 211, 212, 213, 362, 363, 364, 365, 28, 314, 366, 367, 368, 369, 370, 371, 372, 373, 374, 375, 376, 377, 378, 379, 380, 381, 382, 383, 384, 385, 386, 387, 388, 389, 390, 391, 129, 130, 131, 392, 393, 394, 395, 396, 397, 398, 399, 400, 401, 402, 403, 404, 405, 406, 407, 250, 251, 252, 253, 408, 409, 410, 411, 412, 413, 414, 415, 416, 417, 418, 419, 420, 421, 422, 423, 424, 505, 321, 322, 323, 559, 560, 569, 570, 571, 572, 573, 581, 582, 583, 584, 585, 586, 587, 588, 589, 590, 591, 592, 593, 594, 574, 575, 576, 577, 578, 579, 580] (by decide +kernel) (by decide +kernel)) (goodIn_sub (fun _ h => List.mem_append_right _ h) (by decide +kernel))) (goodIn_sub (fun _ h => List.mem_append_left _ (List.mem_append_left _ (List.mem_append_right _ h))) (by decide +kernel))
set_option maxRecDepth 20000 in
theorem gL_law_L_would : GoodIn wsL_law (va_wsS RL 104 yL_would wsL_would) := goodIn_app (goodIn_of _ (by decide +kernel)) ggL_law_L_would
set_option maxRecDepth 20000 in
theorem ggL_law_X4_would : GoodIn wsL_law wsX4_would := goodIn_r _ [509, 94, 141, 142, 143, 5, 144, 95, 100, 101, 102, 103, 104, 105, 106, 510, 511, 512, 513, 475, 476, 477, 478, 479, 52, 480, 481, 482, 483, 484, 53, 54, 55, 56, 145, 146, 147, 148, 514, 217, 218, 219, 220, 221, 222, 223, 224, 225, 226, 227, 161, 162, 163, 164, 157, 158, 159, 160, 153, 154, 155, 156, 228, 229, 230, 231, 232, 233, 234, 235, 429, 430, 431, 432, 433, 434, 435, 436, 57, 96, 97, 98, 99, 437, 438, 439, 440, 149, 150, 151, 152, 262, 263, 264, 265, 441, 442, 443, 444, 445, 446, 447, 448, 332, 333, 334, 335, 485, 486, 487, 488, 489, 490, 491, 492, 561, 562, 563, 564, 565, 566, 567, 568] (by decide +kernel) (by decide +kernel)
set_option maxRecDepth 20000 in
theorem gL_law_X4_would : GoodIn wsL_law (wsV RL 106 RX4 yX4_would wsX4_would) := goodIn_app (goodIn_of _ (by decide +kernel)) ggL_law_X4_would
set_option maxRecDepth 20000 in
theorem ggL_law_L_best : GoodIn wsL_law wsL_best := goodIn_ca (goodIn_r _ [517, 62, 518, 519, 520, 2, 521, 68, 69, 16, 72, 73, 74, 75, 500, 501, 502, 503, 17, 121, 504, 456, 457, 458, 15, 459, 313, 86, 23, 27, 460, 461, 462, 30, 463, 464, 209, 247, 195, 196, 249, 197, 132, 43, 465, 97, 98, 99, 44, 45, 248, 46, 47, 466, 467, 468, 26, 469, 214, 215, 35, 470, 36, 37, 38, 39, 185, 186, 187, 188, 189, 87, 190, 125, 126, 127, 191, 192, 193, 194, 198, 199, 200, 201, 202, 203, 204, 205, 206, 207, 208, 210, 211, 212, 213, 362, 363, 364, 365, 28, 314, 366, 367, 368, 369, 370, 371, 372, 373, 374, 375, 376, 377, 378, 379, 380, 381, 382, 383, 384, 385, 386, 387, 388, 389, 390, 391, 129, 130, 131, 392, 393, 394, 395, 396, 397, 398, 399, 400, 401, 402, 403, 404, 405, 406, 407, 250, 251, 252, 253, 408, 409, 410, 411, 412, 413, 414, 415, 416, 417, 418, 419, 420, 421, 422, 423, 424, 505, 321, 322, 323, 522, 523, 524, 525, 526, 527, 528, 559, 560, 569, 570, 571, 572, 573, 581, 582, 583, 584, 585, 586, 587, 588, 589, 590, 591, 592, 593, 594, 574, 575, 576, 577, 578, 579, 580] (by decide +kernel) (by decide +kernel)) (goodIn_sub (fun _ h => List.mem_append_left _ (List.mem_append_left _ (List.mem_append_right _ h))) (by decide +kernel))
set_option maxRecDepth 20000 in
theorem gL_law_L_best : GoodIn wsL_law (va_wsS RL 107 yL_best wsL_best) := goodIn_app (goodIn_of _ (by decide +kernel)) ggL_law_L_best
set_option maxRecDepth 20000 in
theorem ggL_law_X4_best : GoodIn wsL_law wsX4_best := goodIn_r _ [532, 94, 95, 100, 101, 5, 102, 103, 104, 105, 106, 510, 511, 512, 513, 475, 476, 477, 478, 479, 52, 480, 481, 482, 483, 484, 53, 54, 55, 56, 145, 146, 147, 148, 514, 217, 218, 219, 141, 142, 143, 144, 220, 221, 222, 223, 224, 225, 226, 227, 161, 162, 163, 164, 157, 158, 159, 160, 153, 154, 155, 156, 228, 229, 230, 231, 232, 233, 234, 235, 429, 430, 431, 432, 433, 434, 435, 436, 57, 96, 97, 98, 99, 437, 438, 439, 440, 149, 150, 151, 152, 262, 263, 264, 265, 441, 442, 443, 444, 445, 446, 447, 448, 332, 333, 334, 335, 485, 486, 487, 488, 489, 490, 491, 492, 533, 523, 524, 525, 526, 527, 528, 561, 562, 563, 564, 565, 566, 567, 568] (by decide +kernel) (by decide +kernel)
set_option maxRecDepth 20000 in
theorem gL_law_X4_best : GoodIn wsL_law (wsV RL 109 RX4 yX4_best wsX4_best) := goodIn_app (goodIn_of _ (by decide +kernel)) ggL_law_X4_best
set_option maxRecDepth 20000 in
theorem ggL_law_X3_mean : GoodIn wsL_law wsX3_mean := goodIn_r _ [537, 16, 72, 121, 538, 539, 559, 560, 569, 570, 571, 572, 573, 581, 582, 583, 584, 585, 586, 587, 588, 589, 590, 591, 592, 593, 594] (by decide +kernel) (by decide +kernel)
set_option maxRecDepth 20000 in
theorem gL_law_X3_mean : GoodIn wsL_law (wsV RL 110 RX3 yX3_mean wsX3_mean) := goodIn_app (goodIn_of _ (by decide +kernel)) ggL_law_X3_mean
set_option maxRecDepth 20000 in
theorem ggL_law_X4_mean : GoodIn wsL_law wsX4_mean := goodIn_r _ [543, 94, 95, 145, 146, 147, 5, 148, 52, 561, 562, 563, 564, 565, 566, 567, 568] (by decide +kernel) (by decide +kernel)
set_option maxRecDepth 20000 in
theorem gL_law_X4_mean : GoodIn wsL_law (wsV RL 114 RX4 yX4_mean wsX4_mean) := goodIn_app (goodIn_of _ (by decide +kernel)) ggL_law_X4_mean
set_option maxRecDepth 20000 in
theorem ggL_law_X3_digest : GoodIn wsL_law wsX3_digest := goodIn_r _ [547, 548, 549, 16, 72, 121, 292, 293, 309, 310, 311, 15, 312, 313, 86, 27, 314, 315, 316, 317, 318, 319, 23, 189, 320, 321, 322, 323, 550, 551, 2, 552, 123, 243, 244, 245, 30, 246, 195, 196, 247, 132, 248, 249, 197, 250, 251, 252, 253, 45, 273, 274, 275, 276, 43, 44, 74, 75, 294, 295, 296, 26, 297, 214, 35, 36, 37, 38, 559, 560, 569, 570, 571, 572, 573, 574, 575, 576, 577, 578, 579, 580, 581, 582, 583, 584, 585, 586, 587, 588, 589, 590, 591, 592, 593, 594] (by decide +kernel) (by decide +kernel)
set_option maxRecDepth 20000 in
theorem gL_law_X3_digest : GoodIn wsL_law (wsV RL 115 RX3 yX3_digest wsX3_digest) := goodIn_app (goodIn_of _ (by decide +kernel)) ggL_law_X3_digest
set_option maxRecDepth 20000 in
theorem ggL_law_X4_digest : GoodIn wsL_law wsX4_digest := goodIn_r _ [556, 94, 557, 558, 95, 56, 55, 328, 329, 330, 5, 331, 145, 146, 147, 148, 52, 332, 333, 334, 335, 258, 259, 260, 261, 262, 263, 264, 265, 153, 154, 155, 156, 53, 281, 282, 283, 284, 561, 562, 563, 564, 565, 566, 567, 568] (by decide +kernel) (by decide +kernel)
set_option maxRecDepth 20000 in
theorem gL_law_X4_digest : GoodIn wsL_law (wsV RL 119 RX4 yX4_digest wsX4_digest) := goodIn_app (goodIn_of _ (by decide +kernel)) ggL_law_X4_digest
theorem dL_law_0 : decode cL_law 0 = .ok (.new 8, 3) := by decide +kernel
theorem dL_law_3 : decode cL_law 3 = .ok (.dup, 1) := by decide +kernel
theorem dL_law_4 : decode cL_law 4 = .ok (.invokespecial 58, 3) := by decide +kernel
theorem dL_law_7 : decode cL_law 7 = .ok (.astore_n 1, 1) := by decide +kernel
theorem dL_law_8 : decode cL_law 8 = .ok (.new 59, 3) := by decide +kernel
theorem dL_law_11 : decode cL_law 11 = .ok (.dup, 1) := by decide +kernel
theorem dL_law_12 : decode cL_law 12 = .ok (.invokespecial 61, 3) := by decide +kernel
theorem dL_law_15 : decode cL_law 15 = .ok (.astore_n 2, 1) := by decide +kernel
theorem dL_law_16 : decode cL_law 16 = .ok (.iconst 1, 1) := by decide +kernel
theorem dL_law_17 : decode cL_law 17 = .ok (.newarray .long, 2) := by decide +kernel
theorem dL_law_19 : decode cL_law 19 = .ok (.astore_n 3, 1) := by decide +kernel
theorem dL_law_20 : decode cL_law 20 = .ok (.iconst 0, 1) := by decide +kernel
theorem dL_law_21 : decode cL_law 21 = .ok (.istore 4, 2) := by decide +kernel
theorem dL_law_23 : decode cL_law 23 = .ok (.iload 4, 2) := by decide +kernel
theorem dL_law_25 : decode cL_law 25 = .ok (.aload_n 0, 1) := by decide +kernel
theorem dL_law_26 : decode cL_law 26 = .ok (.arraylength, 1) := by decide +kernel
theorem dL_law_27 : decode cL_law 27 = .ok (.iconst 4, 1) := by decide +kernel
theorem dL_law_28 : decode cL_law 28 = .ok (.isub, 1) := by decide +kernel
theorem dL_law_29 : decode cL_law 29 = .ok (.if_icmp .gt 1023, 3) := by decide +kernel
theorem dL_law_32 : decode cL_law 32 = .ok (.aload_n 0, 1) := by decide +kernel
theorem dL_law_33 : decode cL_law 33 = .ok (.iload 4, 2) := by decide +kernel
theorem dL_law_35 : decode cL_law 35 = .ok (.iaload, 1) := by decide +kernel
theorem dL_law_36 : decode cL_law 36 = .ok (.bipush 15, 2) := by decide +kernel
theorem dL_law_38 : decode cL_law 38 = .ok (.iand, 1) := by decide +kernel
theorem dL_law_39 : decode cL_law 39 = .ok (.tableswitch 1007 0 14 #[73, 153, 233, 313, 388, 456, 536, 604, 660, 716, 772, 828, 896, 952, 993], 73) := by decide +kernel
theorem dL_law_112 : decode cL_law 112 = .ok (.aload_n 1, 1) := by decide +kernel
theorem dL_law_113 : decode cL_law 113 = .ok (.aload_n 0, 1) := by decide +kernel
theorem dL_law_114 : decode cL_law 114 = .ok (.iload 4, 2) := by decide +kernel
theorem dL_law_116 : decode cL_law 116 = .ok (.iconst 1, 1) := by decide +kernel
theorem dL_law_117 : decode cL_law 117 = .ok (.iadd, 1) := by decide +kernel
theorem dL_law_118 : decode cL_law 118 = .ok (.iaload, 1) := by decide +kernel
theorem dL_law_119 : decode cL_law 119 = .ok (.aload_n 0, 1) := by decide +kernel
theorem dL_law_120 : decode cL_law 120 = .ok (.iload 4, 2) := by decide +kernel
theorem dL_law_122 : decode cL_law 122 = .ok (.iconst 2, 1) := by decide +kernel
theorem dL_law_123 : decode cL_law 123 = .ok (.iadd, 1) := by decide +kernel
theorem dL_law_124 : decode cL_law 124 = .ok (.iaload, 1) := by decide +kernel
theorem dL_law_125 : decode cL_law 125 = .ok (.aload_n 0, 1) := by decide +kernel
theorem dL_law_126 : decode cL_law 126 = .ok (.iload 4, 2) := by decide +kernel
theorem dL_law_128 : decode cL_law 128 = .ok (.iconst 3, 1) := by decide +kernel
theorem dL_law_129 : decode cL_law 129 = .ok (.iadd, 1) := by decide +kernel
theorem dL_law_130 : decode cL_law 130 = .ok (.iaload, 1) := by decide +kernel
theorem dL_law_131 : decode cL_law 131 = .ok (.aload_n 3, 1) := by decide +kernel
theorem dL_law_132 : decode cL_law 132 = .ok (.invokestatic 62, 3) := by decide +kernel
theorem dL_law_135 : decode cL_law 135 = .ok (.istore 5, 2) := by decide +kernel
theorem dL_law_137 : decode cL_law 137 = .ok (.aload_n 2, 1) := by decide +kernel
theorem dL_law_138 : decode cL_law 138 = .ok (.aload_n 0, 1) := by decide +kernel
theorem dL_law_139 : decode cL_law 139 = .ok (.iload 4, 2) := by decide +kernel
theorem dL_law_141 : decode cL_law 141 = .ok (.iconst 1, 1) := by decide +kernel
theorem dL_law_142 : decode cL_law 142 = .ok (.iadd, 1) := by decide +kernel
theorem dL_law_143 : decode cL_law 143 = .ok (.iaload, 1) := by decide +kernel
theorem dL_law_144 : decode cL_law 144 = .ok (.aload_n 0, 1) := by decide +kernel
theorem dL_law_145 : decode cL_law 145 = .ok (.iload 4, 2) := by decide +kernel
theorem dL_law_147 : decode cL_law 147 = .ok (.iconst 2, 1) := by decide +kernel
theorem dL_law_148 : decode cL_law 148 = .ok (.iadd, 1) := by decide +kernel
theorem dL_law_149 : decode cL_law 149 = .ok (.iaload, 1) := by decide +kernel
theorem dL_law_150 : decode cL_law 150 = .ok (.aload_n 0, 1) := by decide +kernel
theorem dL_law_151 : decode cL_law 151 = .ok (.iload 4, 2) := by decide +kernel
theorem dL_law_153 : decode cL_law 153 = .ok (.iconst 3, 1) := by decide +kernel
theorem dL_law_154 : decode cL_law 154 = .ok (.iadd, 1) := by decide +kernel
theorem dL_law_155 : decode cL_law 155 = .ok (.iaload, 1) := by decide +kernel
theorem dL_law_156 : decode cL_law 156 = .ok (.invokevirtual 67, 3) := by decide +kernel
theorem dL_law_159 : decode cL_law 159 = .ok (.istore 6, 2) := by decide +kernel
theorem dL_law_161 : decode cL_law 161 = .ok (.aload_n 2, 1) := by decide +kernel
theorem dL_law_162 : decode cL_law 162 = .ok (.invokevirtual 68, 3) := by decide +kernel
theorem dL_law_165 : decode cL_law 165 = .ok (.iload 5, 2) := by decide +kernel
theorem dL_law_167 : decode cL_law 167 = .ok (.if_icmp .eq 5, 3) := by decide +kernel
theorem dL_law_170 : decode cL_law 170 = .ok (.iconst 0, 1) := by decide +kernel
theorem dL_law_171 : decode cL_law 171 = .ok (.ireturn, 1) := by decide +kernel
theorem dL_law_172 : decode cL_law 172 = .ok (.iload 5, 2) := by decide +kernel
theorem dL_law_174 : decode cL_law 174 = .ok (.ifCond .ne 15, 3) := by decide +kernel
theorem dL_law_177 : decode cL_law 177 = .ok (.aload_n 3, 1) := by decide +kernel
theorem dL_law_178 : decode cL_law 178 = .ok (.iconst 0, 1) := by decide +kernel
theorem dL_law_179 : decode cL_law 179 = .ok (.laload, 1) := by decide +kernel
theorem dL_law_180 : decode cL_law 180 = .ok (.iload 6, 2) := by decide +kernel
theorem dL_law_182 : decode cL_law 182 = .ok (.i2l, 1) := by decide +kernel
theorem dL_law_183 : decode cL_law 183 = .ok (.lcmp, 1) := by decide +kernel
theorem dL_law_184 : decode cL_law 184 = .ok (.ifCond .eq 5, 3) := by decide +kernel
theorem dL_law_187 : decode cL_law 187 = .ok (.iconst 0, 1) := by decide +kernel
theorem dL_law_188 : decode cL_law 188 = .ok (.ireturn, 1) := by decide +kernel
theorem dL_law_189 : decode cL_law 189 = .ok (.goto 857, 3) := by decide +kernel
theorem dL_law_192 : decode cL_law 192 = .ok (.aload_n 1, 1) := by decide +kernel
theorem dL_law_193 : decode cL_law 193 = .ok (.aload_n 0, 1) := by decide +kernel
theorem dL_law_194 : decode cL_law 194 = .ok (.iload 4, 2) := by decide +kernel
theorem dL_law_196 : decode cL_law 196 = .ok (.iconst 1, 1) := by decide +kernel
theorem dL_law_197 : decode cL_law 197 = .ok (.iadd, 1) := by decide +kernel
theorem dL_law_198 : decode cL_law 198 = .ok (.iaload, 1) := by decide +kernel
theorem dL_law_199 : decode cL_law 199 = .ok (.aload_n 0, 1) := by decide +kernel
theorem dL_law_200 : decode cL_law 200 = .ok (.iload 4, 2) := by decide +kernel
theorem dL_law_202 : decode cL_law 202 = .ok (.iconst 2, 1) := by decide +kernel
theorem dL_law_203 : decode cL_law 203 = .ok (.iadd, 1) := by decide +kernel
theorem dL_law_204 : decode cL_law 204 = .ok (.iaload, 1) := by decide +kernel
theorem dL_law_205 : decode cL_law 205 = .ok (.aload_n 0, 1) := by decide +kernel
theorem dL_law_206 : decode cL_law 206 = .ok (.iload 4, 2) := by decide +kernel
theorem dL_law_208 : decode cL_law 208 = .ok (.iconst 3, 1) := by decide +kernel
theorem dL_law_209 : decode cL_law 209 = .ok (.iadd, 1) := by decide +kernel
theorem dL_law_210 : decode cL_law 210 = .ok (.iaload, 1) := by decide +kernel
theorem dL_law_211 : decode cL_law 211 = .ok (.aload_n 3, 1) := by decide +kernel
theorem dL_law_212 : decode cL_law 212 = .ok (.invokestatic 72, 3) := by decide +kernel
theorem dL_law_215 : decode cL_law 215 = .ok (.istore 5, 2) := by decide +kernel
theorem dL_law_217 : decode cL_law 217 = .ok (.aload_n 2, 1) := by decide +kernel
theorem dL_law_218 : decode cL_law 218 = .ok (.aload_n 0, 1) := by decide +kernel
theorem dL_law_219 : decode cL_law 219 = .ok (.iload 4, 2) := by decide +kernel
theorem dL_law_221 : decode cL_law 221 = .ok (.iconst 1, 1) := by decide +kernel
theorem dL_law_222 : decode cL_law 222 = .ok (.iadd, 1) := by decide +kernel
theorem dL_law_223 : decode cL_law 223 = .ok (.iaload, 1) := by decide +kernel
theorem dL_law_224 : decode cL_law 224 = .ok (.aload_n 0, 1) := by decide +kernel
theorem dL_law_225 : decode cL_law 225 = .ok (.iload 4, 2) := by decide +kernel
theorem dL_law_227 : decode cL_law 227 = .ok (.iconst 2, 1) := by decide +kernel
theorem dL_law_228 : decode cL_law 228 = .ok (.iadd, 1) := by decide +kernel
theorem dL_law_229 : decode cL_law 229 = .ok (.iaload, 1) := by decide +kernel
theorem dL_law_230 : decode cL_law 230 = .ok (.aload_n 0, 1) := by decide +kernel
theorem dL_law_231 : decode cL_law 231 = .ok (.iload 4, 2) := by decide +kernel
theorem dL_law_233 : decode cL_law 233 = .ok (.iconst 3, 1) := by decide +kernel
theorem dL_law_234 : decode cL_law 234 = .ok (.iadd, 1) := by decide +kernel
theorem dL_law_235 : decode cL_law 235 = .ok (.iaload, 1) := by decide +kernel
theorem dL_law_236 : decode cL_law 236 = .ok (.invokevirtual 74, 3) := by decide +kernel
theorem dL_law_239 : decode cL_law 239 = .ok (.istore 6, 2) := by decide +kernel
theorem dL_law_241 : decode cL_law 241 = .ok (.aload_n 2, 1) := by decide +kernel
theorem dL_law_242 : decode cL_law 242 = .ok (.invokevirtual 68, 3) := by decide +kernel
theorem dL_law_245 : decode cL_law 245 = .ok (.iload 5, 2) := by decide +kernel
theorem dL_law_247 : decode cL_law 247 = .ok (.if_icmp .eq 5, 3) := by decide +kernel
theorem dL_law_250 : decode cL_law 250 = .ok (.iconst 0, 1) := by decide +kernel
theorem dL_law_251 : decode cL_law 251 = .ok (.ireturn, 1) := by decide +kernel
theorem dL_law_252 : decode cL_law 252 = .ok (.iload 5, 2) := by decide +kernel
theorem dL_law_254 : decode cL_law 254 = .ok (.ifCond .ne 15, 3) := by decide +kernel
theorem dL_law_257 : decode cL_law 257 = .ok (.aload_n 3, 1) := by decide +kernel
theorem dL_law_258 : decode cL_law 258 = .ok (.iconst 0, 1) := by decide +kernel
theorem dL_law_259 : decode cL_law 259 = .ok (.laload, 1) := by decide +kernel
theorem dL_law_260 : decode cL_law 260 = .ok (.iload 6, 2) := by decide +kernel
theorem dL_law_262 : decode cL_law 262 = .ok (.i2l, 1) := by decide +kernel
theorem dL_law_263 : decode cL_law 263 = .ok (.lcmp, 1) := by decide +kernel
theorem dL_law_264 : decode cL_law 264 = .ok (.ifCond .eq 5, 3) := by decide +kernel
theorem dL_law_267 : decode cL_law 267 = .ok (.iconst 0, 1) := by decide +kernel
theorem dL_law_268 : decode cL_law 268 = .ok (.ireturn, 1) := by decide +kernel
theorem dL_law_269 : decode cL_law 269 = .ok (.goto 777, 3) := by decide +kernel
theorem dL_law_272 : decode cL_law 272 = .ok (.aload_n 1, 1) := by decide +kernel
theorem dL_law_273 : decode cL_law 273 = .ok (.aload_n 0, 1) := by decide +kernel
theorem dL_law_274 : decode cL_law 274 = .ok (.iload 4, 2) := by decide +kernel
theorem dL_law_276 : decode cL_law 276 = .ok (.iconst 1, 1) := by decide +kernel
theorem dL_law_277 : decode cL_law 277 = .ok (.iadd, 1) := by decide +kernel
theorem dL_law_278 : decode cL_law 278 = .ok (.iaload, 1) := by decide +kernel
theorem dL_law_279 : decode cL_law 279 = .ok (.aload_n 0, 1) := by decide +kernel
theorem dL_law_280 : decode cL_law 280 = .ok (.iload 4, 2) := by decide +kernel
theorem dL_law_282 : decode cL_law 282 = .ok (.iconst 2, 1) := by decide +kernel
theorem dL_law_283 : decode cL_law 283 = .ok (.iadd, 1) := by decide +kernel
theorem dL_law_284 : decode cL_law 284 = .ok (.iaload, 1) := by decide +kernel
theorem dL_law_285 : decode cL_law 285 = .ok (.aload_n 0, 1) := by decide +kernel
theorem dL_law_286 : decode cL_law 286 = .ok (.iload 4, 2) := by decide +kernel
theorem dL_law_288 : decode cL_law 288 = .ok (.iconst 3, 1) := by decide +kernel
theorem dL_law_289 : decode cL_law 289 = .ok (.iadd, 1) := by decide +kernel
theorem dL_law_290 : decode cL_law 290 = .ok (.iaload, 1) := by decide +kernel
theorem dL_law_291 : decode cL_law 291 = .ok (.aload_n 3, 1) := by decide +kernel
theorem dL_law_292 : decode cL_law 292 = .ok (.invokestatic 75, 3) := by decide +kernel
theorem dL_law_295 : decode cL_law 295 = .ok (.istore 5, 2) := by decide +kernel
theorem dL_law_297 : decode cL_law 297 = .ok (.aload_n 2, 1) := by decide +kernel
theorem dL_law_298 : decode cL_law 298 = .ok (.aload_n 0, 1) := by decide +kernel
theorem dL_law_299 : decode cL_law 299 = .ok (.iload 4, 2) := by decide +kernel
theorem dL_law_301 : decode cL_law 301 = .ok (.iconst 1, 1) := by decide +kernel
theorem dL_law_302 : decode cL_law 302 = .ok (.iadd, 1) := by decide +kernel
theorem dL_law_303 : decode cL_law 303 = .ok (.iaload, 1) := by decide +kernel
theorem dL_law_304 : decode cL_law 304 = .ok (.aload_n 0, 1) := by decide +kernel
theorem dL_law_305 : decode cL_law 305 = .ok (.iload 4, 2) := by decide +kernel
theorem dL_law_307 : decode cL_law 307 = .ok (.iconst 2, 1) := by decide +kernel
theorem dL_law_308 : decode cL_law 308 = .ok (.iadd, 1) := by decide +kernel
theorem dL_law_309 : decode cL_law 309 = .ok (.iaload, 1) := by decide +kernel
theorem dL_law_310 : decode cL_law 310 = .ok (.aload_n 0, 1) := by decide +kernel
theorem dL_law_311 : decode cL_law 311 = .ok (.iload 4, 2) := by decide +kernel
theorem dL_law_313 : decode cL_law 313 = .ok (.iconst 3, 1) := by decide +kernel
theorem dL_law_314 : decode cL_law 314 = .ok (.iadd, 1) := by decide +kernel
theorem dL_law_315 : decode cL_law 315 = .ok (.iaload, 1) := by decide +kernel
theorem dL_law_316 : decode cL_law 316 = .ok (.invokevirtual 77, 3) := by decide +kernel
theorem dL_law_319 : decode cL_law 319 = .ok (.istore 6, 2) := by decide +kernel
theorem dL_law_321 : decode cL_law 321 = .ok (.aload_n 2, 1) := by decide +kernel
theorem dL_law_322 : decode cL_law 322 = .ok (.invokevirtual 68, 3) := by decide +kernel
theorem dL_law_325 : decode cL_law 325 = .ok (.iload 5, 2) := by decide +kernel
theorem dL_law_327 : decode cL_law 327 = .ok (.if_icmp .eq 5, 3) := by decide +kernel
theorem dL_law_330 : decode cL_law 330 = .ok (.iconst 0, 1) := by decide +kernel
theorem dL_law_331 : decode cL_law 331 = .ok (.ireturn, 1) := by decide +kernel
theorem dL_law_332 : decode cL_law 332 = .ok (.iload 5, 2) := by decide +kernel
theorem dL_law_334 : decode cL_law 334 = .ok (.ifCond .ne 15, 3) := by decide +kernel
theorem dL_law_337 : decode cL_law 337 = .ok (.aload_n 3, 1) := by decide +kernel
theorem dL_law_338 : decode cL_law 338 = .ok (.iconst 0, 1) := by decide +kernel
theorem dL_law_339 : decode cL_law 339 = .ok (.laload, 1) := by decide +kernel
theorem dL_law_340 : decode cL_law 340 = .ok (.iload 6, 2) := by decide +kernel
theorem dL_law_342 : decode cL_law 342 = .ok (.i2l, 1) := by decide +kernel
theorem dL_law_343 : decode cL_law 343 = .ok (.lcmp, 1) := by decide +kernel
theorem dL_law_344 : decode cL_law 344 = .ok (.ifCond .eq 5, 3) := by decide +kernel
theorem dL_law_347 : decode cL_law 347 = .ok (.iconst 0, 1) := by decide +kernel
theorem dL_law_348 : decode cL_law 348 = .ok (.ireturn, 1) := by decide +kernel
theorem dL_law_349 : decode cL_law 349 = .ok (.goto 697, 3) := by decide +kernel
theorem dL_law_352 : decode cL_law 352 = .ok (.aload_n 1, 1) := by decide +kernel
theorem dL_law_353 : decode cL_law 353 = .ok (.aload_n 0, 1) := by decide +kernel
theorem dL_law_354 : decode cL_law 354 = .ok (.iload 4, 2) := by decide +kernel
theorem dL_law_356 : decode cL_law 356 = .ok (.iconst 1, 1) := by decide +kernel
theorem dL_law_357 : decode cL_law 357 = .ok (.iadd, 1) := by decide +kernel
theorem dL_law_358 : decode cL_law 358 = .ok (.iaload, 1) := by decide +kernel
theorem dL_law_359 : decode cL_law 359 = .ok (.aload_n 0, 1) := by decide +kernel
theorem dL_law_360 : decode cL_law 360 = .ok (.iload 4, 2) := by decide +kernel
theorem dL_law_362 : decode cL_law 362 = .ok (.iconst 2, 1) := by decide +kernel
theorem dL_law_363 : decode cL_law 363 = .ok (.iadd, 1) := by decide +kernel
theorem dL_law_364 : decode cL_law 364 = .ok (.iaload, 1) := by decide +kernel
theorem dL_law_365 : decode cL_law 365 = .ok (.aload_n 3, 1) := by decide +kernel
theorem dL_law_366 : decode cL_law 366 = .ok (.invokestatic 78, 3) := by decide +kernel
theorem dL_law_369 : decode cL_law 369 = .ok (.istore 5, 2) := by decide +kernel
theorem dL_law_371 : decode cL_law 371 = .ok (.aload_n 2, 1) := by decide +kernel
theorem dL_law_372 : decode cL_law 372 = .ok (.aload_n 0, 1) := by decide +kernel
theorem dL_law_373 : decode cL_law 373 = .ok (.iload 4, 2) := by decide +kernel
theorem dL_law_375 : decode cL_law 375 = .ok (.iconst 1, 1) := by decide +kernel
theorem dL_law_376 : decode cL_law 376 = .ok (.iadd, 1) := by decide +kernel
theorem dL_law_377 : decode cL_law 377 = .ok (.iaload, 1) := by decide +kernel
theorem dL_law_378 : decode cL_law 378 = .ok (.aload_n 0, 1) := by decide +kernel
theorem dL_law_379 : decode cL_law 379 = .ok (.iload 4, 2) := by decide +kernel
theorem dL_law_381 : decode cL_law 381 = .ok (.iconst 2, 1) := by decide +kernel
theorem dL_law_382 : decode cL_law 382 = .ok (.iadd, 1) := by decide +kernel
theorem dL_law_383 : decode cL_law 383 = .ok (.iaload, 1) := by decide +kernel
theorem dL_law_384 : decode cL_law 384 = .ok (.invokevirtual 81, 3) := by decide +kernel
theorem dL_law_387 : decode cL_law 387 = .ok (.istore 6, 2) := by decide +kernel
theorem dL_law_389 : decode cL_law 389 = .ok (.aload_n 2, 1) := by decide +kernel
theorem dL_law_390 : decode cL_law 390 = .ok (.invokevirtual 68, 3) := by decide +kernel
theorem dL_law_393 : decode cL_law 393 = .ok (.iload 5, 2) := by decide +kernel
theorem dL_law_395 : decode cL_law 395 = .ok (.if_icmp .eq 5, 3) := by decide +kernel
theorem dL_law_398 : decode cL_law 398 = .ok (.iconst 0, 1) := by decide +kernel
theorem dL_law_399 : decode cL_law 399 = .ok (.ireturn, 1) := by decide +kernel
theorem dL_law_400 : decode cL_law 400 = .ok (.iload 5, 2) := by decide +kernel
theorem dL_law_402 : decode cL_law 402 = .ok (.ifCond .ne 22, 3) := by decide +kernel
theorem dL_law_405 : decode cL_law 405 = .ok (.aload_n 3, 1) := by decide +kernel
theorem dL_law_406 : decode cL_law 406 = .ok (.iconst 0, 1) := by decide +kernel
theorem dL_law_407 : decode cL_law 407 = .ok (.laload, 1) := by decide +kernel
theorem dL_law_408 : decode cL_law 408 = .ok (.iload 6, 2) := by decide +kernel
theorem dL_law_410 : decode cL_law 410 = .ok (.ifCond .eq 7, 3) := by decide +kernel
theorem dL_law_413 : decode cL_law 413 = .ok (.lconst 1, 1) := by decide +kernel
theorem dL_law_414 : decode cL_law 414 = .ok (.goto 4, 3) := by decide +kernel
theorem dL_law_417 : decode cL_law 417 = .ok (.lconst 0, 1) := by decide +kernel
theorem dL_law_418 : decode cL_law 418 = .ok (.lcmp, 1) := by decide +kernel
theorem dL_law_419 : decode cL_law 419 = .ok (.ifCond .eq 5, 3) := by decide +kernel
theorem dL_law_422 : decode cL_law 422 = .ok (.iconst 0, 1) := by decide +kernel
theorem dL_law_423 : decode cL_law 423 = .ok (.ireturn, 1) := by decide +kernel
theorem dL_law_424 : decode cL_law 424 = .ok (.goto 622, 3) := by decide +kernel
theorem dL_law_427 : decode cL_law 427 = .ok (.aload_n 1, 1) := by decide +kernel
theorem dL_law_428 : decode cL_law 428 = .ok (.aload_n 0, 1) := by decide +kernel
theorem dL_law_429 : decode cL_law 429 = .ok (.iload 4, 2) := by decide +kernel
theorem dL_law_431 : decode cL_law 431 = .ok (.iconst 1, 1) := by decide +kernel
theorem dL_law_432 : decode cL_law 432 = .ok (.iadd, 1) := by decide +kernel
theorem dL_law_433 : decode cL_law 433 = .ok (.iaload, 1) := by decide +kernel
theorem dL_law_434 : decode cL_law 434 = .ok (.aload_n 0, 1) := by decide +kernel
theorem dL_law_435 : decode cL_law 435 = .ok (.iload 4, 2) := by decide +kernel
theorem dL_law_437 : decode cL_law 437 = .ok (.iconst 2, 1) := by decide +kernel
theorem dL_law_438 : decode cL_law 438 = .ok (.iadd, 1) := by decide +kernel
theorem dL_law_439 : decode cL_law 439 = .ok (.iaload, 1) := by decide +kernel
theorem dL_law_440 : decode cL_law 440 = .ok (.aload_n 3, 1) := by decide +kernel
theorem dL_law_441 : decode cL_law 441 = .ok (.invokestatic 82, 3) := by decide +kernel
theorem dL_law_444 : decode cL_law 444 = .ok (.istore 5, 2) := by decide +kernel
theorem dL_law_446 : decode cL_law 446 = .ok (.aload_n 2, 1) := by decide +kernel
theorem dL_law_447 : decode cL_law 447 = .ok (.aload_n 0, 1) := by decide +kernel
theorem dL_law_448 : decode cL_law 448 = .ok (.iload 4, 2) := by decide +kernel
theorem dL_law_450 : decode cL_law 450 = .ok (.iconst 1, 1) := by decide +kernel
theorem dL_law_451 : decode cL_law 451 = .ok (.iadd, 1) := by decide +kernel
theorem dL_law_452 : decode cL_law 452 = .ok (.iaload, 1) := by decide +kernel
theorem dL_law_453 : decode cL_law 453 = .ok (.aload_n 0, 1) := by decide +kernel
theorem dL_law_454 : decode cL_law 454 = .ok (.iload 4, 2) := by decide +kernel
theorem dL_law_456 : decode cL_law 456 = .ok (.iconst 2, 1) := by decide +kernel
theorem dL_law_457 : decode cL_law 457 = .ok (.iadd, 1) := by decide +kernel
theorem dL_law_458 : decode cL_law 458 = .ok (.iaload, 1) := by decide +kernel
theorem dL_law_459 : decode cL_law 459 = .ok (.invokevirtual 84, 3) := by decide +kernel
theorem dL_law_462 : decode cL_law 462 = .ok (.istore 6, 2) := by decide +kernel
theorem dL_law_464 : decode cL_law 464 = .ok (.aload_n 2, 1) := by decide +kernel
theorem dL_law_465 : decode cL_law 465 = .ok (.invokevirtual 68, 3) := by decide +kernel
theorem dL_law_468 : decode cL_law 468 = .ok (.iload 5, 2) := by decide +kernel
theorem dL_law_470 : decode cL_law 470 = .ok (.if_icmp .eq 5, 3) := by decide +kernel
theorem dL_law_473 : decode cL_law 473 = .ok (.iconst 0, 1) := by decide +kernel
theorem dL_law_474 : decode cL_law 474 = .ok (.ireturn, 1) := by decide +kernel
theorem dL_law_475 : decode cL_law 475 = .ok (.iload 5, 2) := by decide +kernel
theorem dL_law_477 : decode cL_law 477 = .ok (.ifCond .ne 15, 3) := by decide +kernel
theorem dL_law_480 : decode cL_law 480 = .ok (.aload_n 3, 1) := by decide +kernel
theorem dL_law_481 : decode cL_law 481 = .ok (.iconst 0, 1) := by decide +kernel
theorem dL_law_482 : decode cL_law 482 = .ok (.laload, 1) := by decide +kernel
theorem dL_law_483 : decode cL_law 483 = .ok (.iload 6, 2) := by decide +kernel
theorem dL_law_485 : decode cL_law 485 = .ok (.i2l, 1) := by decide +kernel
theorem dL_law_486 : decode cL_law 486 = .ok (.lcmp, 1) := by decide +kernel
theorem dL_law_487 : decode cL_law 487 = .ok (.ifCond .eq 5, 3) := by decide +kernel
theorem dL_law_490 : decode cL_law 490 = .ok (.iconst 0, 1) := by decide +kernel
theorem dL_law_491 : decode cL_law 491 = .ok (.ireturn, 1) := by decide +kernel
theorem dL_law_492 : decode cL_law 492 = .ok (.goto 554, 3) := by decide +kernel
theorem dL_law_495 : decode cL_law 495 = .ok (.aload_n 1, 1) := by decide +kernel
theorem dL_law_496 : decode cL_law 496 = .ok (.aload_n 0, 1) := by decide +kernel
theorem dL_law_497 : decode cL_law 497 = .ok (.iload 4, 2) := by decide +kernel
theorem dL_law_499 : decode cL_law 499 = .ok (.iconst 1, 1) := by decide +kernel
theorem dL_law_500 : decode cL_law 500 = .ok (.iadd, 1) := by decide +kernel
theorem dL_law_501 : decode cL_law 501 = .ok (.iaload, 1) := by decide +kernel
theorem dL_law_502 : decode cL_law 502 = .ok (.aload_n 0, 1) := by decide +kernel
theorem dL_law_503 : decode cL_law 503 = .ok (.iload 4, 2) := by decide +kernel
theorem dL_law_505 : decode cL_law 505 = .ok (.iconst 2, 1) := by decide +kernel
theorem dL_law_506 : decode cL_law 506 = .ok (.iadd, 1) := by decide +kernel
theorem dL_law_507 : decode cL_law 507 = .ok (.iaload, 1) := by decide +kernel
theorem dL_law_508 : decode cL_law 508 = .ok (.aload_n 0, 1) := by decide +kernel
theorem dL_law_509 : decode cL_law 509 = .ok (.iload 4, 2) := by decide +kernel
theorem dL_law_511 : decode cL_law 511 = .ok (.iconst 3, 1) := by decide +kernel
theorem dL_law_512 : decode cL_law 512 = .ok (.iadd, 1) := by decide +kernel
theorem dL_law_513 : decode cL_law 513 = .ok (.iaload, 1) := by decide +kernel
theorem dL_law_514 : decode cL_law 514 = .ok (.aload_n 3, 1) := by decide +kernel
theorem dL_law_515 : decode cL_law 515 = .ok (.invokestatic 85, 3) := by decide +kernel
theorem dL_law_518 : decode cL_law 518 = .ok (.istore 5, 2) := by decide +kernel
theorem dL_law_520 : decode cL_law 520 = .ok (.aload_n 2, 1) := by decide +kernel
theorem dL_law_521 : decode cL_law 521 = .ok (.aload_n 0, 1) := by decide +kernel
theorem dL_law_522 : decode cL_law 522 = .ok (.iload 4, 2) := by decide +kernel
theorem dL_law_524 : decode cL_law 524 = .ok (.iconst 1, 1) := by decide +kernel
theorem dL_law_525 : decode cL_law 525 = .ok (.iadd, 1) := by decide +kernel
theorem dL_law_526 : decode cL_law 526 = .ok (.iaload, 1) := by decide +kernel
theorem dL_law_527 : decode cL_law 527 = .ok (.aload_n 0, 1) := by decide +kernel
theorem dL_law_528 : decode cL_law 528 = .ok (.iload 4, 2) := by decide +kernel
theorem dL_law_530 : decode cL_law 530 = .ok (.iconst 2, 1) := by decide +kernel
theorem dL_law_531 : decode cL_law 531 = .ok (.iadd, 1) := by decide +kernel
theorem dL_law_532 : decode cL_law 532 = .ok (.iaload, 1) := by decide +kernel
theorem dL_law_533 : decode cL_law 533 = .ok (.aload_n 0, 1) := by decide +kernel
theorem dL_law_534 : decode cL_law 534 = .ok (.iload 4, 2) := by decide +kernel
theorem dL_law_536 : decode cL_law 536 = .ok (.iconst 3, 1) := by decide +kernel
theorem dL_law_537 : decode cL_law 537 = .ok (.iadd, 1) := by decide +kernel
theorem dL_law_538 : decode cL_law 538 = .ok (.iaload, 1) := by decide +kernel
theorem dL_law_539 : decode cL_law 539 = .ok (.invokevirtual 87, 3) := by decide +kernel
theorem dL_law_542 : decode cL_law 542 = .ok (.istore 6, 2) := by decide +kernel
theorem dL_law_544 : decode cL_law 544 = .ok (.aload_n 2, 1) := by decide +kernel
theorem dL_law_545 : decode cL_law 545 = .ok (.invokevirtual 68, 3) := by decide +kernel
theorem dL_law_548 : decode cL_law 548 = .ok (.iload 5, 2) := by decide +kernel
theorem dL_law_550 : decode cL_law 550 = .ok (.if_icmp .eq 5, 3) := by decide +kernel
theorem dL_law_553 : decode cL_law 553 = .ok (.iconst 0, 1) := by decide +kernel
theorem dL_law_554 : decode cL_law 554 = .ok (.ireturn, 1) := by decide +kernel
theorem dL_law_555 : decode cL_law 555 = .ok (.iload 5, 2) := by decide +kernel
theorem dL_law_557 : decode cL_law 557 = .ok (.ifCond .ne 15, 3) := by decide +kernel
theorem dL_law_560 : decode cL_law 560 = .ok (.aload_n 3, 1) := by decide +kernel
theorem dL_law_561 : decode cL_law 561 = .ok (.iconst 0, 1) := by decide +kernel
theorem dL_law_562 : decode cL_law 562 = .ok (.laload, 1) := by decide +kernel
theorem dL_law_563 : decode cL_law 563 = .ok (.iload 6, 2) := by decide +kernel
theorem dL_law_565 : decode cL_law 565 = .ok (.i2l, 1) := by decide +kernel
theorem dL_law_566 : decode cL_law 566 = .ok (.lcmp, 1) := by decide +kernel
theorem dL_law_567 : decode cL_law 567 = .ok (.ifCond .eq 5, 3) := by decide +kernel
theorem dL_law_570 : decode cL_law 570 = .ok (.iconst 0, 1) := by decide +kernel
theorem dL_law_571 : decode cL_law 571 = .ok (.ireturn, 1) := by decide +kernel
theorem dL_law_572 : decode cL_law 572 = .ok (.goto 474, 3) := by decide +kernel
theorem dL_law_575 : decode cL_law 575 = .ok (.aload_n 1, 1) := by decide +kernel
theorem dL_law_576 : decode cL_law 576 = .ok (.aload_n 0, 1) := by decide +kernel
theorem dL_law_577 : decode cL_law 577 = .ok (.iload 4, 2) := by decide +kernel
theorem dL_law_579 : decode cL_law 579 = .ok (.iconst 1, 1) := by decide +kernel
theorem dL_law_580 : decode cL_law 580 = .ok (.iadd, 1) := by decide +kernel
theorem dL_law_581 : decode cL_law 581 = .ok (.iaload, 1) := by decide +kernel
theorem dL_law_582 : decode cL_law 582 = .ok (.aload_n 0, 1) := by decide +kernel
theorem dL_law_583 : decode cL_law 583 = .ok (.iload 4, 2) := by decide +kernel
theorem dL_law_585 : decode cL_law 585 = .ok (.iconst 2, 1) := by decide +kernel
theorem dL_law_586 : decode cL_law 586 = .ok (.iadd, 1) := by decide +kernel
theorem dL_law_587 : decode cL_law 587 = .ok (.iaload, 1) := by decide +kernel
theorem dL_law_588 : decode cL_law 588 = .ok (.aload_n 3, 1) := by decide +kernel
theorem dL_law_589 : decode cL_law 589 = .ok (.invokestatic 88, 3) := by decide +kernel
theorem dL_law_592 : decode cL_law 592 = .ok (.istore 5, 2) := by decide +kernel
theorem dL_law_594 : decode cL_law 594 = .ok (.aload_n 2, 1) := by decide +kernel
theorem dL_law_595 : decode cL_law 595 = .ok (.aload_n 0, 1) := by decide +kernel
theorem dL_law_596 : decode cL_law 596 = .ok (.iload 4, 2) := by decide +kernel
theorem dL_law_598 : decode cL_law 598 = .ok (.iconst 1, 1) := by decide +kernel
theorem dL_law_599 : decode cL_law 599 = .ok (.iadd, 1) := by decide +kernel
theorem dL_law_600 : decode cL_law 600 = .ok (.iaload, 1) := by decide +kernel
theorem dL_law_601 : decode cL_law 601 = .ok (.aload_n 0, 1) := by decide +kernel
theorem dL_law_602 : decode cL_law 602 = .ok (.iload 4, 2) := by decide +kernel
theorem dL_law_604 : decode cL_law 604 = .ok (.iconst 2, 1) := by decide +kernel
theorem dL_law_605 : decode cL_law 605 = .ok (.iadd, 1) := by decide +kernel
theorem dL_law_606 : decode cL_law 606 = .ok (.iaload, 1) := by decide +kernel
theorem dL_law_607 : decode cL_law 607 = .ok (.invokevirtual 90, 3) := by decide +kernel
theorem dL_law_610 : decode cL_law 610 = .ok (.istore 6, 2) := by decide +kernel
theorem dL_law_612 : decode cL_law 612 = .ok (.aload_n 2, 1) := by decide +kernel
theorem dL_law_613 : decode cL_law 613 = .ok (.invokevirtual 68, 3) := by decide +kernel
theorem dL_law_616 : decode cL_law 616 = .ok (.iload 5, 2) := by decide +kernel
theorem dL_law_618 : decode cL_law 618 = .ok (.if_icmp .eq 5, 3) := by decide +kernel
theorem dL_law_621 : decode cL_law 621 = .ok (.iconst 0, 1) := by decide +kernel
theorem dL_law_622 : decode cL_law 622 = .ok (.ireturn, 1) := by decide +kernel
theorem dL_law_623 : decode cL_law 623 = .ok (.iload 5, 2) := by decide +kernel
theorem dL_law_625 : decode cL_law 625 = .ok (.ifCond .ne 15, 3) := by decide +kernel
theorem dL_law_628 : decode cL_law 628 = .ok (.aload_n 3, 1) := by decide +kernel
theorem dL_law_629 : decode cL_law 629 = .ok (.iconst 0, 1) := by decide +kernel
theorem dL_law_630 : decode cL_law 630 = .ok (.laload, 1) := by decide +kernel
theorem dL_law_631 : decode cL_law 631 = .ok (.iload 6, 2) := by decide +kernel
theorem dL_law_633 : decode cL_law 633 = .ok (.i2l, 1) := by decide +kernel
theorem dL_law_634 : decode cL_law 634 = .ok (.lcmp, 1) := by decide +kernel
theorem dL_law_635 : decode cL_law 635 = .ok (.ifCond .eq 5, 3) := by decide +kernel
theorem dL_law_638 : decode cL_law 638 = .ok (.iconst 0, 1) := by decide +kernel
theorem dL_law_639 : decode cL_law 639 = .ok (.ireturn, 1) := by decide +kernel
theorem dL_law_640 : decode cL_law 640 = .ok (.goto 406, 3) := by decide +kernel
theorem dL_law_643 : decode cL_law 643 = .ok (.aload_n 1, 1) := by decide +kernel
theorem dL_law_644 : decode cL_law 644 = .ok (.aload_n 0, 1) := by decide +kernel
theorem dL_law_645 : decode cL_law 645 = .ok (.iload 4, 2) := by decide +kernel
theorem dL_law_647 : decode cL_law 647 = .ok (.iconst 1, 1) := by decide +kernel
theorem dL_law_648 : decode cL_law 648 = .ok (.iadd, 1) := by decide +kernel
theorem dL_law_649 : decode cL_law 649 = .ok (.iaload, 1) := by decide +kernel
theorem dL_law_650 : decode cL_law 650 = .ok (.aload_n 3, 1) := by decide +kernel
theorem dL_law_651 : decode cL_law 651 = .ok (.invokestatic 91, 3) := by decide +kernel
theorem dL_law_654 : decode cL_law 654 = .ok (.istore 5, 2) := by decide +kernel
theorem dL_law_656 : decode cL_law 656 = .ok (.aload_n 2, 1) := by decide +kernel
theorem dL_law_657 : decode cL_law 657 = .ok (.aload_n 0, 1) := by decide +kernel
theorem dL_law_658 : decode cL_law 658 = .ok (.iload 4, 2) := by decide +kernel
theorem dL_law_660 : decode cL_law 660 = .ok (.iconst 1, 1) := by decide +kernel
theorem dL_law_661 : decode cL_law 661 = .ok (.iadd, 1) := by decide +kernel
theorem dL_law_662 : decode cL_law 662 = .ok (.iaload, 1) := by decide +kernel
theorem dL_law_663 : decode cL_law 663 = .ok (.invokevirtual 94, 3) := by decide +kernel
theorem dL_law_666 : decode cL_law 666 = .ok (.istore 6, 2) := by decide +kernel
theorem dL_law_668 : decode cL_law 668 = .ok (.aload_n 2, 1) := by decide +kernel
theorem dL_law_669 : decode cL_law 669 = .ok (.invokevirtual 68, 3) := by decide +kernel
theorem dL_law_672 : decode cL_law 672 = .ok (.iload 5, 2) := by decide +kernel
theorem dL_law_674 : decode cL_law 674 = .ok (.if_icmp .eq 5, 3) := by decide +kernel
theorem dL_law_677 : decode cL_law 677 = .ok (.iconst 0, 1) := by decide +kernel
theorem dL_law_678 : decode cL_law 678 = .ok (.ireturn, 1) := by decide +kernel
theorem dL_law_679 : decode cL_law 679 = .ok (.iload 5, 2) := by decide +kernel
theorem dL_law_681 : decode cL_law 681 = .ok (.ifCond .ne 15, 3) := by decide +kernel
theorem dL_law_684 : decode cL_law 684 = .ok (.aload_n 3, 1) := by decide +kernel
theorem dL_law_685 : decode cL_law 685 = .ok (.iconst 0, 1) := by decide +kernel
theorem dL_law_686 : decode cL_law 686 = .ok (.laload, 1) := by decide +kernel
theorem dL_law_687 : decode cL_law 687 = .ok (.iload 6, 2) := by decide +kernel
theorem dL_law_689 : decode cL_law 689 = .ok (.i2l, 1) := by decide +kernel
theorem dL_law_690 : decode cL_law 690 = .ok (.lcmp, 1) := by decide +kernel
theorem dL_law_691 : decode cL_law 691 = .ok (.ifCond .eq 5, 3) := by decide +kernel
theorem dL_law_694 : decode cL_law 694 = .ok (.iconst 0, 1) := by decide +kernel
theorem dL_law_695 : decode cL_law 695 = .ok (.ireturn, 1) := by decide +kernel
theorem dL_law_696 : decode cL_law 696 = .ok (.goto 350, 3) := by decide +kernel
theorem dL_law_699 : decode cL_law 699 = .ok (.aload_n 1, 1) := by decide +kernel
theorem dL_law_700 : decode cL_law 700 = .ok (.aload_n 0, 1) := by decide +kernel
theorem dL_law_701 : decode cL_law 701 = .ok (.iload 4, 2) := by decide +kernel
theorem dL_law_703 : decode cL_law 703 = .ok (.iconst 1, 1) := by decide +kernel
theorem dL_law_704 : decode cL_law 704 = .ok (.iadd, 1) := by decide +kernel
theorem dL_law_705 : decode cL_law 705 = .ok (.iaload, 1) := by decide +kernel
theorem dL_law_706 : decode cL_law 706 = .ok (.aload_n 3, 1) := by decide +kernel
theorem dL_law_707 : decode cL_law 707 = .ok (.invokestatic 95, 3) := by decide +kernel
theorem dL_law_710 : decode cL_law 710 = .ok (.istore 5, 2) := by decide +kernel
theorem dL_law_712 : decode cL_law 712 = .ok (.aload_n 2, 1) := by decide +kernel
theorem dL_law_713 : decode cL_law 713 = .ok (.aload_n 0, 1) := by decide +kernel
theorem dL_law_714 : decode cL_law 714 = .ok (.iload 4, 2) := by decide +kernel
theorem dL_law_716 : decode cL_law 716 = .ok (.iconst 1, 1) := by decide +kernel
theorem dL_law_717 : decode cL_law 717 = .ok (.iadd, 1) := by decide +kernel
theorem dL_law_718 : decode cL_law 718 = .ok (.iaload, 1) := by decide +kernel
theorem dL_law_719 : decode cL_law 719 = .ok (.invokevirtual 97, 3) := by decide +kernel
theorem dL_law_722 : decode cL_law 722 = .ok (.istore 6, 2) := by decide +kernel
theorem dL_law_724 : decode cL_law 724 = .ok (.aload_n 2, 1) := by decide +kernel
theorem dL_law_725 : decode cL_law 725 = .ok (.invokevirtual 68, 3) := by decide +kernel
theorem dL_law_728 : decode cL_law 728 = .ok (.iload 5, 2) := by decide +kernel
theorem dL_law_730 : decode cL_law 730 = .ok (.if_icmp .eq 5, 3) := by decide +kernel
theorem dL_law_733 : decode cL_law 733 = .ok (.iconst 0, 1) := by decide +kernel
theorem dL_law_734 : decode cL_law 734 = .ok (.ireturn, 1) := by decide +kernel
theorem dL_law_735 : decode cL_law 735 = .ok (.iload 5, 2) := by decide +kernel
theorem dL_law_737 : decode cL_law 737 = .ok (.ifCond .ne 15, 3) := by decide +kernel
theorem dL_law_740 : decode cL_law 740 = .ok (.aload_n 3, 1) := by decide +kernel
theorem dL_law_741 : decode cL_law 741 = .ok (.iconst 0, 1) := by decide +kernel
theorem dL_law_742 : decode cL_law 742 = .ok (.laload, 1) := by decide +kernel
theorem dL_law_743 : decode cL_law 743 = .ok (.iload 6, 2) := by decide +kernel
theorem dL_law_745 : decode cL_law 745 = .ok (.i2l, 1) := by decide +kernel
theorem dL_law_746 : decode cL_law 746 = .ok (.lcmp, 1) := by decide +kernel
theorem dL_law_747 : decode cL_law 747 = .ok (.ifCond .eq 5, 3) := by decide +kernel
theorem dL_law_750 : decode cL_law 750 = .ok (.iconst 0, 1) := by decide +kernel
theorem dL_law_751 : decode cL_law 751 = .ok (.ireturn, 1) := by decide +kernel
theorem dL_law_752 : decode cL_law 752 = .ok (.goto 294, 3) := by decide +kernel
theorem dL_law_755 : decode cL_law 755 = .ok (.aload_n 1, 1) := by decide +kernel
theorem dL_law_756 : decode cL_law 756 = .ok (.aload_n 0, 1) := by decide +kernel
theorem dL_law_757 : decode cL_law 757 = .ok (.iload 4, 2) := by decide +kernel
theorem dL_law_759 : decode cL_law 759 = .ok (.iconst 1, 1) := by decide +kernel
theorem dL_law_760 : decode cL_law 760 = .ok (.iadd, 1) := by decide +kernel
theorem dL_law_761 : decode cL_law 761 = .ok (.iaload, 1) := by decide +kernel
theorem dL_law_762 : decode cL_law 762 = .ok (.aload_n 3, 1) := by decide +kernel
theorem dL_law_763 : decode cL_law 763 = .ok (.invokestatic 98, 3) := by decide +kernel
theorem dL_law_766 : decode cL_law 766 = .ok (.istore 5, 2) := by decide +kernel
theorem dL_law_768 : decode cL_law 768 = .ok (.aload_n 2, 1) := by decide +kernel
theorem dL_law_769 : decode cL_law 769 = .ok (.aload_n 0, 1) := by decide +kernel
theorem dL_law_770 : decode cL_law 770 = .ok (.iload 4, 2) := by decide +kernel
theorem dL_law_772 : decode cL_law 772 = .ok (.iconst 1, 1) := by decide +kernel
theorem dL_law_773 : decode cL_law 773 = .ok (.iadd, 1) := by decide +kernel
theorem dL_law_774 : decode cL_law 774 = .ok (.iaload, 1) := by decide +kernel
theorem dL_law_775 : decode cL_law 775 = .ok (.invokevirtual 100, 3) := by decide +kernel
theorem dL_law_778 : decode cL_law 778 = .ok (.istore 6, 2) := by decide +kernel
theorem dL_law_780 : decode cL_law 780 = .ok (.aload_n 2, 1) := by decide +kernel
theorem dL_law_781 : decode cL_law 781 = .ok (.invokevirtual 68, 3) := by decide +kernel
theorem dL_law_784 : decode cL_law 784 = .ok (.iload 5, 2) := by decide +kernel
theorem dL_law_786 : decode cL_law 786 = .ok (.if_icmp .eq 5, 3) := by decide +kernel
theorem dL_law_789 : decode cL_law 789 = .ok (.iconst 0, 1) := by decide +kernel
theorem dL_law_790 : decode cL_law 790 = .ok (.ireturn, 1) := by decide +kernel
theorem dL_law_791 : decode cL_law 791 = .ok (.iload 5, 2) := by decide +kernel
theorem dL_law_793 : decode cL_law 793 = .ok (.ifCond .ne 15, 3) := by decide +kernel
theorem dL_law_796 : decode cL_law 796 = .ok (.aload_n 3, 1) := by decide +kernel
theorem dL_law_797 : decode cL_law 797 = .ok (.iconst 0, 1) := by decide +kernel
theorem dL_law_798 : decode cL_law 798 = .ok (.laload, 1) := by decide +kernel
theorem dL_law_799 : decode cL_law 799 = .ok (.iload 6, 2) := by decide +kernel
theorem dL_law_801 : decode cL_law 801 = .ok (.i2l, 1) := by decide +kernel
theorem dL_law_802 : decode cL_law 802 = .ok (.lcmp, 1) := by decide +kernel
theorem dL_law_803 : decode cL_law 803 = .ok (.ifCond .eq 5, 3) := by decide +kernel
theorem dL_law_806 : decode cL_law 806 = .ok (.iconst 0, 1) := by decide +kernel
theorem dL_law_807 : decode cL_law 807 = .ok (.ireturn, 1) := by decide +kernel
theorem dL_law_808 : decode cL_law 808 = .ok (.goto 238, 3) := by decide +kernel
theorem dL_law_811 : decode cL_law 811 = .ok (.aload_n 1, 1) := by decide +kernel
theorem dL_law_812 : decode cL_law 812 = .ok (.aload_n 0, 1) := by decide +kernel
theorem dL_law_813 : decode cL_law 813 = .ok (.iload 4, 2) := by decide +kernel
theorem dL_law_815 : decode cL_law 815 = .ok (.iconst 1, 1) := by decide +kernel
theorem dL_law_816 : decode cL_law 816 = .ok (.iadd, 1) := by decide +kernel
theorem dL_law_817 : decode cL_law 817 = .ok (.iaload, 1) := by decide +kernel
theorem dL_law_818 : decode cL_law 818 = .ok (.aload_n 3, 1) := by decide +kernel
theorem dL_law_819 : decode cL_law 819 = .ok (.invokestatic 101, 3) := by decide +kernel
theorem dL_law_822 : decode cL_law 822 = .ok (.istore 5, 2) := by decide +kernel
theorem dL_law_824 : decode cL_law 824 = .ok (.aload_n 2, 1) := by decide +kernel
theorem dL_law_825 : decode cL_law 825 = .ok (.aload_n 0, 1) := by decide +kernel
theorem dL_law_826 : decode cL_law 826 = .ok (.iload 4, 2) := by decide +kernel
theorem dL_law_828 : decode cL_law 828 = .ok (.iconst 1, 1) := by decide +kernel
theorem dL_law_829 : decode cL_law 829 = .ok (.iadd, 1) := by decide +kernel
theorem dL_law_830 : decode cL_law 830 = .ok (.iaload, 1) := by decide +kernel
theorem dL_law_831 : decode cL_law 831 = .ok (.invokevirtual 103, 3) := by decide +kernel
theorem dL_law_834 : decode cL_law 834 = .ok (.istore 6, 2) := by decide +kernel
theorem dL_law_836 : decode cL_law 836 = .ok (.aload_n 2, 1) := by decide +kernel
theorem dL_law_837 : decode cL_law 837 = .ok (.invokevirtual 68, 3) := by decide +kernel
theorem dL_law_840 : decode cL_law 840 = .ok (.iload 5, 2) := by decide +kernel
theorem dL_law_842 : decode cL_law 842 = .ok (.if_icmp .eq 5, 3) := by decide +kernel
theorem dL_law_845 : decode cL_law 845 = .ok (.iconst 0, 1) := by decide +kernel
theorem dL_law_846 : decode cL_law 846 = .ok (.ireturn, 1) := by decide +kernel
theorem dL_law_847 : decode cL_law 847 = .ok (.iload 5, 2) := by decide +kernel
theorem dL_law_849 : decode cL_law 849 = .ok (.ifCond .ne 15, 3) := by decide +kernel
theorem dL_law_852 : decode cL_law 852 = .ok (.aload_n 3, 1) := by decide +kernel
theorem dL_law_853 : decode cL_law 853 = .ok (.iconst 0, 1) := by decide +kernel
theorem dL_law_854 : decode cL_law 854 = .ok (.laload, 1) := by decide +kernel
theorem dL_law_855 : decode cL_law 855 = .ok (.iload 6, 2) := by decide +kernel
theorem dL_law_857 : decode cL_law 857 = .ok (.i2l, 1) := by decide +kernel
theorem dL_law_858 : decode cL_law 858 = .ok (.lcmp, 1) := by decide +kernel
theorem dL_law_859 : decode cL_law 859 = .ok (.ifCond .eq 5, 3) := by decide +kernel
theorem dL_law_862 : decode cL_law 862 = .ok (.iconst 0, 1) := by decide +kernel
theorem dL_law_863 : decode cL_law 863 = .ok (.ireturn, 1) := by decide +kernel
theorem dL_law_864 : decode cL_law 864 = .ok (.goto 182, 3) := by decide +kernel
theorem dL_law_867 : decode cL_law 867 = .ok (.aload_n 1, 1) := by decide +kernel
theorem dL_law_868 : decode cL_law 868 = .ok (.aload_n 0, 1) := by decide +kernel
theorem dL_law_869 : decode cL_law 869 = .ok (.iload 4, 2) := by decide +kernel
theorem dL_law_871 : decode cL_law 871 = .ok (.iconst 1, 1) := by decide +kernel
theorem dL_law_872 : decode cL_law 872 = .ok (.iadd, 1) := by decide +kernel
theorem dL_law_873 : decode cL_law 873 = .ok (.iaload, 1) := by decide +kernel
theorem dL_law_874 : decode cL_law 874 = .ok (.aload_n 0, 1) := by decide +kernel
theorem dL_law_875 : decode cL_law 875 = .ok (.iload 4, 2) := by decide +kernel
theorem dL_law_877 : decode cL_law 877 = .ok (.iconst 2, 1) := by decide +kernel
theorem dL_law_878 : decode cL_law 878 = .ok (.iadd, 1) := by decide +kernel
theorem dL_law_879 : decode cL_law 879 = .ok (.iaload, 1) := by decide +kernel
theorem dL_law_880 : decode cL_law 880 = .ok (.aload_n 3, 1) := by decide +kernel
theorem dL_law_881 : decode cL_law 881 = .ok (.invokestatic 104, 3) := by decide +kernel
theorem dL_law_884 : decode cL_law 884 = .ok (.istore 5, 2) := by decide +kernel
theorem dL_law_886 : decode cL_law 886 = .ok (.aload_n 2, 1) := by decide +kernel
theorem dL_law_887 : decode cL_law 887 = .ok (.aload_n 0, 1) := by decide +kernel
theorem dL_law_888 : decode cL_law 888 = .ok (.iload 4, 2) := by decide +kernel
theorem dL_law_890 : decode cL_law 890 = .ok (.iconst 1, 1) := by decide +kernel
theorem dL_law_891 : decode cL_law 891 = .ok (.iadd, 1) := by decide +kernel
theorem dL_law_892 : decode cL_law 892 = .ok (.iaload, 1) := by decide +kernel
theorem dL_law_893 : decode cL_law 893 = .ok (.aload_n 0, 1) := by decide +kernel
theorem dL_law_894 : decode cL_law 894 = .ok (.iload 4, 2) := by decide +kernel
theorem dL_law_896 : decode cL_law 896 = .ok (.iconst 2, 1) := by decide +kernel
theorem dL_law_897 : decode cL_law 897 = .ok (.iadd, 1) := by decide +kernel
theorem dL_law_898 : decode cL_law 898 = .ok (.iaload, 1) := by decide +kernel
theorem dL_law_899 : decode cL_law 899 = .ok (.invokevirtual 106, 3) := by decide +kernel
theorem dL_law_902 : decode cL_law 902 = .ok (.istore 6, 2) := by decide +kernel
theorem dL_law_904 : decode cL_law 904 = .ok (.aload_n 2, 1) := by decide +kernel
theorem dL_law_905 : decode cL_law 905 = .ok (.invokevirtual 68, 3) := by decide +kernel
theorem dL_law_908 : decode cL_law 908 = .ok (.iload 5, 2) := by decide +kernel
theorem dL_law_910 : decode cL_law 910 = .ok (.if_icmp .eq 5, 3) := by decide +kernel
theorem dL_law_913 : decode cL_law 913 = .ok (.iconst 0, 1) := by decide +kernel
theorem dL_law_914 : decode cL_law 914 = .ok (.ireturn, 1) := by decide +kernel
theorem dL_law_915 : decode cL_law 915 = .ok (.iload 5, 2) := by decide +kernel
theorem dL_law_917 : decode cL_law 917 = .ok (.ifCond .ne 15, 3) := by decide +kernel
theorem dL_law_920 : decode cL_law 920 = .ok (.aload_n 3, 1) := by decide +kernel
theorem dL_law_921 : decode cL_law 921 = .ok (.iconst 0, 1) := by decide +kernel
theorem dL_law_922 : decode cL_law 922 = .ok (.laload, 1) := by decide +kernel
theorem dL_law_923 : decode cL_law 923 = .ok (.iload 6, 2) := by decide +kernel
theorem dL_law_925 : decode cL_law 925 = .ok (.i2l, 1) := by decide +kernel
theorem dL_law_926 : decode cL_law 926 = .ok (.lcmp, 1) := by decide +kernel
theorem dL_law_927 : decode cL_law 927 = .ok (.ifCond .eq 5, 3) := by decide +kernel
theorem dL_law_930 : decode cL_law 930 = .ok (.iconst 0, 1) := by decide +kernel
theorem dL_law_931 : decode cL_law 931 = .ok (.ireturn, 1) := by decide +kernel
theorem dL_law_932 : decode cL_law 932 = .ok (.goto 114, 3) := by decide +kernel
theorem dL_law_935 : decode cL_law 935 = .ok (.aload_n 1, 1) := by decide +kernel
theorem dL_law_936 : decode cL_law 936 = .ok (.aload_n 0, 1) := by decide +kernel
theorem dL_law_937 : decode cL_law 937 = .ok (.iload 4, 2) := by decide +kernel
theorem dL_law_939 : decode cL_law 939 = .ok (.iconst 1, 1) := by decide +kernel
theorem dL_law_940 : decode cL_law 940 = .ok (.iadd, 1) := by decide +kernel
theorem dL_law_941 : decode cL_law 941 = .ok (.iaload, 1) := by decide +kernel
theorem dL_law_942 : decode cL_law 942 = .ok (.aload_n 3, 1) := by decide +kernel
theorem dL_law_943 : decode cL_law 943 = .ok (.invokestatic 107, 3) := by decide +kernel
theorem dL_law_946 : decode cL_law 946 = .ok (.istore 5, 2) := by decide +kernel
theorem dL_law_948 : decode cL_law 948 = .ok (.aload_n 2, 1) := by decide +kernel
theorem dL_law_949 : decode cL_law 949 = .ok (.aload_n 0, 1) := by decide +kernel
theorem dL_law_950 : decode cL_law 950 = .ok (.iload 4, 2) := by decide +kernel
theorem dL_law_952 : decode cL_law 952 = .ok (.iconst 1, 1) := by decide +kernel
theorem dL_law_953 : decode cL_law 953 = .ok (.iadd, 1) := by decide +kernel
theorem dL_law_954 : decode cL_law 954 = .ok (.iaload, 1) := by decide +kernel
theorem dL_law_955 : decode cL_law 955 = .ok (.invokevirtual 109, 3) := by decide +kernel
theorem dL_law_958 : decode cL_law 958 = .ok (.istore 6, 2) := by decide +kernel
theorem dL_law_960 : decode cL_law 960 = .ok (.aload_n 2, 1) := by decide +kernel
theorem dL_law_961 : decode cL_law 961 = .ok (.invokevirtual 68, 3) := by decide +kernel
theorem dL_law_964 : decode cL_law 964 = .ok (.iload 5, 2) := by decide +kernel
theorem dL_law_966 : decode cL_law 966 = .ok (.if_icmp .eq 5, 3) := by decide +kernel
theorem dL_law_969 : decode cL_law 969 = .ok (.iconst 0, 1) := by decide +kernel
theorem dL_law_970 : decode cL_law 970 = .ok (.ireturn, 1) := by decide +kernel
theorem dL_law_971 : decode cL_law 971 = .ok (.iload 5, 2) := by decide +kernel
theorem dL_law_973 : decode cL_law 973 = .ok (.ifCond .ne 15, 3) := by decide +kernel
theorem dL_law_976 : decode cL_law 976 = .ok (.aload_n 3, 1) := by decide +kernel
theorem dL_law_977 : decode cL_law 977 = .ok (.iconst 0, 1) := by decide +kernel
theorem dL_law_978 : decode cL_law 978 = .ok (.laload, 1) := by decide +kernel
theorem dL_law_979 : decode cL_law 979 = .ok (.iload 6, 2) := by decide +kernel
theorem dL_law_981 : decode cL_law 981 = .ok (.i2l, 1) := by decide +kernel
theorem dL_law_982 : decode cL_law 982 = .ok (.lcmp, 1) := by decide +kernel
theorem dL_law_983 : decode cL_law 983 = .ok (.ifCond .eq 5, 3) := by decide +kernel
theorem dL_law_986 : decode cL_law 986 = .ok (.iconst 0, 1) := by decide +kernel
theorem dL_law_987 : decode cL_law 987 = .ok (.ireturn, 1) := by decide +kernel
theorem dL_law_988 : decode cL_law 988 = .ok (.goto 58, 3) := by decide +kernel
theorem dL_law_991 : decode cL_law 991 = .ok (.aload_n 1, 1) := by decide +kernel
theorem dL_law_992 : decode cL_law 992 = .ok (.invokevirtual 110, 3) := by decide +kernel
theorem dL_law_995 : decode cL_law 995 = .ok (.dstore 5, 2) := by decide +kernel
theorem dL_law_997 : decode cL_law 997 = .ok (.aload_n 2, 1) := by decide +kernel
theorem dL_law_998 : decode cL_law 998 = .ok (.invokevirtual 114, 3) := by decide +kernel
theorem dL_law_1001 : decode cL_law 1001 = .ok (.dstore 7, 2) := by decide +kernel
theorem dL_law_1003 : decode cL_law 1003 = .ok (.dload 5, 2) := by decide +kernel
theorem dL_law_1005 : decode cL_law 1005 = .ok (.dload 7, 2) := by decide +kernel
theorem dL_law_1007 : decode cL_law 1007 = .ok (.dcmp .l, 1) := by decide +kernel
theorem dL_law_1008 : decode cL_law 1008 = .ok (.ifCond .eq 21, 3) := by decide +kernel
theorem dL_law_1011 : decode cL_law 1011 = .ok (.dload 5, 2) := by decide +kernel
theorem dL_law_1013 : decode cL_law 1013 = .ok (.dload 5, 2) := by decide +kernel
theorem dL_law_1015 : decode cL_law 1015 = .ok (.dcmp .l, 1) := by decide +kernel
theorem dL_law_1016 : decode cL_law 1016 = .ok (.ifCond .eq 11, 3) := by decide +kernel
theorem dL_law_1019 : decode cL_law 1019 = .ok (.dload 7, 2) := by decide +kernel
theorem dL_law_1021 : decode cL_law 1021 = .ok (.dload 7, 2) := by decide +kernel
theorem dL_law_1023 : decode cL_law 1023 = .ok (.dcmp .l, 1) := by decide +kernel
theorem dL_law_1024 : decode cL_law 1024 = .ok (.ifCond .ne 5, 3) := by decide +kernel
theorem dL_law_1027 : decode cL_law 1027 = .ok (.iconst 0, 1) := by decide +kernel
end
section
theorem dL_law_1028 : decode cL_law 1028 = .ok (.ireturn, 1) := by decide +kernel
theorem dL_law_1029 : decode cL_law 1029 = .ok (.goto 17, 3) := by decide +kernel
theorem dL_law_1032 : decode cL_law 1032 = .ok (.aload_n 1, 1) := by decide +kernel
theorem dL_law_1033 : decode cL_law 1033 = .ok (.invokevirtual 115, 3) := by decide +kernel
theorem dL_law_1036 : decode cL_law 1036 = .ok (.aload_n 2, 1) := by decide +kernel
theorem dL_law_1037 : decode cL_law 1037 = .ok (.invokevirtual 119, 3) := by decide +kernel
theorem dL_law_1040 : decode cL_law 1040 = .ok (.lcmp, 1) := by decide +kernel
theorem dL_law_1041 : decode cL_law 1041 = .ok (.ifCond .eq 5, 3) := by decide +kernel
theorem dL_law_1044 : decode cL_law 1044 = .ok (.iconst 0, 1) := by decide +kernel
theorem dL_law_1045 : decode cL_law 1045 = .ok (.ireturn, 1) := by decide +kernel
theorem dL_law_1046 : decode cL_law 1046 = .ok (.iinc 4 4, 3) := by decide +kernel
theorem dL_law_1049 : decode cL_law 1049 = .ok (.goto (-1026), 3) := by decide +kernel
theorem dL_law_1052 : decode cL_law 1052 = .ok (.iconst 1, 1) := by decide +kernel
theorem dL_law_1053 : decode cL_law 1053 = .ok (.ireturn, 1) := by decide +kernel
abbrev vwCl : List vw_C := [(RX0, TX0, 14), (RX1, TX1, 5), (RX2, TX2, 7), (RX3, TX3, 2), (RX4, TX4, 8)]
end
section
/-! what every contract of this claim is said with -/
abbrev vs_I : String := "java/lang/IllegalArgumentException"
abbrev vs_J : String := "java/lang/IllegalStateException"
abbrev vs_B : String := "java/lang/IndexOutOfBoundsException"
abbrev vs_N : List String := ["java/lang/RuntimeException", "java/lang/Exception"]
/-- what a throw and its catching need of the machine: two statics of Throwable, apart from A; casts; the texts -/
def vs_T (A : Nat → Prop) (U : State) (H : Heap) : Prop :=
  (vx_Zq Bundle.tN "UNASSIGNED_STACK" Bundle.steD A U H ∧ vx_Zq Bundle.tN "SUPPRESSED_SENTINEL" Bundle.listD A U H) ∧
  ((va_Nw (.castable vs_I vs_I) U ∧ va_Nw (.castable vs_J vs_J) U ∧ va_Nw (.castable vs_B vs_B) U) ∧
  (va_Nc vs_I vs_J U ∧ va_Nc vs_I vs_B U ∧ va_Nc vs_J vs_I U ∧ va_Nc vs_J vs_B U ∧ va_Nc vs_B vs_I U ∧ va_Nc vs_B vs_J U)) ∧
  ∀ q ∈ ([(25, "secret is not 0 to 99"), (37, "patience is not 1 to 20, or rule is not 0 to 3"), (45, "there are 10 doors"), (57, "no such door"), (60, "both are the same, or distance is not 1 to 5"), (78, "it is not shut, asks this one already, or asks 4"), (84, "rule is not 0 to 3, or patience is not 1 to 20"), (92, "token is not 0 to 99"), (98, "no such door, or what is not 0 to 8"), (103, "no such door, or what is not 0 to 2"), (105, "no such place"), (120, "no such voice, or what is not 0 to 3"), (124, "what is not 0 to 8"), (130, "ticks is not 1 to 200"), (140, "ticks is not 1 to 100"), (145, "ticks is not 1 to 30")] : List (Nat × String)), ∃ a : Nat, vk_R RX3 q.1 q.2 a U
theorem vs_T.kept {A : Nat → Prop} {U : State} {H0 H : Heap} {locs : List Loc} (h : vs_T A U H0) (hS : va_S A H0 H locs) : vs_T A U H := ⟨⟨h.1.1.kept hS.2.1, h.1.2.kept hS.2.1⟩, h.2⟩
theorem vs_T.narrow {A B : Nat → Prop} {U : State} {H : Heap} (h : vs_T A U H) (hAB : ∀ q, B q → A q) : vs_T B U H := ⟨⟨h.1.1.narrow hAB, h.1.2.narrow hAB⟩, h.2⟩
theorem vs_T.warm {A : Nat → Prop} {s U : State} {H : Heap} (h : vs_T A s H) (hW : s.WarmedH U.vm) : vs_T A U H :=
  ⟨⟨vx_Zq.moved hW.alike h.1.1, vx_Zq.moved hW.alike h.1.2⟩, ⟨⟨va_Nw.warmC hW h.2.1.1.1, va_Nw.warmC hW h.2.1.1.2.1, va_Nw.warmC hW h.2.1.1.2.2⟩, va_Nc.moved hW.alike h.2.1.2.1, va_Nc.moved hW.alike h.2.1.2.2.1, va_Nc.moved hW.alike h.2.1.2.2.2.1, va_Nc.moved hW.alike h.2.1.2.2.2.2.1, va_Nc.moved hW.alike h.2.1.2.2.2.2.2.1, va_Nc.moved hW.alike h.2.1.2.2.2.2.2.2⟩, fun q hq => by obtain ⟨a, ha⟩ := h.2.2 q hq; exact ⟨a, vk_R.warm hW ha⟩⟩
theorem vs_T.same {A : Nat → Prop} {u U : State} {H : Heap} (h : vs_T A u H) (hv : U.vm = u.vm) : vs_T A U H := by
  have ha : u.vm.Alike U.vm := by rw [hv]; exact Vm.Alike.refl u.vm
  exact ⟨⟨vx_Zq.moved ha h.1.1, vx_Zq.moved ha h.1.2⟩, ⟨⟨va_Nw.same rfl hv.symm h.2.1.1.1, va_Nw.same rfl hv.symm h.2.1.1.2.1, va_Nw.same rfl hv.symm h.2.1.1.2.2⟩, va_Nc.moved ha h.2.1.2.1, va_Nc.moved ha h.2.1.2.2.1, va_Nc.moved ha h.2.1.2.2.2.1, va_Nc.moved ha h.2.1.2.2.2.2.1, va_Nc.moved ha h.2.1.2.2.2.2.2.1, va_Nc.moved ha h.2.1.2.2.2.2.2.2⟩, fun q hq => by obtain ⟨a, hA⟩ := h.2.2 q hq; exact ⟨a, vk_R.same hv hA⟩⟩
/-- the four starts: a reader's, a writer's, each with and without what a throw needs -/
abbrev pR (D : va_G) (ws : va_W) (tys : List (ClassId × FieldType)) (U : State) : Prop := va_P D vwCl ws U.heap ∧ va_K D vwCl tys U
abbrev pX (D : va_G) (ws : va_W) (tys : List (ClassId × FieldType)) (U : State) : Prop := pR D ws tys U ∧ vs_T (fun _ => False) U U.heap
abbrev pZ (D : va_G) (ws : va_W) (tys : List (ClassId × FieldType)) (sz : Nat) (U : State) : Prop := U.heap.size = sz ∧ va_P D vwCl ws U.heap ∧ va_K D vwCl tys U ∧ va_D (fun _ => True) ws
abbrev pY (D : va_G) (ws : va_W) (tys : List (ClassId × FieldType)) (sz : Nat) (U : State) : Prop := pZ D ws tys sz U ∧ vs_T (va_A ws sz) U U.heap
/-- a writer's end -/
abbrev pB (D : va_G) (A : Nat → Prop) (ws : va_W) (tys : List (ClassId × FieldType)) (t : State) : Prop := va_P D vwCl ws t.heap ∧ va_K D vwCl tys t ∧ va_D A ws
section
variable {D : va_G} {ws : va_W} {tys : List (ClassId × FieldType)} {av : List Value} {s : State} {H : Heap} {sz : Nat}
theorem pR_blind : FrameBlind (va_Pc av (pR D ws tys)) := fun a U g mk q => ⟨q.1, q.2.1, va_K.moved (u := U) (U := U.calling g mk a) (Vm.Alike.refl U.vm) q.2.2⟩
theorem pX_blind : FrameBlind (va_Pc av (pX D ws tys)) := fun a U g mk q => ⟨q.1, ⟨q.2.1.1, va_K.moved (u := U) (U := U.calling g mk a) (Vm.Alike.refl U.vm) q.2.1.2⟩, vs_T.same (U := U.calling g mk a) q.2.2 rfl⟩
theorem pZ_blind : FrameBlind (va_Pc av (pZ D ws tys sz)) := fun a U g mk q => ⟨q.1, q.2.1, q.2.2.1, va_K.moved (u := U) (U := U.calling g mk a) (Vm.Alike.refl U.vm) q.2.2.2.1, q.2.2.2.2⟩
theorem pY_blind : FrameBlind (va_Pc av (pY D ws tys sz)) := fun a U g mk q => ⟨q.1, ⟨q.2.1.1, q.2.1.2.1, va_K.moved (u := U) (U := U.calling g mk a) (Vm.Alike.refl U.vm) q.2.1.2.2.1, q.2.1.2.2.2⟩, vs_T.same (U := U.calling g mk a) q.2.2 rfl⟩
theorem pR_pre (hP : va_P D vwCl ws H) (hK : va_K D vwCl tys s) : ∀ U : State, U.heap = H → s.WarmedH U.vm → va_Pc av (pR D ws tys) av.toArray U := fun U hU hW => ⟨rfl, by rw [hU]; exact hP, va_K.moved hW.alike hK⟩
theorem pX_pre (hP : va_P D vwCl ws H) (hK : va_K D vwCl tys s) (hT : vs_T (fun _ => False) s H) : ∀ U : State, U.heap = H → s.WarmedH U.vm → va_Pc av (pX D ws tys) av.toArray U := fun U hU hW => ⟨rfl, ⟨by rw [hU]; exact hP, va_K.moved hW.alike hK⟩, by rw [hU]; exact hT.warm hW⟩
theorem pZ_pre {A : Nat → Prop} (hP : va_P D vwCl ws H) (hD : va_D A ws) (hK : va_K D vwCl tys s) : ∀ U : State, U.heap = H → s.WarmedH U.vm → va_Pc av (pZ D ws tys H.size) av.toArray U := fun U hU hW => ⟨rfl, by rw [hU], by rw [hU]; exact hP, va_K.moved hW.alike hK, hD.weaken (fun _ _ _ _ => trivial)⟩
theorem pY_pre {A : Nat → Prop} (hP : va_P D vwCl ws H) (hD : va_D A ws) (hK : va_K D vwCl tys s) (hT : vs_T (va_A ws H.size) s H) : ∀ U : State, U.heap = H → s.WarmedH U.vm → va_Pc av (pY D ws tys H.size) av.toArray U := fun U hU hW => ⟨rfl, ⟨by rw [hU], by rw [hU]; exact hP, va_K.moved hW.alike hK, hD.weaken (fun _ _ _ _ => trivial)⟩, by rw [hU]; exact hT.warm hW⟩
theorem vs_F {A : Nat → Prop} {H1 : Heap} {t : State} {locs : List Loc} (hS : va_S A s.heap H locs) (h1 : H.size ≤ t.heap.size) (h2 : ∀ q : Nat, q < H.size → t.heap[q]? = H[q]?) : va_F A s t := ⟨Nat.le_trans hS.1 h1, fun q hq hn => (h2 q (Nat.lt_of_lt_of_le hq hS.1)).trans (hS.2.1 q hq hn)⟩
end
/-- a's place between b and c, as a boolean -/
def vs_in (a b c : Int32) : Int32 := if a < b then 0 else if c < a then 0 else 1
theorem vs_in_z (a b c : Int32) : narrow .boolean (.int (vs_in a b c)) = .int (vs_in a b c) := by
  unfold vs_in; split
  · rfl
  · split <;> rfl
theorem vs_in_neg (a : Int32) : vs_in a 0 (-1) = 0 := by
  unfold vs_in; split
  · rfl
  · rename_i h
    split
    · rfl
    · rename_i h2
      exact absurd (show a < 0 by simp only [Int32.lt_iff_toInt_lt, Int32.not_lt, Int32.le_iff_toInt_le] at *; have e1 : (0 : Int32).toInt = 0 := by decide; have e2 : (-1 : Int32).toInt = -1 := by decide; omega) h
/-- the words of the three throws -/
theorem vs_c27 : ∀ w ∈ (vx_atS RX3 27 vs_I vs_N).filter (fun w => !goodWord w), w ∈ ([.castable vs_I vs_I] : List Cond) := by decide +kernel
theorem vs_c47 : ∀ w ∈ (vx_atS RX3 47 vs_J vs_N).filter (fun w => !goodWord w), w ∈ ([.castable vs_J vs_J] : List Cond) := by decide +kernel
theorem vs_c59 : ∀ w ∈ (vx_atS RX3 59 vs_B vs_N).filter (fun w => !goodWord w), w ∈ ([.castable vs_B vs_B] : List Cond) := by decide +kernel
theorem vs_g27 : ∀ w ∈ Cond.classLink RX3 23 vs_I :: Cond.initialized vs_I :: vx_atS RX3 27 vs_I vs_N, vx_ot w = true := by decide +kernel
theorem vs_g47 : ∀ w ∈ Cond.classLink RX3 43 vs_J :: Cond.initialized vs_J :: vx_atS RX3 47 vs_J vs_N, vx_ot w = true := by decide +kernel
theorem vs_g59 : ∀ w ∈ Cond.classLink RX3 55 vs_B :: Cond.initialized vs_B :: vx_atS RX3 59 vs_B vs_N, vx_ot w = true := by decide +kernel
/-- what the making of a vault needs beyond the words: rows of doors, two private constructors of nest mates -/
def vs_O (U : State) : Prop := va_AO RX0 U ∧ va_Nw (.methodLinkNest RX1 19 yX2_init "VaultDoors") U ∧ va_Nw (.methodLinkNest RX1 27 yX0_init "VaultDoors") U
theorem vs_O.warm {s U : State} (h : vs_O s) (hW : s.WarmedH U.vm) : vs_O U := ⟨va_AO.moved hW.alike h.1, va_Nw.warmM hW h.2.1, va_Nw.warmM hW h.2.2⟩
theorem vs_O.same {u U : State} (h : vs_O u) (hv : U.vm = u.vm) : vs_O U := ⟨va_AO.moved (by rw [hv]; exact Vm.Alike.refl u.vm) h.1, va_Nw.same rfl hv.symm h.2.1, va_Nw.same rfl hv.symm h.2.2⟩
abbrev pA (D : va_G) (ws : va_W) (tys : List (ClassId × FieldType)) (sz : Nat) (U : State) : Prop := pZ D ws tys sz U ∧ vs_O U
section
variable {D : va_G} {ws : va_W} {tys : List (ClassId × FieldType)} {av : List Value} {s : State} {H : Heap} {sz : Nat}
theorem pA_blind : FrameBlind (va_Pc av (pA D ws tys sz)) := fun a U g mk q => ⟨q.1, ⟨q.2.1.1, q.2.1.2.1, va_K.moved (u := U) (U := U.calling g mk a) (Vm.Alike.refl U.vm) q.2.1.2.2.1, q.2.1.2.2.2⟩, vs_O.same (U := U.calling g mk a) q.2.2 rfl⟩
theorem pA_pre {A : Nat → Prop} (hP : va_P D vwCl ws H) (hD : va_D A ws) (hK : va_K D vwCl tys s) (hO : vs_O s) : ∀ U : State, U.heap = H → s.WarmedH U.vm → va_Pc av (pA D ws tys H.size) av.toArray U := fun U hU hW => ⟨rfl, ⟨by rw [hU], by rw [hU]; exact hP, va_K.moved hW.alike hK, hD.weaken (fun _ _ _ _ => trivial)⟩, hO.warm hW⟩
end
def vs_ok (a b c : Int32) : Prop := ¬ vs_in a 0 99 = 0 ∧ ¬ vs_in b 1 20 = 0 ∧ ¬ vs_in c 0 3 = 0
theorem vs_i0 : (0 : Int32).toInt = 0 := by decide
theorem vs_step {n : Nat} {z i : Int32} (h : ¬ z ≤ i) (hn : (z.toInt - i.toInt).toNat < n + 1) : (z.toInt - (i + 1).toInt).toNat < n := by
  have h1 : i.toInt < z.toInt := by
    rw [Int32.le_iff_toInt_le] at h; omega
  have h2 : (i + 1).toInt = i.toInt + 1 := by
    have a := Int32.toInt_lt z
    have b := Int32.le_toInt i
    have e1 : (1 : Int32).toInt = 1 := by decide
    rw [Int32.toInt_add, e1]
    exact Int.bmod_eq_of_le (by omega) (by omega)
  omega
theorem vs_uc {f : Nat → Int32} {a b : Int32} : upd (upd f 1 a) 0 b = upd (upd f 0 b) 1 a := by
  funext j; unfold upd; by_cases h0 : j = 0
  · subst h0; rfl
  · simp [h0]
theorem vs_u0 : (fun _ : Nat => (0 : Int32)) = upd (fun _ => 0) 1 0 := by funext j; unfold upd; split <;> rfl
theorem vs_upc {α : Type} (f : Nat → α) (a b : α) {i k : Nat} (h : i ≠ k) : va_up (va_up f i a) k b = va_up (va_up f k b) i a := by
  funext j; unfold va_up; by_cases h0 : j = k
  · subst h0; simp [Ne.symm h]
  · simp [h0]
theorem vs_swk (z : Int32) (k : Int32) (h : z.toInt = k.toInt) : z = k := Int32.toInt_inj.mp h
theorem vs_sw8 (z : Int32) : (z.toInt < 0 ∨ 7 < z.toInt) ∨ z = 0 ∨ z = 1 ∨ z = 2 ∨ z = 3 ∨ z = 4 ∨ z = 5 ∨ z = 6 ∨ z = 7 := by
  by_cases h : z.toInt < 0 ∨ 7 < z.toInt
  · exact Or.inl h
  · have hz : z.toInt = 0 ∨ z.toInt = 1 ∨ z.toInt = 2 ∨ z.toInt = 3 ∨ z.toInt = 4 ∨ z.toInt = 5 ∨ z.toInt = 6 ∨ z.toInt = 7 := by omega
    refine Or.inr ?_
    rcases hz with h | h | h | h | h | h | h | h
    · exact Or.inl (vs_swk z 0 h)
    · exact Or.inr (Or.inl (vs_swk z 1 h))
    · exact Or.inr (Or.inr (Or.inl (vs_swk z 2 h)))
    · exact Or.inr (Or.inr (Or.inr (Or.inl (vs_swk z 3 h))))
    · exact Or.inr (Or.inr (Or.inr (Or.inr (Or.inl (vs_swk z 4 h)))))
    · exact Or.inr (Or.inr (Or.inr (Or.inr (Or.inr (Or.inl (vs_swk z 5 h))))))
    · exact Or.inr (Or.inr (Or.inr (Or.inr (Or.inr (Or.inr (Or.inl (vs_swk z 6 h)))))))
    · exact Or.inr (Or.inr (Or.inr (Or.inr (Or.inr (Or.inr (Or.inr (vs_swk z 7 h)))))))
theorem vs_vi {i : Int32} {n : Nat} (h : ¬ (i < 0 ∨ n ≤ i.toNatClampNeg)) : vp_in i n := h
theorem vs_sw15 (z : Int32) : (z.toInt < 0 ∨ 14 < z.toInt) ∨ z = 0 ∨ z = 1 ∨ z = 2 ∨ z = 3 ∨ z = 4 ∨ z = 5 ∨ z = 6 ∨ z = 7 ∨ z = 8 ∨ z = 9 ∨ z = 10 ∨ z = 11 ∨ z = 12 ∨ z = 13 ∨ z = 14 := by
  by_cases h : z.toInt < 0 ∨ 14 < z.toInt
  · exact Or.inl h
  · have hz : z.toInt = 0 ∨ z.toInt = 1 ∨ z.toInt = 2 ∨ z.toInt = 3 ∨ z.toInt = 4 ∨ z.toInt = 5 ∨ z.toInt = 6 ∨ z.toInt = 7 ∨ z.toInt = 8 ∨ z.toInt = 9 ∨ z.toInt = 10 ∨ z.toInt = 11 ∨ z.toInt = 12 ∨ z.toInt = 13 ∨ z.toInt = 14 := by omega
    refine Or.inr ?_
    rcases hz with h | h | h | h | h | h | h | h | h | h | h | h | h | h | h
    · exact Or.inl (vs_swk z 0 h)
    · exact Or.inr (Or.inl (vs_swk z 1 h))
    · exact Or.inr (Or.inr (Or.inl (vs_swk z 2 h)))
    · exact Or.inr (Or.inr (Or.inr (Or.inl (vs_swk z 3 h))))
    · exact Or.inr (Or.inr (Or.inr (Or.inr (Or.inl (vs_swk z 4 h)))))
    · exact Or.inr (Or.inr (Or.inr (Or.inr (Or.inr (Or.inl (vs_swk z 5 h))))))
    · exact Or.inr (Or.inr (Or.inr (Or.inr (Or.inr (Or.inr (Or.inl (vs_swk z 6 h)))))))
    · exact Or.inr (Or.inr (Or.inr (Or.inr (Or.inr (Or.inr (Or.inr (Or.inl (vs_swk z 7 h))))))))
    · exact Or.inr (Or.inr (Or.inr (Or.inr (Or.inr (Or.inr (Or.inr (Or.inr (Or.inl (vs_swk z 8 h)))))))))
    · exact Or.inr (Or.inr (Or.inr (Or.inr (Or.inr (Or.inr (Or.inr (Or.inr (Or.inr (Or.inl (vs_swk z 9 h))))))))))
    · exact Or.inr (Or.inr (Or.inr (Or.inr (Or.inr (Or.inr (Or.inr (Or.inr (Or.inr (Or.inr (Or.inl (vs_swk z 10 h)))))))))))
    · exact Or.inr (Or.inr (Or.inr (Or.inr (Or.inr (Or.inr (Or.inr (Or.inr (Or.inr (Or.inr (Or.inr (Or.inl (vs_swk z 11 h))))))))))))
    · exact Or.inr (Or.inr (Or.inr (Or.inr (Or.inr (Or.inr (Or.inr (Or.inr (Or.inr (Or.inr (Or.inr (Or.inr (Or.inl (vs_swk z 12 h)))))))))))))
    · exact Or.inr (Or.inr (Or.inr (Or.inr (Or.inr (Or.inr (Or.inr (Or.inr (Or.inr (Or.inr (Or.inr (Or.inr (Or.inr (Or.inl (vs_swk z 13 h))))))))))))))
    · exact Or.inr (Or.inr (Or.inr (Or.inr (Or.inr (Or.inr (Or.inr (Or.inr (Or.inr (Or.inr (Or.inr (Or.inr (Or.inr (Or.inr (vs_swk z 14 h))))))))))))))
end
section
set_option maxHeartbeats 4000000 in
set_option maxRecDepth 100000 in
theorem ct_X3_isIn (l : Launch) (dC : Nat → ClassId) (dI : Nat → Nat → Nat) (za : Int32) (zb : Int32) (zc : Int32) : Met l yX3_isIn wsX3_isIn ({ frames := 0, cells := 0, slots := 0, locals := 0 }) (va_Pc [.int za, .int zb, .int zc] (pR (dC, dI) [] [])) (va_Qi (fun (r : Int32) (_ : Unit) => r = vs_in za zb zc) (fun _ _ => True) (fun _ => False)) 0 0 (fun _ => False) := by
  refine Met.ofW (cc := cX3_isIn) (maxL := 3) (ret := (some .boolean)) (by decide) rfl ?_
  intro p e s m args below meth c s₁ B hml hv
  obtain ⟨rfl, hP, hK⟩ := hv
  have hx := B.exec
  have hb := B.bytes
  have hr := B.returns
  have hts := atoms_spec (ws := wsX3_isIn) B.pre
  have hown : s.vm.findClass RX3 = some m.cls := findClass_of_methodNamed B.named
  have hlocks := B.notSynchronized
  have hS : va_S (fun _ => False) s.heap s.heap [] := va_S.rf
  have hP : va_P (dC, dI) vwCl [] s.heap := hP
  have hl := lv_entry ([.int za, .int zb, .int zc]) (n := 3) (Nat.le_of_ble_eq_true rfl)
  rw [lg_entry_eq]
  generalize (lg_sl ([.int za, .int zb, .int zc]) ++ List.replicate (3 - (lg_sl ([.int za, .int zb, .int zc])).length) Slot.unset).toArray = ls at hl ⊢
  have hl : lv_has ls 3 [(0, .int za), (1, .int zb), (2, .int zc)] := hl
  refine lv_iload_n hx hb dX3_isIn_0 rfl (lv_at hl 0 rfl) ?_
  refine lv_iload_n hx hb dX3_isIn_1 rfl (lv_at hl 1 rfl) ?_
  refine lv_icmp_lt (tgt := 14) hx hb dX3_isIn_2 (by decide) (fun c_1 => ?_) (fun c_1 => ?_)
  · refine lv_iconst (v := 0) hx hb dX3_isIn_14 (by decide) ?_
    exact W.zret (v := 0) (ty := .boolean) hx hb hr (by decide) (fun t ht hW => ⟨⟨_, (), rfl, (by simp [vs_in, c_1]), trivial⟩, hS.F ht⟩) hS.2.2 dX3_isIn_15
  · refine lv_iload_n hx hb dX3_isIn_5 rfl (lv_at hl 0 rfl) ?_
    refine lv_iload_n hx hb dX3_isIn_6 rfl (lv_at hl 2 rfl) ?_
    refine lv_icmp_gt (tgt := 14) hx hb dX3_isIn_7 (by decide) (fun c_2 => ?_) (fun c_2 => ?_)
    · refine lv_iconst (v := 0) hx hb dX3_isIn_14 (by decide) ?_
      exact W.zret (v := 0) (ty := .boolean) hx hb hr (by decide) (fun t ht hW => ⟨⟨_, (), rfl, (by simp [vs_in, c_1, c_2]), trivial⟩, hS.F ht⟩) hS.2.2 dX3_isIn_15
    · refine lv_iconst (v := 1) hx hb dX3_isIn_10 (by decide) ?_
      refine lv_goto (tgt := 15) hx hb dX3_isIn_11 (by decide) ?_
      exact W.zret (v := 1) (ty := .boolean) hx hb hr (by decide) (fun t ht hW => ⟨⟨_, (), rfl, (by simp [vs_in, c_1, c_2]), trivial⟩, hS.F ht⟩) hS.2.2 dX3_isIn_15

set_option maxHeartbeats 4000000 in
set_option maxRecDepth 100000 in
theorem ct_X4_isIn (l : Launch) (dC : Nat → ClassId) (dI : Nat → Nat → Nat) (za : Int32) (zb : Int32) (zc : Int32) : Met l yX4_isIn wsX4_isIn ({ frames := 0, cells := 0, slots := 0, locals := 0 }) (va_Pc [.int za, .int zb, .int zc] (pR (dC, dI) [] [])) (va_Qi (fun (r : Int32) (_ : Unit) => r = vs_in za zb zc) (fun _ _ => True) (fun _ => False)) 0 0 (fun _ => False) := by
  refine Met.ofW (cc := cX4_isIn) (maxL := 3) (ret := (some .boolean)) (by decide) rfl ?_
  intro p e s m args below meth c s₁ B hml hv
  obtain ⟨rfl, hP, hK⟩ := hv
  have hx := B.exec
  have hb := B.bytes
  have hr := B.returns
  have hts := atoms_spec (ws := wsX4_isIn) B.pre
  have hown : s.vm.findClass RX4 = some m.cls := findClass_of_methodNamed B.named
  have hlocks := B.notSynchronized
  have hS : va_S (fun _ => False) s.heap s.heap [] := va_S.rf
  have hP : va_P (dC, dI) vwCl [] s.heap := hP
  have hl := lv_entry ([.int za, .int zb, .int zc]) (n := 3) (Nat.le_of_ble_eq_true rfl)
  rw [lg_entry_eq]
  generalize (lg_sl ([.int za, .int zb, .int zc]) ++ List.replicate (3 - (lg_sl ([.int za, .int zb, .int zc])).length) Slot.unset).toArray = ls at hl ⊢
  have hl : lv_has ls 3 [(0, .int za), (1, .int zb), (2, .int zc)] := hl
  refine lv_iload_n hx hb dX4_isIn_0 rfl (lv_at hl 0 rfl) ?_
  refine lv_iload_n hx hb dX4_isIn_1 rfl (lv_at hl 1 rfl) ?_
  refine lv_icmp_lt (tgt := 14) hx hb dX4_isIn_2 (by decide) (fun c_1 => ?_) (fun c_1 => ?_)
  · refine lv_iconst (v := 0) hx hb dX4_isIn_14 (by decide) ?_
    exact W.zret (v := 0) (ty := .boolean) hx hb hr (by decide) (fun t ht hW => ⟨⟨_, (), rfl, (by simp [vs_in, c_1]), trivial⟩, hS.F ht⟩) hS.2.2 dX4_isIn_15
  · refine lv_iload_n hx hb dX4_isIn_5 rfl (lv_at hl 0 rfl) ?_
    refine lv_iload_n hx hb dX4_isIn_6 rfl (lv_at hl 2 rfl) ?_
    refine lv_icmp_gt (tgt := 14) hx hb dX4_isIn_7 (by decide) (fun c_2 => ?_) (fun c_2 => ?_)
    · refine lv_iconst (v := 0) hx hb dX4_isIn_14 (by decide) ?_
      exact W.zret (v := 0) (ty := .boolean) hx hb hr (by decide) (fun t ht hW => ⟨⟨_, (), rfl, (by simp [vs_in, c_1, c_2]), trivial⟩, hS.F ht⟩) hS.2.2 dX4_isIn_15
    · refine lv_iconst (v := 1) hx hb dX4_isIn_10 (by decide) ?_
      refine lv_goto (tgt := 15) hx hb dX4_isIn_11 (by decide) ?_
      exact W.zret (v := 1) (ty := .boolean) hx hb hr (by decide) (fun t ht hW => ⟨⟨_, (), rfl, (by simp [vs_in, c_1, c_2]), trivial⟩, hS.F ht⟩) hS.2.2 dX4_isIn_15

set_option maxHeartbeats 4000000 in
set_option maxRecDepth 100000 in
theorem ct_X3_isPatience (l : Launch) (dC : Nat → ClassId) (dI : Nat → Nat → Nat) (za : Int32) : Met l yX3_isPatience wsX3_isPatience ({ frames := 1, cells := 0, slots := 0, locals := 22 }) (va_Pc [.int za] (pR (dC, dI) [] [])) (va_Qi (fun (r : Int32) (_ : Unit) => r = vs_in za 1 20) (fun _ _ => True) (fun _ => False)) 0 0 (fun _ => False) := by
  refine Met.ofW (cc := cX3_isPatience) (maxL := 1) (ret := (some .boolean)) (by decide) rfl ?_
  intro p e s m args below meth c s₁ B hml hv
  obtain ⟨rfl, hP, hK⟩ := hv
  have hx := B.exec
  have hb := B.bytes
  have hr := B.returns
  have hts := atoms_spec (ws := wsX3_isPatience) B.pre
  have hown : s.vm.findClass RX3 = some m.cls := findClass_of_methodNamed B.named
  have hlocks := B.notSynchronized
  have hS : va_S (fun _ => False) s.heap s.heap [] := va_S.rf
  have hP : va_P (dC, dI) vwCl [] s.heap := hP
  have hl := lv_entry ([.int za]) (n := 1) (Nat.le_of_ble_eq_true rfl)
  rw [lg_entry_eq]
  generalize (lg_sl ([.int za]) ++ List.replicate (1 - (lg_sl ([.int za])).length) Slot.unset).toArray = ls at hl ⊢
  have hl : lv_has ls 1 [(0, .int za)] := hl
  refine lv_iload_n hx hb dX3_isPatience_0 rfl (lv_at hl 0 rfl) ?_
  refine lv_iconst (v := 1) hx hb dX3_isPatience_1 (by decide) ?_
  refine lv_bipush (v := 20) hx hb dX3_isPatience_2 (by decide) ?_
  have hPc := hP.sub (ws' := []) [] rfl
  have hKc := hK.sub (tys' := []) [] rfl
  refine va_calli (va_runS (As := [.int za, .int 1, .int 20]) (rest := []) ⟨hx, hb, hml, hown, hts⟩ (ct_X3_isIn l dC dI za 1 20) (va_cwS 3 hts gX3_isPatience_X3_isIn rfl rfl rfl (by decide +kernel) ⟨(Nat.le_of_ble_eq_true rfl), (Nat.le_of_ble_eq_true rfl)⟩) ⟨pR_blind, pR_pre hPc hKc⟩ rfl rfl hl.1 rfl (lv_room (Nat.le_of_ble_eq_true rfl)) dX3_isPatience_4 ⟨(Nat.le_of_ble_eq_true rfl), (Nat.le_of_ble_eq_true rfl)⟩) hS (fun q _ h => h.elim) (fun q h => h.elim) (fun r_1 u_2 t H1 locs ht hvm hw hB hz1 hk1 hS => ?_)
  have hP := hP.kept (fun k q hk => hk1 q.1 (hP k q hk).lt (fun h => h))
  generalize H1 = H at hP hS ⊢
  have hw : r_1 = vs_in za 1 20 := hw
  subst hw
  exact W.zret (v := vs_in za 1 20) (ty := .boolean) hx hb hr (vs_in_z _ _ _) (fun t ht hW => ⟨⟨_, (), rfl, rfl, trivial⟩, hS.F ht⟩) hS.2.2 dX3_isPatience_7

set_option maxHeartbeats 4000000 in
set_option maxRecDepth 100000 in
theorem ct_X3_isRule (l : Launch) (dC : Nat → ClassId) (dI : Nat → Nat → Nat) (za : Int32) : Met l yX3_isRule wsX3_isRule ({ frames := 1, cells := 0, slots := 0, locals := 22 }) (va_Pc [.int za] (pR (dC, dI) [] [])) (va_Qi (fun (r : Int32) (_ : Unit) => r = vs_in za 0 3) (fun _ _ => True) (fun _ => False)) 0 0 (fun _ => False) := by
  refine Met.ofW (cc := cX3_isRule) (maxL := 1) (ret := (some .boolean)) (by decide) rfl ?_
  intro p e s m args below meth c s₁ B hml hv
  obtain ⟨rfl, hP, hK⟩ := hv
  have hx := B.exec
  have hb := B.bytes
  have hr := B.returns
  have hts := atoms_spec (ws := wsX3_isRule) B.pre
  have hown : s.vm.findClass RX3 = some m.cls := findClass_of_methodNamed B.named
  have hlocks := B.notSynchronized
  have hS : va_S (fun _ => False) s.heap s.heap [] := va_S.rf
  have hP : va_P (dC, dI) vwCl [] s.heap := hP
  have hl := lv_entry ([.int za]) (n := 1) (Nat.le_of_ble_eq_true rfl)
  rw [lg_entry_eq]
  generalize (lg_sl ([.int za]) ++ List.replicate (1 - (lg_sl ([.int za])).length) Slot.unset).toArray = ls at hl ⊢
  have hl : lv_has ls 1 [(0, .int za)] := hl
  refine lv_iload_n hx hb dX3_isRule_0 rfl (lv_at hl 0 rfl) ?_
  refine lv_iconst (v := 0) hx hb dX3_isRule_1 (by decide) ?_
  refine lv_iconst (v := 3) hx hb dX3_isRule_2 (by decide) ?_
  have hPc := hP.sub (ws' := []) [] rfl
  have hKc := hK.sub (tys' := []) [] rfl
  refine va_calli (va_runS (As := [.int za, .int 0, .int 3]) (rest := []) ⟨hx, hb, hml, hown, hts⟩ (ct_X3_isIn l dC dI za 0 3) (va_cwS 3 hts gX3_isRule_X3_isIn rfl rfl rfl (by decide +kernel) ⟨(Nat.le_of_ble_eq_true rfl), (Nat.le_of_ble_eq_true rfl)⟩) ⟨pR_blind, pR_pre hPc hKc⟩ rfl rfl hl.1 rfl (lv_room (Nat.le_of_ble_eq_true rfl)) dX3_isRule_3 ⟨(Nat.le_of_ble_eq_true rfl), (Nat.le_of_ble_eq_true rfl)⟩) hS (fun q _ h => h.elim) (fun q h => h.elim) (fun r_1 u_2 t H1 locs ht hvm hw hB hz1 hk1 hS => ?_)
  have hP := hP.kept (fun k q hk => hk1 q.1 (hP k q hk).lt (fun h => h))
  generalize H1 = H at hP hS ⊢
  have hw : r_1 = vs_in za 0 3 := hw
  subst hw
  exact W.zret (v := vs_in za 0 3) (ty := .boolean) hx hb hr (vs_in_z _ _ _) (fun t ht hW => ⟨⟨_, (), rfl, rfl, trivial⟩, hS.F ht⟩) hS.2.2 dX3_isRule_6

theorem in_X1_isDoor_X1 : ∀ w ∈ wsX10, w ∈ wsX1_isDoor := by decide +kernel
set_option maxHeartbeats 4000000 in
set_option maxRecDepth 100000 in
theorem ct_X1_isDoor (l : Launch) (dC : Nat → ClassId) (dI : Nat → Nat → Nat) (zn : Int32) (tk : Int32) (av : Nat) (adr : Nat) (ao : Nat) (aar : Nat) : Met l yX1_isDoor wsX1_isDoor ({ frames := 0, cells := 0, slots := 0, locals := 0 }) (va_Pc [.ref av, .int zn] (pR (dC, dI) [(av, .inr (1, [.int tk, .int 0, .ref adr, .ref ao, .ref aar]))] [])) (va_Qi (fun (r : Int32) (_ : Unit) => r = 0) (fun _ _ => True) (fun _ => False)) 0 0 (fun _ => False) := by
  refine Met.ofW (cc := cX1_isDoor) (maxL := 2) (ret := (some .boolean)) (by decide) rfl ?_
  intro p e s m args below meth c s₁ B hml hv
  obtain ⟨rfl, hP, hK⟩ := hv
  have hx := B.exec
  have hb := B.bytes
  have hr := B.returns
  have hts := atoms_spec (ws := wsX1_isDoor) B.pre
  have hown : s.vm.findClass RX1 = some m.cls := findClass_of_methodNamed B.named
  have hlocks := B.notSynchronized
  have hS : va_S (fun _ => False) s.heap s.heap [] := va_S.rf
  have hP : va_P (dC, dI) vwCl [(av, .inr (1, [.int tk, .int 0, .ref adr, .ref ao, .ref aar]))] s.heap := hP
  have hl := lv_entry ([.ref av, .int zn]) (n := 2) (Nat.le_of_ble_eq_true rfl)
  rw [lg_entry_eq]
  generalize (lg_sl ([.ref av, .int zn]) ++ List.replicate (2 - (lg_sl ([.ref av, .int zn])).length) Slot.unset).toArray = ls at hl ⊢
  have hl : lv_has ls 2 [(0, .ref av), (1, .int zn)] := hl
  refine lv_iload_n hx hb dX1_isDoor_0 rfl (lv_at hl 1 rfl) ?_
  refine lv_if_lt (tgt := 16) hx hb dX1_isDoor_1 (by decide) (fun c_1 => ?_) (fun c_1 => ?_)
  · refine lv_iconst (v := 0) hx hb dX1_isDoor_16 (by decide) ?_
    exact W.zret (v := 0) (ty := .boolean) hx hb hr (by decide) (fun t ht hW => ⟨⟨_, (), rfl, rfl, trivial⟩, hS.F ht⟩) hS.2.2 dX1_isDoor_17
  · refine lv_iload_n hx hb dX1_isDoor_4 rfl (lv_at hl 1 rfl) ?_
    refine lv_aload_n hx hb dX1_isDoor_5 rfl (lv_at hl 0 rfl) ?_
    refine va_get (D := (dC, dI)) (ci := 1) (v := .int 0) (C := RX1) (T := TX1) (N := 5) hx hb hts in_X1_isDoor_X1 hown hK hP 0 rfl rfl 1 (by decide) (hts (.fieldLink RX1 32 "VaultDoors$Vault" "doorCount" "I") (by decide +kernel)) (fun _ h9 => h9) rfl dX1_isDoor_6 ?_
    refine lv_icmp_ge (tgt := 16) hx hb dX1_isDoor_9 (by decide) (fun _ => ?_) (fun h => absurd (Int32.not_lt.mp c_1) h)
    refine lv_iconst (v := 0) hx hb dX1_isDoor_16 (by decide) ?_
    exact W.zret (v := 0) (ty := .boolean) hx hb hr (by decide) (fun t ht hW => ⟨⟨_, (), rfl, rfl, trivial⟩, hS.F ht⟩) hS.2.2 dX1_isDoor_17
end
