/-! a quotient of two whole numbers is a number -/
theorem fp_asm {e t : Nat} : FP.Core.assemble FP.Core.b64 false e t = e * 2 ^ 52 + t := by
  show (Bool.toNat false * FP.Core.b64.exps + e) * FP.Core.b64.tails + t = _
  have e1 : FP.Core.b64.tails = 2 ^ 52 := by decide
  rw [e1]
  show (0 * FP.Core.b64.exps + e) * 2 ^ 52 + t = _
  rw [Nat.zero_mul, Nat.zero_add]
theorem fp_settle {c : Nat} {q : Int} : FP.Core.encode FP.Core.b64 (FP.Core.settle FP.Core.b64 false c q) ≤ 2047 * 2 ^ 52 := by
  have e1 : FP.Core.b64.tails = 2 ^ 52 := by decide
  have e2 : FP.Core.b64.qmax = 971 := by decide
  have e3 : FP.Core.b64.qmin = -1074 := by decide
  have e4 : FP.Core.b64.exps = 2048 := by decide
  have e5 : FP.Core.b64.p = 53 := rfl
  have hb : ∀ (c : Nat) (q : Int), c < 2 ^ 53 → FP.Core.encode FP.Core.b64 (FP.Core.bound FP.Core.b64 false c q) ≤ 2047 * 2 ^ 52 := by
    intro c q hc
    unfold FP.Core.bound
    split
    · rename_i h
      rw [e2] at h
      show (if c < FP.Core.b64.tails then FP.Core.assemble FP.Core.b64 false 0 c else FP.Core.assemble FP.Core.b64 false ((q - FP.Core.b64.qmin).toNat + 1) (c - FP.Core.b64.tails)) ≤ _
      rw [e1, e3]
      split
      · rw [fp_asm]; omega
      · rw [fp_asm]; omega
    · show FP.Core.assemble FP.Core.b64 false (FP.Core.b64.exps - 1) 0 ≤ _
      rw [fp_asm, e4]; omega
  unfold FP.Core.settle
  rw [e5]
  split
  · rename_i h; exact hb c q h
  · exact hb _ _ (by rw [e1]; decide)
theorem fp_i2d {a : Int} (h : 1 ≤ a ∧ a < 2147483648) : ∃ c q, c ≠ 0 ∧ FP.Core.decode FP.Core.b64 (FP.i2d (xI a)).toNat = .fin false c q := by
  have e1 : FP.Core.b64.tails = 2 ^ 52 := by decide
  have e2 : FP.Core.b64.qmax = 971 := by decide
  have e3 : FP.Core.b64.qmin = -1074 := by decide
  have e4 : FP.Core.b64.exps = 2048 := by decide
  have e5 : FP.Core.b64.p = 53 := rfl
  obtain ⟨n, hn⟩ : ∃ n : Nat, a = n := ⟨a.toNat, by omega⟩
  have hn0 : n ≠ 0 := by omega
  have hl1 := Nat.log2_self_le hn0
  have hl2 := Nat.lt_log2_self (n := n)
  have hl3 : n.log2 < 31 := (Nat.log2_lt hn0).mpr (by have : n < 2147483648 := by omega
                                                      exact this)
  have hlead : FP.Core.leading n 1 = (n.log2 : Int) := by
    unfold FP.Core.leading
    have e9 : (1 : Nat).log2 = 0 := by decide
    rw [e9]
    simp only [Int.natCast_zero, Int.sub_zero, Int.toNat_natCast, Nat.one_mul]
    have e8 : (-(n.log2 : Int)).toNat = 0 := by omega
    rw [e8, Nat.pow_zero, Nat.mul_one, if_pos hl1]
  have hq : FP.Core.quantum FP.Core.b64 n 1 0 = (n.log2 : Int) - 52 := by
    unfold FP.Core.quantum
    rw [hlead, e3, e5]
    omega
  have hr : FP.Core.round FP.Core.b64 (FP.Core.ofInt (n : Int)) = .fin false (n * 2 ^ (52 - n.log2)) ((n.log2 : Int) - 52) := by
    show FP.Core.roundRatio FP.Core.b64 (decide ((n : Int) < 0)) (n : Int).natAbs 1 0 = _
    have e9 : decide ((n : Int) < 0) = false := by simp
    rw [e9, Int.natAbs_natCast]
    unfold FP.Core.roundRatio
    rw [if_neg hn0, hq]
    unfold FP.Core.roundAt FP.Core.unitsNum FP.Core.unitsDen
    have e7 : ((0 : Int) - ((n.log2 : Int) - 52)).toNat = 52 - n.log2 := by omega
    have e6 : ((n.log2 : Int) - 52 - 0).toNat = 0 := by omega
    rw [e7, e6, Nat.pow_zero, Nat.mul_one]
    have hnear : FP.Core.nearest (n * 2 ^ (52 - n.log2)) 1 = n * 2 ^ (52 - n.log2) := by
      unfold FP.Core.nearest
      rw [Nat.mod_one, if_pos (by decide), Nat.div_one]
    rw [hnear]
    have hlt : n * 2 ^ (52 - n.log2) < 2 ^ 53 := by
      have h9 : n * 2 ^ (52 - n.log2) < 2 ^ (n.log2 + 1) * 2 ^ (52 - n.log2) := Nat.mul_lt_mul_of_pos_right hl2 (Nat.two_pow_pos _)
      rw [← Nat.pow_add, show n.log2 + 1 + (52 - n.log2) = 53 by omega] at h9
      exact h9
    unfold FP.Core.settle FP.Core.bound
    rw [e5, if_pos hlt, e2, if_pos (by omega)]
  have hge : 2 ^ 52 ≤ n * 2 ^ (52 - n.log2) := by
    have h9 : 2 ^ n.log2 * 2 ^ (52 - n.log2) ≤ n * 2 ^ (52 - n.log2) := Nat.mul_le_mul_right _ hl1
    rw [← Nat.pow_add, show n.log2 + (52 - n.log2) = 52 by omega] at h9
    exact h9
  have hlt : n * 2 ^ (52 - n.log2) < 2 ^ 53 := by
    have h9 : n * 2 ^ (52 - n.log2) < 2 ^ (n.log2 + 1) * 2 ^ (52 - n.log2) := Nat.mul_lt_mul_of_pos_right hl2 (Nat.two_pow_pos _)
    rw [← Nat.pow_add, show n.log2 + 1 + (52 - n.log2) = 53 by omega] at h9
    exact h9
  have hb : (FP.i2d (xI a)).toNat = (n.log2 + 1023) * 2 ^ 52 + (n * 2 ^ (52 - n.log2) - 2 ^ 52) := by
    show (UInt64.ofNat (FP.Core.encode FP.Core.b64 (FP.Core.round FP.Core.b64 (FP.Core.ofInt (xI a).toInt)))).toNat = _
    rw [xI_tI (by omega), hn, hr]
    have e9 : FP.Core.encode FP.Core.b64 (.fin false (n * 2 ^ (52 - n.log2)) ((n.log2 : Int) - 52)) = (n.log2 + 1023) * 2 ^ 52 + (n * 2 ^ (52 - n.log2) - 2 ^ 52) := by
      show (if n * 2 ^ (52 - n.log2) < FP.Core.b64.tails then _ else FP.Core.assemble FP.Core.b64 false (((n.log2 : Int) - 52 - FP.Core.b64.qmin).toNat + 1) (n * 2 ^ (52 - n.log2) - FP.Core.b64.tails)) = _
      rw [e1, if_neg (by omega), fp_asm, e3]
      congr 2
      omega
    rw [e9]
    apply UInt64.toNat_ofNat_of_lt'
    show _ < 2 ^ 64
    generalize n * 2 ^ (52 - n.log2) = y at hge hlt ⊢
    omega
  rw [hb]
  generalize n * 2 ^ (52 - n.log2) = y at hge hlt ⊢
  have hT : FP.Core.fieldT FP.Core.b64 ((n.log2 + 1023) * 2 ^ 52 + (y - 2 ^ 52)) = y - 2 ^ 52 := by
    unfold FP.Core.fieldT; rw [e1]; omega
  have hE : FP.Core.fieldE FP.Core.b64 ((n.log2 + 1023) * 2 ^ 52 + (y - 2 ^ 52)) = n.log2 + 1023 := by
    unfold FP.Core.fieldE; rw [e1, e4]; omega
  have hS : FP.Core.fieldS FP.Core.b64 ((n.log2 + 1023) * 2 ^ 52 + (y - 2 ^ 52)) = false := by
    unfold FP.Core.fieldS; rw [e1, e4]
    have : ((n.log2 + 1023) * 2 ^ 52 + (y - 2 ^ 52)) / 2 ^ 52 / 2048 % 2 = 0 := by omega
    rw [this]; rfl
  unfold FP.Core.decode
  rw [hE, hT, hS, e4, if_neg (by omega), if_neg (by omega), e1]
  exact ⟨_, _, by omega, rfl⟩
theorem fp_i2d0 : FP.Core.decode FP.Core.b64 (FP.i2d (xI 0)).toNat = .fin false 0 (-1074) := by decide +kernel
theorem fp_div {a b : Int} (ha : 0 ≤ a ∧ a < 2147483648) (hb : 1 ≤ b ∧ b < 2147483648) : (FP.ddiv (FP.i2d (xI a)) (FP.i2d (xI b))).toNat ≤ 2047 * 2 ^ 52 := by
  obtain ⟨d, r, hd, hdb⟩ := fp_i2d hb
  have hda : ∃ c q, FP.Core.decode FP.Core.b64 (FP.i2d (xI a)).toNat = .fin false c q := by
    by_cases e : a = 0
    · subst e; exact ⟨_, _, fp_i2d0⟩
    · obtain ⟨c, q, _, h⟩ := fp_i2d (a := a) (by omega)
      exact ⟨c, q, h⟩
  obtain ⟨c, q, hda⟩ := hda
  have key : FP.Core.encode FP.Core.b64 (FP.Core.quotient FP.Core.b64 (.fin false c q) (.fin false d r)) ≤ 2047 * 2 ^ 52 := by
    show FP.Core.encode FP.Core.b64 (if d = 0 then _ else FP.Core.roundRatio FP.Core.b64 (false != false) c d (q - r)) ≤ _
    rw [if_neg hd]
    unfold FP.Core.roundRatio
    split
    · have e9 : FP.Core.encode FP.Core.b64 (.fin (false != false) 0 FP.Core.b64.qmin) = 0 := by decide +kernel
      rw [e9]; exact Nat.zero_le _
    · exact fp_settle
  show (UInt64.ofNat (FP.Core.encode FP.Core.b64 (FP.Core.quotient FP.Core.b64 (FP.Core.decode FP.Core.b64 (FP.i2d (xI a)).toNat) (FP.Core.decode FP.Core.b64 (FP.i2d (xI b)).toNat)))).toNat ≤ _
  rw [hda, hdb, UInt64.toNat_ofNat_of_lt' (by show _ < 2 ^ 64; omega)]
  exact key
theorem fp_n64 {u : UInt64} (h : u.toNat ≤ 2047 * 2 ^ 52) : vf_n64 u := by
  unfold vf_n64
  rw [UInt64.le_iff_toNat_le, UInt64.toNat_and]
  have e1 : (0x7fffffffffffffff : UInt64).toNat = 2 ^ 63 - 1 := by decide
  have e2 : (0x7ff0000000000000 : UInt64).toNat = 2047 * 2 ^ 52 := by decide
  rw [e1, e2, Nat.and_two_pow_sub_one_eq_mod, Nat.mod_eq_of_lt (by omega)]
  exact h
theorem fp_cmp {u : UInt64} (h : u.toNat ≤ 2047 * 2 ^ 52) : Op.cmpValue (FP.dcmp u u) .l = 0 := by
  have e1 : FP.Core.b64.tails = 2 ^ 52 := by decide
  have e4 : FP.Core.b64.exps = 2048 := by decide
  have hnn : FP.Core.decode FP.Core.b64 u.toNat ≠ .nan := by
    unfold FP.Core.decode FP.Core.fieldE FP.Core.fieldT
    rw [e1, e4]
    generalize u.toNat = n at h ⊢
    split
    · split
      · intro g; cases g
      · omega
    · split
      · intro g; cases g
      · intro g; cases g
  have hc : ∀ x : Int, compare x x = .eq := fun x => by simp [compare, compareOfLessAndEq]
  have ho : FP.dcmp u u = some .eq := by
    show FP.Core.order (FP.Core.decode FP.Core.b64 u.toNat) (FP.Core.decode FP.Core.b64 u.toNat) = _
    cases e : FP.Core.decode FP.Core.b64 u.toNat with
    | nan => exact absurd e hnn
    | inf s => show some (compare _ _) = _; rw [hc]
    | fin s c q => show some (compare _ _) = _; rw [hc]
  rw [ho]; rfl
theorem fp_c0 : Op.cmpValue (FP.dcmp FP.dconst0 FP.dconst0) .l = 0 := fp_cmp (by decide)
