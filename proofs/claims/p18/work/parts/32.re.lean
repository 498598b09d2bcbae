/-! whom a door reaches: sets as bits -/
theorem xI_bv (x : Nat) : (xI (x : Int)).toBitVec = BitVec.ofNat 32 x := by
  unfold xI; rw [Int32.ofInt_eq_ofNat]; rfl
theorem xI_or (x y : Nat) : xI (x : Int) ||| xI (y : Int) = xI ((x ||| y : Nat) : Int) := by
  apply Int32.toBitVec_inj.mp
  rw [Int32.toBitVec_or, xI_bv, xI_bv, xI_bv, BitVec.ofNat_or]
theorem xI_and (x y : Nat) : xI (x : Int) &&& xI (y : Int) = xI ((x &&& y : Nat) : Int) := by
  apply Int32.toBitVec_inj.mp
  rw [Int32.toBitVec_and, xI_bv, xI_bv, xI_bv, BitVec.ofNat_and]
theorem shl_bit : ∀ k, k < 10 → (xI 1 <<< (xI ((k : Nat) : Int) &&& xI 31)) = xI ((2 ^ k : Nat) : Int) := by decide +kernel
theorem bit_in : ∀ k, k < 10 → ∀ x, x < 1024 → x.testBit k = true → ((xI ((x : Nat) : Int) >>> (xI ((k : Nat) : Int) &&& xI 31)) &&& xI 1) ≠ xI 0 := by decide +kernel
theorem sub_bits {x y : Nat} (h : ∀ i, x.testBit i = true → y.testBit i = true) : (xI (x : Int) &&& (xI (y : Int) ^^^ xI (-1))) = xI 0 := by
  apply Int32.toBitVec_inj.mp
  rw [Int32.toBitVec_and, Int32.toBitVec_xor, xI_bv, xI_bv]
  apply BitVec.eq_of_getLsbD_eq
  intro i hi
  have e1 : (xI (-1)).toBitVec = BitVec.allOnes 32 := rfl
  have e0 : (xI 0).toBitVec = 0#32 := rfl
  rw [e1, e0, BitVec.getLsbD_and, BitVec.getLsbD_xor, BitVec.getLsbD_allOnes, BitVec.getLsbD_ofNat, BitVec.getLsbD_ofNat, BitVec.getLsbD_zero]
  cases hx : x.testBit i with
  | false => simp
  | true => rw [h i hx]; simp [hi]
def aB0 (x : Nat) (l : List aR) : Nat := l.foldl (fun x a => x ||| 2 ^ (a 0).toNat) x
def aB (l : List aR) : Nat := aB0 0 l
def a_ro (S : aS) (x : Nat) (k : Nat) : Nat → Nat → Nat
  | 0, acc => acc
  | r + 1, acc => a_ro S x (k + 1) r (if x.testBit k then acc ||| aB (S.2.2.1 k).2.1 else acc)
def a_rd (S : aS) : Nat → Nat → Nat
  | 0, x => x
  | r + 1, x => a_rd S r (a_ro S x 0 S.1 x)
def a_rch (S : aS) (k : Nat) : Nat := a_rd S S.1 (aB (S.2.2.1 k).2.1)
section
variable {b k : Nat} {σ τ : aN} {S : aS} {d : aD} {m : vM}
theorem aB0_bit {t : Nat} : ∀ (l : List aR) (x : Nat), (aB0 x l).testBit t = true ↔ x.testBit t = true ∨ ∃ a ∈ l, (a 0).toNat = t := by
  intro l
  induction l with
  | nil => intro x; simp [aB0]
  | cons a l ih =>
    intro x
    have e : aB0 x (a :: l) = aB0 (x ||| 2 ^ (a 0).toNat) l := rfl
    rw [e, ih, Nat.testBit_or, Nat.testBit_two_pow]
    simp [or_assoc]
theorem aB_bit {t : Nat} {l : List aR} : (aB l).testBit t = true ↔ ∃ a ∈ l, (a 0).toNat = t := by
  unfold aB; rw [aB0_bit]; simp
theorem ro_bit {x t : Nat} : ∀ r k acc, (a_ro S x k r acc).testBit t = true ↔ acc.testBit t = true ∨ ∃ j, k ≤ j ∧ j < k + r ∧ x.testBit j = true ∧ (aB (S.2.2.1 j).2.1).testBit t = true := by
  intro r
  induction r with
  | zero =>
    intro k acc
    constructor
    · intro h; exact .inl h
    · rintro (h | ⟨j, h1, h2, _⟩)
      · exact h
      · omega
  | succ r ih =>
    intro k acc
    show (a_ro S x (k + 1) r _).testBit t = true ↔ _
    rw [ih]
    by_cases e : x.testBit k = true
    · rw [if_pos e, Nat.testBit_or]
      constructor
      · rintro (h | ⟨j, h1, h2, h3⟩)
        · rcases Bool.or_eq_true _ _ ▸ h with h | h
          · exact .inl h
          · exact .inr ⟨k, by omega, by omega, e, h⟩
        · exact .inr ⟨j, by omega, by omega, h3⟩
      · rintro (h | ⟨j, h1, h2, h3, h4⟩)
        · exact .inl (by rw [h]; rfl)
        · by_cases g : j = k
          · subst g; exact .inl (by rw [h4]; simp)
          · exact .inr ⟨j, by omega, by omega, h3, h4⟩
    · rw [if_neg e]
      constructor
      · rintro (h | ⟨j, h1, h2, h3⟩)
        · exact .inl h
        · exact .inr ⟨j, by omega, by omega, h3⟩
      · rintro (h | ⟨j, h1, h2, h3, h4⟩)
        · exact .inl h
        · by_cases g : j = k
          · subst g; exact absurd h3 e
          · exact .inr ⟨j, by omega, by omega, h3, h4⟩
/-- one round -/
def a_rn (S : aS) (x : Nat) : Nat := a_ro S x 0 S.1 x
theorem rn_bit {x t : Nat} : (a_rn S x).testBit t = true ↔ x.testBit t = true ∨ ∃ j, j < S.1 ∧ x.testBit j = true ∧ (aB (S.2.2.1 j).2.1).testBit t = true := by
  unfold a_rn; rw [ro_bit]
  constructor
  · rintro (h | ⟨j, _, h2, h3⟩)
    · exact .inl h
    · exact .inr ⟨j, by omega, h3⟩
  · rintro (h | ⟨j, h2, h3⟩)
    · exact .inl h
    · exact .inr ⟨j, by omega, by omega, h3⟩
def sub (x y : Nat) : Prop := ∀ t, x.testBit t = true → y.testBit t = true
theorem rd_sup : ∀ r x, sub x (a_rd S r x) := by
  intro r
  induction r with
  | zero => intro x t h; exact h
  | succ r ih => intro x t h; exact ih _ t (rn_bit.mpr (.inl h))
theorem rd_least {y : Nat} (hy : ∀ j, j < S.1 → y.testBit j = true → sub (aB (S.2.2.1 j).2.1) y) : ∀ r x, sub x y → sub (a_rd S r x) y := by
  intro r
  induction r with
  | zero => intro x h; exact h
  | succ r ih =>
    intro x h
    refine ih _ (fun t ht => ?_)
    rcases rn_bit.mp ht with g | ⟨j, g1, g2, g3⟩
    · exact h t g
    · exact hy j g1 (h j g2) t g3
/-- how many doors of a set -/
def cd (n x : Nat) : Nat := (List.range n).countP (fun t => x.testBit t)
theorem cp_lt {l : List Nat} {p q : Nat → Bool} (h : ∀ a ∈ l, p a = true → q a = true) (h2 : ∃ a ∈ l, q a = true ∧ p a = false) : l.countP p < l.countP q := by
  induction l with
  | nil => obtain ⟨a, ha, _⟩ := h2; cases ha
  | cons c l ih =>
    rw [List.countP_cons, List.countP_cons]
    have hle : l.countP p ≤ l.countP q := List.countP_mono_left (fun a ha => h a (List.mem_cons_of_mem _ ha))
    obtain ⟨a, ha, g1, g2⟩ := h2
    rcases List.mem_cons.mp ha with e | e
    · subst e; rw [g1, g2]; simp; omega
    · have := ih (fun b hb => h b (List.mem_cons_of_mem _ hb)) ⟨a, e, g1, g2⟩
      have h0 := h c List.mem_cons_self
      cases hp : p c with
      | false => simp; split <;> omega
      | true => rw [h0 hp]; simp; omega
theorem rn_closed {x : Nat} (h : a_rn S x = x) : ∀ j, j < S.1 → x.testBit j = true → sub (aB (S.2.2.1 j).2.1) x := by
  intro j hj hx t ht
  rw [← h]
  exact rn_bit.mpr (.inr ⟨j, hj, hx, ht⟩)
theorem rd_fix {x : Nat} (h : a_rn S x = x) : ∀ r, a_rd S r x = x := by
  intro r
  induction r with
  | zero => rfl
  | succ r ih => show a_rd S r (a_rn S x) = x; rw [h]; exact ih
theorem rn_lt {x : Nat} (hx : ∀ t, x.testBit t = true → t < S.1) (ha : ∀ j, j < S.1 → ∀ a ∈ (S.2.2.1 j).2.1, (a 0).toNat < S.1) : ∀ t, (a_rn S x).testBit t = true → t < S.1 := by
  intro t h
  rcases rn_bit.mp h with g | ⟨j, g1, _, g3⟩
  · exact hx t g
  · obtain ⟨a, h1, h2⟩ := aB_bit.mp g3
    have := ha j g1 a h1
    omega
/-- behind as many rounds as there are doors nothing new is reached -/
theorem rd_end (ha : ∀ j, j < S.1 → ∀ a ∈ (S.2.2.1 j).2.1, (a 0).toNat < S.1) : ∀ r x, (∀ t, x.testBit t = true → t < S.1) → S.1 ≤ cd S.1 x + r → a_rn S (a_rd S r x) = a_rd S r x := by
  intro r
  induction r with
  | zero =>
    intro x hx hc
    show a_rn S x = x
    apply Nat.eq_of_testBit_eq
    intro t
    cases h1 : (a_rn S x).testBit t with
    | false =>
      cases h2 : x.testBit t with
      | false => rfl
      | true => exact absurd (rn_bit.mpr (.inl h2)) (by rw [h1]; decide)
    | true =>
      have ht := rn_lt hx ha t h1
      cases h2 : x.testBit t with
      | true => rfl
      | false =>
        exfalso
        have h3 : cd S.1 x < (List.range S.1).countP (fun _ => true) := cp_lt (fun _ _ _ => rfl) ⟨t, List.mem_range.mpr ht, rfl, h2⟩
        simp at h3; omega
  | succ r ih =>
    intro x hx hc
    by_cases e : a_rn S x = x
    · rw [rd_fix e]; exact e
    · refine ih (a_rn S x) (rn_lt hx ha) ?_
      have h3 : cd S.1 x < cd S.1 (a_rn S x) := by
        refine cp_lt (fun t _ h => rn_bit.mpr (.inl h)) ?_
        have : ∃ t, (a_rn S x).testBit t ≠ x.testBit t := by
          refine Classical.byContradiction (fun g => e (Nat.eq_of_testBit_eq (fun t => ?_)))
          exact Classical.byContradiction (fun g2 => g ⟨t, g2⟩)
        obtain ⟨t, ht⟩ := this
        cases h1 : (a_rn S x).testBit t with
        | false =>
          cases h2 : x.testBit t with
          | false => rw [h1, h2] at ht; exact absurd rfl ht
          | true => exact absurd (rn_bit.mpr (.inl h2)) (by rw [h1]; decide)
        | true =>
          cases h2 : x.testBit t with
          | true => rw [h1, h2] at ht; exact absurd rfl ht
          | false => exact ⟨t, List.mem_range.mpr (rn_lt hx ha t h1), h1, h2⟩
      omega
theorem rch_asked {a : aR} (h : a ∈ (S.2.2.1 k).2.1) : (a_rch S k).testBit (a 0).toNat = true := rd_sup _ _ _ (aB_bit.mpr ⟨a, h, rfl⟩)
theorem rch_sub {a : aR} (hk : k < S.1) (ha : ∀ j, j < S.1 → ∀ a ∈ (S.2.2.1 j).2.1, (a 0).toNat < S.1) (h : a ∈ (S.2.2.1 k).2.1) : sub (a_rch S (a 0).toNat) (a_rch S k) := by
  have hx : ∀ t, (aB (S.2.2.1 k).2.1).testBit t = true → t < S.1 := by
    intro t ht
    obtain ⟨c, h1, h2⟩ := aB_bit.mp ht
    have := ha k hk c h1
    omega
  have hc := rn_closed (rd_end ha S.1 _ hx (by omega))
  exact rd_least hc _ _ (hc _ (ha k hk a h) (rch_asked h))
theorem rd_lt (ha : ∀ j, j < S.1 → ∀ a ∈ (S.2.2.1 j).2.1, (a 0).toNat < S.1) : ∀ r x, (∀ t, x.testBit t = true → t < S.1) → ∀ t, (a_rd S r x).testBit t = true → t < S.1 := by
  intro r
  induction r with
  | zero => intro x h; exact h
  | succ r ih => intro x h; exact ih _ (rn_lt h ha)
theorem rch_lt (hn : S.1 ≤ 10) (hk : k < S.1) (ha : ∀ j, j < S.1 → ∀ a ∈ (S.2.2.1 j).2.1, (a 0).toNat < S.1) : a_rch S k < 1024 := by
  have h : a_rch S k < 2 ^ 10 := by
    apply Nat.lt_pow_two_of_testBit
    intro i hi
    cases h : (a_rch S k).testBit i with
    | false => rfl
    | true =>
      have := rd_lt ha S.1 _ (fun t ht => by
        obtain ⟨c, h1, h2⟩ := aB_bit.mp ht
        have := ha k hk c h1
        omega) i h
      omega
  exact h
end
