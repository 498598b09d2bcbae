/-! numbers of 32 bits as whole numbers -/
def xI (x : Int) : Int32 := Int32.ofInt x
theorem xI_add (a b : Int) : xI a + xI b = xI (a + b) := (Int32.ofInt_add a b).symm
theorem xI_sub (a b : Int) : xI a - xI b = xI (a - b) := (Int32.ofInt_sub a b).symm
theorem xI_mul (a b : Int) : xI a * xI b = xI (a * b) := (Int32.ofInt_mul a b).symm
theorem xI_neg (a : Int) : -(xI a) = xI (-a) := (Int32.ofInt_neg a).symm
theorem xI_nat (n : Nat) : Int32.ofNat n = xI (n : Int) := Int32.ofInt_eq_ofNat.symm
theorem xI_tI {a : Int} (h : -2147483648 ≤ a ∧ a < 2147483648) : (xI a).toInt = a := Int32.toInt_ofInt_of_le h.1 h.2
theorem xltT {a b : Int} (h : -2147483648 ≤ a ∧ a < b ∧ b < 2147483648) : (xI a < xI b) = True := by
  apply eq_true; rw [Int32.lt_iff_toInt_lt, xI_tI (by omega), xI_tI (by omega)]; exact h.2.1
theorem xltF {a b : Int} (h : -2147483648 ≤ b ∧ b ≤ a ∧ a < 2147483648) : (xI a < xI b) = False := by
  apply eq_false; rw [Int32.lt_iff_toInt_lt, xI_tI (by omega), xI_tI (by omega)]; omega
theorem xleT {a b : Int} (h : -2147483648 ≤ a ∧ a ≤ b ∧ b < 2147483648) : (xI a ≤ xI b) = True := by
  apply eq_true; rw [Int32.le_iff_toInt_le, xI_tI (by omega), xI_tI (by omega)]; exact h.2.1
theorem xleF {a b : Int} (h : -2147483648 ≤ b ∧ b < a ∧ a < 2147483648) : (xI a ≤ xI b) = False := by
  apply eq_false; rw [Int32.le_iff_toInt_le, xI_tI (by omega), xI_tI (by omega)]; omega
theorem xeqT {a b : Int} (h : a = b) : (xI a = xI b) = True := by rw [h]; exact eq_true rfl
theorem xeqF {a b : Int} (h : -2147483648 ≤ a ∧ a < 2147483648 ∧ -2147483648 ≤ b ∧ b < 2147483648 ∧ a ≠ b) : (xI a = xI b) = False := by
  apply eq_false; intro h9
  have h8 := congrArg Int32.toInt h9
  rw [xI_tI (by omega), xI_tI (by omega)] at h8
  omega
theorem xI_cl {a : Int} (h : -2147483648 ≤ a ∧ a < 2147483648) : (xI a).toNatClampNeg = a.toNat := Int32.toNatClampNeg_ofInt_of_le h.1 h.2
theorem nleT {a b : Nat} (h : a ≤ b) : (a ≤ b) = True := eq_true h
theorem nleF {a b : Nat} (h : ¬ a ≤ b) : (a ≤ b) = False := eq_false h
theorem nltT {a b : Nat} (h : a < b) : (a < b) = True := eq_true h
theorem nltF {a b : Nat} (h : ¬ a < b) : (a < b) = False := eq_false h
theorem neqT {a b : Nat} (h : a = b) : (a = b) = True := eq_true h
theorem neqF {a b : Nat} (h : a ≠ b) : (a = b) = False := eq_false h
theorem ileT {a b : Int} (h : a ≤ b) : (a ≤ b) = True := eq_true h
theorem ileF {a b : Int} (h : ¬ a ≤ b) : (a ≤ b) = False := eq_false h
theorem iltT {a b : Int} (h : a < b) : (a < b) = True := eq_true h
theorem iltF {a b : Int} (h : ¬ a < b) : (a < b) = False := eq_false h
theorem ieqT {a b : Int} (h : a = b) : (a = b) = True := eq_true h
theorem ieqF {a b : Int} (h : a ≠ b) : (a = b) = False := eq_false h
theorem xL0 : (0 : Int32) = xI 0 := rfl
theorem xL1 : (1 : Int32) = xI 1 := rfl
theorem xL2 : (2 : Int32) = xI 2 := rfl
theorem xL3 : (3 : Int32) = xI 3 := rfl
theorem xL4 : (4 : Int32) = xI 4 := rfl
theorem xL5 : (5 : Int32) = xI 5 := rfl
theorem xL6 : (6 : Int32) = xI 6 := rfl
theorem xL7 : (7 : Int32) = xI 7 := rfl
theorem xL8 : (8 : Int32) = xI 8 := rfl
theorem xL9 : (9 : Int32) = xI 9 := rfl
theorem xL10 : (10 : Int32) = xI 10 := rfl
theorem xL12 : (12 : Int32) = xI 12 := rfl
theorem xL16 : (16 : Int32) = xI 16 := rfl
theorem xL20 : (20 : Int32) = xI 20 := rfl
theorem xL24 : (24 : Int32) = xI 24 := rfl
theorem xL31 : (31 : Int32) = xI 31 := rfl
theorem xL50 : (50 : Int32) = xI 50 := rfl
theorem xL60 : (60 : Int32) = xI 60 := rfl
theorem xL89 : (89 : Int32) = xI 89 := rfl
theorem xL99 : (99 : Int32) = xI 99 := rfl
theorem xL100 : (100 : Int32) = xI 100 := rfl
theorem xL200 : (200 : Int32) = xI 200 := rfl
/-! running a function that may refuse -/
section
variable {α β : Type} {Q : β → Prop}
def wq {γ : Type} (o : Option γ) (P : γ → Prop) : Prop := ∃ z, o = some z ∧ P z
theorem w_s {z : β} (h : Q z) : wq (some z) Q := ⟨z, rfl, h⟩
theorem w_b {o : Option α} {x : α} {f : α → Option β} (h : o = some x) (k : wq (f x) Q) : wq (Option.bind o f) Q := by rw [h]; exact k
theorem w_c {o : Option α} {P : α → Prop} {f : α → Option β} (h : wq o P) (k : ∀ z, P z → wq (f z) Q) : wq (Option.bind o f) Q := by
  obtain ⟨z, h1, h2⟩ := h; rw [h1]; exact k z h2
theorem w_m {o : Option β} {P : β → Prop} (h : wq o P) (k : ∀ z, P z → Q z) : wq o Q := by
  obtain ⟨z, h1, h2⟩ := h; exact ⟨z, h1, k z h2⟩
theorem w_i {c : Prop} {hc : Decidable c} {a b : Option β} (h : c) (k : wq a Q) : wq (@ite _ c hc a b) Q := by rw [if_pos h]; exact k
theorem w_n {c : Prop} {hc : Decidable c} {a b : Option β} (h : ¬ c) (k : wq b Q) : wq (@ite _ c hc a b) Q := by rw [if_neg h]; exact k
theorem w_d {c p : Prop} {hc : Decidable c} {a b : Option β} (h : c ↔ p) (k1 : p → wq a Q) (k2 : ¬ p → wq b Q) : wq (@ite _ c hc a b) Q := by
  by_cases h9 : c
  · rw [if_pos h9]; exact k1 (h.mp h9)
  · rw [if_neg h9]; exact k2 (fun g => h9 (h.mpr g))
theorem wq_eq {o : Option β} {y : β} (h : wq o (fun z => z = y)) : o = some y := by obtain ⟨z, h1, h2⟩ := h; rw [h1, h2]
theorem w_r {o o' : Option β} (h : o = o') (k : wq o' Q) : wq o Q := by rw [h]; exact k
end
/-! the numbers of a memory alone -/
abbrev aN : Type := Nat → Nat → Int32
def up (σ : aN) (a j : Nat) (v : Int32) : aN := fun x y => if x = a ∧ y = j then v else σ x y
def uc (σ : aN) (a b sp dp n : Nat) : aN := fun x y => if x = b then va_cpy (σ a) (σ b) sp dp n y else σ x y
def xW (m : vM) (σ : aN) : vM := (m.1, m.2.1, σ, m.2.2.2)
section
variable {m : vM} {σ τ : aN} {a b j x y n sp dp : Nat} {v : Int32}
theorem mk_xW : mk (xW m σ) a = mk m a := rfl
theorem ml_xW : ml (xW m σ) a = ml m a := rfl
theorem mr_xW : mr (xW m σ) a j = mr m a j := rfl
theorem mi_xW : mi (xW m σ) a j = σ a j := rfl
theorem mI_xW : mI (xW m σ) a j v = xW m (up σ a j v) := rfl
theorem mC_xW : mC (xW m σ) a b sp dp n = xW m (uc σ a b sp dp n) := rfl
theorem xW_xW : xW (xW m σ) τ = xW m τ := rfl
theorem xW_self : xW m m.2.2.1 = m := rfl
theorem up_eq : up σ a j v a j = v := by simp [up]
theorem up_na (h : x ≠ a) : up σ a j v x y = σ x y := by simp [up, h]
theorem up_nj (h : y ≠ j) : up σ a j v x y = σ x y := by simp [up, h]
theorem up_eq2 (h : x = a ∧ y = j) : up σ a j v x y = v := by simp [up, h]
theorem uc_in (h : dp ≤ y) (g : y < dp + n) : uc σ a b sp dp n b y = σ a (sp + (y - dp)) := by simp [uc, va_cpy, h, g]
theorem uc_na (h : x ≠ b) : uc σ a b sp dp n x y = σ x y := by simp [uc, h]
theorem up_row (h : x ≠ a) : up σ a j v x = σ x := by funext y; exact up_na h
theorem uc_row (h : x ≠ b) : uc σ a b sp dp n x = σ x := by funext y; exact uc_na h
/-- nothing but the n ids from b on has changed -/
def fr (b n : Nat) (σ τ : aN) : Prop := ∀ x, x < b ∨ b + n ≤ x → τ x = σ x
theorem fr_rfl : fr b n σ σ := fun _ _ => rfl
theorem fr_trans {ρ : aN} (h : fr b n σ τ) (g : fr b n τ ρ) : fr b n σ ρ := fun x hx => (g x hx).trans (h x hx)
theorem fr_up (h : b ≤ a ∧ a < b + n) : fr b n σ (up σ a j v) := fun x hx => up_row (by omega)
theorem fr_ups (g : fr b n σ τ) (h : b ≤ a ∧ a < b + n) : fr b n σ (up τ a j v) := fr_trans g (fr_up h)
theorem fr_ucs (g : fr b n σ τ) (h : b ≤ x ∧ x < b + n) : fr b n σ (uc τ a x sp dp y) := fr_trans g (fun z hz => uc_row (by omega))
theorem fr_w {c k : Nat} (g : fr b n σ τ) (h : c ≤ b ∧ b + n ≤ c + k) : fr c k σ τ := fun x hx => g x (by omega)
end
/-! rows, doors, states as values -/
abbrev aR : Type := Nat → Int
def fu (f : aR) (j : Nat) (v : Int) : aR := fun x => if x = j then v else f x
theorem fu_eq {f : aR} {j : Nat} {v : Int} : fu f j v j = v := by simp [fu]
theorem fu_ne {f : aR} {i j : Nat} {v : Int} (h : i ≠ j) : fu f j v i = f i := by simp [fu, h]
abbrev aD : Type := aR × List aR × List aR
abbrev aS : Type := Nat × aR × (Nat → aD) × List aR
def du (ds : Nat → aD) (k : Nat) (d : aD) : Nat → aD := fun x => if x = k then d else ds x
theorem du_eq {ds : Nat → aD} {k : Nat} {d : aD} : du ds k d k = d := by simp [du]
theorem du_ne {ds : Nat → aD} {k i : Nat} {d : aD} (h : i ≠ k) : du ds k d i = ds i := by simp [du, h]
def r6 (a b c d e f : Int) : aR := fun j => if j = 0 then a else if j = 1 then b else if j = 2 then c else if j = 3 then d else if j = 4 then e else f
section
variable {α : Type}
theorem dr_at {l : List α} {i : Nat} (h : i < l.length) : ∃ a, l[i]? = some a ∧ l.drop i = a :: l.drop (i + 1) := ⟨l[i], by simp [h], List.drop_eq_getElem_cons h⟩
theorem dr_mem {l : List α} {i : Nat} {a : α} (h : l[i]? = some a) : a ∈ l := List.mem_of_getElem? h
theorem dr_lt {l : List α} {i : Nat} {a : α} (h : l[i]? = some a) : i < l.length := (List.getElem?_eq_some_iff.mp h).1
end
