/-! ===== small facts ===== -/
def inB (v lo hi : Int32) : Bool := decide (lo ≤ v) && decide (v ≤ hi)
def wayB (a b : Int32) : Bool := inB a 0 6 && inB b 0 6 && !decide (a = b)
def bytesB (a b c d e : Int32) : Bool := inB a 0 255 && inB b 0 255 && inB c 0 255 && inB d 0 255 && inB e 0 255
def bitB (set h : Int32) : Bool := !decide ((set >>> (h &&& 31)) &&& 1 = 0)
def toFro (f t p : Int32) : Int32 := if p = f then t else if p = t then f else -1
def irem (x y : Int32) : Int32 := x - x / y * y
def goesF (k f t m p : Int32) : Int32 :=
  if k = 1 then toFro f t p
  else if k = 3 then (if p = f ∨ p = t then irem (toFro f t p + 1) 7 else -1)
  else if k = 5 then (if p = f then irem m 7 else -1)
  else if p = f then t else -1
def outF (k m said : Int32) : Int32 := if k = 2 ∨ k = 4 then said + m else if k = 5 then imax 1 (said / 2) else said
def homeF (k m said : Int32) : Int32 := if k = 4 then 2 * said + m else said
def boundF (v lo hi : Int32) : Int32 := imax lo (imin v hi)
def namedF (μ : Mem) (o : Nat) (nm far : Int32) : Int32 := if nm = 6 then μ o 3 else if nm = 7 then μ o 4 else if nm = 8 then μ o 1 else if nm = 9 then μ o 2 else if nm = 10 then μ o 5 else far
def becomeM (μ : Mem) (o : Nat) (k f t td m : Int32) : Mem := mset (mset (mset (mset (mset (mset μ o 0 k) o 1 f) o 2 t) o 3 td) o 4 m) o 5 0
def isOneF : Nat → Int32 → Int32 → Bool
  | 0, is, w => decide (is = w)
  | n + 1, is, w => if is = w then true else if is < 0 ∨ 6 ≤ is then false else isOneF n (kaV is.toNatClampNeg) w
def up (f : Nat → Int32) (k : Nat) (x : Int32) : Nat → Int32 := fun j => if j = k then x else f j
def mrow (μ : Mem) (a : Nat) (f : Nat → Int32) : Mem := fun a' k => if a' = a then f k else μ a' k
theorem mset_row (μ : Mem) (a k : Nat) (x : Int32) : mset μ a k x = mrow μ a (up (μ a) k x) := by
  funext a' k'
  unfold mset mrow up
  by_cases h : a' = a
  · subst h
    by_cases h2 : k' = k <;> simp [h2]
  · simp [h]
theorem mrow_mrow (μ : Mem) (a : Nat) (f g : Nat → Int32) : mrow (mrow μ a f) a g = mrow μ a g := by
  funext a' k'
  unfold mrow
  split <;> rfl
theorem mrow_self (μ : Mem) (a : Nat) : mrow μ a (μ a) = μ := by
  funext a' k'
  unfold mrow
  split
  · rename_i h
    rw [h]
  · rfl
theorem mrow_same (μ : Mem) (a : Nat) (f : Nat → Int32) : mrow μ a f a = f := by
  funext k
  exact if_pos rfl
theorem mrow_ne (μ : Mem) {a b : Nat} (f : Nat → Int32) (h : b ≠ a) : mrow μ a f b = μ b := by
  funext k
  exact if_neg h
theorem up_same {f : Nat → Int32} {k : Nat} {x : Int32} : up f k x k = x := if_pos rfl
theorem up_ne {f : Nat → Int32} {k j : Nat} {x : Int32} (h : j ≠ k) : up f k x j = f j := if_neg h
theorem i_lt {x y : Int32} : x < y ↔ x.toInt < y.toInt := Int32.lt_iff_toInt_lt
theorem i_le {x y : Int32} : x ≤ y ↔ x.toInt ≤ y.toInt := Int32.le_iff_toInt_le
theorem i_eq {x y : Int32} : x = y ↔ x.toInt = y.toInt := Int32.toInt_inj.symm
theorem nI_nn {i : Nat} (h : i < 2 ^ 31) : (nI i).toInt = (i : Int) := nI_toInt h
theorem ix_nI {i : Nat} (h : i < 2 ^ 31) : (nI i).toNatClampNeg = i := nI_clamp h
theorem inB_t {x lo hi : Int32} : inB x lo hi = true ↔ lo ≤ x ∧ x ≤ hi := by simp [inB]
theorem inB_f {x lo hi : Int32} : inB x lo hi = false ↔ ¬ (lo ≤ x ∧ x ≤ hi) := by
  rw [← inB_t]
  simp
/-- a number from 0 on to a bound is a Nat's -/
theorem inB_nI {x : Int32} {m : Nat} (hm : m < 2 ^ 31) (h : inB x 0 (nI m) = true) : ∃ p : Nat, p ≤ m ∧ x = nI p := by
  obtain ⟨h1, h2⟩ := inB_t.mp h
  refine nI_of2 (M := nI m) (nI_toInt hm) ?_ h2
  rw [Int32.not_lt]
  exact h1
theorem inB_lt {x : Int32} {n : Nat} (hn : n < 2 ^ 31) (h : inB x 0 (nI n - 1) = true) : ∃ p : Nat, p < n ∧ x = nI p := by
  cases n with
  | zero =>
    obtain ⟨h1, h2⟩ := inB_t.mp h
    rw [i_le] at h1 h2
    have e1 : (0 : Int32).toInt = 0 := by decide
    have e2 : (nI 0 - 1 : Int32).toInt = -1 := by decide
    omega
  | succ n =>
    rw [nI_pred] at h
    obtain ⟨p, hp, e⟩ := inB_nI (by omega) h
    exact ⟨p, by omega, e⟩
theorem inB_of {p m : Nat} (hm : m < 2 ^ 31) (h : p ≤ m) : inB (nI p) 0 (nI m) = true := inB_t.mpr ⟨nI_pos' (by omega), nI_le h hm⟩
theorem inB_of_lt {p n : Nat} (hn : n < 2 ^ 31) (h : p < n) : inB (nI p) 0 (nI n - 1) = true := by
  cases n with
  | zero => omega
  | succ n =>
    rw [nI_pred]
    exact inB_of (by omega) (by omega)
theorem vp_nI {n N : Nat} (h : n < N) (hN : N < 2 ^ 31) : vp_in (nI n) N := vp_in_nI h hN
theorem imin_comm (x y : Int32) : imin x y = imin y x := by
  unfold imin
  by_cases h : y < x
  · rw [if_pos h, if_neg]
    rw [Int32.not_lt]
    exact Int32.le_of_lt h
  · rw [if_neg h]
    split
    · rfl
    · rename_i h2
      rw [Int32.not_lt] at h h2
      exact Int32.le_antisymm h h2
theorem i_bmod {n : Int} (h : -2147483648 ≤ n ∧ n < 2147483648) : n.bmod (2 ^ 32) = n := Int.bmod_eq_of_le (by omega) (by omega)
theorem i_add {x y : Int32} (h : -2147483648 ≤ x.toInt + y.toInt ∧ x.toInt + y.toInt < 2147483648) : (x + y).toInt = x.toInt + y.toInt := by
  rw [Int32.toInt_add]
  exact i_bmod h
theorem i_sub {x y : Int32} (h : -2147483648 ≤ x.toInt - y.toInt ∧ x.toInt - y.toInt < 2147483648) : (x - y).toInt = x.toInt - y.toInt := by
  rw [Int32.toInt_sub]
  exact i_bmod h
theorem i_mul {x y : Int32} (h : -2147483648 ≤ x.toInt * y.toInt ∧ x.toInt * y.toInt < 2147483648) : (x * y).toInt = x.toInt * y.toInt := by
  rw [Int32.toInt_mul]
  exact i_bmod h
