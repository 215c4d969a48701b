/-! ===== texts: what codes say (the reference's coding), over a stack that is a function ===== -/
def joinF (s a b : Int32) : Int32 := if s = 3 then bi (!decide (a = 0) || !decide (b = 0)) else if s = 4 then bi (!decide (a = 0) && !decide (b = 0)) else if s = 18 then bi (decide (a < b)) else if s = 19 then bi (decide (a = b)) else if s = 15 then a + b else if s = 16 then a - b else a * b
/-- the class's step as the reference's code -/
def codeK (s : Int32) : Int32 :=
  if 100 ≤ s then -1 - (s - 100) else if 6 ≤ s ∧ s ≤ 11 then s - 6 else if s = 3 then 10 else if s = 4 then 11 else if s = 5 then 12 else if s = 18 then 13 else if s = 19 then 14 else if s = 23 then 18 else s
def doneF (op a b : Int32) : Int32 := if op = 15 then a + b else if op = 16 then a - b else if op = 17 then a * b else if op = 13 then bi (decide (a < b)) else if op = 14 then bi (decide (a = b)) else if op = 11 then bi (!decide (a = 0) && !decide (b = 0)) else bi (!decide (a = 0) || !decide (b = 0))
/-- how high the stack is behind a code -/
def hE (c : Int32) (h : Nat) : Nat := if c < 6 then h + 1 else if c = 12 ∨ c = 18 then h else h - 1
/-- whether it is high enough, and has room -/
def okE (c : Int32) (h : Nat) : Prop := if c < 6 then h < 40 else if c = 12 ∨ c = 18 then 1 ≤ h else 2 ≤ h
def stE (env : Nat → Int32) (c : Int32) (h : Nat) (f : Nat → Int32) : Nat → Int32 :=
  if c < 0 then up f h (-1 - c) else if c < 6 then up f h (env c.toNatClampNeg)
  else if c = 12 then up f (h - 1) (if f (h - 1) = 0 then 1 else 0) else if c = 18 then up f (h - 1) (-(f (h - 1)))
  else up f (h - 2) (doneF c (f (h - 2)) (f (h - 1)))
def htE (f : Nat → Int32) : Nat → Nat
  | 0 => 0
  | k + 1 => hE (f k) (htE f k)
def runE (env : Nat → Int32) (f g : Nat → Int32) : Nat → Nat → Int32
  | 0 => g
  | k + 1 => stE env (f k) (htE f k) (runE env f g k)
def wfE (f : Nat → Int32) (n : Nat) : Prop := (∀ k, k < n → okE (f k) (htE f k)) ∧ htE f n = 1
def valE (env : Nat → Int32) (f : Nat → Int32) (n : Nat) : Int32 := runE env f (fun _ => 0) n 0
theorem okE_hi {c : Int32} {h : Nat} (ho : okE c h) (hh : h ≤ 40) : hE c h ≤ 40 := by
  unfold okE at ho
  unfold hE
  split
  · rename_i q
    rw [if_pos q] at ho
    omega
  · split <;> omega
theorem htE_hi {f : Nat → Int32} {n : Nat} (hw : ∀ k, k < n → okE (f k) (htE f k)) : ∀ k, k ≤ n → htE f k ≤ 40 := by
  intro k
  induction k with
  | zero => intro _; exact Nat.zero_le _
  | succ k ih => intro hk; exact okE_hi (hw k (by omega)) (ih (by omega))
/-- what stands above the stack's height doesn't matter -/
theorem stE_same {env : Nat → Int32} {c : Int32} {h : Nat} {f g : Nat → Int32} (ho : okE c h) (hs : ∀ i, i < h → f i = g i) : ∀ i, i < hE c h → stE env c h f i = stE env c h g i := by
  intro i hi
  unfold okE at ho
  unfold hE at hi
  unfold stE
  by_cases c0 : c < 0
  · have c6 : c < 6 := by rw [i_lt] at c0 ⊢; have e1 : (0 : Int32).toInt = 0 := by decide
                          have e2 : (6 : Int32).toInt = 6 := by decide
                          omega
    rw [if_pos c6] at hi ho
    rw [if_pos c0, if_pos c0]
    unfold up
    split
    · rfl
    · exact hs i (by omega)
  · rw [if_neg c0, if_neg c0]
    by_cases c6 : c < 6
    · rw [if_pos c6] at hi ho
      rw [if_pos c6, if_pos c6]
      unfold up
      split
      · rfl
      · exact hs i (by omega)
    · rw [if_neg c6] at hi ho
      rw [if_neg c6, if_neg c6]
      by_cases c12 : c = 12
      · rw [if_pos (Or.inl c12)] at hi ho
        rw [if_pos c12, if_pos c12]
        unfold up
        rw [hs (h - 1) (by omega)]
        split
        · rfl
        · exact hs i (by omega)
      · rw [if_neg c12, if_neg c12]
        by_cases c18 : c = 18
        · rw [if_pos (Or.inr c18)] at hi ho
          rw [if_pos c18, if_pos c18]
          unfold up
          rw [hs (h - 1) (by omega)]
          split
          · rfl
          · exact hs i (by omega)
        · have cn : ¬ (c = 12 ∨ c = 18) := by simp [c12, c18]
          rw [if_neg cn] at hi ho
          rw [if_neg c18, if_neg c18]
          unfold up
          rw [hs (h - 1) (by omega), hs (h - 2) (by omega)]
          split
          · rfl
          · exact hs i (by omega)
theorem runE_same {env : Nat → Int32} {f g g' : Nat → Int32} {n : Nat} (hw : ∀ k, k < n → okE (f k) (htE f k)) : ∀ k, k ≤ n → ∀ i, i < htE f k → runE env f g k i = runE env f g' k i := by
  intro k
  induction k with
  | zero => intro _ i hi; exact absurd hi (Nat.not_lt_zero i)
  | succ k ih => intro hk; exact stE_same (hw k (by omega)) (ih (by omega))
theorem valE_of {env : Nat → Int32} {f g : Nat → Int32} {n : Nat} (hw : wfE f n) : runE env f g n 0 = valE env f n := runE_same hw.1 n (Nat.le_refl n) 0 (by rw [hw.2]; exact Nat.one_pos)
theorem htE_congr {f f' : Nat → Int32} {n : Nat} (h : ∀ k, k < n → f k = f' k) : ∀ k, k ≤ n → htE f k = htE f' k := by
  intro k
  induction k with
  | zero => intro _; rfl
  | succ k ih =>
    intro hk
    show hE (f k) (htE f k) = hE (f' k) (htE f' k)
    rw [h k (by omega), ih (by omega)]
theorem runE_congr {env env' : Nat → Int32} {f f' g : Nat → Int32} {n : Nat} (he : ∀ i, i < 6 → env i = env' i) (h : ∀ k, k < n → f k = f' k) : ∀ k, k ≤ n → runE env f g k = runE env' f' g k := by
  intro k
  induction k with
  | zero => intro _; rfl
  | succ k ih =>
    intro hk
    show stE env (f k) (htE f k) (runE env f g k) = stE env' (f' k) (htE f' k) (runE env' f' g k)
    rw [h k (by omega), ih (by omega), htE_congr h k (by omega)]
    unfold stE
    by_cases c0 : f' k < 0
    · rw [if_pos c0, if_pos c0]
    · rw [if_neg c0, if_neg c0]
      by_cases c6 : f' k < 6
      · rw [if_pos c6, if_pos c6, he]
        rw [i_lt] at c0 c6
        have e1 : (0 : Int32).toInt = 0 := by decide
        have e2 : (6 : Int32).toInt = 6 := by decide
        show (f' k).toInt.toNat < 6
        omega
      · rw [if_neg c6, if_neg c6]
theorem wfE_congr {f f' : Nat → Int32} {n : Nat} (h : ∀ k, k < n → f k = f' k) (hw : wfE f n) : wfE f' n := by
  refine ⟨fun k hk => ?_, ?_⟩
  · rw [← h k hk, ← htE_congr h k (by omega)]
    exact hw.1 k hk
  · rw [← htE_congr h n (Nat.le_refl n)]
    exact hw.2
/-- the class's steps -/
def validS (s : Int32) : Prop := (100 ≤ s ∧ s ≤ 10099) ∨ (6 ≤ s ∧ s ≤ 11) ∨ s = 3 ∨ s = 4 ∨ s = 5 ∨ s = 15 ∨ s = 16 ∨ s = 17 ∨ s = 18 ∨ s = 19 ∨ s = 23
theorem joinF_K {s a b : Int32} (hs : s = 3 ∨ s = 4 ∨ s = 15 ∨ s = 16 ∨ s = 17 ∨ s = 18 ∨ s = 19) : joinF s a b = doneF (codeK s) a b := by
  rcases hs with rfl | rfl | rfl | rfl | rfl | rfl | rfl <;> simp [joinF, doneF, codeK]
