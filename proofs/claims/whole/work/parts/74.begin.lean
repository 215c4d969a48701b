/-! ===== behind both constructors: the addresses are S0's; the abstract state at the start ===== -/
theorem kd_all : ∀ a, a < 113 → kdS mLF a = kd0 a := by decide +kernel
theorem ln_all : ∀ a, a < 113 → lnS mLF a = ln0 a := by decide +kernel
theorem mLF_len : 10 + mLF.length = 113 := by decide +kernel
theorem mRF_k : ∀ e ∈ mRF, e.2.1 < 50 := by decide +kernel
theorem getDn_hi (L : List Nat) {j : Nat} (h : L.length ≤ j) : L.getD j 0 = 0 := by
  rw [List.getD_eq_getElem?_getD, List.getElem?_eq_none h]
  rfl
theorem rfS_hk {R : List (Nat × Nat × Nat)} {n : Nat} (h : ∀ e ∈ R, e.2.1 < n) {k : Nat} (hk : n ≤ k) (a : Nat) : rfS R a k = 0 := by
  induction R with
  | nil => rfl
  | cons e R ih =>
    have := h e List.mem_cons_self
    show (if a = e.1 ∧ k = e.2.1 then e.2.2 else rfS R a k) = 0
    rw [if_neg (by omega)]
    exact ih (fun e he => h e (List.mem_cons_of_mem _ he))
theorem rf0_k {k : Nat} (h : 50 ≤ k) (a : Nat) : rf0 a k = 0 := by
  unfold rf0
  by_cases h1 : a < 19
  · rw [if_pos h1]
    split <;> first | rfl | omega
  rw [if_neg h1]
  by_cases h2 : a = 19
  · rw [if_pos h2, if_neg (by omega)]
  rw [if_neg h2]
  by_cases h2 : a = 22
  · rw [if_pos h2, if_neg (by omega)]
  rw [if_neg h2]
  by_cases h2 : a = 42
  · rw [if_pos h2, if_neg (by omega)]
  rw [if_neg h2]
  by_cases h2 : a = 33
  · rw [if_pos h2, if_neg (by omega)]
  rw [if_neg h2]
  by_cases h2 : a = 23
  · rw [if_pos h2]
    exact getDn_hi _ (by show 3 ≤ k; omega)
  rw [if_neg h2]
  by_cases h2 : a = 24
  · rw [if_pos h2]
    exact getDn_hi _ (by show 5 ≤ k; omega)
  rw [if_neg h2]
  by_cases h2 : a = 26
  · rw [if_pos h2]
    exact getDn_hi _ (by show 8 ≤ k; omega)
  rw [if_neg h2]
  by_cases h2 : a = 32
  · rw [if_pos h2]
    exact getDn_hi _ (by show 6 ≤ k; omega)
  rw [if_neg h2]
  by_cases h2 : 50 ≤ a ∧ a < 74 ∧ (a - 50) % 4 = 0
  · rw [if_pos h2, if_neg (by omega)]
  rw [if_neg h2]
  by_cases h2 : 74 ≤ a ∧ a < 82 ∧ (a - 74) % 2 = 0
  · rw [if_pos h2, if_neg (by omega)]
  rw [if_neg h2]
  by_cases h2 : a = 82
  · rw [if_pos h2]
    exact getDn_hi _ (by show 49 ≤ k; omega)
  rw [if_neg h2]
def keyR (a : Nat) : Prop := a = 10 ∨ a = 11 ∨ a = 19 ∨ a = 22 ∨ a = 23 ∨ a = 24 ∨ a = 26 ∨ a = 32 ∨ a = 33 ∨ a = 42 ∨ a = 50 ∨ a = 54 ∨ a = 58 ∨ a = 62 ∨ a = 66 ∨ a = 70 ∨ a = 74 ∨ a = 76 ∨ a = 78 ∨ a = 80 ∨ a = 82
theorem mRF_key : ∀ e ∈ mRF, e.1 = 10 ∨ e.1 = 11 ∨ e.1 = 19 ∨ e.1 = 22 ∨ e.1 = 23 ∨ e.1 = 24 ∨ e.1 = 26 ∨ e.1 = 32 ∨ e.1 = 33 ∨ e.1 = 42 ∨ e.1 = 50 ∨ e.1 = 54 ∨ e.1 = 58 ∨ e.1 = 62 ∨ e.1 = 66 ∨ e.1 = 70 ∨ e.1 = 74 ∨ e.1 = 76 ∨ e.1 = 78 ∨ e.1 = 80 ∨ e.1 = 82 := by decide +kernel
theorem rfS_no {R : List (Nat × Nat × Nat)} {a : Nat} (h : ∀ e ∈ R, e.1 ≠ a) (k : Nat) : rfS R a k = 0 := by
  induction R with
  | nil => rfl
  | cons e R ih =>
    have := h e List.mem_cons_self
    show (if a = e.1 ∧ k = e.2.1 then e.2.2 else rfS R a k) = 0
    rw [if_neg (fun q => this q.1.symm)]
    exact ih (fun e he => h e (List.mem_cons_of_mem _ he))
theorem rf0_no {a : Nat} (h : ¬ keyR a) (k : Nat) : rf0 a k = 0 := by
  unfold keyR at h
  unfold rf0
  by_cases h1 : a < 19
  · rw [if_pos h1]
    split <;> first | rfl | omega
  · rw [if_neg h1, if_neg (by omega), if_neg (by omega), if_neg (by omega), if_neg (by omega), if_neg (by omega), if_neg (by omega), if_neg (by omega), if_neg (by omega), if_neg (by omega), if_neg (by omega), if_neg (by omega)]
theorem rfk_10 : ∀ k, k < 50 → rfS mRF 10 k = rf0 10 k := by decide +kernel
theorem rfk_11 : ∀ k, k < 50 → rfS mRF 11 k = rf0 11 k := by decide +kernel
theorem rfk_19 : ∀ k, k < 50 → rfS mRF 19 k = rf0 19 k := by decide +kernel
theorem rfk_22 : ∀ k, k < 50 → rfS mRF 22 k = rf0 22 k := by decide +kernel
theorem rfk_23 : ∀ k, k < 50 → rfS mRF 23 k = rf0 23 k := by decide +kernel
theorem rfk_24 : ∀ k, k < 50 → rfS mRF 24 k = rf0 24 k := by decide +kernel
theorem rfk_26 : ∀ k, k < 50 → rfS mRF 26 k = rf0 26 k := by decide +kernel
theorem rfk_32 : ∀ k, k < 50 → rfS mRF 32 k = rf0 32 k := by decide +kernel
theorem rfk_33 : ∀ k, k < 50 → rfS mRF 33 k = rf0 33 k := by decide +kernel
theorem rfk_42 : ∀ k, k < 50 → rfS mRF 42 k = rf0 42 k := by decide +kernel
theorem rfk_50 : ∀ k, k < 50 → rfS mRF 50 k = rf0 50 k := by decide +kernel
theorem rfk_54 : ∀ k, k < 50 → rfS mRF 54 k = rf0 54 k := by decide +kernel
theorem rfk_58 : ∀ k, k < 50 → rfS mRF 58 k = rf0 58 k := by decide +kernel
theorem rfk_62 : ∀ k, k < 50 → rfS mRF 62 k = rf0 62 k := by decide +kernel
theorem rfk_66 : ∀ k, k < 50 → rfS mRF 66 k = rf0 66 k := by decide +kernel
theorem rfk_70 : ∀ k, k < 50 → rfS mRF 70 k = rf0 70 k := by decide +kernel
theorem rfk_74 : ∀ k, k < 50 → rfS mRF 74 k = rf0 74 k := by decide +kernel
theorem rfk_76 : ∀ k, k < 50 → rfS mRF 76 k = rf0 76 k := by decide +kernel
theorem rfk_78 : ∀ k, k < 50 → rfS mRF 78 k = rf0 78 k := by decide +kernel
theorem rfk_80 : ∀ k, k < 50 → rfS mRF 80 k = rf0 80 k := by decide +kernel
theorem rfk_82 : ∀ k, k < 50 → rfS mRF 82 k = rf0 82 k := by decide +kernel
theorem rf_all (a k : Nat) (h' : k < 50) : rfS mRF a k = rf0 a k := by
  by_cases h : keyR a
  · rcases h with rfl | rfl | rfl | rfl | rfl | rfl | rfl | rfl | rfl | rfl | rfl | rfl | rfl | rfl | rfl | rfl | rfl | rfl | rfl | rfl | rfl
    · exact rfk_10 k h'
    · exact rfk_11 k h'
    · exact rfk_19 k h'
    · exact rfk_22 k h'
    · exact rfk_23 k h'
    · exact rfk_24 k h'
    · exact rfk_26 k h'
    · exact rfk_32 k h'
    · exact rfk_33 k h'
    · exact rfk_42 k h'
    · exact rfk_50 k h'
    · exact rfk_54 k h'
    · exact rfk_58 k h'
    · exact rfk_62 k h'
    · exact rfk_66 k h'
    · exact rfk_70 k h'
    · exact rfk_74 k h'
    · exact rfk_76 k h'
    · exact rfk_78 k h'
    · exact rfk_80 k h'
    · exact rfk_82 k h'
  · rw [rf0_no h, rfS_no (fun e he q => h (by rw [← q]; exact mRF_key e he))]
theorem S0_SL : SL 5779 mLF mRF = S0 := by
  refine HS_ext mLF_len rfl (fun a => ?_) (fun a => ?_) (fun a k => ?_)
  · show kdS mLF a = kd0 a
    rcases Nat.lt_or_ge a 113 with h | h
    · exact kd_all a h
    · rw [kdS_hi (by have := mLF_len; omega)]
      exact (getDn_hi kdL (by show 113 ≤ a; exact h)).symm
  · show lnS mLF a = ln0 a
    rcases Nat.lt_or_ge a 113 with h | h
    · exact ln_all a h
    · rw [lnS_hi (by have := mLF_len; omega)]
      exact (getDn_hi lnL (by show 113 ≤ a; exact h)).symm
  · show rfS mRF a k = rf0 a k
    rcases Nat.lt_or_ge k 50 with h' | h'
    · exact rf_all a k h'
    · rw [rfS_hk mRF_k h', rf0_k h']
def adA (i j : Nat) : Nat × Nat := (1, 7 * i + j)
def al0E : List (Nat × Nat × Int32) := [(0, 2, 1), (14, 0, -1), (14, 1, -1), (14, 2, -1), (14, 3, -1), (17, 0, 1), (17, 1, 1), (17, 2, 1), (18, 320, 1)] ++ wkE adA 49
/-- the abstract state at the start -/
def al0 : Mem := ML al0E
theorem al0_N : aN al0 = 0 := by decide +kernel
theorem al0_R : aR al0 = 0 := by decide +kernel
theorem al0_X : aX al0 = 1 := by decide +kernel
theorem al0_L : aL al0 = 0 := by decide +kernel
theorem al0_T : aT al0 = 0 := by decide +kernel
theorem al0_w : ∀ a, a < 7 → ∀ b, b < 7 → al0 1 (7 * a + b) = nI (30 * ((a - b) + (b - a))) := by decide +kernel
theorem al0_6 : ∀ p, p < 3 → al0 18 (160 * (3 * 0 + p) + 0) < 6 ∧ al0 17 (3 * 0 + p) = nI 1 := by decide +kernel
theorem al0_S : ∀ s, s < 4 → al0 14 s = -1 ∧ al0 15 s = nI 0 := by decide +kernel
theorem al0_i : al0 11 0 = 0 := by decide +kernel
theorem wf_al0 : WF al0 := by
  refine ⟨⟨⟨?_, ?_⟩, ⟨?_, ?_⟩, ⟨?_, ?_⟩, ⟨?_, ?_⟩, ⟨?_, ?_⟩⟩, ?_, ?_, ?_, ?_, ?_, ?_, ?_⟩
  · decide +kernel
  · rw [al0_N]; omega
  · decide +kernel
  · rw [al0_R]; omega
  · decide +kernel
  · rw [al0_X]; omega
  · decide +kernel
  · rw [al0_X, al0_L]; omega
  · decide +kernel
  · rw [al0_T]; omega
  · intro a b ha hb hab
    refine ⟨30 * ((a - b) + (b - a)), by omega, by omega, al0_w a ha b hb, ?_⟩
    rw [al0_w b hb a ha, Nat.add_comm]
  · intro i hi
    rw [al0_R] at hi
    omega
  · intro i hi
    rw [al0_N] at hi
    omega
  · intro i hi
    rw [al0_T] at hi
    omega
  · intro t ht p hp
    rw [al0_X] at ht
    obtain rfl : t = 0 := by omega
    obtain ⟨q1, q2⟩ := al0_6 p hp
    refine ⟨1, by omega, q2, fun k hk => ?_, ?_⟩
    · obtain rfl : k = 0 := by omega
      show (if al0 18 (160 * (3 * 0 + p) + 0) < 6 then 0 < 40 else _)
      rw [if_pos q1]
      omega
    · show (if al0 18 (160 * (3 * 0 + p) + 0) < 6 then 0 + 1 else _) = 1
      rw [if_pos q1]
  · exact Or.inl al0_i
  · intro s hs
    obtain ⟨q1, q2⟩ := al0_S s hs
    exact ⟨Or.inl q1, 0, by omega, q2⟩
theorem vx0_c : ML mEF 10 9 = al0 0 0 ∧ ML mEF 10 10 = al0 0 1 ∧ ML mEF 10 11 = al0 0 2 ∧ ML mEF 10 12 = al0 0 3 ∧ ML mEF 24 1 = al0 0 4 := by decide +kernel
theorem vx0_w : ∀ a, a < 7 → ∀ b, b < 7 → ML mEF (12 + a) b = al0 1 (7 * a + b) := by decide +kernel
theorem vx0_i : ML mEF 32 2 = al0 11 0 ∧ ¬ al0 11 0 = 1 := by decide +kernel
theorem vx0_s : ∀ s, s < 4 → ML mEF (74 + 2 * s) 1 = al0 14 s ∧ ML mEF (74 + 2 * s) 2 = al0 15 s ∧ ∀ k, k < 40 → ML mEF (75 + 2 * s) k = al0 16 (40 * s + k) := by decide +kernel
theorem vx0_x1 : ∀ p, p < 3 → (0 < p → ML mEF (52 + 4 * 0) (p - 1) = nI (stX (ML mEF) (50 + 4 * 0) p)) ∧ ML mEF (52 + 4 * 0) p = nI (stX (ML mEF) (50 + 4 * 0) p + lenX (ML mEF) (50 + 4 * 0) p) ∧ stX (ML mEF) (50 + 4 * 0) p + lenX (ML mEF) (50 + 4 * 0) p ≤ 160 ∧ al0 17 (3 * 0 + p) = nI (lenX (ML mEF) (50 + 4 * 0) p) := by decide +kernel
theorem vx0_x2 : ∀ p, p < 3 → lenX (ML mEF) (50 + 4 * 0) p = 1 ∧ (6 ≤ ML mEF (51 + 4 * 0) (stX (ML mEF) (50 + 4 * 0) p + 0) ∧ ML mEF (51 + 4 * 0) (stX (ML mEF) (50 + 4 * 0) p + 0) ≤ 11) ∧ codeX (ML mEF) (50 + 4 * 0) p 0 = al0 18 (160 * (3 * 0 + p) + 0) := by decide +kernel
theorem vx_begin : VX al0 (ML mEF) := by
  refine ⟨⟨vx0_c, fun a b ha hb => vx0_w a ha b hb, ?_, ?_, ?_, ⟨vx0_i.1, fun h => absurd h vx0_i.2⟩, vx0_s, ?_⟩, ?_⟩
  · intro i hi
    rw [al0_R] at hi
    omega
  · intro i hi
    rw [al0_N] at hi
    omega
  · intro i hi
    rw [al0_T] at hi
    omega
  · intro t ht
    rw [al0_X] at ht
    obtain rfl : t = 0 := by omega
    intro p hp
    obtain ⟨a1, a2, a3, a4⟩ := vx0_x1 p hp
    obtain ⟨b1, b2, b3⟩ := vx0_x2 p hp
    refine ⟨a1, a2, a3, a4, fun k hk => ?_⟩
    obtain rfl : k = 0 := by omega
    exact ⟨Or.inr (Or.inl b2), b3⟩
  · intro i hi
    rw [al0_N] at hi
    omega
theorem vm0_c : ML mEF 82 4 = al0 0 0 ∧ ML mEF 82 1 = al0 0 1 ∧ ML mEF 82 13 = al0 0 2 ∧ ML mEF 82 14 = al0 0 3 ∧ ML mEF 82 12 = al0 0 4 := by decide +kernel
theorem vm0_w : ∀ k, k < 49 → ML mEF 83 k = al0 1 k := by decide +kernel
theorem vm0_x : ∀ p, p < 3 → ML mEF 94 (3 * 0 + p) = al0 17 (3 * 0 + p) ∧ (al0 17 (3 * 0 + p)).toNatClampNeg = 1 ∧ ML mEF 93 (160 * (3 * 0 + p) + 0) = al0 18 (160 * (3 * 0 + p) + 0) := by decide +kernel
theorem vm0_i : ML mEF 82 39 = al0 11 0 := by decide +kernel
theorem vm0_s : ∀ s, s < 4 → ML mEF 109 s = al0 14 s ∧ ML mEF 110 s = al0 15 s ∧ ∀ k, k < 40 → ML mEF 111 (40 * s + k) = al0 16 (40 * s + k) := by decide +kernel
theorem vm0_k1 : ∀ k, k < 41 → ML mEF 95 k = letM.getD k 0 := by decide +kernel
theorem vm0_k2 : ∀ k, k < 13 → ML mEF 96 k = begM.getD k 0 := by decide +kernel
theorem vm_begin : VM al0 (ML mEF) := by
  refine ⟨vm0_c, vm0_w, ?_, ?_, ?_, ?_, ⟨vm0_i, fun h => absurd h vx0_i.2⟩, vm0_s, vm0_k1, vm0_k2⟩
  · intro i hi
    rw [al0_R] at hi
    omega
  · intro i hi
    rw [al0_N] at hi
    omega
  · intro i hi
    rw [al0_T] at hi
    omega
  · intro t ht p hp
    rw [al0_X] at ht
    obtain rfl : t = 0 := by omega
    obtain ⟨a1, a2, a3⟩ := vm0_x p hp
    refine ⟨a1, fun k hk => ?_⟩
    obtain rfl : k = 0 := by omega
    exact a3
