/-! ===== the tokens in a row, and how a text is read down ===== -/
def plT (f : Nat → Int32) (n : Nat) : Nat → Nat
  | 0 => 0
  | i + 1 => tkE f n (skp f n (plT f n i))
def stT (f : Nat → Int32) (n i : Nat) : Nat := skp f n (plT f n i)
def tkT (f : Nat → Int32) (n i : Nat) : Int32 := tkK f n (stT f n i)
def nvT (f : Nat → Int32) (n i : Nat) : Int32 := nmT f (n - stT f n i) (stT f n i) 0
theorem plT_succ (f : Nat → Int32) (n i : Nat) : plT f n (i + 1) = tkE f n (stT f n i) := rfl
theorem skp_le {f : Nat → Int32} {n p : Nat} (h : p ≤ n) : p ≤ skp f n p ∧ skp f n p ≤ n := by
  have := skT_le f (n - p) p
  unfold skp
  omega
theorem rnT_pos {b : Int32 → Bool} {f : Nat → Int32} {j p : Nat} (hj : 0 < j) (h : b (f p) = true) : p + 1 ≤ rnT b f j p := by
  cases j with
  | zero => omega
  | succ j =>
    unfold rnT
    rw [if_pos h]
    exact (rnT_le b f j (p + 1)).1
theorem tkE_le {f : Nat → Int32} {n s : Nat} (h : s ≤ n) : s ≤ tkE f n s ∧ tkE f n s ≤ n ∧ (s < n → s + 1 ≤ tkE f n s) := by
  have h1 := rnT_le letB f (n - s) s
  have h2 := rnT_le digB f (n - s) s
  unfold tkE
  by_cases c : s < n
  · rw [if_pos c]
    by_cases c1 : letB (f s) = true
    · rw [if_pos c1]
      have := rnT_pos (j := n - s) (by omega) c1
      omega
    · rw [if_neg c1]
      by_cases c2 : digB (f s) = true
      · rw [if_pos c2]
        have := rnT_pos (j := n - s) (by omega) c2
        omega
      · rw [if_neg c2]
        omega
  · rw [if_neg c]
    omega
theorem plT_le (f : Nat → Int32) (n : Nat) : ∀ i, plT f n i ≤ n := by
  intro i
  induction i with
  | zero => exact Nat.zero_le _
  | succ i ih => exact (tkE_le (skp_le ih).2).2.1
theorem stT_le (f : Nat → Int32) (n i : Nat) : plT f n i ≤ stT f n i ∧ stT f n i ≤ n := skp_le (plT_le f n i)
theorem plT_mono (f : Nat → Int32) (n i : Nat) : plT f n i ≤ plT f n (i + 1) := Nat.le_trans (stT_le f n i).1 (tkE_le (stT_le f n i).2).1
theorem scG_range (v : Int32) : ∀ j, j ≤ 8 → scG v j = -1 ∨ ∃ k, k < 8 ∧ scG v j = nI k := by
  intro j
  induction j with
  | zero => intro _; exact Or.inl rfl
  | succ j ih =>
    intro hj
    unfold scG
    split
    · exact Or.inr ⟨7 - j, by omega, rfl⟩
    · exact ih (by omega)
theorem sgK_range (b : Int32) : sgK b = 22 ∨ ∃ k, k < 8 ∧ sgK b = nI (12 + k) := by
  have h : ∀ x, scI x = -1 ∨ ∃ k, k < 8 ∧ scI x = nI k := by
    intro x
    unfold scI
    split
    · exact Or.inl rfl
    · split
      · exact Or.inl rfl
      · exact scG_range _ 8 (Nat.le_refl 8)
  unfold sgK
  rcases h (Int32.toUInt32 b % 65536).toInt32 with e | ⟨k, hk, e⟩
  · rw [e]
    exact Or.inl rfl
  · rw [e, if_pos (nI_pos' (by omega))]
    exact Or.inr ⟨k, hk, nI_add 12 k⟩
theorem wdI_range (f : Nat → Int32) (s l : Nat) : ∀ j, wdI f s l j = 22 ∨ ∃ w, w < 12 ∧ wdI f s l j = nI w := by
  intro j
  induction j with
  | zero => exact Or.inl rfl
  | succ j ih =>
    unfold wdI
    split
    · exact Or.inr ⟨11 - j, by omega, rfl⟩
    · exact ih
/-- what a token may be: a word 0 .. 11, a sign 12 .. 19, a number, the end, none -/
theorem tkK_cases (f : Nat → Int32) (n s : Nat) : (¬ s < n ∧ tkK f n s = 21) ∨ (s < n ∧ letB (f s) = true ∧ (tkK f n s = 22 ∨ ∃ w, w < 12 ∧ tkK f n s = nI w)) ∨ (s < n ∧ letB (f s) = false ∧ digB (f s) = true ∧ (tkK f n s = 22 ∨ tkK f n s = 20)) ∨ (s < n ∧ letB (f s) = false ∧ digB (f s) = false ∧ (tkK f n s = 22 ∨ ∃ k, k < 8 ∧ tkK f n s = nI (12 + k))) := by
  by_cases c : s < n
  · by_cases c1 : letB (f s) = true
    · refine Or.inr (Or.inl ⟨c, c1, ?_⟩)
      have e : tkK f n s = wdI f s (rnT letB f (n - s) s - s) 12 := by simp [tkK, c, c1]
      rw [e]
      exact wdI_range _ _ _ 12
    · have c1' : letB (f s) = false := by simpa using c1
      by_cases c2 : digB (f s) = true
      · refine Or.inr (Or.inr (Or.inl ⟨c, c1', c2, ?_⟩))
        have e : tkK f n s = if rnT digB f (n - s) s - s ≤ 4 then 20 else 22 := by simp [tkK, c, c1', c2]
        rw [e]
        split
        · exact Or.inr rfl
        · exact Or.inl rfl
      · have c2' : digB (f s) = false := by simpa using c2
        refine Or.inr (Or.inr (Or.inr ⟨c, c1', c2', ?_⟩))
        have e : tkK f n s = sgK (f s) := by simp [tkK, c, c1', c2']
        rw [e]
        exact sgK_range _
  · exact Or.inl ⟨c, by simp [tkK, c]⟩
theorem nI_ne {a b : Nat} (ha : a < 2 ^ 31) (hb : b < 2 ^ 31) (h : a ≠ b) : nI a ≠ nI b := fun q => h ((nI_eq ha hb).mp q)
theorem tk20 {f : Nat → Int32} {n s : Nat} (h : tkK f n s = 20) : s < n ∧ letB (f s) = false ∧ digB (f s) = true := by
  rcases tkK_cases f n s with ⟨-, e⟩ | ⟨-, -, e | ⟨w, hw, e⟩⟩ | ⟨a, b, c, -⟩ | ⟨-, -, -, e | ⟨k, hk, e⟩⟩
  · rw [e] at h; exact absurd h (by decide)
  · rw [e] at h; exact absurd h (by decide)
  · rw [e] at h; exact absurd h (nI_ne (b := 20) (by omega) (by omega) (by omega))
  · exact ⟨a, b, c⟩
  · rw [e] at h; exact absurd h (by decide)
  · rw [e] at h; exact absurd h (nI_ne (b := 20) (by omega) (by omega) (by omega))
theorem tk_lt {f : Nat → Int32} {n s : Nat} (h : tkK f n s ≠ 21) : s < n := by
  rcases tkK_cases f n s with ⟨-, e⟩ | ⟨c, -⟩ | ⟨c, -⟩ | ⟨c, -⟩
  · exact absurd e h
  all_goals exact c
theorem tkT_lt {f : Nat → Int32} {n i : Nat} (h : tkT f n i ≠ 21) : stT f n i < n ∧ plT f n i + 1 ≤ plT f n (i + 1) := by
  have h1 := tk_lt h
  have h2 := (tkE_le (f := f) (stT_le f n i).2).2.2 h1
  have h3 := (stT_le f n i).1
  rw [plT_succ]
  omega
/-! reading: tokens by numbers; (true, i): token i is next; (false, i): it can't stand there -/
def tkS (tk : Nat → Int32) (s : Bool × Nat) : Int32 := if s.1 = true then tk s.2 else 22
def exS (tk : Nat → Int32) (s : Bool × Nat) (w : Int32) : Bool × Nat := if tkS tk s = w then (s.1, s.2 + 1) else (false, s.2)
def rdSeq (g : Nat → Nat → Bool × Nat → Option ((Bool × Nat) × List Int32)) (L lp o : Nat) (s : Bool × Nat) : Option ((Bool × Nat) × List Int32) := (g L o s).bind fun r => (g lp o r.1).bind fun q => some (q.1, r.2 ++ q.2)
def rdLoop (tk : Nat → Int32) (ops : Int32 → Bool) (g : Nat → Nat → Bool × Nat → Option ((Bool × Nat) × List Int32)) (L lp o : Nat) (s : Bool × Nat) : Option ((Bool × Nat) × List Int32) := if ops (tkS tk s) = true then (g L o (s.1, s.2 + 1)).bind fun r => (g lp o r.1).bind fun q => some (q.1, r.2 ++ (tkS tk s :: q.2)) else some (s, [])
def rdOne (tk nv : Nat → Int32) (g : Nat → Nat → Bool × Nat → Option ((Bool × Nat) × List Int32)) (o : Nat) (s : Bool × Nat) : Option ((Bool × Nat) × List Int32) :=
  if tkS tk s = 20 then some ((s.1, s.2 + 1), [100 + nv s.2])
  else if inB (tkS tk s) 6 11 = true then some ((s.1, s.2 + 1), [tkS tk s])
  else if 5 ≤ o then some ((false, s.2), [])
  else if tkS tk s = 16 then (g 0 (o + 1) (s.1, s.2 + 1)).bind fun r => some (r.1, r.2 ++ [23])
  else if tkS tk s = 12 then (g 6 (o + 1) (s.1, s.2 + 1)).bind fun r => some (exS tk r.1 13, r.2)
  else some ((false, s.2), [])
def rdComp (tk : Nat → Int32) (g : Nat → Nat → Bool × Nat → Option ((Bool × Nat) × List Int32)) (o : Nat) (s : Bool × Nat) : Option ((Bool × Nat) × List Int32) := (g 2 o s).bind fun r => if tkS tk r.1 = 18 ∨ tkS tk r.1 = 19 then (g 2 o (r.1.1, r.1.2 + 1)).bind fun q => some (q.1, r.2 ++ (q.2 ++ [tkS tk r.1])) else some r
def rdNot (tk : Nat → Int32) (g : Nat → Nat → Bool × Nat → Option ((Bool × Nat) × List Int32)) (o : Nat) (s : Bool × Nat) : Option ((Bool × Nat) × List Int32) := if tkS tk s = 5 then (if o < 5 then (g 4 (o + 1) (s.1, s.2 + 1)).bind fun r => some (r.1, r.2 ++ [5]) else some ((false, s.2), [])) else g 3 o s
def op17 (x : Int32) : Bool := decide (x = 17)
def op15 (x : Int32) : Bool := decide (x = 15) || decide (x = 16)
def op4 (x : Int32) : Bool := decide (x = 4)
def op3 (x : Int32) : Bool := decide (x = 3)
/-- levels: 0 one, 1 term, 2 sum, 3 comparison, 4 not, 5 and, 6 or; 11, 12, 15, 16 what follows in a row -/
def rd (tk nv : Nat → Int32) : Nat → Nat → Nat → Bool × Nat → Option ((Bool × Nat) × List Int32)
  | 0, _, _, _ => none
  | F + 1, L, o, s =>
    if L = 0 then rdOne tk nv (rd tk nv F) o s
    else if L = 1 then rdSeq (rd tk nv F) 0 11 o s
    else if L = 2 then rdSeq (rd tk nv F) 1 12 o s
    else if L = 3 then rdComp tk (rd tk nv F) o s
    else if L = 4 then rdNot tk (rd tk nv F) o s
    else if L = 5 then rdSeq (rd tk nv F) 4 15 o s
    else if L = 6 then rdSeq (rd tk nv F) 5 16 o s
    else if L = 11 then rdLoop tk op17 (rd tk nv F) 0 11 o s
    else if L = 12 then rdLoop tk op15 (rd tk nv F) 1 12 o s
    else if L = 15 then rdLoop tk op4 (rd tk nv F) 4 15 o s
    else rdLoop tk op3 (rd tk nv F) 5 16 o s
theorem rd_0 (tk nv : Nat → Int32) (F o : Nat) (s : Bool × Nat) : rd tk nv (F + 1) 0 o s = rdOne tk nv (rd tk nv F) o s := by rw [rd]; rfl
theorem rd_1 (tk nv : Nat → Int32) (F o : Nat) (s : Bool × Nat) : rd tk nv (F + 1) 1 o s = rdSeq (rd tk nv F) 0 11 o s := by rw [rd]; rfl
theorem rd_2 (tk nv : Nat → Int32) (F o : Nat) (s : Bool × Nat) : rd tk nv (F + 1) 2 o s = rdSeq (rd tk nv F) 1 12 o s := by rw [rd]; rfl
theorem rd_3 (tk nv : Nat → Int32) (F o : Nat) (s : Bool × Nat) : rd tk nv (F + 1) 3 o s = rdComp tk (rd tk nv F) o s := by rw [rd]; rfl
theorem rd_4 (tk nv : Nat → Int32) (F o : Nat) (s : Bool × Nat) : rd tk nv (F + 1) 4 o s = rdNot tk (rd tk nv F) o s := by rw [rd]; rfl
theorem rd_5 (tk nv : Nat → Int32) (F o : Nat) (s : Bool × Nat) : rd tk nv (F + 1) 5 o s = rdSeq (rd tk nv F) 4 15 o s := by rw [rd]; rfl
theorem rd_6 (tk nv : Nat → Int32) (F o : Nat) (s : Bool × Nat) : rd tk nv (F + 1) 6 o s = rdSeq (rd tk nv F) 5 16 o s := by rw [rd]; rfl
theorem rd_11 (tk nv : Nat → Int32) (F o : Nat) (s : Bool × Nat) : rd tk nv (F + 1) 11 o s = rdLoop tk op17 (rd tk nv F) 0 11 o s := by rw [rd]; rfl
theorem rd_12 (tk nv : Nat → Int32) (F o : Nat) (s : Bool × Nat) : rd tk nv (F + 1) 12 o s = rdLoop tk op15 (rd tk nv F) 1 12 o s := by rw [rd]; rfl
theorem rd_15 (tk nv : Nat → Int32) (F o : Nat) (s : Bool × Nat) : rd tk nv (F + 1) 15 o s = rdLoop tk op4 (rd tk nv F) 4 15 o s := by rw [rd]; rfl
theorem rd_16 (tk nv : Nat → Int32) (F o : Nat) (s : Bool × Nat) : rd tk nv (F + 1) 16 o s = rdLoop tk op3 (rd tk nv F) 5 16 o s := by rw [rd]; rfl
theorem tkS_t {tk : Nat → Int32} {i : Nat} : tkS tk (true, i) = tk i := if_pos rfl
theorem tkS_f {tk : Nat → Int32} {i : Nat} : tkS tk (false, i) = 22 := by simp [tkS]
theorem tkS_alive {tk : Nat → Int32} {s : Bool × Nat} (h : tkS tk s ≠ 22) : s.1 = true := by
  unfold tkS at h
  split at h
  · assumption
  · exact absurd rfl h
theorem bind_some' {α β : Type} {x : Option α} {f : α → Option β} {r : β} (h : x.bind f = some r) : ∃ a, x = some a ∧ f a = some r := by
  cases x with
  | none => cases h
  | some a => exact ⟨a, rfl, h⟩
theorem rdSeq_some {g : Nat → Nat → Bool × Nat → Option ((Bool × Nat) × List Int32)} {L lp o : Nat} {s : Bool × Nat} {r : (Bool × Nat) × List Int32} (h : rdSeq g L lp o s = some r) : ∃ r1 r2, g L o s = some r1 ∧ g lp o r1.1 = some r2 ∧ r = (r2.1, r1.2 ++ r2.2) := by
  obtain ⟨r1, h1, h2⟩ := bind_some' h
  obtain ⟨r2, h3, h4⟩ := bind_some' h2
  cases h4
  exact ⟨r1, r2, h1, h3, rfl⟩
theorem rdLoop_some {tk : Nat → Int32} {ops : Int32 → Bool} {g : Nat → Nat → Bool × Nat → Option ((Bool × Nat) × List Int32)} {L lp o : Nat} {s : Bool × Nat} {r : (Bool × Nat) × List Int32} (h : rdLoop tk ops g L lp o s = some r) : (ops (tkS tk s) = false ∧ r = (s, [])) ∨ (ops (tkS tk s) = true ∧ ∃ r1 r2, g L o (s.1, s.2 + 1) = some r1 ∧ g lp o r1.1 = some r2 ∧ r = (r2.1, r1.2 ++ (tkS tk s :: r2.2))) := by
  unfold rdLoop at h
  split at h
  · rename_i c
    obtain ⟨r1, h1, h2⟩ := bind_some' h
    obtain ⟨r2, h3, h4⟩ := bind_some' h2
    cases h4
    exact Or.inr ⟨c, r1, r2, h1, h3, rfl⟩
  · rename_i c
    cases h
    exact Or.inl ⟨by simpa using c, rfl⟩
