/-! ===== reading comes to an end ===== -/
theorem rdOne_some {tk nv : Nat → Int32} {g : Nat → Nat → Bool × Nat → Option ((Bool × Nat) × List Int32)} {o : Nat} {s : Bool × Nat} {r : (Bool × Nat) × List Int32} (h : rdOne tk nv g o s = some r) :
    (tkS tk s = 20 ∧ r = ((s.1, s.2 + 1), [100 + nv s.2])) ∨ (tkS tk s ≠ 20 ∧ inB (tkS tk s) 6 11 = true ∧ r = ((s.1, s.2 + 1), [tkS tk s])) ∨ (r = ((false, s.2), []) ∧ tkS tk s ≠ 20 ∧ inB (tkS tk s) 6 11 = false ∧ (5 ≤ o ∨ (tkS tk s ≠ 16 ∧ tkS tk s ≠ 12))) ∨ (tkS tk s = 16 ∧ o < 5 ∧ ∃ r1, g 0 (o + 1) (s.1, s.2 + 1) = some r1 ∧ r = (r1.1, r1.2 ++ [23])) ∨ (tkS tk s = 12 ∧ o < 5 ∧ ∃ r1, g 6 (o + 1) (s.1, s.2 + 1) = some r1 ∧ r = (exS tk r1.1 13, r1.2)) := by
  unfold rdOne at h
  by_cases c20 : tkS tk s = 20
  · rw [if_pos c20] at h
    cases h
    exact Or.inl ⟨c20, rfl⟩
  · rw [if_neg c20] at h
    by_cases cn : inB (tkS tk s) 6 11 = true
    · rw [if_pos cn] at h
      cases h
      exact Or.inr (Or.inl ⟨c20, cn, rfl⟩)
    · rw [if_neg cn] at h
      have cn' : inB (tkS tk s) 6 11 = false := by simpa using cn
      by_cases c5 : 5 ≤ o
      · rw [if_pos c5] at h
        cases h
        exact Or.inr (Or.inr (Or.inl ⟨rfl, c20, cn', Or.inl c5⟩))
      · rw [if_neg c5] at h
        by_cases c16 : tkS tk s = 16
        · rw [if_pos c16] at h
          obtain ⟨r1, h1, h2⟩ := bind_some' h
          cases h2
          exact Or.inr (Or.inr (Or.inr (Or.inl ⟨c16, by omega, r1, h1, rfl⟩)))
        · rw [if_neg c16] at h
          by_cases c12 : tkS tk s = 12
          · rw [if_pos c12] at h
            obtain ⟨r1, h1, h2⟩ := bind_some' h
            cases h2
            exact Or.inr (Or.inr (Or.inr (Or.inr ⟨c12, by omega, r1, h1, rfl⟩)))
          · rw [if_neg c12] at h
            cases h
            exact Or.inr (Or.inr (Or.inl ⟨rfl, c20, cn', Or.inr ⟨c16, c12⟩⟩))
theorem rdComp_some {tk : Nat → Int32} {g : Nat → Nat → Bool × Nat → Option ((Bool × Nat) × List Int32)} {o : Nat} {s : Bool × Nat} {r : (Bool × Nat) × List Int32} (h : rdComp tk g o s = some r) :
    ∃ r1, g 2 o s = some r1 ∧ (((tkS tk r1.1 = 18 ∨ tkS tk r1.1 = 19) ∧ ∃ q, g 2 o (r1.1.1, r1.1.2 + 1) = some q ∧ r = (q.1, r1.2 ++ (q.2 ++ [tkS tk r1.1]))) ∨ (¬ (tkS tk r1.1 = 18 ∨ tkS tk r1.1 = 19) ∧ r = r1)) := by
  obtain ⟨r1, h1, h2⟩ := bind_some' h
  refine ⟨r1, h1, ?_⟩
  split at h2
  · rename_i c
    obtain ⟨q, h3, h4⟩ := bind_some' h2
    cases h4
    exact Or.inl ⟨c, q, h3, rfl⟩
  · rename_i c
    cases h2
    exact Or.inr ⟨c, rfl⟩
theorem rdNot_some {tk : Nat → Int32} {g : Nat → Nat → Bool × Nat → Option ((Bool × Nat) × List Int32)} {o : Nat} {s : Bool × Nat} {r : (Bool × Nat) × List Int32} (h : rdNot tk g o s = some r) :
    (tkS tk s = 5 ∧ o < 5 ∧ ∃ r1, g 4 (o + 1) (s.1, s.2 + 1) = some r1 ∧ r = (r1.1, r1.2 ++ [5])) ∨ (tkS tk s = 5 ∧ 5 ≤ o ∧ r = ((false, s.2), [])) ∨ (tkS tk s ≠ 5 ∧ g 3 o s = some r) := by
  unfold rdNot at h
  by_cases c : tkS tk s = 5
  · rw [if_pos c] at h
    by_cases c5 : o < 5
    · rw [if_pos c5] at h
      obtain ⟨r1, h1, h2⟩ := bind_some' h
      cases h2
      exact Or.inl ⟨c, c5, r1, h1, rfl⟩
    · rw [if_neg c5] at h
      cases h
      exact Or.inr (Or.inl ⟨c, by omega, rfl⟩)
  · rw [if_neg c] at h
    exact Or.inr (Or.inr ⟨c, h⟩)
/-- one of the levels, each with what it is made of -/
theorem rd_lvl {tk nv : Nat → Int32} {F L o : Nat} {s : Bool × Nat} {P : Option ((Bool × Nat) × List Int32) → Prop} (h0 : L = 0 → P (rdOne tk nv (rd tk nv F) o s)) (h1 : L = 1 → P (rdSeq (rd tk nv F) 0 11 o s)) (h2 : L = 2 → P (rdSeq (rd tk nv F) 1 12 o s)) (h3 : L = 3 → P (rdComp tk (rd tk nv F) o s)) (h4 : L = 4 → P (rdNot tk (rd tk nv F) o s)) (h5 : L = 5 → P (rdSeq (rd tk nv F) 4 15 o s)) (h6 : L = 6 → P (rdSeq (rd tk nv F) 5 16 o s)) (h11 : L = 11 → P (rdLoop tk op17 (rd tk nv F) 0 11 o s)) (h12 : L = 12 → P (rdLoop tk op15 (rd tk nv F) 1 12 o s)) (h15 : L = 15 → P (rdLoop tk op4 (rd tk nv F) 4 15 o s)) (hx : (7 ≤ L ∧ L ≠ 11 ∧ L ≠ 12 ∧ L ≠ 15) → P (rdLoop tk op3 (rd tk nv F) 5 16 o s)) : P (rd tk nv (F + 1) L o s) := by
  rw [rd]
  split
  · exact h0 ‹_›
  · split
    · exact h1 ‹_›
    · split
      · exact h2 ‹_›
      · split
        · exact h3 ‹_›
        · split
          · exact h4 ‹_›
          · split
            · exact h5 ‹_›
            · split
              · exact h6 ‹_›
              · split
                · exact h11 ‹_›
                · split
                  · exact h12 ‹_›
                  · split
                    · exact h15 ‹_›
                    · exact hx ⟨by omega, ‹_›, ‹_›, ‹_›⟩
theorem exS_alive {tk : Nat → Int32} {s : Bool × Nat} {w : Int32} (hw : w ≠ 22) (h : (exS tk s w).1 = true) : s.1 = true ∧ tkS tk s = w ∧ exS tk s w = (true, s.2 + 1) := by
  unfold exS at h ⊢
  by_cases c : tkS tk s = w
  · rw [if_pos c]
    have := tkS_alive (c ▸ hw)
    rw [this]
    exact ⟨rfl, c, rfl⟩
  · rw [if_neg c] at h
    exact absurd h (by simp)
/-- reading goes on, never back -/
theorem rd_on {tk nv : Nat → Int32} : ∀ (F L o : Nat) (s : Bool × Nat) (r : (Bool × Nat) × List Int32), rd tk nv F L o s = some r → r.1.1 = true → s.1 = true ∧ s.2 ≤ r.1.2 := by
  intro F
  induction F with
  | zero =>
    intro L o s r h
    rw [rd] at h
    cases h
  | succ F ih =>
    intro L o s r
    have seq : ∀ A B, rdSeq (rd tk nv F) A B o s = some r → r.1.1 = true → s.1 = true ∧ s.2 ≤ r.1.2 := by
      intro A B h ha
      obtain ⟨r1, r2, h1, h2, rfl⟩ := rdSeq_some h
      obtain ⟨g1, g2⟩ := ih _ _ _ _ h2 ha
      obtain ⟨g3, g4⟩ := ih _ _ _ _ h1 g1
      exact ⟨g3, Nat.le_trans g4 g2⟩
    have loop : ∀ ops A B, rdLoop tk ops (rd tk nv F) A B o s = some r → r.1.1 = true → s.1 = true ∧ s.2 ≤ r.1.2 := by
      intro ops A B h ha
      rcases rdLoop_some h with ⟨-, rfl⟩ | ⟨-, r1, r2, h1, h2, rfl⟩
      · exact ⟨ha, Nat.le_refl _⟩
      · obtain ⟨g1, g2⟩ := ih _ _ _ _ h2 ha
        obtain ⟨g3, g4⟩ := ih _ _ _ _ h1 g1
        have g4 : s.2 + 1 ≤ r1.1.2 := g4
        have g2 : r1.1.2 ≤ r2.1.2 := g2
        exact ⟨g3, by show s.2 ≤ r2.1.2; omega⟩
    refine rd_lvl (P := fun x => x = some r → r.1.1 = true → s.1 = true ∧ s.2 ≤ r.1.2) ?_ (fun _ => seq _ _) (fun _ => seq _ _) ?_ ?_ (fun _ => seq _ _) (fun _ => seq _ _) (fun _ => loop _ _ _) (fun _ => loop _ _ _) (fun _ => loop _ _ _) (fun _ => loop _ _ _)
    · intro _ h ha
      rcases rdOne_some h with ⟨-, rfl⟩ | ⟨-, -, rfl⟩ | ⟨rfl, -⟩ | ⟨-, -, r1, h1, rfl⟩ | ⟨-, -, r1, h1, rfl⟩
      · exact ⟨ha, Nat.le_succ _⟩
      · exact ⟨ha, Nat.le_succ _⟩
      · exact absurd ha (by simp)
      · obtain ⟨g3, g4⟩ := ih _ _ _ _ h1 ha
        have g4 : s.2 + 1 ≤ r1.1.2 := g4
        exact ⟨g3, by show s.2 ≤ r1.1.2; omega⟩
      · obtain ⟨q1, -, q3⟩ := exS_alive (by decide) ha
        obtain ⟨g3, g4⟩ := ih _ _ _ _ h1 q1
        have g4 : s.2 + 1 ≤ r1.1.2 := g4
        refine ⟨g3, ?_⟩
        show s.2 ≤ (exS tk r1.1 13).2
        rw [q3]
        show s.2 ≤ r1.1.2 + 1
        omega
    · intro _ h ha
      obtain ⟨r1, h1, ⟨-, q, h2, rfl⟩ | ⟨-, rfl⟩⟩ := rdComp_some h
      · obtain ⟨g1, g2⟩ := ih _ _ _ _ h2 ha
        obtain ⟨g3, g4⟩ := ih _ _ _ _ h1 g1
        have g2 : r1.1.2 + 1 ≤ q.1.2 := g2
        exact ⟨g3, by show s.2 ≤ q.1.2; omega⟩
      · exact ih _ _ _ _ h1 ha
    · intro _ h ha
      rcases rdNot_some h with ⟨-, -, r1, h1, rfl⟩ | ⟨-, -, rfl⟩ | ⟨-, h1⟩
      · obtain ⟨g3, g4⟩ := ih _ _ _ _ h1 ha
        have g4 : s.2 + 1 ≤ r1.1.2 := g4
        exact ⟨g3, by show s.2 ≤ r1.1.2; omega⟩
      · exact absurd ha (by simp)
      · exact ih _ _ _ _ h1 ha
/-- how many tokens there may yet be -/
def leftT (f : Nat → Int32) (n : Nat) (s : Bool × Nat) : Nat := if s.1 = true then n + 1 - plT f n s.2 else 0
theorem plT_up (f : Nat → Int32) (n : Nat) {i j : Nat} (h : i ≤ j) : plT f n i ≤ plT f n j := by
  induction j with
  | zero =>
    obtain rfl : i = 0 := by omega
    exact Nat.le_refl _
  | succ j ih =>
    by_cases c : i = j + 1
    · rw [c]
      exact Nat.le_refl _
    · exact Nat.le_trans (ih (by omega)) (plT_mono f n j)
theorem leftT_on {f : Nat → Int32} {n F L o : Nat} {s : Bool × Nat} {r : (Bool × Nat) × List Int32} (h : rd (tkT f n) (nvT f n) F L o s = some r) : leftT f n r.1 ≤ leftT f n s := by
  unfold leftT
  by_cases c : r.1.1 = true
  · obtain ⟨h1, h2⟩ := rd_on _ _ _ _ _ h c
    have := plT_up f n h2
    rw [if_pos c, if_pos h1]
    omega
  · rw [if_neg c]
    exact Nat.zero_le _
theorem leftT_take {f : Nat → Int32} {n : Nat} {s : Bool × Nat} (h22 : tkS (tkT f n) s ≠ 22) (h21 : tkS (tkT f n) s ≠ 21) : leftT f n (s.1, s.2 + 1) + 1 ≤ leftT f n s := by
  have hs := tkS_alive h22
  have hk : tkT f n s.2 ≠ 21 := by
    have : tkS (tkT f n) s = tkT f n s.2 := if_pos hs
    rw [← this]
    exact h21
  obtain ⟨l1, l2⟩ := tkT_lt hk
  have := plT_le f n (s.2 + 1)
  unfold leftT
  rw [if_pos hs, if_pos hs]
  show n + 1 - plT f n (s.2 + 1) + 1 ≤ n + 1 - plT f n s.2
  omega
def lvT (L : Nat) : Nat := if L ≤ 6 then L else 0
theorem rd_tot (f : Nat → Int32) (n : Nat) : ∀ (F L o : Nat) (s : Bool × Nat), 8 * leftT f n s + lvT L + 1 ≤ F → ∃ r, rd (tkT f n) (nvT f n) F L o s = some r := by
  intro F
  induction F with
  | zero => intro L o s h; omega
  | succ F ih =>
    intro L o s h
    have seq : ∀ A B, 8 * leftT f n s + lvT A + 1 ≤ F → 7 ≤ B → ∃ r, rdSeq (rd (tkT f n) (nvT f n) F) A B o s = some r := by
      intro A B hA hB
      obtain ⟨r1, h1⟩ := ih A o s hA
      have hB' : lvT B = 0 := if_neg (by omega)
      obtain ⟨r2, h2⟩ := ih B o r1.1 (by have := leftT_on h1; omega)
      unfold rdSeq
      rw [h1]
      show ∃ r, ((rd (tkT f n) (nvT f n) F B o r1.1).bind fun q => some (q.1, r1.2 ++ q.2)) = some r
      rw [h2]
      exact ⟨_, rfl⟩
    have loop : ∀ ops A B, ops 22 = false → ops 21 = false → A ≤ 6 → 7 ≤ B → ∃ r, rdLoop (tkT f n) ops (rd (tkT f n) (nvT f n) F) A B o s = some r := by
      intro ops A B h22 h21 hA hB
      have hB' : lvT B = 0 := if_neg (by omega)
      have hA' : lvT A = A := if_pos hA
      unfold rdLoop
      by_cases c : ops (tkS (tkT f n) s) = true
      · rw [if_pos c]
        have ht := leftT_take (f := f) (n := n) (s := s) (fun q => by rw [q, h22] at c; cases c) (fun q => by rw [q, h21] at c; cases c)
        obtain ⟨r1, h1⟩ := ih A o (s.1, s.2 + 1) (by omega)
        obtain ⟨r2, h2⟩ := ih B o r1.1 (by have := leftT_on h1; omega)
        rw [h1]
        show ∃ r, ((rd (tkT f n) (nvT f n) F B o r1.1).bind fun q => some (q.1, r1.2 ++ (tkS (tkT f n) s :: q.2))) = some r
        rw [h2]
        exact ⟨_, rfl⟩
      · rw [if_neg c]
        exact ⟨_, rfl⟩
    refine rd_lvl (P := fun x => ∃ r, x = some r) ?_ ?_ ?_ ?_ ?_ ?_ ?_ (fun _ => loop _ _ _ rfl rfl (by omega) (by omega)) (fun _ => loop _ _ _ rfl rfl (by omega) (by omega)) (fun _ => loop _ _ _ rfl rfl (by omega) (by omega)) (fun _ => loop _ _ _ rfl rfl (by omega) (by omega))
    · rintro rfl
      have h0 : lvT 0 = 0 := rfl
      have h6 : lvT 6 = 6 := rfl
      unfold rdOne
      split
      · exact ⟨_, rfl⟩
      · split
        · exact ⟨_, rfl⟩
        · split
          · exact ⟨_, rfl⟩
          · split
            · rename_i c
              have ht := leftT_take (f := f) (n := n) (s := s) (by rw [c]; decide) (by rw [c]; decide)
              obtain ⟨r1, h1⟩ := ih 0 (o + 1) (s.1, s.2 + 1) (by omega)
              rw [h1]
              exact ⟨_, rfl⟩
            · split
              · rename_i c
                have ht := leftT_take (f := f) (n := n) (s := s) (by rw [c]; decide) (by rw [c]; decide)
                obtain ⟨r1, h1⟩ := ih 6 (o + 1) (s.1, s.2 + 1) (by omega)
                rw [h1]
                exact ⟨_, rfl⟩
              · exact ⟨_, rfl⟩
    · rintro rfl
      exact seq 0 11 (by have h0 : lvT 0 = 0 := rfl; have h1 : lvT 1 = 1 := rfl; omega) (by omega)
    · rintro rfl
      exact seq 1 12 (by have h0 : lvT 1 = 1 := rfl; have h1 : lvT 2 = 2 := rfl; omega) (by omega)
    · rintro rfl
      have h2 : lvT 2 = 2 := rfl
      have h3 : lvT 3 = 3 := rfl
      obtain ⟨r1, h1⟩ := ih 2 o s (by omega)
      unfold rdComp
      rw [h1]
      show ∃ r, (if tkS (tkT f n) r1.1 = 18 ∨ tkS (tkT f n) r1.1 = 19 then (rd (tkT f n) (nvT f n) F 2 o (r1.1.1, r1.1.2 + 1)).bind fun q => some (q.1, r1.2 ++ (q.2 ++ [tkS (tkT f n) r1.1])) else some r1) = some r
      split
      · rename_i c
        have ht := leftT_take (f := f) (n := n) (s := r1.1) (by rcases c with c | c <;> (rw [c]; decide)) (by rcases c with c | c <;> (rw [c]; decide))
        obtain ⟨r2, h4⟩ := ih 2 o (r1.1.1, r1.1.2 + 1) (by have := leftT_on h1; omega)
        rw [h4]
        exact ⟨_, rfl⟩
      · exact ⟨_, rfl⟩
    · rintro rfl
      have h4 : lvT 4 = 4 := rfl
      have h3 : lvT 3 = 3 := rfl
      unfold rdNot
      split
      · rename_i c
        split
        · have ht := leftT_take (f := f) (n := n) (s := s) (by rw [c]; decide) (by rw [c]; decide)
          obtain ⟨r1, h1⟩ := ih 4 (o + 1) (s.1, s.2 + 1) (by omega)
          rw [h1]
          exact ⟨_, rfl⟩
        · exact ⟨_, rfl⟩
      · exact ih 3 o s (by omega)
    · rintro rfl
      exact seq 4 15 (by have h0 : lvT 4 = 4 := rfl; have h1 : lvT 5 = 5 := rfl; omega) (by omega)
    · rintro rfl
      exact seq 5 16 (by have h0 : lvT 5 = 5 := rfl; have h1 : lvT 6 = 6 := rfl; omega) (by omega)
theorem leftT_max (f : Nat → Int32) (n : Nat) (s : Bool × Nat) : leftT f n s ≤ n + 1 := by
  unfold leftT
  split <;> omega
/-! a whole text -/
def rdPart (tk nv : Nat → Int32) (p : Nat) (s : Bool × Nat) : Option ((Bool × Nat) × List Int32) := (rd tk nv 1400 6 0 (exS tk s (nI p))).bind fun r => some (exS tk r.1 14, r.2)
/-- where it ends, and its three parts' steps -/
def rdAll (tk nv : Nat → Int32) : Option ((Bool × Nat) × List Int32 × List Int32 × List Int32) := (rdPart tk nv 0 (true, 0)).bind fun r0 => (rdPart tk nv 1 r0.1).bind fun r1 => (rdPart tk nv 2 r1.1).bind fun r2 => some (exS tk r2.1 21, r0.2, r1.2, r2.2)
theorem rdPart_tot {f : Nat → Int32} {n : Nat} (hn : n ≤ 160) (p : Nat) (s : Bool × Nat) : ∃ r, rdPart (tkT f n) (nvT f n) p s = some r := by
  obtain ⟨r, h⟩ := rd_tot f n 1400 6 0 (exS (tkT f n) s (nI p)) (by have := leftT_max f n (exS (tkT f n) s (nI p)); have : lvT 6 = 6 := rfl; omega)
  unfold rdPart
  rw [h]
  exact ⟨_, rfl⟩
theorem rdAll_tot {f : Nat → Int32} {n : Nat} (hn : n ≤ 160) : ∃ r, rdAll (tkT f n) (nvT f n) = some r := by
  obtain ⟨r0, h0⟩ := rdPart_tot (f := f) hn 0 (true, 0)
  obtain ⟨r1, h1⟩ := rdPart_tot (f := f) hn 1 r0.1
  obtain ⟨r2, h2⟩ := rdPart_tot (f := f) hn 2 r1.1
  refine ⟨(exS (tkT f n) r2.1 21, r0.2, r1.2, r2.2), ?_⟩
  unfold rdAll
  rw [h0, Option.bind_some, h1, Option.bind_some, h2, Option.bind_some]
theorem rdAll_some {tk nv : Nat → Int32} {r : (Bool × Nat) × List Int32 × List Int32 × List Int32} (h : rdAll tk nv = some r) : ∃ r0 r1 r2, rdPart tk nv 0 (true, 0) = some r0 ∧ rdPart tk nv 1 r0.1 = some r1 ∧ rdPart tk nv 2 r1.1 = some r2 ∧ r = (exS tk r2.1 21, r0.2, r1.2, r2.2) := by
  obtain ⟨r0, h0, h⟩ := bind_some' h
  obtain ⟨r1, h1, h⟩ := bind_some' h
  obtain ⟨r2, h2, h⟩ := bind_some' h
  cases h
  exact ⟨r0, r1, r2, h0, h1, h2, rfl⟩
