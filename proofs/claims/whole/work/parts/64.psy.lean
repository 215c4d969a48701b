/-! ===== reading by a row of what waits, told apart from its machine ===== -/
def rkI (x : Int32) : Nat := if x = 3 then 1 else if x = 4 then 2 else if x = 5 then 3 else if x = 18 ∨ x = 19 then 4 else if x = 15 ∨ x = 16 then 5 else if x = 17 then 6 else if x = 23 then 7 else 0
/-- all that waits and ranks so high at least is done -/
def dA (r : Nat) : List Int32 → List Int32 → List Int32 × List Int32
  | [], C => ([], C)
  | x :: W, C => if r ≤ rkI x then dA r W (C ++ [x]) else (x :: W, C)
def opnN : List Int32 → Nat
  | [] => 0
  | x :: W => opnN W + (if x = 5 ∨ x = 12 ∨ x = 23 then 1 else 0)
def nstN : List Int32 → Nat
  | [] => 0
  | x :: W => nstN W + (if x = 12 then 1 else 0)
def opB (t : Int32) : Bool := decide (t = 3) || (decide (t = 4) || (decide (t = 15) || (decide (t = 16) || (decide (t = 17) || (decide (t = 18) || decide (t = 19))))))
def nextC (r : Nat) (c : Bool) : Bool := decide (r = 4) || (decide (4 < r) && c)
def syF (tk nv : Nat → Int32) : Nat → Nat → List Int32 → List Int32 → List Bool → Bool → Bool → Option (Bool × Nat × List Int32)
  | 0, _, _, _, _, _, _ => none
  | F + 1, i, W, C, cs, w, m =>
    if w = true then
      if tk i = 20 then syF tk nv F (i + 1) (dA 7 W (C ++ [100 + nv i])).1 (dA 7 W (C ++ [100 + nv i])).2 cs false m
      else if inB (tk i) 6 11 = true then syF tk nv F (i + 1) (dA 7 W (C ++ [tk i])).1 (dA 7 W (C ++ [tk i])).2 cs false m
      else if opnN W = 5 then some (false, i, [])
      else if tk i = 12 then syF tk nv F (i + 1) (12 :: W) C (false :: cs) true true
      else if tk i = 16 then syF tk nv F (i + 1) (23 :: W) C cs true false
      else if m = true ∧ tk i = 5 then syF tk nv F (i + 1) (5 :: W) C cs true true
      else some (false, i, [])
    else if tk i = 14 ∧ nstN W = 0 then some (true, i, (dA 1 W C).2)
    else if opB (tk i) = true ∧ ¬ (rkI (tk i) = 4 ∧ cs.headD false = true) then syF tk nv F (i + 1) (tk i :: (dA (rkI (tk i)) W C).1) (dA (rkI (tk i)) W C).2 (nextC (rkI (tk i)) (cs.headD false) :: cs.tail) true (decide (tk i = 4) || decide (tk i = 3))
    else if tk i = 13 ∧ ¬ nstN W = 0 then syF tk nv F (i + 1) (dA 7 (dA 1 W C).1.tail (dA 1 W C).2).1 (dA 7 (dA 1 W C).1.tail (dA 1 W C).2).2 cs.tail false m
    else some (false, i, [])
def EN (tk nv : Nat → Int32) (i : Nat) (W C : List Int32) (cs : List Bool) (w m : Bool) (R : Bool × Nat × List Int32) : Prop := ∃ F, syF tk nv F i W C cs w m = some R
section SY
variable {tk nv : Nat → Int32} {i : Nat} {W C : List Int32} {cs : List Bool} {m : Bool} {R : Bool × Nat × List Int32}
theorem EN.num (h : tk i = 20) (k : EN tk nv (i + 1) (dA 7 W (C ++ [100 + nv i])).1 (dA 7 W (C ++ [100 + nv i])).2 cs false m R) : EN tk nv i W C cs true m R := by
  obtain ⟨F, hF⟩ := k
  refine ⟨F + 1, ?_⟩
  rw [syF, if_pos rfl, if_pos h]
  exact hF
theorem EN.name (h0 : ¬ tk i = 20) (h : inB (tk i) 6 11 = true) (k : EN tk nv (i + 1) (dA 7 W (C ++ [tk i])).1 (dA 7 W (C ++ [tk i])).2 cs false m R) : EN tk nv i W C cs true m R := by
  obtain ⟨F, hF⟩ := k
  refine ⟨F + 1, ?_⟩
  rw [syF, if_pos rfl, if_neg h0, if_pos h]
  exact hF
theorem EN.bad (h0 : ¬ tk i = 20) (h : inB (tk i) 6 11 = false) (h2 : opnN W = 5 ∨ (¬ tk i = 12 ∧ ¬ tk i = 16 ∧ ¬ (m = true ∧ tk i = 5))) : EN tk nv i W C cs true m (false, i, []) := by
  refine ⟨1, ?_⟩
  rw [syF, if_pos rfl, if_neg h0, if_neg (by rw [h]; decide)]
  by_cases c : opnN W = 5
  · rw [if_pos c]
  · obtain ⟨a, b, d⟩ := h2.resolve_left c
    rw [if_neg c, if_neg a, if_neg b, if_neg d]
theorem EN.opn (ho : ¬ opnN W = 5) (h : tk i = 12) (k : EN tk nv (i + 1) (12 :: W) C (false :: cs) true true R) : EN tk nv i W C cs true m R := by
  obtain ⟨F, hF⟩ := k
  refine ⟨F + 1, ?_⟩
  rw [syF, if_pos rfl, if_neg (by rw [h]; decide), if_neg (by rw [h]; decide), if_neg ho, if_pos h]
  exact hF
theorem EN.mns (ho : ¬ opnN W = 5) (h : tk i = 16) (k : EN tk nv (i + 1) (23 :: W) C cs true false R) : EN tk nv i W C cs true m R := by
  obtain ⟨F, hF⟩ := k
  refine ⟨F + 1, ?_⟩
  rw [syF, if_pos rfl, if_neg (by rw [h]; decide), if_neg (by rw [h]; decide), if_neg ho, if_neg (by rw [h]; decide), if_pos h]
  exact hF
theorem EN.nt (ho : ¬ opnN W = 5) (h : tk i = 5) (hm : m = true) (k : EN tk nv (i + 1) (5 :: W) C cs true true R) : EN tk nv i W C cs true m R := by
  obtain ⟨F, hF⟩ := k
  refine ⟨F + 1, ?_⟩
  rw [syF, if_pos rfl, if_neg (by rw [h]; decide), if_neg (by rw [h]; decide), if_neg ho, if_neg (by rw [h]; decide), if_neg (by rw [h]; decide), if_pos ⟨hm, h⟩]
  exact hF
theorem EN.done (h : tk i = 14) (hn : nstN W = 0) : EN tk nv i W C cs false m (true, i, (dA 1 W C).2) := by
  refine ⟨1, ?_⟩
  rw [syF, if_neg (by decide), if_pos ⟨h, hn⟩]
theorem EN.op {c : Bool} (h : opB (tk i) = true) (hc : ¬ (rkI (tk i) = 4 ∧ c = true)) (k : EN tk nv (i + 1) (tk i :: (dA (rkI (tk i)) W C).1) (dA (rkI (tk i)) W C).2 (nextC (rkI (tk i)) c :: cs) true (decide (tk i = 4) || decide (tk i = 3)) R) : EN tk nv i W C (c :: cs) false m R := by
  obtain ⟨F, hF⟩ := k
  refine ⟨F + 1, ?_⟩
  have h14 : ¬ (tk i = 14 ∧ nstN W = 0) := fun q => by
    rw [q.1] at h
    exact absurd h (by decide)
  rw [syF, if_neg (by decide), if_neg h14, if_pos ⟨h, hc⟩]
  exact hF
theorem EN.cls {c : Bool} (h : tk i = 13) (hn : ¬ nstN W = 0) (k : EN tk nv (i + 1) (dA 7 (dA 1 W C).1.tail (dA 1 W C).2).1 (dA 7 (dA 1 W C).1.tail (dA 1 W C).2).2 cs false m R) : EN tk nv i W C (c :: cs) false m R := by
  obtain ⟨F, hF⟩ := k
  refine ⟨F + 1, ?_⟩
  have h14 : ¬ (tk i = 14 ∧ nstN W = 0) := fun q => by
    rw [q.1] at h
    exact absurd h (by decide)
  have hop : ¬ (opB (tk i) = true ∧ ¬ (rkI (tk i) = 4 ∧ (c :: cs).headD false = true)) := fun q => by
    have := q.1
    rw [h] at this
    exact absurd this (by decide)
  rw [syF, if_neg (by decide), if_neg h14, if_neg hop, if_pos ⟨h, hn⟩]
  exact hF
theorem EN.off {c : Bool} (h1 : ¬ (tk i = 14 ∧ nstN W = 0)) (h2 : ¬ (opB (tk i) = true ∧ ¬ (rkI (tk i) = 4 ∧ c = true))) (h3 : ¬ (tk i = 13 ∧ ¬ nstN W = 0)) : EN tk nv i W C (c :: cs) false m (false, i, []) := by
  refine ⟨1, ?_⟩
  have h2' : ¬ (opB (tk i) = true ∧ ¬ (rkI (tk i) = 4 ∧ (c :: cs).headD false = true)) := h2
  rw [syF, if_neg (by decide), if_neg h1, if_neg h2', if_neg h3]
end SY
def topB (t : Nat) (W : List Int32) : Prop := ∀ x, W.head? = some x → rkI x < t
def rnkP (t : Nat) (P : List Int32) : Prop := ∀ x, x ∈ P → t ≤ rkI x
theorem topB.up {t u : Nat} {W : List Int32} (h : topB t W) (hu : t ≤ u) : topB u W := fun x hx => Nat.lt_of_lt_of_le (h x hx) hu
theorem topB.cons {t : Nat} {x : Int32} {W : List Int32} (h : rkI x < t) : topB t (x :: W) := fun y hy => by
  have : x = y := Option.some.inj hy
  rw [← this]
  exact h
theorem rnkP.nil (t : Nat) : rnkP t [] := fun _ h => absurd h List.not_mem_nil
theorem rnkP.up {t u : Nat} {P : List Int32} (h : rnkP t P) (hu : u ≤ t) : rnkP u P := fun x hx => Nat.le_trans hu (h x hx)
theorem rnkP.snoc {t : Nat} {P : List Int32} {x : Int32} (h : rnkP t P) (hx : t ≤ rkI x) : rnkP t (P ++ [x]) := fun y hy => by
  rcases List.mem_append.mp hy with q | q
  · exact h y q
  · rw [List.mem_singleton.mp q]
    exact hx
theorem dA_top {r : Nat} {W C : List Int32} (h : topB r W) : dA r W C = (W, C) := by
  cases W with
  | nil => rfl
  | cons x W =>
    unfold dA
    rw [if_neg (Nat.not_le.mpr (h x rfl))]
theorem dA_app {r : Nat} {W : List Int32} (h : topB r W) : ∀ (P C : List Int32), rnkP r P → dA r (P ++ W) C = (W, C ++ P) := by
  intro P
  induction P with
  | nil =>
    intro C _
    rw [List.nil_append, List.append_nil]
    exact dA_top h
  | cons x P ih =>
    intro C hP
    rw [List.cons_append]
    unfold dA
    rw [if_pos (hP x List.mem_cons_self), ih _ (fun y hy => hP y (List.mem_cons_of_mem x hy)), List.append_assoc]
    rfl
theorem opnN_app (P W : List Int32) : opnN (P ++ W) = opnN P + opnN W := by
  induction P with
  | nil => simp [opnN]
  | cons x P ih =>
    rw [List.cons_append]
    show opnN (P ++ W) + (if x = 5 ∨ x = 12 ∨ x = 23 then 1 else 0) = opnN P + (if x = 5 ∨ x = 12 ∨ x = 23 then 1 else 0) + opnN W
    rw [ih]
    omega
theorem nstN_app (P W : List Int32) : nstN (P ++ W) = nstN P + nstN W := by
  induction P with
  | nil => simp [nstN]
  | cons x P ih =>
    rw [List.cons_append]
    show nstN (P ++ W) + (if x = 12 then 1 else 0) = nstN P + (if x = 12 then 1 else 0) + nstN W
    rw [ih]
    omega
/-- what can't follow a thing of a level -/
def stk (L : Nat) (c : Bool) (t : Int32) : Prop := (1 ≤ L → ¬ t = 17) ∧ (2 ≤ L → ¬ t = 15 ∧ ¬ t = 16) ∧ (3 ≤ L → c = true ∨ (¬ t = 18 ∧ ¬ t = 19)) ∧ (5 ≤ L → ¬ t = 4) ∧ (6 ≤ L → ¬ t = 3)
theorem stk.off {c : Bool} {t : Int32} (h : stk 6 c t) : ¬ (opB t = true ∧ ¬ (rkI t = 4 ∧ c = true)) := by
  obtain ⟨h1, h2, h3, h4, h5⟩ := h
  have h1 := h1 (by omega)
  have h2 := h2 (by omega)
  have h3 := h3 (by omega)
  have h4 := h4 (by omega)
  have h5 := h5 (by omega)
  rintro ⟨q, q2⟩
  have q : t = 3 ∨ t = 4 ∨ t = 15 ∨ t = 16 ∨ t = 17 ∨ t = 18 ∨ t = 19 := by
    simpa [opB] using q
  rcases q with e | e | e | e | e | e | e
  · exact h5 e
  · exact h4 e
  · exact h2.1 e
  · exact h2.2 e
  · exact h1 e
  · rcases h3 with z | z
    · exact q2 ⟨by rw [e]; decide, z⟩
    · exact z.1 e
  · rcases h3 with z | z
    · exact q2 ⟨by rw [e]; decide, z⟩
    · exact z.2 e
def thr (L : Nat) : Nat := if L = 4 then 4 else 7 - L
abbrev RD1 := (Bool × Nat) × List Int32
def C0 (tk nv : Nat → Int32) (F : Nat) : Prop := ∀ (i : Nat) (W C : List Int32) (c : Bool) (cs : List Bool) (m : Bool) (o : Nat) (r : RD1), opnN W = o → o ≤ 5 → (m = true → ¬ tk i = 5) → rd tk nv F 0 o (true, i) = some r → (r.1.1 = false → EN tk nv i W C (c :: cs) true m (false, r.1.2, [])) ∧ (r.1.1 = true → ∀ R, (∀ m', EN tk nv r.1.2 (dA 7 W (C ++ r.2)).1 (dA 7 W (C ++ r.2)).2 (c :: cs) false m' R) → EN tk nv i W C (c :: cs) true m R)
def CA (tk nv : Nat → Int32) (F L : Nat) : Prop := ∀ (i : Nat) (W C : List Int32) (c : Bool) (cs : List Bool) (m : Bool) (o : Nat) (r : RD1), opnN W = o → o ≤ 5 → topB (thr L) W → (L ≤ 3 → m = true → ¬ tk i = 5) → (4 ≤ L → m = true) → (3 ≤ L → c = false) → rd tk nv F L o (true, i) = some r → (r.1.1 = false → EN tk nv i W C (c :: cs) true m (false, r.1.2, [])) ∧ (r.1.1 = true → ∀ R, (∀ (P C' : List Int32) (c' m' : Bool), rnkP (7 - L) P → C' ++ P = C ++ r.2 → stk L c' (tk r.1.2) → (L ≤ 2 → c' = c) → EN tk nv r.1.2 (P ++ W) C' (c' :: cs) false m' R) → EN tk nv i W C (c :: cs) true m R)
def CB (tk nv : Nat → Int32) (F L lp : Nat) : Prop := ∀ (i : Nat) (P W C : List Int32) (c : Bool) (cs : List Bool) (m : Bool) (o : Nat) (r : RD1), opnN W = o → o ≤ 5 → topB (thr L) W → rnkP (7 - L) P → stk (L - 1) c (tk i) → rd tk nv F lp o (true, i) = some r → (r.1.1 = false → EN tk nv i (P ++ W) C (c :: cs) false m (false, r.1.2, [])) ∧ (r.1.1 = true → ∀ R, (∀ (P' C' : List Int32) (c' m' : Bool), rnkP (7 - L) P' → C' ++ P' = C ++ (P ++ r.2) → stk L c' (tk r.1.2) → (L ≤ 2 → c' = c) → EN tk nv r.1.2 (P' ++ W) C' (c' :: cs) false m' R) → EN tk nv i (P ++ W) C (c :: cs) false m R)
theorem rd_dead {tk nv : Nat → Int32} : ∀ (F L o q : Nat) (r : RD1), rd tk nv F L o (false, q) = some r → r.1 = (false, q) := by
  intro F
  induction F with
  | zero =>
    intro L o q r h
    rw [rd] at h
    cases h
  | succ F ih =>
    intro L o q r
    have seq : ∀ A B, rdSeq (rd tk nv F) A B o (false, q) = some r → r.1 = (false, q) := by
      intro A B h
      obtain ⟨r1, r2, h1, h2, rfl⟩ := rdSeq_some h
      rw [ih _ _ _ _ h1] at h2
      show r2.1 = (false, q)
      exact ih _ _ _ _ h2
    have loop : ∀ ops A B, ops 22 = false → rdLoop tk ops (rd tk nv F) A B o (false, q) = some r → r.1 = (false, q) := by
      intro ops A B ho h
      rcases rdLoop_some h with ⟨-, rfl⟩ | ⟨c, -⟩
      · rfl
      · rw [tkS_f, ho] at c
        cases c
    refine rd_lvl (P := fun x => x = some r → r.1 = (false, q)) ?_ (fun _ => seq _ _) (fun _ => seq _ _) ?_ ?_ (fun _ => seq _ _) (fun _ => seq _ _) (fun _ => loop _ _ _ rfl) (fun _ => loop _ _ _ rfl) (fun _ => loop _ _ _ rfl) (fun _ => loop _ _ _ rfl)
    · intro _ h
      rcases rdOne_some h with ⟨e, -⟩ | ⟨-, e, -⟩ | ⟨rfl, -⟩ | ⟨e, -⟩ | ⟨e, -⟩
      · rw [tkS_f] at e; exact absurd e (by decide)
      · rw [tkS_f] at e; exact absurd e (by decide)
      · rfl
      · rw [tkS_f] at e; exact absurd e (by decide)
      · rw [tkS_f] at e; exact absurd e (by decide)
    · intro _ h
      obtain ⟨r1, h1, ⟨e, -⟩ | ⟨-, rfl⟩⟩ := rdComp_some h
      · rw [ih _ _ _ _ h1, tkS_f] at e
        exact absurd e (by decide)
      · exact ih _ _ _ _ h1
    · intro _ h
      rcases rdNot_some h with ⟨e, -⟩ | ⟨e, -⟩ | ⟨-, h1⟩
      · rw [tkS_f] at e; exact absurd e (by decide)
      · rw [tkS_f] at e; exact absurd e (by decide)
      · exact ih _ _ _ _ h1
/-! one thing -/
theorem c0_step {tk nv : Nat → Int32} {F : Nat} (h0 : C0 tk nv F) (h6 : CA tk nv F 6) : C0 tk nv (F + 1) := by
  intro i W C c cs m o r ho ho5 hm hr
  rw [rd_0] at hr
  have ts : tkS tk (true, i) = tk i := tkS_t
  rcases rdOne_some hr with ⟨e, rfl⟩ | ⟨e0, e, rfl⟩ | ⟨rfl, e0, e1, e2⟩ | ⟨e, e5, r1, h1, rfl⟩ | ⟨e, e5, r1, h1, rfl⟩
  · rw [ts] at e
    exact ⟨fun q => absurd q (by simp), fun _ R k => EN.num e (k m)⟩
  · rw [ts] at e0 e
    refine ⟨fun q => absurd q (by simp), fun _ R k => EN.name e0 e ?_⟩
    have := k m
    rw [ts] at this
    exact this
  · rw [ts] at e0 e1 e2
    refine ⟨fun _ => EN.bad e0 e1 ?_, fun q => absurd q (by simp)⟩
    rcases e2 with q | ⟨q1, q2⟩
    · exact Or.inl (by omega)
    · exact Or.inr ⟨q2, q1, fun q => hm q.1 q.2⟩
  · rw [ts] at e
    have ow : opnN (23 :: W) = o + 1 := by
      show opnN W + 1 = o + 1
      rw [ho]
    obtain ⟨d, a⟩ := h0 (i + 1) (23 :: W) C c cs false (o + 1) r1 ow (by omega) (fun q => absurd q (by decide)) h1
    refine ⟨fun q => EN.mns (by omega) e (d q), fun q R k => EN.mns (by omega) e (a q R (fun m' => ?_))⟩
    have e7 : dA 7 (23 :: W) (C ++ r1.2) = dA 7 W (C ++ (r1.2 ++ [23])) := by
      rw [← List.append_assoc]
      rfl
    rw [e7]
    exact k m'
  · rw [ts] at e
    have ow : opnN (12 :: W) = o + 1 := by
      show opnN W + 1 = o + 1
      rw [ho]
    obtain ⟨d, a⟩ := h6 (i + 1) (12 :: W) C false (c :: cs) true (o + 1) r1 ow (by omega) (topB.cons (by decide)) (fun q => absurd q (by omega)) (fun _ => rfl) (fun _ => rfl) h1
    have nn : ∀ P : List Int32, ¬ nstN (P ++ 12 :: W) = 0 := fun P => by
      rw [nstN_app]
      show ¬ nstN P + (nstN W + 1) = 0
      omega
    cases hb : r1.1.1 with
    | false =>
      have ex : exS tk r1.1 13 = (false, r1.1.2) := by
        have : r1.1 = (false, r1.1.2) := by rw [← hb]
        rw [this]
        unfold exS
        rw [tkS_f, if_neg (by decide)]
      refine ⟨fun _ => EN.opn (by omega) e ?_, fun q => ?_⟩
      · show EN tk nv (i + 1) (12 :: W) C (false :: c :: cs) true true (false, (exS tk r1.1 13).2, [])
        rw [ex]
        exact d hb
      · have q : (exS tk r1.1 13).1 = true := q
        rw [ex] at q
        exact absurd q (by simp)
    | true =>
      have er : r1.1 = (true, r1.1.2) := by rw [← hb]
      by_cases c13 : tk r1.1.2 = 13
      · have ex : exS tk r1.1 13 = (true, r1.1.2 + 1) := by
          rw [er]
          unfold exS
          rw [tkS_t, if_pos c13]
        refine ⟨fun q => ?_, fun _ R k => EN.opn (by omega) e (a hb R (fun P C' c' m' hP hC hs _ => ?_))⟩
        · have q : (exS tk r1.1 13).1 = false := q
          rw [ex] at q
          exact absurd q (by simp)
        · refine EN.cls c13 (nn P) ?_
          have hd : dA 1 (P ++ 12 :: W) C' = (12 :: W, C' ++ P) := dA_app (topB.cons (by decide)) P C' hP
          rw [hd, hC]
          have := k m'
          have e2 : (exS tk r1.1 13).2 = r1.1.2 + 1 := by rw [ex]
          rw [e2] at this
          exact this
      · have ex : exS tk r1.1 13 = (false, r1.1.2) := by
          rw [er]
          unfold exS
          rw [tkS_t, if_neg c13]
        refine ⟨fun _ => EN.opn (by omega) e (a hb _ (fun P C' c' m' hP hC hs _ => ?_)), fun q => ?_⟩
        · have e2 : (exS tk r1.1 13).2 = r1.1.2 := by rw [ex]
          show EN tk nv r1.1.2 (P ++ 12 :: W) C' (c' :: c :: cs) false m' (false, (exS tk r1.1 13).2, [])
          rw [e2]
          exact EN.off (fun q => nn P q.2) hs.off (fun q => c13 q.1)
        · have q : (exS tk r1.1 13).1 = true := q
          rw [ex] at q
          exact absurd q (by simp)
/-! things in a row -/
theorem opB_c {t : Int32} (h : opB t = true) : t = 3 ∨ t = 4 ∨ t = 15 ∨ t = 16 ∨ t = 17 ∨ t = 18 ∨ t = 19 := by simpa [opB] using h
theorem opn_op {t : Int32} (h : opB t = true) (W : List Int32) : opnN (t :: W) = opnN W := by
  show opnN W + (if t = 5 ∨ t = 12 ∨ t = 23 then 1 else 0) = opnN W
  rw [if_neg]
  · rfl
  · rcases opB_c h with e | e | e | e | e | e | e <;> rw [e] <;> decide
theorem stk0 (c : Bool) (t : Int32) : stk 0 c t := ⟨fun q => absurd q (by omega), fun q => absurd q (by omega), fun q => absurd q (by omega), fun q => absurd q (by omega), fun q => absurd q (by omega)⟩
theorem seq_step {tk nv : Nat → Int32} {F L lp : Nat} (hL : L = 2 ∨ L = 5 ∨ L = 6) (hA : CA tk nv F (L - 1)) (hB : CB tk nv F L lp) {i : Nat} {W C : List Int32} {c : Bool} {cs : List Bool} {m : Bool} {o : Nat} {r : RD1} (ho : opnN W = o) (ho5 : o ≤ 5) (hW : topB (thr L) W) (h1 : L ≤ 3 → m = true → ¬ tk i = 5) (h2 : 4 ≤ L → m = true) (h3 : 3 ≤ L → c = false) (hr : rdSeq (rd tk nv F) (L - 1) lp o (true, i) = some r) : (r.1.1 = false → EN tk nv i W C (c :: cs) true m (false, r.1.2, [])) ∧ (r.1.1 = true → ∀ R, (∀ (P C' : List Int32) (c' m' : Bool), rnkP (7 - L) P → C' ++ P = C ++ r.2 → stk L c' (tk r.1.2) → (L ≤ 2 → c' = c) → EN tk nv r.1.2 (P ++ W) C' (c' :: cs) false m' R) → EN tk nv i W C (c :: cs) true m R) := by
  obtain ⟨r1, r2, e1, e2, rfl⟩ := rdSeq_some hr
  have hth : thr L ≤ thr (L - 1) := by rcases hL with rfl | rfl | rfl <;> decide
  obtain ⟨d, a⟩ := hA i W C c cs m o r1 ho ho5 (hW.up hth) (fun q => h1 (by omega)) (fun q => h2 (by omega)) (fun q => h3 (by omega)) e1
  cases hb : r1.1.1 with
  | false =>
    have er : r1.1 = (false, r1.1.2) := by rw [← hb]
    rw [er] at e2
    have e3 := rd_dead _ _ _ _ _ e2
    refine ⟨fun _ => ?_, fun q => ?_⟩
    · show EN tk nv i W C (c :: cs) true m (false, r2.1.2, [])
      rw [e3]
      exact d hb
    · have q : r2.1.1 = true := q
      rw [e3] at q
      exact absurd q (by simp)
  | true =>
    have er : r1.1 = (true, r1.1.2) := by rw [← hb]
    rw [er] at e2
    refine ⟨fun q => a hb _ (fun P C' c' m' hP hC hs hc => ?_), fun q R k => a hb R (fun P C' c' m' hP hC hs hc => ?_)⟩
    · exact (hB r1.1.2 P W C' c' cs m' o r2 ho ho5 hW (hP.up (by omega)) hs e2).1 q
    · refine (hB r1.1.2 P W C' c' cs m' o r2 ho ho5 hW (hP.up (by omega)) hs e2).2 q R (fun P2 C2 c2 m2 hP2 hC2 hs2 hc2 => k P2 C2 c2 m2 hP2 ?_ hs2 (fun q => (hc2 q).trans (hc (by omega))))
      rw [hC2, ← List.append_assoc, hC, List.append_assoc]
theorem seq_step1 {tk nv : Nat → Int32} {F : Nat} (h0 : C0 tk nv F) (hB : CB tk nv F 1 11) {i : Nat} {W C : List Int32} {c : Bool} {cs : List Bool} {m : Bool} {o : Nat} {r : RD1} (ho : opnN W = o) (ho5 : o ≤ 5) (hW : topB (thr 1) W) (h1 : m = true → ¬ tk i = 5) (hr : rdSeq (rd tk nv F) 0 11 o (true, i) = some r) : (r.1.1 = false → EN tk nv i W C (c :: cs) true m (false, r.1.2, [])) ∧ (r.1.1 = true → ∀ R, (∀ (P C' : List Int32) (c' m' : Bool), rnkP (7 - 1) P → C' ++ P = C ++ r.2 → stk 1 c' (tk r.1.2) → (1 ≤ 2 → c' = c) → EN tk nv r.1.2 (P ++ W) C' (c' :: cs) false m' R) → EN tk nv i W C (c :: cs) true m R) := by
  obtain ⟨r1, r2, e1, e2, rfl⟩ := rdSeq_some hr
  obtain ⟨d, a⟩ := h0 i W C c cs m o r1 ho ho5 h1 e1
  have h7 : topB 7 W := hW.up (by decide)
  cases hb : r1.1.1 with
  | false =>
    have er : r1.1 = (false, r1.1.2) := by rw [← hb]
    rw [er] at e2
    have e3 := rd_dead _ _ _ _ _ e2
    refine ⟨fun _ => ?_, fun q => ?_⟩
    · show EN tk nv i W C (c :: cs) true m (false, r2.1.2, [])
      rw [e3]
      exact d hb
    · have q : r2.1.1 = true := q
      rw [e3] at q
      exact absurd q (by simp)
  | true =>
    have er : r1.1 = (true, r1.1.2) := by rw [← hb]
    rw [er] at e2
    have hB' := fun m' => hB r1.1.2 [] W (C ++ r1.2) c cs m' o r2 ho ho5 hW (rnkP.nil _) (stk0 _ _) e2
    refine ⟨fun q => a hb _ (fun m' => ?_), fun q R k => a hb R (fun m' => ?_)⟩
    · rw [dA_top h7]
      exact (hB' m').1 q
    · rw [dA_top h7]
      refine (hB' m').2 q R (fun P2 C2 c2 m2 hP2 hC2 hs2 hc2 => k P2 C2 c2 m2 hP2 ?_ hs2 hc2)
      rw [hC2, List.nil_append, List.append_assoc]
/-- an operator between, and what is behind it -/
theorem op_go {tk nv : Nat → Int32} {i k : Nat} {P W C : List Int32} {c m : Bool} {cs : List Bool} {R : Bool × Nat × List Int32} (hP : rnkP k P) (hW : topB k W) (ht : opB (tk i) = true) (hr : rkI (tk i) = k) (hc : k = 4 → c = false) (h : EN tk nv (i + 1) (tk i :: W) (C ++ P) (nextC k c :: cs) true (decide (tk i = 4) || decide (tk i = 3)) R) : EN tk nv i (P ++ W) C (c :: cs) false m R := by
  refine EN.op ht (fun q => ?_) ?_
  · have := hc (hr.symm.trans q.1)
    rw [this] at q
    exact absurd q.2 (by simp)
  · rw [hr, dA_app hW P C hP]
    exact h
theorem loop_step {tk nv : Nat → Int32} {F L lp : Nat} {ops : Int32 → Bool} (hL : L = 2 ∨ L = 5 ∨ L = 6) (hops : ∀ t, ops t = true → opB t = true ∧ rkI t = 7 - L ∧ (L ≤ 3 → (decide (t = 4) || decide (t = 3)) = false) ∧ (4 ≤ L → (decide (t = 4) || decide (t = 3)) = true)) (hno : ∀ c t, ops t = false → stk (L - 1) c t → stk L c t) (hA : CA tk nv F (L - 1)) (hB : CB tk nv F L lp) {i : Nat} {P W C : List Int32} {c : Bool} {cs : List Bool} {m : Bool} {o : Nat} {r : RD1} (ho : opnN W = o) (ho5 : o ≤ 5) (hW : topB (thr L) W) (hP : rnkP (7 - L) P) (hs : stk (L - 1) c (tk i)) (hr : rdLoop tk ops (rd tk nv F) (L - 1) lp o (true, i) = some r) : (r.1.1 = false → EN tk nv i (P ++ W) C (c :: cs) false m (false, r.1.2, [])) ∧ (r.1.1 = true → ∀ R, (∀ (P' C' : List Int32) (c' m' : Bool), rnkP (7 - L) P' → C' ++ P' = C ++ (P ++ r.2) → stk L c' (tk r.1.2) → (L ≤ 2 → c' = c) → EN tk nv r.1.2 (P' ++ W) C' (c' :: cs) false m' R) → EN tk nv i (P ++ W) C (c :: cs) false m R) := by
  rcases rdLoop_some hr with ⟨e, rfl⟩ | ⟨e, r1, r2, e1, e2, rfl⟩
  · rw [tkS_t] at e
    refine ⟨fun q => absurd q (by simp), fun _ R k => k P C c m hP ?_ (hno c _ e hs) (fun _ => rfl)⟩
    rw [List.append_nil]
  · rw [tkS_t] at e
    obtain ⟨t1, t2, t3, t4⟩ := hops _ e
    have hthL : thr L = 7 - L := by rcases hL with rfl | rfl | rfl <;> decide
    rw [hthL] at hW
    have hk4 : 7 - L = 4 → c = false := fun q => absurd q (by omega)
    have hth : rkI (tk i) < thr (L - 1) := by rw [t2]; rcases hL with rfl | rfl | rfl <;> decide
    have hnc : 3 ≤ L - 1 → nextC (7 - L) c = false := fun q => by
      have : ¬ 7 - L = 4 ∧ ¬ 4 < 7 - L := by omega
      unfold nextC
      rw [decide_eq_false this.1, decide_eq_false this.2]
      rfl
    have hnc2 : L ≤ 2 → nextC (7 - L) c = c := fun q => by
      have : ¬ 7 - L = 4 ∧ 4 < 7 - L := by omega
      unfold nextC
      rw [decide_eq_false this.1, decide_eq_true this.2]
      simp
    obtain ⟨d, a⟩ := hA (i + 1) (tk i :: W) (C ++ P) (nextC (7 - L) c) cs (decide (tk i = 4) || decide (tk i = 3)) o r1 ((opn_op t1 W).trans ho) ho5 (topB.cons hth) (fun q z => by rw [t3 (by omega)] at z; exact absurd z (by simp)) (fun q => t4 (by omega)) hnc e1
    have sn : ∀ {P1 : List Int32}, rnkP (7 - (L - 1)) P1 → rnkP (7 - L) (P1 ++ [tk i]) := fun h => (h.up (by omega)).snoc (by rw [t2]; exact Nat.le_refl _)
    have eapp : ∀ P1 : List Int32, P1 ++ tk i :: W = (P1 ++ [tk i]) ++ W := fun P1 => by rw [List.append_assoc]; rfl
    cases hb : r1.1.1 with
    | false =>
      have er : r1.1 = (false, r1.1.2) := by rw [← hb]
      rw [er] at e2
      have e3 := rd_dead _ _ _ _ _ e2
      refine ⟨fun _ => ?_, fun q => ?_⟩
      · show EN tk nv i (P ++ W) C (c :: cs) false m (false, r2.1.2, [])
        rw [e3]
        exact op_go hP hW t1 t2 hk4 (d hb)
      · have q : r2.1.1 = true := q
        rw [e3] at q
        exact absurd q (by simp)
    | true =>
      have er : r1.1 = (true, r1.1.2) := by rw [← hb]
      rw [er] at e2
      refine ⟨fun q => op_go hP hW t1 t2 hk4 (a hb _ (fun P1 C' c' m' hP1 hC hs1 hc => ?_)), fun q R k => op_go hP hW t1 t2 hk4 (a hb R (fun P1 C' c' m' hP1 hC hs1 hc => ?_))⟩
      · rw [eapp]
        exact (hB r1.1.2 (P1 ++ [tk i]) W C' c' cs m' o r2 ho ho5 (by rw [hthL]; exact hW) (sn hP1) hs1 e2).1 q
      · rw [eapp]
        refine (hB r1.1.2 (P1 ++ [tk i]) W C' c' cs m' o r2 ho ho5 (by rw [hthL]; exact hW) (sn hP1) hs1 e2).2 q R (fun P2 C2 c2 m2 hP2 hC2 hs2 hc2 => k P2 C2 c2 m2 hP2 ?_ hs2 (fun q => (hc2 q).trans ((hc (by omega)).trans (hnc2 q))))
        show C2 ++ P2 = C ++ (P ++ (r1.2 ++ (tkS tk (true, i) :: r2.2)))
        rw [hC2, tkS_t, List.append_assoc P1, ← List.append_assoc C', hC]
        simp only [List.append_assoc]
        rfl
theorem loop_step1 {tk nv : Nat → Int32} {F : Nat} (h0 : C0 tk nv F) (hB : CB tk nv F 1 11) {i : Nat} {P W C : List Int32} {c : Bool} {cs : List Bool} {m : Bool} {o : Nat} {r : RD1} (ho : opnN W = o) (ho5 : o ≤ 5) (hW : topB (thr 1) W) (hP : rnkP (7 - 1) P) (hr : rdLoop tk op17 (rd tk nv F) 0 11 o (true, i) = some r) : (r.1.1 = false → EN tk nv i (P ++ W) C (c :: cs) false m (false, r.1.2, [])) ∧ (r.1.1 = true → ∀ R, (∀ (P' C' : List Int32) (c' m' : Bool), rnkP (7 - 1) P' → C' ++ P' = C ++ (P ++ r.2) → stk 1 c' (tk r.1.2) → (1 ≤ 2 → c' = c) → EN tk nv r.1.2 (P' ++ W) C' (c' :: cs) false m' R) → EN tk nv i (P ++ W) C (c :: cs) false m R) := by
  rcases rdLoop_some hr with ⟨e, rfl⟩ | ⟨e, r1, r2, e1, e2, rfl⟩
  · rw [tkS_t] at e
    have e : ¬ tk i = 17 := by simpa [op17] using e
    refine ⟨fun q => absurd q (by simp), fun _ R k => k P C c m hP ?_ ⟨fun _ => e, fun q => absurd q (by omega), fun q => absurd q (by omega), fun q => absurd q (by omega), fun q => absurd q (by omega)⟩ (fun _ => rfl)⟩
    rw [List.append_nil]
  · rw [tkS_t] at e
    have e : tk i = 17 := by simpa [op17] using e
    have t1 : opB (tk i) = true := by rw [e]; decide
    have t2 : rkI (tk i) = 6 := by rw [e]; decide
    have hm : (decide (tk i = 4) || decide (tk i = 3)) = false := by rw [e]; decide
    have hnc : nextC 6 c = c := by unfold nextC; simp
    have h7 : topB 7 (tk i :: W) := topB.cons (by rw [t2]; decide)
    obtain ⟨d, a⟩ := h0 (i + 1) (tk i :: W) (C ++ P) c cs false o r1 ((opn_op t1 W).trans ho) ho5 (fun z => absurd z (by simp)) e1
    have go : ∀ {R}, EN tk nv (i + 1) (tk i :: W) (C ++ P) (c :: cs) true false R → EN tk nv i (P ++ W) C (c :: cs) false m R := fun h => op_go hP hW t1 t2 (fun q => absurd q (by omega)) (by rw [hnc, hm]; exact h)
    cases hb : r1.1.1 with
    | false =>
      have er : r1.1 = (false, r1.1.2) := by rw [← hb]
      rw [er] at e2
      have e3 := rd_dead _ _ _ _ _ e2
      refine ⟨fun _ => ?_, fun q => ?_⟩
      · show EN tk nv i (P ++ W) C (c :: cs) false m (false, r2.1.2, [])
        rw [e3]
        exact go (d hb)
      · have q : r2.1.1 = true := q
        rw [e3] at q
        exact absurd q (by simp)
    | true =>
      have er : r1.1 = (true, r1.1.2) := by rw [← hb]
      rw [er] at e2
      have hB' := fun m' => hB r1.1.2 [tk i] W (C ++ P ++ r1.2) c cs m' o r2 ho ho5 hW ((rnkP.nil _).snoc (by rw [t2]; exact Nat.le_refl _)) (stk0 _ _) e2
      refine ⟨fun q => go (a hb _ (fun m' => ?_)), fun q R k => go (a hb R (fun m' => ?_))⟩
      · rw [dA_top h7]
        exact (hB' m').1 q
      · rw [dA_top h7]
        refine (hB' m').2 q R (fun P2 C2 c2 m2 hP2 hC2 hs2 hc2 => k P2 C2 c2 m2 hP2 ?_ hs2 hc2)
        show C2 ++ P2 = C ++ (P ++ (r1.2 ++ (tkS tk (true, i) :: r2.2)))
        rw [hC2, tkS_t]
        simp only [List.append_assoc]
        rfl
/-! comparisons and not -/
theorem comp_step {tk nv : Nat → Int32} {F : Nat} (hA : CA tk nv F 2) {i : Nat} {W C : List Int32} {cs : List Bool} {m : Bool} {o : Nat} {r : RD1} (ho : opnN W = o) (ho5 : o ≤ 5) (hW : topB 4 W) (h1 : m = true → ¬ tk i = 5) (hr : rdComp tk (rd tk nv F) o (true, i) = some r) : (r.1.1 = false → EN tk nv i W C (false :: cs) true m (false, r.1.2, [])) ∧ (r.1.1 = true → ∀ R, (∀ (P C' : List Int32) (c' m' : Bool), rnkP 4 P → C' ++ P = C ++ r.2 → stk 3 c' (tk r.1.2) → EN tk nv r.1.2 (P ++ W) C' (c' :: cs) false m' R) → EN tk nv i W C (false :: cs) true m R) := by
  obtain ⟨r1, e1, h⟩ := rdComp_some hr
  obtain ⟨d, a⟩ := hA i W C false cs m o r1 ho ho5 (hW.up (by decide)) (fun _ => h1) (fun q => absurd q (by omega)) (fun _ => rfl) e1
  cases hb : r1.1.1 with
  | false =>
    have er : r1.1 = (false, r1.1.2) := by rw [← hb]
    rcases h with ⟨e, -⟩ | ⟨-, rfl⟩
    · rw [er, tkS_f] at e
      exact absurd e (by decide)
    · exact ⟨fun _ => d hb, fun q => by rw [hb] at q; exact absurd q (by simp)⟩
  | true =>
    have er : r1.1 = (true, r1.1.2) := by rw [← hb]
    have ets : tkS tk r1.1 = tk r1.1.2 := by rw [er]; exact tkS_t
    rw [ets] at h
    rcases h with ⟨e, q1, e2, rfl⟩ | ⟨e, rfl⟩
    · rw [hb] at e2
      have t1 : opB (tk r1.1.2) = true := by rcases e with e | e <;> rw [e] <;> decide
      have t2 : rkI (tk r1.1.2) = 4 := by rcases e with e | e <;> rw [e] <;> decide
      have hm : (decide (tk r1.1.2 = 4) || decide (tk r1.1.2 = 3)) = false := by rcases e with e | e <;> rw [e] <;> decide
      obtain ⟨d2, a2⟩ := hA (r1.1.2 + 1) (tk r1.1.2 :: W) (C ++ r1.2) true cs false o q1 ((opn_op t1 W).trans ho) ho5 (topB.cons (by rw [t2]; decide)) (fun _ z => absurd z (by simp)) (fun q => absurd q (by omega)) (fun q => absurd q (by omega)) e2
      have go : ∀ {R}, EN tk nv (r1.1.2 + 1) (tk r1.1.2 :: W) (C ++ r1.2) (true :: cs) true false R → EN tk nv i W C (false :: cs) true m R := fun {R} h => a hb R (fun P C' c' m' hP hC hs hc => by
        refine op_go (hP.up (by omega)) hW t1 t2 (fun _ => hc (by omega)) ?_
        rw [hC, hm]
        exact h)
      refine ⟨fun q => go (d2 q), fun q R k => go (a2 q R (fun P C' c' m' hP hC hs hc => ?_))⟩
      have hc := hc (by omega)
      subst hc
      have := k (P ++ [tk r1.1.2]) C' true m' ((hP.up (by omega)).snoc (by rw [t2]; exact Nat.le_refl _)) (by
        show C' ++ (P ++ [tk r1.1.2]) = C ++ (r1.2 ++ (q1.2 ++ [tk r1.1.2]))
        rw [← List.append_assoc, hC]
        simp only [List.append_assoc]) ⟨fun _ => hs.1 (by omega), fun _ => hs.2.1 (by omega), fun _ => Or.inl rfl, fun q => absurd q (by omega), fun q => absurd q (by omega)⟩
      rw [List.append_assoc] at this
      exact this
    · refine ⟨fun q => by rw [hb] at q; exact absurd q (by simp), fun _ R k => a hb R (fun P C' c' m' hP hC hs hc => k P C' c' m' (hP.up (by omega)) hC ⟨fun _ => hs.1 (by omega), fun _ => hs.2.1 (by omega), fun _ => Or.inr ⟨fun z => e (Or.inl z), fun z => e (Or.inr z)⟩, fun q => absurd q (by omega), fun q => absurd q (by omega)⟩)⟩
theorem stk34 {c : Bool} {t : Int32} (h : stk 3 c t) : stk 4 c t := ⟨fun _ => h.1 (by omega), fun _ => h.2.1 (by omega), fun _ => h.2.2.1 (by omega), fun q => absurd q (by omega), fun q => absurd q (by omega)⟩
theorem not_step {tk nv : Nat → Int32} {F : Nat} (h3 : CA tk nv F 3) (h4 : CA tk nv F 4) {i : Nat} {W C : List Int32} {cs : List Bool} {o : Nat} {r : RD1} (ho : opnN W = o) (ho5 : o ≤ 5) (hW : topB 4 W) (hr : rdNot tk (rd tk nv F) o (true, i) = some r) : (r.1.1 = false → EN tk nv i W C (false :: cs) true true (false, r.1.2, [])) ∧ (r.1.1 = true → ∀ R, (∀ (P C' : List Int32) (c' m' : Bool), rnkP 3 P → C' ++ P = C ++ r.2 → stk 4 c' (tk r.1.2) → EN tk nv r.1.2 (P ++ W) C' (c' :: cs) false m' R) → EN tk nv i W C (false :: cs) true true R) := by
  rcases rdNot_some hr with ⟨e, o5, r1, e1, rfl⟩ | ⟨e, o5, rfl⟩ | ⟨e, e1⟩
  · rw [tkS_t] at e
    have ow : opnN (5 :: W) = o + 1 := by
      show opnN W + 1 = o + 1
      rw [ho]
    obtain ⟨d, a⟩ := h4 (i + 1) (5 :: W) C false cs true (o + 1) r1 ow (by omega) (topB.cons (by decide)) (fun q => absurd q (by omega)) (fun _ => rfl) (fun _ => rfl) e1
    refine ⟨fun q => EN.nt (by omega) e rfl (d q), fun q R k => EN.nt (by omega) e rfl (a q R (fun P C' c' m' hP hC hs hc => ?_))⟩
    have := k (P ++ [5]) C' c' m' (rnkP.snoc hP (by decide)) (by
      show C' ++ (P ++ [5]) = C ++ (r1.2 ++ [5])
      rw [← List.append_assoc, hC, List.append_assoc]) hs
    rw [List.append_assoc] at this
    exact this
  · rw [tkS_t] at e
    exact ⟨fun _ => EN.bad (by rw [e]; decide) (by rw [e]; decide) (Or.inl (by omega)), fun q => absurd q (by simp)⟩
  · rw [tkS_t] at e
    obtain ⟨d, a⟩ := h3 i W C false cs true o r ho ho5 hW (fun _ _ => e) (fun q => absurd q (by omega)) (fun _ => rfl) e1
    exact ⟨d, fun q R k => a q R (fun P C' c' m' hP hC hs hc => k P C' c' m' (hP.up (by omega)) hC (stk34 hs))⟩
/-! all of it -/
theorem sy_rd (tk nv : Nat → Int32) : ∀ F, C0 tk nv F ∧ (∀ L, 1 ≤ L → L ≤ 6 → CA tk nv F L) ∧ CB tk nv F 1 11 ∧ CB tk nv F 2 12 ∧ CB tk nv F 5 15 ∧ CB tk nv F 6 16 := by
  intro F
  induction F with
  | zero =>
    refine ⟨?_, ?_, ?_, ?_, ?_, ?_⟩
    · intro i W C c cs m o r _ _ _ h
      rw [rd] at h
      cases h
    · intro L _ _ i W C c cs m o r _ _ _ _ _ _ h
      rw [rd] at h
      cases h
    all_goals
      intro i P W C c cs m o r _ _ _ _ _ h
      rw [rd] at h
      cases h
  | succ F ih =>
    obtain ⟨h0, hA, b1, b2, b5, b6⟩ := ih
    refine ⟨c0_step h0 (hA 6 (by omega) (by omega)), ?_, ?_, ?_, ?_, ?_⟩
    · intro L hL1 hL6
      rcases (show L = 1 ∨ L = 2 ∨ L = 3 ∨ L = 4 ∨ L = 5 ∨ L = 6 by omega) with rfl | rfl | rfl | rfl | rfl | rfl
      · intro i W C c cs m o r ho ho5 hW h1 _ _ hr
        rw [rd_1] at hr
        exact seq_step1 h0 b1 ho ho5 hW (h1 (by omega)) hr
      · intro i W C c cs m o r ho ho5 hW h1 h2 h3 hr
        rw [rd_2] at hr
        exact seq_step (L := 2) (Or.inl rfl) (hA 1 (by omega) (by omega)) b2 ho ho5 hW h1 h2 h3 hr
      · intro i W C c cs m o r ho ho5 hW h1 _ h3 hr
        rw [rd_3] at hr
        obtain rfl := h3 (by omega)
        obtain ⟨d, a⟩ := comp_step (cs := cs) (C := C) (hA 2 (by omega) (by omega)) ho ho5 hW (h1 (by omega)) hr
        exact ⟨d, fun q R k => a q R (fun P C' c' m' hP hC hs => k P C' c' m' hP hC hs (fun q => absurd q (by omega)))⟩
      · intro i W C c cs m o r ho ho5 hW _ h2 h3 hr
        rw [rd_4] at hr
        obtain rfl := h3 (by omega)
        obtain rfl := h2 (by omega)
        obtain ⟨d, a⟩ := not_step (cs := cs) (C := C) (hA 3 (by omega) (by omega)) (hA 4 (by omega) (by omega)) ho ho5 hW hr
        exact ⟨d, fun q R k => a q R (fun P C' c' m' hP hC hs => k P C' c' m' hP hC hs (fun q => absurd q (by omega)))⟩
      · intro i W C c cs m o r ho ho5 hW h1 h2 h3 hr
        rw [rd_5] at hr
        exact seq_step (L := 5) (Or.inr (Or.inl rfl)) (hA 4 (by omega) (by omega)) b5 ho ho5 hW h1 h2 h3 hr
      · intro i W C c cs m o r ho ho5 hW h1 h2 h3 hr
        rw [rd_6] at hr
        exact seq_step (L := 6) (Or.inr (Or.inr rfl)) (hA 5 (by omega) (by omega)) b6 ho ho5 hW h1 h2 h3 hr
    · intro i P W C c cs m o r ho ho5 hW hP _ hr
      rw [rd_11] at hr
      exact loop_step1 h0 b1 ho ho5 hW hP hr
    · intro i P W C c cs m o r ho ho5 hW hP hs hr
      rw [rd_12] at hr
      refine loop_step (L := 2) (ops := op15) (Or.inl rfl) (fun t h => ?_) (fun c t h s => ?_) (hA 1 (by omega) (by omega)) b2 ho ho5 hW hP hs hr
      · have h : t = 15 ∨ t = 16 := by simpa [op15] using h
        rcases h with rfl | rfl
        · exact ⟨by decide, by decide, fun _ => by decide, fun q => absurd q (by omega)⟩
        · exact ⟨by decide, by decide, fun _ => by decide, fun q => absurd q (by omega)⟩
      · have h : ¬ t = 15 ∧ ¬ t = 16 := by simpa [op15] using h
        exact ⟨fun _ => s.1 (by omega), fun _ => h, fun q => absurd q (by omega), fun q => absurd q (by omega), fun q => absurd q (by omega)⟩
    · intro i P W C c cs m o r ho ho5 hW hP hs hr
      rw [rd_15] at hr
      refine loop_step (L := 5) (ops := op4) (Or.inr (Or.inl rfl)) (fun t h => ?_) (fun c t h s => ?_) (hA 4 (by omega) (by omega)) b5 ho ho5 hW hP hs hr
      · have h : t = 4 := by simpa [op4] using h
        subst h
        exact ⟨by decide, by decide, fun q => absurd q (by omega), fun _ => by decide⟩
      · have h : ¬ t = 4 := by simpa [op4] using h
        exact ⟨fun _ => s.1 (by omega), fun _ => s.2.1 (by omega), fun _ => s.2.2.1 (by omega), fun _ => h, fun q => absurd q (by omega)⟩
    · intro i P W C c cs m o r ho ho5 hW hP hs hr
      rw [rd_16] at hr
      refine loop_step (L := 6) (ops := op3) (Or.inr (Or.inr rfl)) (fun t h => ?_) (fun c t h s => ?_) (hA 5 (by omega) (by omega)) b6 ho ho5 hW hP hs hr
      · have h : t = 3 := by simpa [op3] using h
        subst h
        exact ⟨by decide, by decide, fun q => absurd q (by omega), fun _ => by decide⟩
      · have h : ¬ t = 3 := by simpa [op3] using h
        exact ⟨fun _ => s.1 (by omega), fun _ => s.2.1 (by omega), fun _ => s.2.2.1 (by omega), fun _ => s.2.2.2.1 (by omega), fun _ => h⟩
/-- an E behind its word, up to its semicolon -/
theorem sy_part {tk nv : Nat → Int32} {F i : Nat} {r : RD1} (hr : rd tk nv F 6 0 (true, i) = some r) : ∃ C, EN tk nv i [] [] [false] true true ((exS tk r.1 14).1, r.1.2, C) ∧ ((exS tk r.1 14).1 = true → C = r.2) ∧ ((exS tk r.1 14).1 = false → (exS tk r.1 14).2 = r.1.2) := by
  obtain ⟨d, a⟩ := (sy_rd tk nv F).2.1 6 (by omega) (by omega) i [] [] false [] true 0 r rfl (by omega) (fun x hx => by cases hx) (fun q => absurd q (by omega)) (fun _ => rfl) (fun _ => rfl) hr
  cases hb : r.1.1 with
  | false =>
    have er : r.1 = (false, r.1.2) := by rw [← hb]
    have ex : exS tk r.1 14 = (false, r.1.2) := by
      rw [er]
      unfold exS
      rw [tkS_f, if_neg (by decide)]
    rw [ex]
    exact ⟨[], d hb, fun q => absurd q (by simp), fun _ => rfl⟩
  | true =>
    have er : r.1 = (true, r.1.2) := by rw [← hb]
    have nn : ∀ P : List Int32, rnkP 1 P → nstN (P ++ []) = 0 := fun P hP => by
      rw [List.append_nil]
      induction P with
      | nil => rfl
      | cons x P ih =>
        have : ¬ x = 12 := fun e => by
          have := hP x List.mem_cons_self
          rw [e] at this
          exact absurd this (by decide)
        show nstN P + (if x = 12 then 1 else 0) = 0
        rw [if_neg this, ih (fun y hy => hP y (List.mem_cons_of_mem x hy))]
    by_cases c : tk r.1.2 = 14
    · have ex : exS tk r.1 14 = (true, r.1.2 + 1) := by
        rw [er]
        unfold exS
        rw [tkS_t, if_pos c]
      rw [ex]
      refine ⟨r.2, a hb _ (fun P C' c' m' hP hC hs hc => ?_), fun _ => rfl, fun q => absurd q (by simp)⟩
      have hd : dA 1 (P ++ []) C' = ([], C' ++ P) := dA_app (fun x hx => by cases hx) P C' hP
      have := EN.done (tk := tk) (nv := nv) (i := r.1.2) (W := P ++ []) (C := C') (cs := c' :: []) (m := m') c (nn P hP)
      rw [hd, hC] at this
      exact this
    · have ex : exS tk r.1 14 = (false, r.1.2) := by
        rw [er]
        unfold exS
        rw [tkS_t, if_neg c]
      rw [ex]
      refine ⟨[], a hb _ (fun P C' c' m' hP hC hs hc => EN.off (fun q => c q.1) hs.off (fun q => q.2 (nn P hP))), fun q => absurd q (by simp), fun _ => rfl⟩
