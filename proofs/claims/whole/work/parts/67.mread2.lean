/-! ===== what waits, shown in the reference's rows ===== -/
def wK (x : Int32) : Int32 := if x = 12 then 30 else codeK x
def opW (x : Int32) : Prop := x = 12 ∨ x = 5 ∨ x = 23 ∨ opB x = true
theorem op_tab {x : Int32} (h : opW x) : (wK x = 30 ↔ x = 12) ∧ (¬ x = 12 → wK x = codeK x ∧ rkM (codeK x) = nI (rkI x) ∧ rkI x ≤ 7 ∧ 1 ≤ rkI x ∧ ((codeK x = 12 ∨ codeK x = 18) ↔ (x = 5 ∨ x = 12 ∨ x = 23))) := by
  rcases h with rfl | rfl | rfl | h
  · exact ⟨by decide, fun q => absurd rfl q⟩
  · exact ⟨by decide, fun _ => by decide⟩
  · exact ⟨by decide, fun _ => by decide⟩
  · rcases opB_c h with rfl | rfl | rfl | rfl | rfl | rfl | rfl <;> exact ⟨by decide, fun _ => by decide⟩
def MV0 (row : Nat) (W C : List Int32) (o q : Nat) (cs : List Bool) (μ : Mem) : Prop := (μ 82 28 = nI (160 * row) ∧ μ 82 29 = nI C.length ∧ ∀ k, k < C.length → μ 93 (160 * row + k) = codeK (C.getD k 0)) ∧ (μ 82 24 = nI W.length ∧ ∀ k, k < W.length → μ 97 (W.length - 1 - k) = wK (W.getD k 0)) ∧ μ 82 25 = nI o ∧ μ 82 26 = nI q ∧ cs.length = q + 1 ∧ ∀ k, k < cs.length → μ 98 (cs.length - 1 - k) = bi (cs.getD k false)
def fE (row : Nat) (μ ν : Mem) : Prop := ∀ a k, ¬ (a = 82 ∧ ((24 ≤ k ∧ k ≤ 26) ∨ (28 ≤ k ∧ k ≤ 29))) → ¬ (a = 93 ∧ 160 * row ≤ k ∧ k < 160 * row + 160) → ¬ (a = 94 ∧ k = row) → a ≠ 97 → a ≠ 98 → ν a k = μ a k
theorem fE.rf (row : Nat) (μ : Mem) : fE row μ μ := fun _ _ _ _ _ _ _ => rfl
theorem fE.tr {row : Nat} {μ ν ξ : Mem} (h1 : fE row μ ν) (h2 : fE row ν ξ) : fE row μ ξ := fun a k e1 e2 e3 e4 e5 => (h2 a k e1 e2 e3 e4 e5).trans (h1 a k e1 e2 e3 e4 e5)
theorem fE.s82 {row k : Nat} {μ : Mem} {v : Int32} (h : (24 ≤ k ∧ k ≤ 26) ∨ (28 ≤ k ∧ k ≤ 29)) : fE row μ (mset μ 82 k v) := fun a j e1 _ _ _ _ => mset_other (by omega)
theorem fE.s97 {row k : Nat} {μ : Mem} {v : Int32} : fE row μ (mset μ 97 k v) := fun a j _ _ _ e _ => mset_ne e ▸ rfl
theorem fE.s98 {row k : Nat} {μ : Mem} {v : Int32} : fE row μ (mset μ 98 k v) := fun a j _ _ _ _ e => mset_ne e ▸ rfl
theorem getD_snoc {C : List Int32} {x : Int32} {k : Nat} : (k < C.length → (C ++ [x]).getD k 0 = C.getD k 0) ∧ (C ++ [x]).getD C.length 0 = x := by
  refine ⟨fun h => ?_, ?_⟩
  · rw [List.getD_eq_getElem?_getD, List.getD_eq_getElem?_getD, List.getElem?_append_left h]
  · rw [List.getD_eq_getElem?_getD, List.getElem?_append_right (Nat.le_refl _), Nat.sub_self]
    rfl
section MV
variable {row : Nat} {W C : List Int32} {o q : Nat} {cs : List Bool} {μ : Mem}
theorem MV0.emit (h : MV0 row W C o q cs μ) (hr : row < 18) (hc : C.length < 160) (x : Int32) : emP μ ∧ MV0 row W (C ++ [x]) o q cs (emM μ (codeK x)) ∧ fE row μ (emM μ (codeK x)) := by
  obtain ⟨⟨c1, c2, c3⟩, ⟨w1, w2⟩, o1, q1, l1, l2⟩ := h
  have e : (μ 82 28 + μ 82 29) = nI (160 * row + C.length) := by rw [c1, c2, nI_add]
  refine ⟨by unfold emP; rw [e]; exact vp_nI (by omega) (by omega), ?_⟩
  unfold emM
  rw [e, c2, ix_nI (by omega), nI_1]
  refine ⟨⟨⟨?_, ?_, fun k hk => ?_⟩, ⟨?_, fun k hk => ?_⟩, ?_, ?_, l1, fun k hk => ?_⟩, ?_⟩
  · rw [mset_other (by omega), mset_ne (by omega)]; exact c1
  · rw [mset_same, List.length_append]; rfl
  · rw [List.length_append] at hk
    have hk : k < C.length + 1 := hk
    rw [mset_ne (by omega)]
    by_cases c : k = C.length
    · rw [c, mset_same, (getD_snoc (k := 0)).2]
    · rw [mset_other (by omega), getD_snoc.1 (by omega)]
      exact c3 k (by omega)
  · rw [mset_other (by omega), mset_ne (by omega)]; exact w1
  · rw [mset_ne (by omega), mset_ne (by omega)]; exact w2 k hk
  · rw [mset_other (by omega), mset_ne (by omega)]; exact o1
  · rw [mset_other (by omega), mset_ne (by omega)]; exact q1
  · rw [mset_ne (by omega), mset_ne (by omega)]; exact l2 k hk
  · intro a k e1 e2 _ _ _
    rw [mset_other (by omega), mset_other (by omega)]
theorem MV0.awa (h : MV0 row W C o q cs μ) (hW : W.length < 170) (x : Int32) : awP μ ∧ MV0 row (x :: W) C o q cs (awM μ (wK x)) ∧ fE row μ (awM μ (wK x)) := by
  obtain ⟨⟨c1, c2, c3⟩, ⟨w1, w2⟩, o1, q1, l1, l2⟩ := h
  refine ⟨by unfold awP; rw [w1]; exact vp_nI hW (by omega), ?_⟩
  unfold awM
  rw [w1, ix_nI (by omega), nI_1]
  refine ⟨⟨⟨?_, ?_, fun k hk => ?_⟩, ⟨?_, fun k hk => ?_⟩, ?_, ?_, l1, fun k hk => ?_⟩, ?_⟩
  · rw [mset_other (by omega), mset_ne (by omega)]; exact c1
  · rw [mset_other (by omega), mset_ne (by omega)]; exact c2
  · rw [mset_ne (by omega), mset_ne (by omega)]; exact c3 k hk
  · rw [mset_same]; rfl
  · rw [mset_ne (by omega)]
    rw [List.length_cons] at hk ⊢
    cases k with
    | zero =>
      show mset μ 97 W.length (wK x) 97 (W.length + 1 - 1 - 0) = wK x
      rw [show W.length + 1 - 1 - 0 = W.length by omega, mset_same]
    | succ k =>
      rw [mset_other (by omega), show W.length + 1 - 1 - (k + 1) = W.length - 1 - k by omega]
      exact w2 k (by omega)
  · rw [mset_other (by omega), mset_ne (by omega)]; exact o1
  · rw [mset_other (by omega), mset_ne (by omega)]; exact q1
  · rw [mset_ne (by omega), mset_ne (by omega)]; exact l2 k hk
  · exact (fE.s97).tr (fE.s82 (by omega))
theorem MV0.pop {x : Int32} (h : MV0 row (x :: W) C o q cs μ) : MV0 row W C o q cs (mset μ 82 24 (nI W.length)) ∧ μ 97 W.length = wK x ∧ μ 82 24 = nI (W.length + 1) := by
  obtain ⟨⟨c1, c2, c3⟩, ⟨w1, w2⟩, o1, q1, l1, l2⟩ := h
  rw [List.length_cons] at w1 w2
  refine ⟨⟨⟨?_, ?_, fun k hk => ?_⟩, ⟨mset_same, fun k hk => ?_⟩, ?_, ?_, l1, fun k hk => ?_⟩, ?_, w1⟩
  · rw [mset_other (by omega)]; exact c1
  · rw [mset_other (by omega)]; exact c2
  · rw [mset_ne (by omega)]; exact c3 k hk
  · rw [mset_ne (by omega)]
    have := w2 (k + 1) (by omega)
    rw [show W.length + 1 - 1 - (k + 1) = W.length - 1 - k by omega] at this
    exact this
  · rw [mset_other (by omega)]; exact o1
  · rw [mset_other (by omega)]; exact q1
  · rw [mset_ne (by omega)]; exact l2 k hk
  · have := w2 0 (by omega)
    rw [show W.length + 1 - 1 - 0 = W.length by omega] at this
    exact this
theorem MV0.open_ (h : MV0 row W C o q cs μ) (o' : Nat) : MV0 row W C o' q cs (mset μ 82 25 (nI o')) := by
  obtain ⟨⟨c1, c2, c3⟩, ⟨w1, w2⟩, o1, q1, l1, l2⟩ := h
  refine ⟨⟨?_, ?_, fun k hk => ?_⟩, ⟨?_, fun k hk => ?_⟩, mset_same, ?_, l1, fun k hk => ?_⟩
  · rw [mset_other (by omega)]; exact c1
  · rw [mset_other (by omega)]; exact c2
  · rw [mset_ne (by omega)]; exact c3 k hk
  · rw [mset_other (by omega)]; exact w1
  · rw [mset_ne (by omega)]; exact w2 k hk
  · rw [mset_other (by omega)]; exact q1
  · rw [mset_ne (by omega)]; exact l2 k hk
theorem MV0.cmp {c : Bool} (h : MV0 row W C o q (c :: cs) μ) (c' : Bool) : MV0 row W C o q (c' :: cs) (mset μ 98 q (bi c')) := by
  obtain ⟨⟨c1, c2, c3⟩, ⟨w1, w2⟩, o1, q1, l1, l2⟩ := h
  rw [List.length_cons] at l1 l2
  refine ⟨⟨?_, ?_, fun k hk => ?_⟩, ⟨?_, fun k hk => ?_⟩, ?_, ?_, by rw [List.length_cons]; exact l1, fun k hk => ?_⟩
  · rw [mset_ne (by omega)]; exact c1
  · rw [mset_ne (by omega)]; exact c2
  · rw [mset_ne (by omega)]; exact c3 k hk
  · rw [mset_ne (by omega)]; exact w1
  · rw [mset_ne (by omega)]; exact w2 k hk
  · rw [mset_ne (by omega)]; exact o1
  · rw [mset_ne (by omega)]; exact q1
  · rw [List.length_cons] at hk ⊢
    cases k with
    | zero =>
      rw [show cs.length + 1 - 1 - 0 = q by omega, mset_same]
      rfl
    | succ k =>
      rw [mset_other (by omega)]
      exact l2 (k + 1) hk
theorem MV0.top {c : Bool} (h : MV0 row W C o q (c :: cs) μ) : μ 98 q = bi c := by
  obtain ⟨-, -, -, -, l1, l2⟩ := h
  rw [List.length_cons] at l1 l2
  have := l2 0 (by omega)
  rw [show cs.length + 1 - 1 - 0 = q by omega] at this
  exact this
theorem MV0.nest (h : MV0 row W C o q cs μ) : MV0 row W C o (q + 1) (false :: cs) (mset (mset μ 82 26 (nI (q + 1))) 98 (q + 1) 0) := by
  obtain ⟨⟨c1, c2, c3⟩, ⟨w1, w2⟩, o1, q1, l1, l2⟩ := h
  refine ⟨⟨?_, ?_, fun k hk => ?_⟩, ⟨?_, fun k hk => ?_⟩, ?_, ?_, by rw [List.length_cons, l1], fun k hk => ?_⟩
  · rw [mset_ne (by omega), mset_other (by omega)]; exact c1
  · rw [mset_ne (by omega), mset_other (by omega)]; exact c2
  · rw [mset_ne (by omega), mset_ne (by omega)]; exact c3 k hk
  · rw [mset_ne (by omega), mset_other (by omega)]; exact w1
  · rw [mset_ne (by omega), mset_ne (by omega)]; exact w2 k hk
  · rw [mset_ne (by omega), mset_other (by omega)]; exact o1
  · rw [mset_ne (by omega), mset_same]
  · rw [List.length_cons] at hk ⊢
    cases k with
    | zero =>
      rw [show cs.length + 1 - 1 - 0 = q + 1 by omega, mset_same]
      rfl
    | succ k =>
      rw [mset_other (by omega), mset_ne (by omega), show cs.length + 1 - 1 - (k + 1) = cs.length - 1 - k by omega]
      exact l2 k (by omega)
theorem MV0.unnest {c : Bool} (h : MV0 row W C o (q + 1) (c :: cs) μ) : MV0 row W C o q cs (mset μ 82 26 (nI q)) := by
  obtain ⟨⟨c1, c2, c3⟩, ⟨w1, w2⟩, o1, q1, l1, l2⟩ := h
  rw [List.length_cons] at l1 l2
  refine ⟨⟨?_, ?_, fun k hk => ?_⟩, ⟨?_, fun k hk => ?_⟩, ?_, mset_same, by omega, fun k hk => ?_⟩
  · rw [mset_other (by omega)]; exact c1
  · rw [mset_other (by omega)]; exact c2
  · rw [mset_ne (by omega)]; exact c3 k hk
  · rw [mset_other (by omega)]; exact w1
  · rw [mset_ne (by omega)]; exact w2 k hk
  · rw [mset_other (by omega)]; exact o1
  · rw [mset_ne (by omega)]
    have := l2 (k + 1) (by omega)
    rw [show cs.length + 1 - 1 - (k + 1) = cs.length - 1 - k by omega] at this
    exact this
theorem MV0.fr (h : MV0 row W C o q cs μ) {ν : Mem} (hf : fr4 μ ν) : MV0 row W C o q cs ν := by
  obtain ⟨⟨c1, c2, c3⟩, ⟨w1, w2⟩, o1, q1, l1, l2⟩ := h
  have e : ∀ k, 20 < k → ν 82 k = μ 82 k := fun k hk => hf 82 k (by omega)
  exact ⟨⟨(e 28 (by omega)).trans c1, (e 29 (by omega)).trans c2, fun k hk => by rw [hf.row (a := 93) (by omega)]; exact c3 k hk⟩, ⟨(e 24 (by omega)).trans w1, fun k hk => by rw [hf.row (a := 97) (by omega)]; exact w2 k hk⟩, (e 25 (by omega)).trans o1, (e 26 (by omega)).trans q1, l1, fun k hk => by rw [hf.row (a := 98) (by omega)]; exact l2 k hk⟩
end MV
theorem dA_sum (r : Nat) : ∀ (W C : List Int32), (dA r W C).1.length + (dA r W C).2.length = W.length + C.length := by
  intro W
  induction W with
  | nil => intro C; rfl
  | cons x W ih =>
    intro C
    unfold dA
    split
    · rw [ih, List.length_append, List.length_cons]
      show W.length + (C.length + 1) = W.length + 1 + C.length
      omega
    · rfl
theorem dA_mem {r : Nat} : ∀ (W C : List Int32) (x : Int32), x ∈ (dA r W C).1 → x ∈ W := by
  intro W
  induction W with
  | nil => intro C x h; exact h
  | cons y W ih =>
    intro C x h
    unfold dA at h
    split at h
    · exact List.mem_cons_of_mem y (ih _ x h)
    · exact h
theorem dA_nst {r : Nat} (hr : 1 ≤ r) : ∀ (W C : List Int32), nstN (dA r W C).1 = nstN W := by
  intro W
  induction W with
  | nil => intro C; rfl
  | cons x W ih =>
    intro C
    unfold dA
    split
    · rename_i c
      have : ¬ x = 12 := fun e => by
        rw [e] at c
        have : rkI 12 = 0 := by decide
        omega
      rw [ih]
      show nstN W = nstN W + (if x = 12 then 1 else 0)
      rw [if_neg this]
      rfl
    · rfl
theorem dA_opn {r : Nat} : ∀ (W C : List Int32), opnN (dA r W C).1 ≤ opnN W := by
  intro W
  induction W with
  | nil => intro C; exact Nat.le_refl _
  | cons x W ih =>
    intro C
    unfold dA
    split
    · refine Nat.le_trans (ih _) ?_
      show opnN W ≤ opnN W + _
      omega
    · exact Nat.le_refl _
theorem dA_tp {r : Nat} : ∀ (W C : List Int32), topB r (dA r W C).1 := by
  intro W
  induction W with
  | nil => intro C x h; cases h
  | cons x W ih =>
    intro C
    unfold dA
    split
    · exact ih _
    · rename_i c
      exact topB.cons (Nat.not_le.mp c)
theorem nst_opn (W : List Int32) : nstN W ≤ opnN W := by
  induction W with
  | nil => exact Nat.le_refl _
  | cons x W ih =>
    show nstN W + (if x = 12 then 1 else 0) ≤ opnN W + (if x = 5 ∨ x = 12 ∨ x = 23 then 1 else 0)
    by_cases c : x = 12
    · rw [if_pos c, if_pos (Or.inr (Or.inl c))]
      omega
    · rw [if_neg c]
      omega
theorem daF_shown {row : Nat} (hr : row < 18) {r : Nat} (h1 : 1 ≤ r) (h7 : r ≤ 7) : ∀ (W C : List Int32) (q : Nat) (cs : List Bool) (μ : Mem), MV0 row W C (opnN W) q cs μ → (∀ x, x ∈ W → opW x) → W.length + C.length ≤ 160 → MV0 row (dA r W C).1 (dA r W C).2 (opnN (dA r W C).1) q cs (daF (nI r) W.length μ) ∧ fE row μ (daF (nI r) W.length μ) := by
  intro W
  induction W with
  | nil => intro C q cs μ h _ _; exact ⟨h, fE.rf _ _⟩
  | cons x W ih =>
    intro C q cs μ h ho hl
    rw [List.length_cons] at hl
    obtain ⟨p1, p2, p3⟩ := h.pop
    obtain ⟨t1, t2⟩ := op_tab (ho x List.mem_cons_self)
    have ef : daF (nI r) (x :: W).length μ = if μ 97 W.length = 30 ∨ rkM (μ 97 W.length) < nI r then μ else daF (nI r) W.length (poM μ W.length) := rfl
    rw [ef, p2]
    unfold dA
    by_cases c : r ≤ rkI x
    · have hx : ¬ x = 12 := fun e => by
        rw [e] at c
        have : rkI 12 = 0 := by decide
        omega
      obtain ⟨k1, k2, k3, k4, k5⟩ := t2 hx
      have hno : ¬ (wK x = 30 ∨ rkM (wK x) < nI r) := fun z => z.elim (fun z => hx (t1.mp z)) (fun z => by
        rw [k1, k2] at z
        exact absurd z (nI_nlt c (by omega)))
      rw [if_pos c, if_neg hno]
      have ep : poM μ W.length = emM (mset (mset μ 82 24 (nI W.length)) 82 25 (nI (opnN W))) (codeK x) := by
        unfold poM
        have e1 : nI (W.length + 1) - 1 = nI W.length := by rw [nI_m1 (by omega)]; rfl
        rw [p3, e1, p2, k1, h.2.2.1]
        congr 1
        congr 1
        show nI (opnN W + (if x = 5 ∨ x = 12 ∨ x = 23 then 1 else 0)) - _ = nI (opnN W)
        by_cases c5 : x = 5 ∨ x = 12 ∨ x = 23
        · rw [if_pos c5, if_pos (k5.mpr c5), nI_m1 (by omega)]
          rfl
        · rw [if_neg c5, if_neg (fun z => c5 (k5.mp z)), Nat.add_zero, Int32.sub_zero]
      rw [ep]
      obtain ⟨-, m1, m2⟩ := (p1.open_ (opnN W)).emit hr (show C.length < 160 by omega) x
      obtain ⟨g1, g2⟩ := ih (C ++ [x]) q cs _ m1 (fun y hy => ho y (List.mem_cons_of_mem x hy)) (by
        rw [List.length_append]
        show W.length + (C.length + 1) ≤ 160
        omega)
      exact ⟨g1, (((fE.s82 (by omega)).tr (fE.s82 (by omega))).tr m2).tr g2⟩
    · rw [if_neg c]
      have hyes : wK x = 30 ∨ rkM (wK x) < nI r := by
        by_cases hx : x = 12
        · exact Or.inl (t1.mpr hx)
        · obtain ⟨k1, k2, k3, k4, k5⟩ := t2 hx
          rw [k1, k2]
          exact Or.inr (nI_lt (by omega) (by omega))
      rw [if_pos hyes]
      exact ⟨h, fE.rf _ _⟩
theorem MV0.dP {row : Nat} {W C : List Int32} {o q : Nat} {cs : List Bool} {μ : Mem} (h : MV0 row W C o q cs μ) (hr : row < 18) (hl : W.length + C.length ≤ 160) : daP μ := ⟨W.length, 160 * row, C.length, by omega, by omega, h.2.1.1, h.1.1, h.1.2.1⟩
theorem MV0.da {row : Nat} {W C : List Int32} {q : Nat} {cs : List Bool} {μ : Mem} (h : MV0 row W C (opnN W) q cs μ) (hr : row < 18) (ho : ∀ x, x ∈ W → opW x) (hl : W.length + C.length ≤ 160) {r : Nat} (h1 : 1 ≤ r) (h7 : r ≤ 7) : MV0 row (dA r W C).1 (dA r W C).2 (opnN (dA r W C).1) q cs (daM μ (nI r)) ∧ fE row μ (daM μ (nI r)) := by
  unfold daM
  rw [h.2.1.1, ix_nI (by omega)]
  exact daF_shown hr h1 h7 W C q cs μ h ho hl
