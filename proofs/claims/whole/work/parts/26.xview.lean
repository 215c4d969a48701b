/-! ===== the class's heap shows the abstract state ===== -/
def vXc (α μ : Mem) : Prop := μ 10 9 = α 0 0 ∧ μ 10 10 = α 0 1 ∧ μ 10 11 = α 0 2 ∧ μ 10 12 = α 0 3 ∧ μ 24 1 = α 0 4
def vXw (α μ : Mem) : Prop := ∀ a b, a < 7 → b < 7 → μ (12 + a) b = α 1 (7 * a + b)
def vXr (α μ : Mem) : Prop := ∀ i, i < aR α → μ 20 i = α 2 i ∧ μ 21 i = α 3 i
def vXh1 (α μ : Mem) (h : Nat) : Prop := ∀ f, f < 6 → μ (43 + h) f = α (4 + f) h
def vXh (α μ : Mem) : Prop := ∀ h, h < aN α → vXh1 α μ h
def vXs1 (α μ : Mem) (h : Nat) : Prop := ∀ p, p < 3 → μ (43 + h) (6 + p) = saidA α p h
def vXs (α μ : Mem) : Prop := ∀ h, h < aN α → vXs1 α μ h
def vXt (α μ : Mem) : Prop := ∀ i, i < aT α → μ 25 i = α 10 i
def vXi (α μ : Mem) : Prop := μ 32 2 = α 11 0 ∧ (α 11 0 = 1 → (μ 32 3 = α 11 1 ∧ μ 32 4 = α 11 2 ∧ μ 32 5 = α 11 3) ∧ (∀ a b, a < 7 → b < 7 → μ (34 + a) b = α 12 (7 * a + b)) ∧ ∀ h, h < (α 11 1).toNatClampNeg → μ 41 h = α 13 h)
def vXsh (α μ : Mem) : Prop := ∀ s, s < 4 → μ (74 + 2 * s) 1 = α 14 s ∧ μ (74 + 2 * s) 2 = α 15 s ∧ ∀ k, k < 40 → μ (75 + 2 * s) k = α 16 (40 * s + k)
def vXx1 (α μ : Mem) (t : Nat) : Prop := ∀ p, p < 3 → (0 < p → μ (52 + 4 * t) (p - 1) = nI (stX μ (50 + 4 * t) p)) ∧ μ (52 + 4 * t) p = nI (stX μ (50 + 4 * t) p + lenX μ (50 + 4 * t) p) ∧ stX μ (50 + 4 * t) p + lenX μ (50 + 4 * t) p ≤ 160 ∧ α 17 (3 * t + p) = nI (lenX μ (50 + 4 * t) p) ∧ ∀ k, k < lenX μ (50 + 4 * t) p → validS (μ (51 + 4 * t) (stX μ (50 + 4 * t) p + k)) ∧ codeX μ (50 + 4 * t) p k = α 18 (160 * (3 * t + p) + k)
def vXx (α μ : Mem) : Prop := ∀ t, t < aX α → vXx1 α μ t
/-- all but what is kept of the law -/
def VX0 (α μ : Mem) : Prop := vXc α μ ∧ vXw α μ ∧ vXr α μ ∧ vXh α μ ∧ vXt α μ ∧ vXi α μ ∧ vXsh α μ ∧ vXx α μ
def VX (α μ : Mem) : Prop := VX0 α μ ∧ vXs α μ
/-- the class's own rows that show nothing -/
def scrX (a k : Nat) : Prop := (26 ≤ a ∧ a ≤ 31) ∨ a = 23 ∨ (a = 24 ∧ 2 ≤ k) ∨ isTS a
theorem vXx1_row {α μ ν : Mem} {t : Nat} (h1 : ν (51 + 4 * t) = μ (51 + 4 * t)) (h2 : ν (52 + 4 * t) = μ (52 + 4 * t)) (h : vXx1 α μ t) : vXx1 α ν t := by
  have e1 : ν (50 + 4 * t + 1) = μ (50 + 4 * t + 1) := by rw [show 50 + 4 * t + 1 = 51 + 4 * t by omega]; exact h1
  have e2 : ν (50 + 4 * t + 2) = μ (50 + 4 * t + 2) := by rw [show 50 + 4 * t + 2 = 52 + 4 * t by omega]; exact h2
  intro p hp
  obtain ⟨a1, a2, a3, a4, a5⟩ := h p hp
  rw [h1, h2, stX_row e2, lenX_row e2, codeX_row e1 e2]
  exact ⟨a1, a2, a3, a4, a5⟩
theorem scr_no {a k : Nat} (h1 : ¬ (26 ≤ a ∧ a ≤ 31)) (h2 : a ≠ 23) (h3 : ¬ (a = 24 ∧ 2 ≤ k)) (h4 : ¬ isTS a) : ¬ scrX a k := by
  rintro (q | q | q | q)
  · exact h1 q
  · exact h2 q
  · exact h3 q
  · exact h4 q
theorem TS_no {a : Nat} (h : a < 53 ∨ 73 < a ∨ (a - 53) % 4 ≠ 0) : ¬ isTS a := by
  rintro ⟨j, hj, rfl⟩
  omega
theorem VX0.same {α μ ν : Mem} (h : VX0 α μ) (hf : WF α) (hs : ∀ a k, a < 82 → ¬ (43 ≤ a ∧ a ≤ 49 ∧ 6 ≤ k) → ¬ (43 + aN α ≤ a ∧ a ≤ 49) → ¬ scrX a k → ν a k = μ a k) : VX0 α ν := by
  obtain ⟨⟨c1, c2, c3, c4, c5⟩, w, r, hh, t, ⟨i1, i2⟩, sh, x⟩ := h
  obtain ⟨wc, ww, wr, wh, wt, wx, wi, ws⟩ := hf
  have R : ∀ a, a < 82 → ¬ (43 ≤ a ∧ a ≤ 49) → ¬ (26 ≤ a ∧ a ≤ 31) → a ≠ 23 → a ≠ 24 → ¬ isTS a → ν a = μ a := fun a h1 h2 h3 h4 h5 h6 => by
    funext k
    exact hs a k h1 (by omega) (by omega) (scr_no h3 h4 (by omega) h6)
  refine ⟨⟨?_, ?_, ?_, ?_, ?_⟩, ?_, ?_, ?_, ?_, ⟨?_, ?_⟩, ?_, ?_⟩
  · rw [R 10 (by omega) (by omega) (by omega) (by omega) (by omega) (TS_no (by omega))]; exact c1
  · rw [R 10 (by omega) (by omega) (by omega) (by omega) (by omega) (TS_no (by omega))]; exact c2
  · rw [R 10 (by omega) (by omega) (by omega) (by omega) (by omega) (TS_no (by omega))]; exact c3
  · rw [R 10 (by omega) (by omega) (by omega) (by omega) (by omega) (TS_no (by omega))]; exact c4
  · rw [hs 24 1 (by omega) (by omega) (by omega) (scr_no (by omega) (by omega) (by omega) (TS_no (by omega)))]; exact c5
  · intro a b ha hb
    rw [R (12 + a) (by omega) (by omega) (by omega) (by omega) (by omega) (TS_no (by omega))]; exact w a b ha hb
  · intro i hi
    rw [R 20 (by omega) (by omega) (by omega) (by omega) (by omega) (TS_no (by omega)), R 21 (by omega) (by omega) (by omega) (by omega) (by omega) (TS_no (by omega))]
    exact r i hi
  · intro h hh' f hf
    have := wc.1.2
    rw [hs (43 + h) f (by omega) (by omega) (by omega) (scr_no (by omega) (by omega) (by omega) (TS_no (by omega)))]
    exact hh h hh' f hf
  · intro i hi
    rw [R 25 (by omega) (by omega) (by omega) (by omega) (by omega) (TS_no (by omega))]; exact t i hi
  · rw [R 32 (by omega) (by omega) (by omega) (by omega) (by omega) (TS_no (by omega))]; exact i1
  · intro q
    obtain ⟨q1, q2, q3⟩ := i2 q
    rw [R 32 (by omega) (by omega) (by omega) (by omega) (by omega) (TS_no (by omega)), R 41 (by omega) (by omega) (by omega) (by omega) (by omega) (TS_no (by omega))]
    refine ⟨q1, fun a b ha hb => ?_, q3⟩
    rw [R (34 + a) (by omega) (by omega) (by omega) (by omega) (by omega) (TS_no (by omega))]; exact q2 a b ha hb
  · intro s hs4
    rw [R (74 + 2 * s) (by omega) (by omega) (by omega) (by omega) (by omega) (TS_no (by omega)), R (75 + 2 * s) (by omega) (by omega) (by omega) (by omega) (by omega) (TS_no (by omega))]
    exact sh s hs4
  · intro t ht
    have := wc.2.2.1.2
    exact vXx1_row (R _ (by omega) (by omega) (by omega) (by omega) (by omega) (TS_no (by omega))) (R _ (by omega) (by omega) (by omega) (by omega) (by omega) (TS_no (by omega))) (x t ht)
theorem VX.same {α μ ν : Mem} (h : VX α μ) (hf : WF α) (hs : ∀ a k, a < 82 → ¬ (43 + aN α ≤ a ∧ a ≤ 49) → ¬ scrX a k → ν a k = μ a k) : VX α ν := by
  refine ⟨h.1.same hf (fun a k h1 _ h2 h3 => hs a k h1 h2 h3), fun i hi p hp => ?_⟩
  have := hf.1.1.2
  rw [hs (43 + i) (6 + p) (by omega) (by omega) (scr_no (by omega) (by omega) (by omega) (TS_no (by omega)))]
  exact h.2 i hi p hp
theorem VX.Q {α μ ν : Mem} (h : VX α μ) (hf : WF α) (hq : sameQ μ ν) : VX α ν := h.same hf (fun a k _ _ h2 => by rw [hq a (fun q => h2 (Or.inl q))])
/-! what the law says, shown -/
theorem saysOK_of {α μ : Mem} {t p : Nat} (hx : vXx1 α μ t) (hw : ∃ n, n ≤ 160 ∧ α 17 (3 * t + p) = nI n ∧ wfE (fun k => α 18 (160 * (3 * t + p) + k)) n) (hp : p < 3) : saysOK μ (50 + 4 * t) (nI p) ∧ ∀ env env' : Nat → Int32, (∀ i, i < 6 → env i = env' i) → valE env (codeX μ (50 + 4 * t) p) (lenX μ (50 + 4 * t) p) = valE env' (fun k => α 18 (160 * (3 * t + p) + k)) (α 17 (3 * t + p)).toNatClampNeg := by
  obtain ⟨a1, a2, a3, a4, a5⟩ := hx p hp
  obtain ⟨n, hn, e17, hwf⟩ := hw
  have hln : lenX μ (50 + 4 * t) p = n := by
    rw [e17] at a4
    exact ((nI_eq (by omega) (by omega)).mp a4).symm
  refine ⟨⟨p, hp, rfl, ?_, ?_, a3, ?_, ?_⟩, ?_⟩
  · rw [show 50 + 4 * t + 2 = 52 + 4 * t by omega]; exact a1
  · rw [show 50 + 4 * t + 2 = 52 + 4 * t by omega]; exact a2
  · rw [show 50 + 4 * t + 1 = 51 + 4 * t by omega]; exact fun k hk => (a5 k hk).1
  · rw [hln] at a5 ⊢
    exact wfE_congr (fun k hk => (a5 k hk).2.symm) hwf
  · intro env env' he
    rw [e17, ix_nI (by omega), hln]
    unfold valE
    rw [runE_congr (n := n) he (fun k hk => (a5 k (by omega)).2) n (Nat.le_refl n)]
theorem env_of {α μ : Mem} {h : Nat} (hh : vXh1 α μ h) (hw : vXw α μ) (hf : ∃ f, f < 7 ∧ α 5 h = nI f) (ht : ∃ t, t < 7 ∧ α 6 h = nI t) : ∀ i, i < 6 → namedF μ (43 + h) (nI (6 + i)) (farX μ (43 + h)) = envA α h i := by
  obtain ⟨f, hf, ef⟩ := hf
  obtain ⟨t, ht, et⟩ := ht
  have e1 : μ (43 + h) 1 = α 5 h := hh 1 (by omega)
  have e2 : μ (43 + h) 2 = α 6 h := hh 2 (by omega)
  have e3 : μ (43 + h) 3 = α 7 h := hh 3 (by omega)
  have e4 : μ (43 + h) 4 = α 8 h := hh 4 (by omega)
  have e5 : μ (43 + h) 5 = α 9 h := hh 5 (by omega)
  have e6 : farX μ (43 + h) = α 1 (7 * (α 5 h).toNatClampNeg + (α 6 h).toNatClampNeg) := by
    unfold farX
    rw [e1, e2, ef, et, ix_nI (by omega), ix_nI (by omega)]
    exact hw f t hf ht
  intro i hi
  unfold namedF envA
  rw [e1, e2, e3, e4, e5, e6]
  rcases (show i = 0 ∨ i = 1 ∨ i = 2 ∨ i = 3 ∨ i = 4 ∨ i = 5 by omega) with rfl | rfl | rfl | rfl | rfl | rfl <;> rfl
/-- the law over a horse that is shown -/
theorem law_of {α μ : Mem} {h : Nat} (hh : h < 7) (hv : vXh1 α μ h) (hw1 : wfH1 α h) (hvw : vXw α μ) (hwx : wfX α) (hvx : vXx α μ) (hl : μ 10 12 = α 0 3) (hc : α 0 3 = nI (aL α) ∧ aL α < aX α) (hx6 : aX α ≤ 6) : hearOK μ (43 + h) ∧ ∀ p, p < 3 → saidX μ (43 + h) p = saidA α p h := by
  obtain ⟨wk, wf, wt, -⟩ := hw1
  have elt : ltX μ = 50 + 4 * aL α := by
    unfold ltX
    rw [hl]
    rfl
  have e1 : μ (43 + h) 1 = α 5 h := hv 1 (by omega)
  have e2 : μ (43 + h) 2 = α 6 h := hv 2 (by omega)
  refine ⟨⟨?_, ?_, ?_, fun p hp => ?_⟩, fun p hp => ?_⟩
  · rw [hl, hc.1]
    exact vp_nI (by omega) (by omega)
  · obtain ⟨f, hf, ef⟩ := wf
    rw [e1, ef]
    exact vp_nI hf (by omega)
  · obtain ⟨t, ht, et⟩ := wt
    rw [e2, et]
    exact vp_nI ht (by omega)
  · rw [elt]
    exact (saysOK_of (hvx _ hc.2) (hwx _ hc.2 p hp) hp).1
  · unfold saidX saidA sayA
    rw [elt, (saysOK_of (hvx _ hc.2) (hwx _ hc.2 p hp) hp).2 _ (envA α h) (env_of hv hvw wf wt)]
theorem VX0.hear {α μ : Mem} (hf : WF α) (h : VX0 α μ) : hearAllOK μ := by
  obtain ⟨⟨c1, c2, c3, c4, c5⟩, w, r, hh, t, i, sh, x⟩ := h
  obtain ⟨wc, ww, wr, wh, wt, wx, wi, ws⟩ := hf
  refine ⟨aN α, wc.1.2, c1.trans wc.1.1, fun i hi => ?_⟩
  have := wc.1.2
  exact (law_of (by omega) (hh i hi) (wh i hi) w wx x c4 wc.2.2.2.1 wc.2.2.1.2).1
theorem hearS.same {μ ν : Mem} (h : hearS μ ν) : ∀ a k, ¬ (43 ≤ a ∧ a ≤ 49 ∧ 6 ≤ k) → ¬ isTS a → ν a k = μ a k := fun a k h2 h3 => by
  by_cases e : 43 ≤ a ∧ a ≤ 49
  · exact h.1 a e.1 e.2 k (by omega)
  · rw [h.2 a e h3]
theorem VX0.heard {α μ ν : Mem} (hf : WF α) (h : VX0 α μ) (hr : hearAllR μ ν) : VX α ν := by
  refine ⟨h.same hf (fun a k _ h2 _ h3 => hr.1.same a k h2 (fun q => h3 (Or.inr (Or.inr (Or.inr q))))), fun i hi p hp => ?_⟩
  obtain ⟨⟨c1, c2, c3, c4, c5⟩, w, r, hh, t, i', sh, x⟩ := h
  obtain ⟨wc, ww, wr, wh, wt, wx, wi, ws⟩ := hf
  have := wc.1.2
  rw [hr.2 i (by rw [c1, wc.1.1]; exact nI_lt hi (by omega)) (by omega) p hp]
  exact (law_of (by omega) (hh i hi) (wh i hi) w wx x c4 wc.2.2.2.1 wc.2.2.1.2).2 p hp
/-! setting out, shown -/
theorem alikeX_of {α μ : Mem} {set : Int32} (hs : setOK (aN α) set) (hh : vXh α μ) (hsd : vXs α μ) (hw : vXw α μ) : alikeE (goX μ) (goA α) (tmX μ) (tmA α) (wX μ) (wA α) set := by
  have key : ∀ h, h < 7 → bitB set (nI h) = true → h < aN α := fun h h7 hb => by
    rcases Nat.lt_or_ge h (aN α) with q | q
    · exact q
    · rw [hs h q h7] at hb
      cases hb
  refine ⟨fun h h7 hb p _ => ?_, fun h h7 hb t => ?_, fun p hp q hq => ?_⟩
  · have v := hh h (key h h7 hb)
    have e0 : μ (43 + h) 0 = α 4 h := v 0 (by omega)
    have e1 : μ (43 + h) 1 = α 5 h := v 1 (by omega)
    have e2 : μ (43 + h) 2 = α 6 h := v 2 (by omega)
    have e4 : μ (43 + h) 4 = α 8 h := v 4 (by omega)
    unfold goX goA
    rw [e0, e1, e2, e4]
  · have v := hh h (key h h7 hb)
    have e0 : μ (43 + h) 0 = α 4 h := v 0 (by omega)
    have e4 : μ (43 + h) 4 = α 8 h := v 4 (by omega)
    have e5 : μ (43 + h) 5 = α 9 h := v 5 (by omega)
    have e6 : μ (43 + h) 6 = saidA α 0 h := hsd h (key h h7 hb) 0 (by omega)
    unfold tmX tmA outA
    rw [e0, e4, e5, e6]
  · unfold wX wA
    rw [if_pos hp, if_pos hp]
    exact hw p q hp hq
