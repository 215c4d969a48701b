/-! ===== setting out: stopping early or not, from one beginning or another, tells the same ===== -/
def envG (go : Nat → Nat → Int32) (tm : Nat → Int32 → Int32) (w : Nat → Nat → Int32) (set : Int32) : Prop := goOK go set ∧ (∀ h, h < 7 → bitB set (nI h) = true → ∀ s, s ≤ 999 → ∃ t, tm h (nI s) = nI t ∧ s < t ∧ t ≤ 3000) ∧ ∀ p q, p < 7 → q < 7 → p ≠ q → ∃ v, 1 ≤ v ∧ v ≤ 999 ∧ w p q = nI v
def wayOK (x : Int32) : Prop := x = 7 ∨ ∃ h, h < 7 ∧ x = nI h
def stepOK (w : Nat → Nat → Int32) (σ : Mem) (k : Nat) : Prop := wayOK (σ 1 k) ∧ ∃ q, q < 7 ∧ σ 2 k = nI q ∧ σ 3 q = 1 ∧ σ 0 q < σ 0 k ∧ (σ 1 k = 7 → σ 0 k = σ 0 q + w q k)
def Inv (w : Nat → Nat → Int32) (a : Nat) (σ : Mem) : Prop := (∀ k, k < 7 → ∃ s, s ≤ 999 ∧ σ 0 k = nI s) ∧ (σ 0 a = 0 ∧ σ 1 a = -1 ∧ σ 3 a = 1) ∧ (∀ k, k < 7 → k ≠ a → stepOK w σ k) ∧ (∀ k, k < 7 → σ 3 k = 0 ∨ σ 3 k = 1) ∧ ∀ l u, l < 7 → u < 7 → σ 3 l = 1 → σ 3 u = 0 → σ 0 l ≤ σ 0 u
theorem wayOK.ne {x : Int32} (h : wayOK x) : ¬ x = -1 := by
  rcases h with rfl | ⟨h, hh, rfl⟩
  · decide
  · intro q
    have q2 := congrArg Int32.toInt q
    rw [nI_toInt (by omega)] at q2
    have : (-1 : Int32).toInt = -1 := by decide
    omega
theorem nI_m {q : Nat} (hq : q < 2 ^ 31) : ¬ nI q = -1 := by
  intro e
  have q2 := congrArg Int32.toInt e
  rw [nI_toInt hq] at q2
  have : (-1 : Int32).toInt = -1 := by decide
  omega
/-- the place that is picked is soonest -/
theorem pick_min (σ : Mem) : ∀ k, k ≤ 7 → (pickS σ k = -1 ∧ ∀ u, u < k → ¬ σ 3 u = 0) ∨ ∃ p, p < k ∧ pickS σ k = nI p ∧ σ 3 p = 0 ∧ ∀ u, u < k → σ 3 u = 0 → σ 0 p ≤ σ 0 u := by
  intro k
  induction k with
  | zero => exact fun _ => Or.inl ⟨rfl, fun u hu => absurd hu (Nat.not_lt_zero u)⟩
  | succ k ih =>
    intro hk
    have ih := ih (by omega)
    have ep : pickS σ (k + 1) = if σ 3 k = 0 ∧ (pickS σ k = -1 ∨ σ 0 k < σ 0 (pickS σ k).toNatClampNeg) then nI k else pickS σ k := rfl
    rw [ep]
    have last : ∀ u, u < k + 1 → u < k ∨ u = k := fun u hu => by omega
    by_cases c : σ 3 k = 0
    · rcases ih with ⟨h1, h2⟩ | ⟨p, hp, h1, h2, h3⟩
      · rw [if_pos ⟨c, Or.inl h1⟩]
        refine Or.inr ⟨k, by omega, rfl, c, fun u hu hz => ?_⟩
        rcases last u hu with q | rfl
        · exact absurd hz (h2 u q)
        · exact Int32.le_refl _
      · have ix : (pickS σ k).toNatClampNeg = p := by rw [h1, ix_nI (by omega)]
        rw [ix]
        by_cases d : σ 0 k < σ 0 p
        · rw [if_pos ⟨c, Or.inr d⟩]
          refine Or.inr ⟨k, by omega, rfl, c, fun u hu hz => ?_⟩
          rcases last u hu with q | rfl
          · exact Int32.le_trans (Int32.le_of_lt d) (h3 u q hz)
          · exact Int32.le_refl _
        · rw [if_neg (fun q => q.2.elim (fun e => nI_m (by omega) (h1.symm.trans e)) d)]
          refine Or.inr ⟨p, by omega, h1, h2, fun u hu hz => ?_⟩
          rcases last u hu with q | rfl
          · exact h3 u q hz
          · exact Int32.not_lt.mp d
    · rw [if_neg (fun q => c q.1)]
      rcases ih with ⟨h1, h2⟩ | ⟨p, hp, h1, h2, h3⟩
      · exact Or.inl ⟨h1, fun u hu => by
          rcases last u hu with q | rfl
          · exact h2 u q
          · exact c⟩
      · exact Or.inr ⟨p, by omega, h1, h2, fun u hu hz => by
          rcases last u hu with q | rfl
          · exact h3 u q hz
          · exact absurd hz c⟩
theorem comeS_at {σ : Mem} {q : Nat} {t w f : Int32} (h : t < σ 0 q) : comeS σ q t w f 0 q = t ∧ comeS σ q t w f 1 q = w ∧ comeS σ q t w f 2 q = f := by
  unfold comeS
  rw [if_pos h]
  refine ⟨?_, ?_, ?_⟩ <;> simp (disch := omega) only [mset_same, mset_other]
theorem comeS_ne {σ : Mem} {q k r : Nat} {t w f : Int32} (h : k ≠ q ∨ 3 ≤ r) : comeS σ q t w f r k = σ r k := by
  unfold comeS
  split
  · rw [mset_other (by omega), mset_other (by omega), mset_other (by omega)]
  · rfl
theorem comeS_no {σ : Mem} {q : Nat} {t w f : Int32} (h : ¬ t < σ 0 q) : comeS σ q t w f = σ := if_neg h
/-- while a place is left -/
def Jv (w : Nat → Nat → Int32) (a p : Nat) (σ τ : Mem) : Prop := (∀ k, k < 7 → ∃ s, s ≤ 999 ∧ τ 0 k = nI s) ∧ (∀ k, k < 7 → τ 3 k = if k = p then 1 else σ 3 k) ∧ (∀ k, k < 7 → (σ 3 k = 1 ∨ k = p) → τ 0 k = σ 0 k ∧ τ 1 k = σ 1 k ∧ τ 2 k = σ 2 k) ∧ (∀ k, k < 7 → σ 3 k = 0 → k ≠ p → σ 0 p ≤ τ 0 k) ∧ ∀ k, k < 7 → k ≠ a → stepOK w τ k
def mayP (a p : Nat) (σ : Mem) : Prop := p < 7 ∧ a < 7 ∧ σ 3 p = 0 ∧ ∀ u, u < 7 → σ 3 u = 0 → σ 0 p ≤ σ 0 u
theorem Jv.start {w : Nat → Nat → Int32} {a p : Nat} {σ : Mem} (h : Inv w a σ) (hp : mayP a p σ) : Jv w a p σ (mset σ 3 p 1) := by
  obtain ⟨h1, h2, h3, h4, h5⟩ := h
  have e : ∀ r k, r ≠ 3 → mset σ 3 p 1 r k = σ r k := fun r k hr => mset_other (by omega)
  have e3 : ∀ k, mset σ 3 p 1 3 k = if k = p then 1 else σ 3 k := fun k => by
    by_cases c : k = p
    · rw [if_pos c, c, mset_same]
    · rw [if_neg c, mset_other (by omega)]
  refine ⟨fun k hk => ?_, fun k _ => e3 k, fun k _ _ => ⟨e 0 k (by omega), e 1 k (by omega), e 2 k (by omega)⟩, fun k hk hz _ => ?_, fun k hk hka => ?_⟩
  · rw [e 0 k (by omega)]; exact h1 k hk
  · rw [e 0 k (by omega)]; exact hp.2.2.2 k hk hz
  · obtain ⟨a1, q, a2, a3, a4, a5, a6⟩ := h3 k hk hka
    refine ⟨by rw [e 1 k (by omega)]; exact a1, q, a2, by rw [e 2 k (by omega)]; exact a3, ?_, ?_, fun c => ?_⟩
    · rw [e3]
      split
      · rfl
      · exact a4
    · rw [e 0 k (by omega), e 0 q (by omega)]; exact a5
    · rw [e 1 k (by omega)] at c
      rw [e 0 k (by omega), e 0 q (by omega)]
      exact a6 c
theorem Jv.come {w : Nat → Nat → Int32} {a p q sp t : Nat} {σ τ : Mem} {way : Int32} (h : Inv w a σ) (hp : mayP a p σ) (hj : Jv w a p σ τ) (hq : q < 7) (hqp : q ≠ p) (es : σ 0 p = nI sp) (hsp : sp ≤ 999) (h1 : sp < t) (h2 : t ≤ 3000) (hw : wayOK way) (hw7 : way = 7 → nI t = σ 0 p + w p q) : Jv w a p σ (comeS τ q (nI t) way (nI p)) := by
  by_cases c : nI t < τ 0 q
  · obtain ⟨j1, j2, j3, j4, j5⟩ := hj
    have hn : ¬ σ 3 q = 1 := fun z => by
      have z1 := (j3 q hq (Or.inl z)).1
      have z2 := h.2.2.2.2 q p hq hp.1 z hp.2.2.1
      rw [z1] at c
      have z3 := Int32.lt_of_lt_of_le c z2
      rw [es] at z3
      have := lt_nI (by omega) (by omega) z3
      omega
    have hq0 : σ 3 q = 0 := (h.2.2.2.1 q hq).resolve_right hn
    obtain ⟨a0, a1, a2⟩ := comeS_at (w := way) (f := nI p) c
    have ne : ∀ r k, (k ≠ q ∨ 3 ≤ r) → comeS τ q (nI t) way (nI p) r k = τ r k := fun r k hr => comeS_ne hr
    obtain ⟨s, hs, e⟩ := j1 q hq
    have hts : t < s := lt_nI (by omega) (by omega) (by rw [← e]; exact c)
    have ep0 : τ 0 p = nI sp := (j3 p hp.1 (Or.inr rfl)).1.trans es
    have ep3 : τ 3 p = 1 := by rw [j2 p hp.1, if_pos rfl]
    have eq3 : τ 3 q = 0 := by rw [j2 q hq, if_neg hqp]; exact hq0
    refine ⟨fun k hk => ?_, fun k hk => ?_, fun k hk hl => ?_, fun k hk hz hkp => ?_, fun k hk hka => ?_⟩
    · by_cases ck : k = q
      · rw [ck, a0]; exact ⟨t, by omega, rfl⟩
      · rw [ne 0 k (Or.inl ck)]; exact j1 k hk
    · rw [ne 3 k (Or.inr (by omega))]; exact j2 k hk
    · have ck : k ≠ q := fun z => by
        subst z
        exact hl.elim hn hqp
      rw [ne 0 k (Or.inl ck), ne 1 k (Or.inl ck), ne 2 k (Or.inl ck)]
      exact j3 k hk hl
    · by_cases ck : k = q
      · rw [ck, a0, es]; exact nI_le (by omega) (by omega)
      · rw [ne 0 k (Or.inl ck)]; exact j4 k hk hz hkp
    · by_cases ck : k = q
      · subst ck
        refine ⟨by rw [a1]; exact hw, p, hp.1, a2, ?_, ?_, fun z => ?_⟩
        · rw [ne 3 p (Or.inr (by omega))]; exact ep3
        · rw [ne 0 p (Or.inl (by omega)), a0, ep0]; exact nI_lt h1 (by omega)
        · rw [a1] at z
          rw [a0, ne 0 p (Or.inl (by omega)), ep0, ← es]
          exact hw7 z
      · obtain ⟨b1, u, b2, b3, b4, b5, b6⟩ := j5 k hk hka
        have cu : u ≠ q := fun z => by
          rw [z, eq3] at b4
          exact absurd b4 (by decide)
        refine ⟨by rw [ne 1 k (Or.inl ck)]; exact b1, u, b2, by rw [ne 2 k (Or.inl ck)]; exact b3, by rw [ne 3 u (Or.inr (by omega))]; exact b4, by rw [ne 0 u (Or.inl cu), ne 0 k (Or.inl ck)]; exact b5, fun z => ?_⟩
        rw [ne 1 k (Or.inl ck)] at z
        rw [ne 0 u (Or.inl cu), ne 0 k (Or.inl ck)]
        exact b6 z
  · rw [comeS_no c]
    exact hj
theorem Jv.leave {go : Nat → Nat → Int32} {tm : Nat → Int32 → Int32} {w : Nat → Nat → Int32} {set : Int32} (hE : envG go tm w set) {a p n : Nat} (hn : n ≤ 7) {σ : Mem} (h : Inv w a σ) (hp : mayP a p σ) : Jv w a p σ (leaveS go tm w n set p σ) := by
  obtain ⟨sp, hsp, es⟩ := h.1 p hp.1
  have H : ∀ j, j ≤ n → Jv w a p σ (lvH go tm set p j (mset σ 3 p 1)) := by
    intro j
    induction j with
    | zero => exact fun _ => Jv.start h hp
    | succ j ih =>
      intro hj
      have ih := ih (by omega)
      show Jv w a p σ (if bitB set (nI j) = true ∧ ¬ go j p = -1 ∧ ¬ go j p = nI p then comeS (lvH go tm set p j (mset σ 3 p 1)) (go j p).toNatClampNeg (tm j (lvH go tm set p j (mset σ 3 p 1) 0 p)) (nI j) (nI p) else lvH go tm set p j (mset σ 3 p 1))
      split
      · rename_i c
        rcases hE.1 j (by omega) c.1 p hp.1 with e | ⟨q, hq, e⟩
        · exact absurd e c.2.1
        · have hqp : q ≠ p := fun z => c.2.2 (by rw [e, z])
          obtain ⟨t, e2, h1, h2⟩ := hE.2.1 j (by omega) c.1 sp hsp
          rw [(ih.2.2.1 p hp.1 (Or.inr rfl)).1, es, e, ix_nI (by omega), e2]
          exact Jv.come h hp ih hq hqp es hsp h1 h2 (Or.inr ⟨j, by omega, rfl⟩) (fun z => absurd ((nI_eq (b := 7) (by omega) (by omega)).mp z) (by omega))
      · exact ih
  have F : ∀ j, j ≤ 7 → Jv w a p σ (lvF w p j (lvH go tm set p n (mset σ 3 p 1))) := by
    intro j
    induction j with
    | zero => exact fun _ => H n (Nat.le_refl n)
    | succ j ih =>
      intro hj
      have ih := ih (by omega)
      show Jv w a p σ (if ¬ j = p then comeS (lvF w p j (lvH go tm set p n (mset σ 3 p 1))) j (lvF w p j (lvH go tm set p n (mset σ 3 p 1)) 0 p + w p j) 7 (nI p) else lvF w p j (lvH go tm set p n (mset σ 3 p 1)))
      split
      · rename_i c
        obtain ⟨v, v1, v2, ev⟩ := hE.2.2 p j hp.1 (by omega) (fun z => c z.symm)
        rw [(ih.2.2.1 p hp.1 (Or.inr rfl)).1, es, ev, nI_add]
        exact Jv.come h hp ih (by omega) c es hsp (by omega) (by omega) (Or.inl rfl) (fun _ => by rw [es, ev, nI_add])
      · exact ih
  exact F 7 (Nat.le_refl 7)
theorem Jv.inv {w : Nat → Nat → Int32} {a p : Nat} {σ τ : Mem} (h : Inv w a σ) (hp : mayP a p σ) (hj : Jv w a p σ τ) : Inv w a τ := by
  obtain ⟨j1, j2, j3, j4, j5⟩ := hj
  obtain ⟨h1, ⟨h2, h2', h2''⟩, h3, h4, h5⟩ := h
  obtain ⟨b0, b1, b2⟩ := j3 a hp.2.1 (Or.inl h2'')
  have hle : ∀ l, l < 7 → τ 3 l = 1 → σ 0 l ≤ σ 0 p ∧ τ 0 l = σ 0 l := fun l hl e => by
    rw [j2 l hl] at e
    by_cases c : l = p
    · rw [c]
      exact ⟨Int32.le_refl _, (j3 p hp.1 (Or.inr rfl)).1⟩
    · rw [if_neg c] at e
      exact ⟨h5 l p hl hp.1 e hp.2.2.1, (j3 l hl (Or.inl e)).1⟩
  refine ⟨j1, ⟨b0.trans h2, b1.trans h2', ?_⟩, j5, fun k hk => ?_, fun l u hl hu el eu => ?_⟩
  · rw [j2 a hp.2.1]
    split
    · rfl
    · exact h2''
  · rw [j2 k hk]
    split
    · exact Or.inr rfl
    · exact h4 k hk
  · obtain ⟨q1, q2⟩ := hle l hl el
    rw [j2 u hu] at eu
    by_cases c : u = p
    · rw [if_pos c] at eu
      exact absurd eu (by decide)
    · rw [if_neg c] at eu
      rw [q2]
      exact Int32.le_trans q1 (j4 u hu eu c)
/-! how many are left -/
def cntF (b : Nat → Bool) : Nat → Nat
  | 0 => 0
  | k + 1 => cntF b k + (if b k = true then 1 else 0)
theorem cntF_le (b : Nat → Bool) : ∀ k, cntF b k ≤ k := by
  intro k
  induction k with
  | zero => exact Nat.le_refl 0
  | succ k ih =>
    unfold cntF
    split <;> omega
theorem cntF_all {b : Nat → Bool} : ∀ k, (∀ u, u < k → b u = true) → cntF b k = k := by
  intro k
  induction k with
  | zero => intro _; rfl
  | succ k ih =>
    intro h
    unfold cntF
    rw [ih (fun u hu => h u (by omega)), if_pos (h k (by omega))]
theorem cntF_lt {b : Nat → Bool} {u : Nat} (hb : b u = false) : ∀ k, u < k → cntF b k < k := by
  intro k
  induction k with
  | zero => intro h; omega
  | succ k ih =>
    intro h
    unfold cntF
    by_cases c : u = k
    · subst c
      rw [if_neg (by rw [hb]; decide)]
      have := cntF_le b u
      omega
    · have := ih (by omega)
      split <;> omega
theorem cntF_eq {b c : Nat → Bool} : ∀ k, (∀ u, u < k → b u = c u) → cntF b k = cntF c k := by
  intro k
  induction k with
  | zero => intro _; rfl
  | succ k ih =>
    intro h
    unfold cntF
    rw [ih (fun u hu => h u (by omega)), h k (by omega)]
theorem cntF_one {b c : Nat → Bool} {p : Nat} (hb : b p = false) (hc : c p = true) : ∀ k, (∀ u, u < k → u ≠ p → b u = c u) → cntF c k = cntF b k + (if p < k then 1 else 0) := by
  intro k
  induction k with
  | zero => intro _; rfl
  | succ k ih =>
    intro h
    have ih := ih (fun u hu => h u (by omega))
    unfold cntF
    rw [ih]
    by_cases e : k = p
    · subst e
      rw [hb, hc, if_neg (Nat.lt_irrefl k), if_pos (Nat.lt_succ_self k)]
      simp
    · rw [h k (by omega) e]
      have e2 : (if p < k + 1 then 1 else 0 : Nat) = if p < k then 1 else 0 := by
        by_cases q : p < k
        · rw [if_pos q, if_pos (Nat.lt_succ_of_lt q)]
        · rw [if_neg q, if_neg (fun z => q (by omega))]
      rw [e2]
      omega
theorem cntF_mono {b c : Nat → Bool} : ∀ k, (∀ u, u < k → b u = true → c u = true) → cntF b k ≤ cntF c k := by
  intro k
  induction k with
  | zero => intro _; exact Nat.le_refl 0
  | succ k ih =>
    intro h
    have := ih (fun u hu => h u (by omega))
    unfold cntF
    by_cases e : b k = true
    · rw [if_pos e, if_pos (h k (by omega) e)]; omega
    · rw [if_neg e]
      split <;> omega
theorem cntF_strict {b c : Nat → Bool} {u : Nat} (hb : b u = false) (hc : c u = true) : ∀ k, u < k → (∀ v, v < k → b v = true → c v = true) → cntF b k < cntF c k := by
  intro k
  induction k with
  | zero => intro h; omega
  | succ k ih =>
    intro hu h
    unfold cntF
    by_cases e : u = k
    · subst e
      have := cntF_mono u (fun v hv => h v (by omega))
      rw [hb, hc]
      simp
      omega
    · have := ih (by omega) (fun v hv => h v (by omega))
      by_cases q : b k = true
      · rw [if_pos q, if_pos (h k (by omega) q)]; omega
      · rw [if_neg q]
        split <;> omega
def lftB (σ : Mem) (k : Nat) : Bool := decide (σ 3 k = 1)
def cntL (σ : Mem) : Nat := cntF (lftB σ) 7
theorem pick_some {w : Nat → Nat → Int32} {a : Nat} (ha : a < 7) {σ : Mem} (h : Inv w a σ) (hc : cntL σ < 7) : ∃ p, pickS σ 7 = nI p ∧ mayP a p σ := by
  rcases pick_min σ 7 (Nat.le_refl 7) with ⟨-, h2⟩ | ⟨p, hp, h1, h2, h3⟩
  · exfalso
    have := cntF_all (b := lftB σ) 7 (fun u hu => decide_eq_true ((h.2.2.2.1 u hu).resolve_left (h2 u hu)))
    unfold cntL at hc
    omega
  · exact ⟨p, h1, hp, ha, h2, h3⟩
theorem cnt_leave {w : Nat → Nat → Int32} {a p : Nat} {σ τ : Mem} (hp : mayP a p σ) (hj : Jv w a p σ τ) : cntL τ = cntL σ + 1 := by
  have e : ∀ u, u < 7 → lftB τ u = (if u = p then true else lftB σ u) := fun u hu => by
    unfold lftB
    rw [hj.2.1 u hu]
    split
    · rfl
    · rfl
  have := cntF_one (b := lftB σ) (c := lftB τ) (p := p) (by unfold lftB; rw [hp.2.2.1]; rfl) (by rw [e p hp.1, if_pos rfl]) 7 (fun u hu hup => by rw [e u hu, if_neg hup])
  rw [if_pos hp.1] at this
  exact this
def fullR (go : Nat → Nat → Int32) (tm : Nat → Int32 → Int32) (w : Nat → Nat → Int32) (n : Nat) (set : Int32) : Nat → Mem → Mem
  | 0, σ => σ
  | f + 1, σ => fullR go tm w n set f (leaveS go tm w n set (pickS σ 7).toNatClampNeg σ)
theorem full_keep {go : Nat → Nat → Int32} {tm : Nat → Int32 → Int32} {w : Nat → Nat → Int32} {set : Int32} (hE : envG go tm w set) {a n : Nat} (ha : a < 7) (hn : n ≤ 7) : ∀ f (σ : Mem), Inv w a σ → cntL σ + f = 7 → Inv w a (fullR go tm w n set f σ) ∧ ∀ k, k < 7 → σ 3 k = 1 → (fullR go tm w n set f σ) 0 k = σ 0 k ∧ (fullR go tm w n set f σ) 1 k = σ 1 k ∧ (fullR go tm w n set f σ) 2 k = σ 2 k := by
  intro f
  induction f with
  | zero => intro σ h _; exact ⟨h, fun _ _ _ => ⟨rfl, rfl, rfl⟩⟩
  | succ f ih =>
    intro σ h hc
    obtain ⟨p, e, hp⟩ := pick_some ha h (by omega)
    have hj := Jv.leave hE hn h hp
    have hi := hj.inv h hp
    have hcn := cnt_leave hp hj
    obtain ⟨g1, g2⟩ := ih _ hi (by omega)
    have ef : fullR go tm w n set (f + 1) σ = fullR go tm w n set f (leaveS go tm w n set p σ) := by
      show fullR go tm w n set f (leaveS go tm w n set (pickS σ 7).toNatClampNeg σ) = _
      rw [e, ix_nI (by have := hp.1; omega)]
    rw [ef]
    refine ⟨g1, fun k hk hl => ?_⟩
    have hl2 : (leaveS go tm w n set p σ) 3 k = 1 := by
      rw [hj.2.1 k hk]
      split
      · rfl
      · exact hl
    obtain ⟨q1, q2, q3⟩ := g2 k hk hl2
    obtain ⟨r1, r2, r3⟩ := hj.2.2.1 k hk (Or.inl hl)
    exact ⟨q1.trans r1, q2.trans r2, q3.trans r3⟩
