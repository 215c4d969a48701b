/-! ===== the class's setting out and the reference's ===== -/
def simF (a : Nat) (σ τ : Mem) : Prop := ∀ k, k < 7 → σ 0 k = τ 0 k ∧ σ 1 k = τ 1 k ∧ σ 3 k = τ 3 k ∧ (k ≠ a → σ 2 k = τ 2 k)
theorem simF.come {a : Nat} {σ τ : Mem} (h : simF a σ τ) {q : Nat} (hq : q < 7) (t w f : Int32) : simF a (comeS σ q t w f) (comeS τ q t w f) := by
  unfold comeS
  rw [(h q hq).1]
  split
  · intro k hk
    obtain ⟨h0, h1, h3, h2⟩ := h k hk
    by_cases c : k = q
    · subst c
      refine ⟨?_, ?_, ?_, fun _ => ?_⟩ <;> simp (disch := omega) only [mset_same, mset_other, h3]
    · refine ⟨?_, ?_, ?_, fun ha => ?_⟩
      · rw [mset_other (by omega), mset_other (by omega), mset_other (by omega), mset_other (by omega), mset_other (by omega), mset_other (by omega)]; exact h0
      · rw [mset_other (by omega), mset_other (by omega), mset_other (by omega), mset_other (by omega), mset_other (by omega), mset_other (by omega)]; exact h1
      · rw [mset_other (by omega), mset_other (by omega), mset_other (by omega), mset_other (by omega), mset_other (by omega), mset_other (by omega)]; exact h3
      · rw [mset_other (by omega), mset_other (by omega), mset_other (by omega), mset_other (by omega), mset_other (by omega), mset_other (by omega)]; exact h2 ha
  · exact h
theorem simF.left {a : Nat} {σ τ : Mem} (h : simF a σ τ) (p : Nat) : simF a (mset σ 3 p 1) (mset τ 3 p 1) := by
  intro k hk
  obtain ⟨h0, h1, h3, h2⟩ := h k hk
  refine ⟨by rw [mset_other (by omega), mset_other (by omega)]; exact h0, by rw [mset_other (by omega), mset_other (by omega)]; exact h1, ?_, fun ha => by rw [mset_other (by omega), mset_other (by omega)]; exact h2 ha⟩
  by_cases c : k = p
  · rw [c, mset_same, mset_same]
  · rw [mset_other (by omega), mset_other (by omega)]; exact h3
theorem simF.leave {go : Nat → Nat → Int32} {tm : Nat → Int32 → Int32} {w : Nat → Nat → Int32} {set : Int32} (hg : goOK go set) {a p n : Nat} (hn : n ≤ 7) (hp : p < 7) {σ τ : Mem} (h : simF a σ τ) : simF a (leaveS go tm w n set p σ) (leaveS go tm w n set p τ) := by
  have H : ∀ j, j ≤ n → simF a (lvH go tm set p j (mset σ 3 p 1)) (lvH go tm set p j (mset τ 3 p 1)) := by
    intro j
    induction j with
    | zero => exact fun _ => h.left p
    | succ j ih =>
      intro hj
      have ih := ih (by omega)
      show simF a (if bitB set (nI j) = true ∧ ¬ go j p = -1 ∧ ¬ go j p = nI p then comeS (lvH go tm set p j (mset σ 3 p 1)) (go j p).toNatClampNeg (tm j (lvH go tm set p j (mset σ 3 p 1) 0 p)) (nI j) (nI p) else lvH go tm set p j (mset σ 3 p 1)) (if bitB set (nI j) = true ∧ ¬ go j p = -1 ∧ ¬ go j p = nI p then comeS (lvH go tm set p j (mset τ 3 p 1)) (go j p).toNatClampNeg (tm j (lvH go tm set p j (mset τ 3 p 1) 0 p)) (nI j) (nI p) else lvH go tm set p j (mset τ 3 p 1))
      split
      · rename_i c
        rcases hg j (by omega) c.1 p hp with e | ⟨q, hq, e⟩
        · exact absurd e c.2.1
        · rw [e, ix_nI (by omega), (ih p hp).1]
          exact ih.come hq _ _ _
      · exact ih
  have F : ∀ j, j ≤ 7 → simF a (lvF w p j (lvH go tm set p n (mset σ 3 p 1))) (lvF w p j (lvH go tm set p n (mset τ 3 p 1))) := by
    intro j
    induction j with
    | zero => exact fun _ => H n (Nat.le_refl n)
    | succ j ih =>
      intro hj
      have ih := ih (by omega)
      show simF a (if ¬ j = p then comeS (lvF w p j (lvH go tm set p n (mset σ 3 p 1))) j (lvF w p j (lvH go tm set p n (mset σ 3 p 1)) 0 p + w p j) 7 (nI p) else lvF w p j (lvH go tm set p n (mset σ 3 p 1))) (if ¬ j = p then comeS (lvF w p j (lvH go tm set p n (mset τ 3 p 1))) j (lvF w p j (lvH go tm set p n (mset τ 3 p 1)) 0 p + w p j) 7 (nI p) else lvF w p j (lvH go tm set p n (mset τ 3 p 1)))
      split
      · rw [(ih p hp).1]
        exact ih.come (by omega) _ _ _
      · exact ih
  exact F 7 (Nat.le_refl 7)
theorem simF.pick {a : Nat} {σ τ : Mem} (h : simF a σ τ) : ∀ k, k ≤ 7 → pickS σ k = pickS τ k := by
  intro k
  induction k with
  | zero => intro _; rfl
  | succ k ih =>
    intro hk
    have ih := ih (by omega)
    have er := pickS_range (σ := τ) k
    show (if σ 3 k = 0 ∧ (pickS σ k = -1 ∨ σ 0 k < σ 0 (pickS σ k).toNatClampNeg) then nI k else pickS σ k) = if τ 3 k = 0 ∧ (pickS τ k = -1 ∨ τ 0 k < τ 0 (pickS τ k).toNatClampNeg) then nI k else pickS τ k
    rw [ih, (h k (by omega)).2.2.1, (h k (by omega)).1]
    rcases er with e | ⟨p, hp, e, -⟩
    · simp only [e, true_or, and_true]
    · rw [e, ix_nI (by omega), (h p (by omega)).1]
theorem Inv.sim {w : Nat → Nat → Int32} {a : Nat} (ha : a < 7) {σ τ : Mem} (h : Inv w a σ) (hs : simF a σ τ) : Inv w a τ := by
  obtain ⟨h1, h2, h3, h4, h5⟩ := h
  have e0 : ∀ k, k < 7 → τ 0 k = σ 0 k := fun k hk => (hs k hk).1.symm
  have e1 : ∀ k, k < 7 → τ 1 k = σ 1 k := fun k hk => (hs k hk).2.1.symm
  have e3 : ∀ k, k < 7 → τ 3 k = σ 3 k := fun k hk => (hs k hk).2.2.1.symm
  refine ⟨fun k hk => by rw [e0 k hk]; exact h1 k hk, by rw [e0 a ha, e1 a ha, e3 a ha]; exact h2, fun k hk hka => ?_, fun k hk => by rw [e3 k hk]; exact h4 k hk, fun l u hl hu => by rw [e3 l hl, e3 u hu, e0 l hl, e0 u hu]; exact h5 l u hl hu⟩
  obtain ⟨b1, q, b2, b3, b4, b5, b6⟩ := h3 k hk hka
  refine ⟨by rw [e1 k hk]; exact b1, q, b2, by rw [← (hs k hk).2.2.2 hka]; exact b3, by rw [e3 q b2]; exact b4, by rw [e0 q b2, e0 k hk]; exact b5, fun z => ?_⟩
  rw [e1 k hk] at z
  rw [e0 q b2, e0 k hk]
  exact b6 z
theorem cntL_sim {a : Nat} {σ τ : Mem} (hs : simF a σ τ) : cntL σ = cntL τ := cntF_eq 7 (fun u hu => by unfold lftB; rw [(hs u hu).2.2.1])
theorem simF.full {go : Nat → Nat → Int32} {tm : Nat → Int32 → Int32} {w : Nat → Nat → Int32} {set : Int32} (hE : envG go tm w set) {a n : Nat} (ha : a < 7) (hn : n ≤ 7) : ∀ f (σ τ : Mem), Inv w a σ → cntL σ + f = 7 → simF a σ τ → simF a (fullR go tm w n set f σ) (fullR go tm w n set f τ) := by
  intro f
  induction f with
  | zero => intro σ τ _ _ h; exact h
  | succ f ih =>
    intro σ τ h hc hs
    obtain ⟨p, e, hp⟩ := pick_some ha h (by omega)
    have hj := Jv.leave hE hn h hp
    have hi := hj.inv h hp
    have hcn := cnt_leave hp hj
    have ep := hs.pick 7 (Nat.le_refl 7)
    show simF a (fullR go tm w n set f (leaveS go tm w n set (pickS σ 7).toNatClampNeg σ)) (fullR go tm w n set f (leaveS go tm w n set (pickS τ 7).toNatClampNeg τ))
    rw [← ep, e, ix_nI (by have := hp.1; omega)]
    exact ih _ _ hi (by omega) (hs.leave hE.1 hn hp.1)
theorem full_out {go : Nat → Nat → Int32} {tm : Nat → Int32 → Int32} {w : Nat → Nat → Int32} {set : Int32} (hE : envG go tm w set) {a n : Nat} (ha : a < 7) (hn : n ≤ 7) {f : Nat} {τ : Mem} (h : Inv w a τ) (hc : cntL τ + f = 7) (ho : τ 2 a = -1) : (fullR go tm w n set f τ) 2 a = -1 := ((full_keep hE ha hn f τ h hc).2 a ha h.2.1.2.2).2.2.trans ho
/-- stopping at a place: it and what was left ahead of it are told as without a stop -/
theorem stop_full {go : Nat → Nat → Int32} {tm : Nat → Int32 → Int32} {w : Nat → Nat → Int32} {set : Int32} (hE : envG go tm w set) {a b n : Nat} (ha : a < 7) (hb : b < 7) (hn : n ≤ 7) : ∀ f (σ τ : Mem), Inv w a σ → cntL σ + f = 7 → simF a σ τ → σ 3 b = 0 → Inv w a (stopRun go tm w n set (nI b) f σ) ∧ ∀ k, k < 7 → ((stopRun go tm w n set (nI b) f σ) 3 k = 1 ∨ k = b) → (stopRun go tm w n set (nI b) f σ) 0 k = (fullR go tm w n set f τ) 0 k ∧ (stopRun go tm w n set (nI b) f σ) 1 k = (fullR go tm w n set f τ) 1 k ∧ (k ≠ a → (stopRun go tm w n set (nI b) f σ) 2 k = (fullR go tm w n set f τ) 2 k) := by
  intro f
  induction f with
  | zero =>
    intro σ τ h hc hs hl
    exfalso
    have := cntF_lt (b := lftB σ) (u := b) (by unfold lftB; rw [hl]; rfl) 7 hb
    unfold cntL at hc
    omega
  | succ f ih =>
    intro σ τ h hc hs hl
    obtain ⟨p, e, hp⟩ := pick_some ha h (by omega)
    have hj := Jv.leave hE hn h hp
    have hi := hj.inv h hp
    have hcn := cnt_leave hp hj
    have hp7 := hp.1
    have es : stopRun go tm w n set (nI b) (f + 1) σ = if pickS σ 7 = nI b ∨ pickS σ 7 = -1 then σ else stopRun go tm w n set (nI b) f (leaveS go tm w n set (pickS σ 7).toNatClampNeg σ) := rfl
    rw [es, e]
    have hf := simF.full hE ha hn (f + 1) σ τ h (by omega) hs
    by_cases c : p = b
    · subst c
      rw [if_pos (Or.inl rfl)]
      refine ⟨h, fun k hk hkl => ?_⟩
      have hk2 : (fullR go tm w n set (f + 1) σ) 0 k = σ 0 k ∧ (fullR go tm w n set (f + 1) σ) 1 k = σ 1 k ∧ (fullR go tm w n set (f + 1) σ) 2 k = σ 2 k := by
        have ef : fullR go tm w n set (f + 1) σ = fullR go tm w n set f (leaveS go tm w n set p σ) := by
          show fullR go tm w n set f (leaveS go tm w n set (pickS σ 7).toNatClampNeg σ) = _
          rw [e, ix_nI (by omega)]
        rw [ef]
        have hl2 : (leaveS go tm w n set p σ) 3 k = 1 := by
          rw [hj.2.1 k hk]
          rcases hkl with q | q
          · rw [q]; split <;> rfl
          · rw [if_pos q]
        obtain ⟨q1, q2, q3⟩ := (full_keep hE ha hn f _ hi (by omega)).2 k hk hl2
        obtain ⟨r1, r2, r3⟩ := hj.2.2.1 k hk hkl
        exact ⟨q1.trans r1, q2.trans r2, q3.trans r3⟩
      obtain ⟨s1, s2, s3, s4⟩ := hf k hk
      exact ⟨hk2.1.symm.trans s1, hk2.2.1.symm.trans s2, fun z => hk2.2.2.symm.trans (s4 z)⟩
    · rw [if_neg (fun q => q.elim (fun z => c ((nI_eq (by omega) (by omega)).mp z)) (nI_m (by omega))), ix_nI (by omega)]
      have ef : fullR go tm w n set (f + 1) τ = fullR go tm w n set f (leaveS go tm w n set p τ) := by
        show fullR go tm w n set f (leaveS go tm w n set (pickS τ 7).toNatClampNeg τ) = _
        rw [← hs.pick 7 (Nat.le_refl 7), e, ix_nI (by omega)]
      rw [ef]
      refine ih _ _ hi (by omega) (hs.leave hE.1 hn hp7) ?_
      rw [hj.2.1 b hb, if_neg (fun z => c z.symm)]
      exact hl
theorem stop_all {go : Nat → Nat → Int32} {tm : Nat → Int32 → Int32} {w : Nat → Nat → Int32} {set : Int32} (hE : envG go tm w set) {a n : Nat} (ha : a < 7) (hn : n ≤ 7) : ∀ f (σ : Mem), Inv w a σ → cntL σ + f = 7 → stopRun go tm w n set (-1) f σ = fullR go tm w n set f σ := by
  intro f
  induction f with
  | zero => intro σ _ _; rfl
  | succ f ih =>
    intro σ h hc
    obtain ⟨p, e, hp⟩ := pick_some ha h (by omega)
    have hj := Jv.leave hE hn h hp
    have hi := hj.inv h hp
    have hcn := cnt_leave hp hj
    have hp7 := hp.1
    show (if pickS σ 7 = -1 ∨ pickS σ 7 = -1 then σ else stopRun go tm w n set (-1) f (leaveS go tm w n set (pickS σ 7).toNatClampNeg σ)) = fullR go tm w n set f (leaveS go tm w n set (pickS σ 7).toNatClampNeg σ)
    rw [e, if_neg (fun q => q.elim (nI_m (by omega)) (nI_m (by omega))), ix_nI (by omega)]
    exact ih _ hi (by omega)
/-! the first leaving, from both beginnings -/
def visP (w : Nat → Nat → Int32) (a : Nat) (σ τ : Mem) (k : Nat) : Prop := ∃ s, 1 ≤ s ∧ s ≤ 3000 ∧ σ 0 k = nI s ∧ τ 0 k = nI s ∧ σ 2 k = nI a ∧ τ 2 k = nI a ∧ σ 1 k = τ 1 k ∧ wayOK (σ 1 k) ∧ (σ 1 k = 7 → nI s = w a k)
def P0 (w : Nat → Nat → Int32) (a : Nat) (σ τ : Mem) : Prop := (∀ k, k < 7 → σ 3 k = (if k = a then 1 else 0) ∧ τ 3 k = (if k = a then 1 else 0)) ∧ (σ 0 a = 0 ∧ τ 0 a = 0 ∧ σ 1 a = -1 ∧ τ 1 a = -1 ∧ τ 2 a = -1) ∧ ∀ k, k < 7 → k ≠ a → (σ 0 k = 1000000000 ∧ τ 0 k = 2000000000) ∨ visP w a σ τ k
theorem P0.lt {w : Nat → Nat → Int32} {a q t : Nat} {σ τ : Mem} (h : P0 w a σ τ) (hq : q < 7) (hqa : q ≠ a) (ht : t ≤ 3000) : nI t < σ 0 q ↔ nI t < τ 0 q := by
  rcases h.2.2 q hq hqa with ⟨e1, e2⟩ | ⟨s, -, -, e1, e2, -⟩
  · rw [e1, e2]
    exact ⟨fun _ => nI_lt (b := 2000000000) (by omega) (by omega), fun _ => nI_lt (b := 1000000000) (by omega) (by omega)⟩
  · rw [e1, e2]
theorem P0.come {w : Nat → Nat → Int32} {a q t : Nat} {σ τ : Mem} {way : Int32} (h : P0 w a σ τ) (hq : q < 7) (hqa : q ≠ a) (h1 : 1 ≤ t) (h2 : t ≤ 3000) (hw : wayOK way) (hw7 : way = 7 → nI t = w a q) : P0 w a (comeS σ q (nI t) way (nI a)) (comeS τ q (nI t) way (nI a)) := by
  have hlt := h.lt hq hqa h2
  by_cases c : nI t < σ 0 q
  · obtain ⟨a0, a1, a2⟩ := comeS_at (w := way) (f := nI a) c
    obtain ⟨b0, b1, b2⟩ := comeS_at (w := way) (f := nI a) (hlt.mp c)
    have ne : ∀ (υ : Mem) r k, (k ≠ q ∨ 3 ≤ r) → comeS υ q (nI t) way (nI a) r k = υ r k := fun υ r k hr => comeS_ne hr
    refine ⟨fun k hk => ?_, ?_, fun k hk hka => ?_⟩
    · rw [ne σ 3 k (Or.inr (by omega)), ne τ 3 k (Or.inr (by omega))]; exact h.1 k hk
    · rw [ne σ 0 a (Or.inl (by omega)), ne τ 0 a (Or.inl (by omega)), ne σ 1 a (Or.inl (by omega)), ne τ 1 a (Or.inl (by omega)), ne τ 2 a (Or.inl (by omega))]; exact h.2.1
    · by_cases ck : k = q
      · subst ck
        refine Or.inr ⟨t, h1, h2, a0, b0, a2, b2, a1.trans b1.symm, by rw [a1]; exact hw, fun z => hw7 (a1.symm.trans z)⟩
      · unfold visP
        rw [ne σ 0 k (Or.inl ck), ne τ 0 k (Or.inl ck), ne σ 1 k (Or.inl ck), ne τ 1 k (Or.inl ck), ne σ 2 k (Or.inl ck), ne τ 2 k (Or.inl ck)]
        exact h.2.2 k hk hka
  · rw [comeS_no c, comeS_no (fun z => c (hlt.mpr z))]
    exact h
theorem first_leave {go : Nat → Nat → Int32} {tm : Nat → Int32 → Int32} {w : Nat → Nat → Int32} {set : Int32} (hE : envG go tm w set) {a n : Nat} (ha : a < 7) (hn : n ≤ 7) (z : Mem) : Inv w a (leaveS go tm w n set a (initS 1000000000 (nI a) a z)) ∧ simF a (leaveS go tm w n set a (initS 1000000000 (nI a) a z)) (leaveS go tm w n set a (initS 2000000000 (-1) a z)) ∧ (leaveS go tm w n set a (initS 2000000000 (-1) a z)) 2 a = -1 ∧ cntL (leaveS go tm w n set a (initS 1000000000 (nI a) a z)) = 1 ∧ ∀ k, k < 7 → (leaveS go tm w n set a (initS 1000000000 (nI a) a z)) 3 k = if k = a then 1 else 0 := by
  have S : P0 w a (mset (initS 1000000000 (nI a) a z) 3 a 1) (mset (initS 2000000000 (-1) a z) 3 a 1) := by
    refine ⟨fun k hk => ?_, ?_, fun k hk hka => Or.inl ?_⟩
    · by_cases c : k = a
      · rw [c, mset_same, mset_same, if_pos rfl]
        exact ⟨rfl, rfl⟩
      · rw [mset_other (by omega), mset_other (by omega), if_neg c]
        constructor <;> simp [initS, hk]
    · rw [mset_other (by omega), mset_other (by omega), mset_other (by omega), mset_other (by omega), mset_other (by omega)]
      unfold initS
      simp [ha]
    · rw [mset_other (by omega), mset_other (by omega)]
      unfold initS
      simp [hk, hka]
  have H : ∀ j, j ≤ n → P0 w a (lvH go tm set a j (mset (initS 1000000000 (nI a) a z) 3 a 1)) (lvH go tm set a j (mset (initS 2000000000 (-1) a z) 3 a 1)) := by
    intro j
    induction j with
    | zero => exact fun _ => S
    | succ j ih =>
      intro hj
      have ih := ih (by omega)
      generalize eσ : lvH go tm set a j (mset (initS 1000000000 (nI a) a z) 3 a 1) = σ at ih
      generalize eτ : lvH go tm set a j (mset (initS 2000000000 (-1) a z) 3 a 1) = τ at ih
      show P0 w a (if bitB set (nI j) = true ∧ ¬ go j a = -1 ∧ ¬ go j a = nI a then comeS (lvH go tm set a j (mset (initS 1000000000 (nI a) a z) 3 a 1)) (go j a).toNatClampNeg (tm j (lvH go tm set a j (mset (initS 1000000000 (nI a) a z) 3 a 1) 0 a)) (nI j) (nI a) else lvH go tm set a j (mset (initS 1000000000 (nI a) a z) 3 a 1)) (if bitB set (nI j) = true ∧ ¬ go j a = -1 ∧ ¬ go j a = nI a then comeS (lvH go tm set a j (mset (initS 2000000000 (-1) a z) 3 a 1)) (go j a).toNatClampNeg (tm j (lvH go tm set a j (mset (initS 2000000000 (-1) a z) 3 a 1) 0 a)) (nI j) (nI a) else lvH go tm set a j (mset (initS 2000000000 (-1) a z) 3 a 1))
      rw [eσ, eτ]
      split
      · rename_i c
        rcases hE.1 j (by omega) c.1 a ha with e | ⟨q, hq, e⟩
        · exact absurd e c.2.1
        · have hqp : q ≠ a := fun z => c.2.2 (by rw [e, z])
          obtain ⟨t, e2, h1, h2⟩ := hE.2.1 j (by omega) c.1 0 (by omega)
          have e2 : tm j 0 = nI t := e2
          rw [ih.2.1.1, ih.2.1.2.1, e, ix_nI (by omega), e2]
          exact ih.come hq hqp (by omega) h2 (Or.inr ⟨j, by omega, rfl⟩) (fun z => absurd ((nI_eq (b := 7) (by omega) (by omega)).mp z) (by omega))
      · exact ih
  have F : ∀ j, j ≤ 7 → P0 w a (lvF w a j (lvH go tm set a n (mset (initS 1000000000 (nI a) a z) 3 a 1))) (lvF w a j (lvH go tm set a n (mset (initS 2000000000 (-1) a z) 3 a 1))) ∧ ∀ k, k < j → k ≠ a → ∃ s, s ≤ 999 ∧ (lvF w a j (lvH go tm set a n (mset (initS 1000000000 (nI a) a z) 3 a 1))) 0 k = nI s := by
    intro j
    induction j with
    | zero => exact fun _ => ⟨H n (Nat.le_refl n), fun k hk => absurd hk (Nat.not_lt_zero k)⟩
    | succ j ih =>
      intro hj
      obtain ⟨ip, ih2⟩ := ih (by omega)
      clear ih
      generalize eσ : lvF w a j (lvH go tm set a n (mset (initS 1000000000 (nI a) a z) 3 a 1)) = σ at ip ih2
      generalize eτ : lvF w a j (lvH go tm set a n (mset (initS 2000000000 (-1) a z) 3 a 1)) = τ at ip
      have e1 : lvF w a (j + 1) (lvH go tm set a n (mset (initS 1000000000 (nI a) a z) 3 a 1)) = if ¬ j = a then comeS σ j (σ 0 a + w a j) 7 (nI a) else σ := by
        rw [← eσ]
        rfl
      have e2 : lvF w a (j + 1) (lvH go tm set a n (mset (initS 2000000000 (-1) a z) 3 a 1)) = if ¬ j = a then comeS τ j (τ 0 a + w a j) 7 (nI a) else τ := by
        rw [← eτ]
        rfl
      rw [e1, e2]
      by_cases c : j = a
      · rw [if_neg (fun q => q c), if_neg (fun q => q c)]
        exact ⟨ip, fun k hk hka => ih2 k (by omega) hka⟩
      · rw [if_pos c, if_pos c]
        obtain ⟨v, v1, v2, ev⟩ := hE.2.2 a j ha (by omega) (fun z => c z.symm)
        rw [ip.2.1.1, ip.2.1.2.1, ev, Int32.zero_add]
        refine ⟨ip.come (by omega) c v1 (by omega) (Or.inl rfl) (fun _ => ev.symm), fun k hk hka => ?_⟩
        by_cases ck : k = j
        · subst ck
          by_cases cl : nI v < σ 0 k
          · exact ⟨v, v2, (comeS_at cl).1⟩
          · rw [comeS_no cl]
            rcases ip.2.2 k (by omega) hka with ⟨q1, -⟩ | ⟨s, s1, s2, q1, -⟩
            · rw [q1] at cl
              exact absurd (nI_lt (b := 1000000000) (by omega) (by omega)) cl
            · rw [q1] at cl
              exact ⟨s, by have := Nat.not_lt.mp (fun q => cl (nI_lt q (by omega))); omega, q1⟩
        · rw [comeS_ne (Or.inl ck)]
          exact ih2 k (by omega) hka
  obtain ⟨hP, h9⟩ := F 7 (Nat.le_refl 7)
  have hP : P0 w a (leaveS go tm w n set a (initS 1000000000 (nI a) a z)) (leaveS go tm w n set a (initS 2000000000 (-1) a z)) := hP
  have h9 : ∀ k, k < 7 → k ≠ a → ∃ s, s ≤ 999 ∧ (leaveS go tm w n set a (initS 1000000000 (nI a) a z)) 0 k = nI s := h9
  generalize leaveS go tm w n set a (initS 1000000000 (nI a) a z) = σ at hP h9 ⊢
  generalize leaveS go tm w n set a (initS 2000000000 (-1) a z) = τ at hP ⊢
  obtain ⟨p3, ⟨q1, q2, q3, q4, q5⟩, pv⟩ := hP
  have vis : ∀ k, k < 7 → k ≠ a → visP w a σ τ k := fun k hk hka => by
    rcases pv k hk hka with ⟨e1, -⟩ | h
    · obtain ⟨s, hs, e⟩ := h9 k hk hka
      rw [e1] at e
      have e := (nI_eq (a := 1000000000) (by omega) (by omega)).mp e
      omega
    · exact h
  have s3a : σ 3 a = 1 := by rw [(p3 a ha).1, if_pos rfl]
  refine ⟨⟨fun k hk => ?_, ⟨q1, q3, s3a⟩, fun k hk hka => ?_, fun k hk => ?_, fun l u hl hu el eu => ?_⟩, fun k hk => ?_, q5, ?_, fun k hk => (p3 k hk).1⟩
  · by_cases c : k = a
    · rw [c, q1]; exact ⟨0, by omega, rfl⟩
    · exact h9 k hk c
  · obtain ⟨s, s1, s2, e0, e0', e2, e2', e1, hw, h7⟩ := vis k hk hka
    refine ⟨hw, a, ha, e2, s3a, ?_, fun z => ?_⟩
    · rw [q1, e0]; exact nI_lt (a := 0) (by omega) (by omega)
    · rw [e0, q1, Int32.zero_add]; exact h7 z
  · rw [(p3 k hk).1]
    split
    · exact Or.inr rfl
    · exact Or.inl rfl
  · rw [(p3 l hl).1] at el
    by_cases c : l = a
    · rw [c, q1]
      by_cases cu : u = a
      · rw [cu, q1]; exact Int32.le_refl _
      · obtain ⟨s, hs, e⟩ := h9 u hu cu
        rw [e]
        exact nI_pos' (by omega)
    · rw [if_neg c] at el
      exact absurd el (by decide)
  · by_cases c : k = a
    · subst c
      exact ⟨q1.trans q2.symm, q3.trans q4.symm, (p3 k hk).1.trans (p3 k hk).2.symm, fun z => absurd rfl z⟩
    · obtain ⟨s, s1, s2, e0, e0', e2, e2', e1, hw, h7⟩ := vis k hk c
      exact ⟨e0.trans e0'.symm, e1, (p3 k hk).1.trans (p3 k hk).2.symm, fun _ => e2.trans e2'.symm⟩
  · have := cntF_one (b := fun _ => false) (c := lftB σ) (p := a) rfl (by unfold lftB; rw [s3a]; rfl) 7 (fun u hu hua => by unfold lftB; rw [(p3 u hu).1, if_neg hua]; rfl)
    rw [if_pos ha] at this
    unfold cntL
    rw [this]
    rfl
theorem pick_init {nv bf : Int32} (hnv : 0 < nv) {a : Nat} (ha : a < 7) (z : Mem) : pickS (initS nv bf a z) 7 = nI a := by
  have e3 : ∀ k, k < 7 → initS nv bf a z 3 k = 0 := fun k hk => by simp [initS, hk]
  have e0 : ∀ k, k < 7 → initS nv bf a z 0 k = if k = a then 0 else nv := fun k hk => by simp [initS, hk]
  rcases pick_min (initS nv bf a z) 7 (Nat.le_refl 7) with ⟨-, h⟩ | ⟨p, hp, h1, h2, h3⟩
  · exact absurd (e3 0 (by omega)) (h 0 (by omega))
  · have h4 := h3 a ha (e3 a ha)
    rw [e0 p hp, e0 a ha, if_pos rfl] at h4
    by_cases c : p = a
    · rw [h1, c]
    · rw [if_neg c] at h4
      exact absurd hnv (Int32.not_lt.mpr h4)
