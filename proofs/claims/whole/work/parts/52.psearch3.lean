/-! ===== the reference's setting out over the abstract state ===== -/
theorem lvH_cut {go : Nat → Nat → Int32} {tm : Nat → Int32 → Int32} {set : Int32} {n p : Nat} (hs : setOK n set) (σ : Mem) : ∀ j, n ≤ j → j ≤ 7 → lvH go tm set p j σ = lvH go tm set p n σ := by
  intro j
  induction j with
  | zero => intro h _; rw [show n = 0 by omega]
  | succ j ih =>
    intro h1 h2
    by_cases c : n = j + 1
    · rw [c]
    · show (if bitB set (nI j) = true ∧ ¬ go j p = -1 ∧ ¬ go j p = nI p then comeS (lvH go tm set p j σ) (go j p).toNatClampNeg (tm j (lvH go tm set p j σ 0 p)) (nI j) (nI p) else lvH go tm set p j σ) = _
      rw [if_neg (fun q => absurd q.1 (by rw [hs j (by omega) (by omega)]; decide))]
      exact ih (by omega) (by omega)
theorem leave_cut {go : Nat → Nat → Int32} {tm : Nat → Int32 → Int32} {w : Nat → Nat → Int32} {set : Int32} {n p : Nat} (hs : setOK n set) (hn : n ≤ 7) (σ : Mem) : leaveS go tm w 7 set p σ = leaveS go tm w n set p σ := by
  unfold leaveS
  rw [lvH_cut hs _ 7 hn (Nat.le_refl 7)]
theorem stop_cut {go : Nat → Nat → Int32} {tm : Nat → Int32 → Int32} {w : Nat → Nat → Int32} {set stop : Int32} {n : Nat} (hs : setOK n set) (hn : n ≤ 7) : ∀ f (σ : Mem), stopRun go tm w 7 set stop f σ = stopRun go tm w n set stop f σ := by
  intro f
  induction f with
  | zero => intro σ; rfl
  | succ f ih =>
    intro σ
    unfold stopRun
    rw [leave_cut hs hn, ih]
theorem boundF_range {v : Int32} {lo hi : Nat} (h : lo ≤ hi) (hh : hi < 2 ^ 30) : ∃ x, lo ≤ x ∧ x ≤ hi ∧ boundF v (nI lo) (nI hi) = nI x := by
  have key : inB (boundF v (nI lo) (nI hi)) (nI lo) (nI hi) = true := by
    rw [inB_t]
    unfold boundF imax imin
    have hlh := nI_le h (by omega)
    by_cases c : nI hi < v
    · rw [if_pos c]
      by_cases d : nI lo < nI hi
      · rw [if_pos d]
        exact ⟨Int32.le_of_lt d, Int32.le_refl _⟩
      · rw [if_neg d]
        exact ⟨Int32.le_refl _, hlh⟩
    · rw [if_neg c]
      by_cases d : nI lo < v
      · rw [if_pos d]
        exact ⟨Int32.le_of_lt d, Int32.not_lt.mp c⟩
      · rw [if_neg d]
        exact ⟨Int32.le_refl _, hlh⟩
  exact inB_mid hh h key
theorem saidA_range (α : Mem) (h : Nat) : (∃ x, 1 ≤ x ∧ x ≤ 999 ∧ saidA α 0 h = nI x) ∧ (∃ x, 1 ≤ x ∧ x ≤ 999 ∧ saidA α 1 h = nI x) ∧ ∃ x, x ≤ 100 ∧ saidA α 2 h = nI x := by
  refine ⟨boundF_range (lo := 1) (hi := 999) (by omega) (by omega), boundF_range (lo := 1) (hi := 999) (by omega) (by omega), ?_⟩
  obtain ⟨x, -, h2, h3⟩ := boundF_range (v := valE (envA α h) (fun k => α 18 (160 * (3 * aL α + 2) + k)) (α 17 (3 * aL α + 2)).toNatClampNeg) (lo := 0) (hi := 100) (by omega) (by omega)
  exact ⟨x, h2, h3⟩
theorem imax_nI {a b : Nat} (ha : a < 2 ^ 30) (hb : b < 2 ^ 30) : imax (nI a) (nI b) = nI (max a b) := by
  unfold imax
  by_cases c : a < b
  · rw [if_pos (nI_lt c (by omega)), Nat.max_eq_right (by omega)]
  · rw [if_neg (nI_nlt (by omega) (by omega)), Nat.max_eq_left (by omega)]
theorem imin_nI {a b : Nat} (ha : a < 2 ^ 30) (hb : b < 2 ^ 30) : imin (nI a) (nI b) = nI (min a b) := by
  unfold imin
  by_cases c : b < a
  · rw [if_pos (nI_lt c (by omega)), Nat.min_eq_right (by omega)]
  · rw [if_neg (nI_nlt (by omega) (by omega)), Nat.min_eq_left (by omega)]
theorem outA_range {α : Mem} {h : Nat} (hw : wfH1 α h) : ∃ o, 1 ≤ o ∧ o ≤ 1008 ∧ outA α h = nI o := by
  obtain ⟨-, -, -, -, -, ⟨m, hm, em⟩, -⟩ := hw
  obtain ⟨x, x1, x2, ex⟩ := (saidA_range α h).1
  unfold outA outF
  rw [em, ex]
  split
  · exact ⟨x + m, by omega, by omega, nI_add x m⟩
  · split
    · rw [show (2 : Int32) = nI 2 from rfl, pk_div (by omega) (by omega) (by omega), show (1 : Int32) = nI 1 from rfl, imax_nI (by omega) (by omega)]
      exact ⟨max 1 (x / 2), by omega, by omega, rfl⟩
    · exact ⟨x, x1, by omega, rfl⟩
theorem envA_ok {α : Mem} (hf : WF α) {set : Int32} (hs : setOK (aN α) set) : envG (goA α) (tmA α) (wA α) set := by
  refine ⟨goA_ok hf.2.2.2.1 hs, fun h hh hb s hs9 => ?_, fun p q hp hq hpq => ?_⟩
  · have hn : h < aN α := by
      rcases Nat.lt_or_ge h (aN α) with q | q
      · exact q
      · rw [hs h q hh] at hb
        cases hb
    have hw := hf.2.2.2.1 h hn
    obtain ⟨o, o1, o2, eo⟩ := outA_range hw
    obtain ⟨-, -, -, -, -, -, r, hr, er⟩ := hw
    unfold tmA
    rw [er, eo, imax_nI (by omega) (by omega), nI_add]
    exact ⟨max s r + o, rfl, by omega, by omega⟩
  · obtain ⟨v, v1, v2, e1, -⟩ := hf.2.1 p q hp hq hpq
    refine ⟨v, v1, v2, ?_⟩
    unfold wA
    rw [if_pos hp]
    exact e1
/-- the reference's four rows behind setting out -/
def refS (α : Mem) (set : Int32) (a : Nat) : Mem := fullR (goA α) (tmA α) (wA α) (aN α) set 7 (initS 2000000000 (-1) a (fun _ _ => 0))
theorem refS_one {α : Mem} {set : Int32} {a : Nat} (ha : a < 7) : refS α set a = fullR (goA α) (tmA α) (wA α) (aN α) set 6 (leaveS (goA α) (tmA α) (wA α) (aN α) set a (initS 2000000000 (-1) a (fun _ _ => 0))) := by
  unfold refS
  show fullR (goA α) (tmA α) (wA α) (aN α) set 6 (leaveS (goA α) (tmA α) (wA α) (aN α) set (pickS (initS 2000000000 (-1) a (fun _ _ => 0)) 7).toNatClampNeg (initS 2000000000 (-1) a (fun _ _ => 0))) = _
  rw [pick_init (by decide) ha, ix_nI (by omega)]
theorem refS_inv {α : Mem} (hf : WF α) {set : Int32} (hs : setOK (aN α) set) {a : Nat} (ha : a < 7) : Inv (wA α) a (refS α set a) ∧ (refS α set a) 2 a = -1 := by
  have hE := envA_ok hf hs
  have hn := hf.1.1.2
  obtain ⟨i1, i2, i3, i4, i5⟩ := first_leave hE ha hn (fun _ _ => 0)
  have ic := cntL_sim i2
  have it := i1.sim ha i2
  rw [refS_one ha]
  exact ⟨(full_keep hE ha hn 6 _ it (by omega)).1, full_out hE ha hn it (by omega) i3⟩
theorem runA_one {α : Mem} (hf : WF α) {set stop : Int32} (hs : setOK (aN α) set) {a : Nat} (ha : a < 7) : runA α set stop a = if nI a = stop then initS 1000000000 (nI a) a (fun _ _ => 0) else stopRun (goA α) (tmA α) (wA α) (aN α) set stop 6 (leaveS (goA α) (tmA α) (wA α) (aN α) set a (initS 1000000000 (nI a) a (fun _ _ => 0))) := by
  unfold runA runV
  rw [stop_cut hs hf.1.1.2]
  show (if pickS (initS 1000000000 (nI a) a (fun _ _ => 0)) 7 = stop ∨ pickS (initS 1000000000 (nI a) a (fun _ _ => 0)) 7 = -1 then initS 1000000000 (nI a) a (fun _ _ => 0) else stopRun (goA α) (tmA α) (wA α) (aN α) set stop 6 (leaveS (goA α) (tmA α) (wA α) (aN α) set (pickS (initS 1000000000 (nI a) a (fun _ _ => 0)) 7).toNatClampNeg (initS 1000000000 (nI a) a (fun _ _ => 0)))) = _
  rw [pick_init (by decide) ha, ix_nI (by omega)]
  by_cases c : nI a = stop
  · rw [if_pos (Or.inl c), if_pos c]
  · rw [if_neg (fun q => q.elim c (nI_m (by omega))), if_neg c]
/-- without a stop the class tells what the reference does -/
theorem run_all {α : Mem} (hf : WF α) {set : Int32} (hs : setOK (aN α) set) {a : Nat} (ha : a < 7) : Inv (wA α) a (runA α set (-1) a) ∧ simF a (runA α set (-1) a) (refS α set a) := by
  have hE := envA_ok hf hs
  have hn := hf.1.1.2
  obtain ⟨i1, i2, i3, i4, i5⟩ := first_leave hE ha hn (fun _ _ => 0)
  rw [runA_one hf hs ha, if_neg (nI_m (by omega)), stop_all hE ha hn 6 _ i1 (by omega), refS_one ha]
  exact ⟨(full_keep hE ha hn 6 _ i1 (by omega)).1, simF.full hE ha hn 6 _ _ i1 (by omega) i2⟩
/-- what the class tells of a place it stopped at, and of those on the way there -/
def tellS (a b : Nat) (σ τ : Mem) : Prop := ∀ k, k < 7 → (σ 3 k = 1 ∨ k = b) → σ 0 k = τ 0 k ∧ σ 1 k = τ 1 k ∧ (k ≠ a → σ 2 k = τ 2 k)
theorem run_stop {α : Mem} (hf : WF α) {set : Int32} (hs : setOK (aN α) set) {a b : Nat} (ha : a < 7) (hb : b < 7) : (a = b ∨ Inv (wA α) a (runA α set (nI b) a)) ∧ tellS a b (runA α set (nI b) a) (refS α set a) := by
  have hE := envA_ok hf hs
  have hn := hf.1.1.2
  obtain ⟨i1, i2, i3, i4, i5⟩ := first_leave hE ha hn (fun _ _ => 0)
  obtain ⟨r1, r2⟩ := refS_inv hf hs ha
  by_cases c : a = b
  · subst c
    refine ⟨Or.inl rfl, ?_⟩
    rw [runA_one hf hs ha, if_pos rfl]
    intro k hk hkl
    have e3 : initS 1000000000 (nI a) a (fun _ _ => 0) 3 k = 0 := by simp [initS, hk]
    have hka : k = a := hkl.resolve_left (fun z => by rw [e3] at z; exact absurd z (by decide))
    subst hka
    refine ⟨?_, ?_, fun z => absurd rfl z⟩
    · rw [r1.2.1.1]; simp [initS, hk]
    · rw [r1.2.1.2.1]; simp [initS, hk]
  · have hne : ¬ nI a = nI b := fun z => c ((nI_eq (by omega) (by omega)).mp z)
    rw [runA_one hf hs ha, if_neg hne, refS_one ha]
    obtain ⟨s1, s2⟩ := stop_full hE ha hb hn 6 _ _ i1 (by omega) i2 (by rw [i5 b hb, if_neg (fun z => c z.symm)])
    exact ⟨Or.inr s1, s2⟩
theorem soon_ref {α : Mem} (hf : WF α) {set : Int32} (hs : setOK (aN α) set) {a b : Nat} (ha : a < 7) (hb : b < 7) : soonA α set a b = (refS α set a) 0 b := ((run_stop hf hs ha hb).2 b hb (Or.inr rfl)).1
/-! ways -/
theorem backL_tell {w : Nat → Nat → Int32} {a b : Nat} {σ τ : Mem} (hi : Inv w a σ) (ht : tellS a b σ τ) : ∀ f p, p < 7 → (σ 3 p = 1 ∨ p = b) → backL σ f p = backL τ f p ∧ ∀ x, x ∈ backL σ f p → x < 7 ∧ (σ 3 x = 1 ∨ x = b) ∧ x ≠ a := by
  intro f
  induction f with
  | zero => intro p _ _; exact ⟨rfl, fun x hx => absurd hx List.not_mem_nil⟩
  | succ f ih =>
    intro p hp hl
    obtain ⟨t0, t1, t2⟩ := ht p hp hl
    have e1 : backL σ (f + 1) p = if σ 1 p = -1 then [] else p :: backL σ f (σ 2 p).toNatClampNeg := rfl
    have e2 : backL τ (f + 1) p = if τ 1 p = -1 then [] else p :: backL τ f (τ 2 p).toNatClampNeg := rfl
    rw [e1, e2, t1]
    by_cases c : τ 1 p = -1
    · rw [if_pos c, if_pos c]
      exact ⟨rfl, fun x hx => absurd hx List.not_mem_nil⟩
    · have hpa : p ≠ a := fun z => by
        rw [← t1, z, hi.2.1.2.1] at c
        exact c rfl
      obtain ⟨-, q, hq, e, e3, -⟩ := hi.2.2.1 p hp hpa
      rw [if_neg c, if_neg c, ← t2 hpa, e, ix_nI (by omega)]
      obtain ⟨g1, g2⟩ := ih q hq (Or.inl e3)
      rw [g1]
      refine ⟨rfl, fun x hx => ?_⟩
      rcases List.mem_cons.mp hx with rfl | hx
      · exact ⟨hp, hl, hpa⟩
      · rw [← g1] at hx
        exact g2 x hx
def wlkS (w : Nat → Nat → Int32) (τ : Mem) (acc : Int32) (l : List Nat) : Int32 := l.foldl (fun acc p => if τ 1 p = 7 then acc + w (τ 2 p).toNatClampNeg p else acc) acc
theorem wayHs_tell {a b : Nat} {σ τ : Mem} (ht : tellS a b σ τ) : ∀ (l : List Nat) (acc : Int32), (∀ x, x ∈ l → x < 7 ∧ (σ 3 x = 1 ∨ x = b) ∧ x ≠ a) → wayHs σ acc l = wayHs τ acc l := by
  intro l
  induction l with
  | nil => intro acc _; rfl
  | cons p l ih =>
    intro acc h
    obtain ⟨h1, h2, h3⟩ := h p List.mem_cons_self
    show wayHs σ (if σ 1 p = 7 then acc else acc ||| (1 <<< (σ 1 p &&& 31))) l = wayHs τ (if τ 1 p = 7 then acc else acc ||| (1 <<< (τ 1 p &&& 31))) l
    rw [(ht p h1 h2).2.1]
    exact ih _ (fun x hx => h x (List.mem_cons_of_mem p hx))
theorem wayWs_tell {w : Nat → Nat → Int32} {a b : Nat} {σ τ : Mem} (hi : Inv w a σ) (ht : tellS a b σ τ) : ∀ (l : List Nat) (acc : Int32), (∀ x, x ∈ l → x < 7 ∧ (σ 3 x = 1 ∨ x = b) ∧ x ≠ a) → wayWs σ acc l = wlkS w τ acc l := by
  intro l
  induction l with
  | nil => intro acc _; rfl
  | cons p l ih =>
    intro acc h
    obtain ⟨h1, h2, h3⟩ := h p List.mem_cons_self
    obtain ⟨t0, t1, t2⟩ := ht p h1 h2
    show wayWs σ (if σ 1 p = 7 then acc + (σ 0 p - σ 0 (σ 2 p).toNatClampNeg) else acc) l = wlkS w τ (if τ 1 p = 7 then acc + w (τ 2 p).toNatClampNeg p else acc) l
    have e : (if σ 1 p = 7 then acc + (σ 0 p - σ 0 (σ 2 p).toNatClampNeg) else acc) = if τ 1 p = 7 then acc + w (τ 2 p).toNatClampNeg p else acc := by
      rw [t1]
      by_cases c : τ 1 p = 7
      · rw [if_pos c, if_pos c]
        obtain ⟨-, q, hq, e, e3, -, e6⟩ := hi.2.2.1 p h1 h3
        rw [← t2 h3, e, ix_nI (by omega), e6 (t1.trans c)]
        rw [Int32.add_comm (σ 0 q), Int32.add_sub_cancel]
      · rw [if_neg c, if_neg c]
    rw [e]
    exact ih _ (fun x hx => h x (List.mem_cons_of_mem p hx))
/-! how long a way may be -/
def rnkS (τ : Mem) (p : Nat) : Nat := cntF (fun k => decide (τ 0 k < τ 0 p)) 7
theorem rnkS_lt {τ : Mem} {p q : Nat} (hq : q < 7) (h : τ 0 q < τ 0 p) : rnkS τ q < rnkS τ p := cntF_strict (u := q) (decide_eq_false (fun z => Int32.lt_irrefl z)) (decide_eq_true h) 7 hq (fun v _ hv => decide_eq_true (Int32.lt_trans (of_decide_eq_true hv) h))
theorem rnkS_6 {τ : Mem} {p : Nat} (hp : p < 7) : rnkS τ p ≤ 6 := by
  have := cntF_lt (b := fun k => decide (τ 0 k < τ 0 p)) (u := p) (decide_eq_false (fun z => Int32.lt_irrefl z)) 7 hp
  unfold rnkS
  omega
theorem backL_a {w : Nat → Nat → Int32} {a : Nat} {τ : Mem} (hi : Inv w a τ) (f : Nat) : backL τ f a = [] := by
  cases f with
  | zero => rfl
  | succ f =>
    unfold backL
    rw [if_pos hi.2.1.2.1]
theorem backL_s {w : Nat → Nat → Int32} {a p : Nat} {τ : Mem} (hi : Inv w a τ) (hp : p < 7) (hpa : p ≠ a) (f : Nat) : ∃ q, q < 7 ∧ τ 2 p = nI q ∧ rnkS τ q < rnkS τ p ∧ backL τ (f + 1) p = p :: backL τ f q := by
  obtain ⟨h1, q, hq, e, e3, h5, -⟩ := hi.2.2.1 p hp hpa
  refine ⟨q, hq, e, rnkS_lt hq h5, ?_⟩
  show (if τ 1 p = -1 then [] else p :: backL τ f (τ 2 p).toNatClampNeg) = p :: backL τ f q
  rw [if_neg h1.ne, e, ix_nI (by omega)]
theorem backL_any {w : Nat → Nat → Int32} {a : Nat} {τ : Mem} (hi : Inv w a τ) : ∀ f g p, p < 7 → rnkS τ p ≤ f → rnkS τ p ≤ g → backL τ f p = backL τ g p := by
  intro f
  induction f with
  | zero =>
    intro g p hp h1 h2
    by_cases c : p = a
    · rw [c, backL_a hi, backL_a hi]
    · obtain ⟨q, -, -, h3, -⟩ := backL_s hi hp c 0
      omega
  | succ f ih =>
    intro g p hp h1 h2
    by_cases c : p = a
    · rw [c, backL_a hi, backL_a hi]
    · obtain ⟨q, hq, e, h3, h4⟩ := backL_s hi hp c f
      cases g with
      | zero => omega
      | succ g =>
        obtain ⟨q', hq', e', h3', h4'⟩ := backL_s hi hp c g
        have : q = q' := (nI_eq (by omega) (by omega)).mp (e.symm.trans e')
        subst this
        rw [h4, h4', ih g q hq (by omega) (by omega)]
theorem backL_rnk {w : Nat → Nat → Int32} {a : Nat} {τ : Mem} (hi : Inv w a τ) : ∀ f p, p < 7 → (backL τ f p).length ≤ rnkS τ p := by
  intro f
  induction f with
  | zero => intro p _; exact Nat.zero_le _
  | succ f ih =>
    intro p hp
    by_cases c : p = a
    · rw [c, backL_a hi]; exact Nat.zero_le _
    · obtain ⟨q, hq, e, h3, h4⟩ := backL_s hi hp c f
      rw [h4, List.length_cons]
      have := ih q hq
      omega
/-- the way back, step by step -/
theorem back_step {w : Nat → Nat → Int32} {a p : Nat} {τ : Mem} (hi : Inv w a τ) (hp : p < 7) (hpa : p ≠ a) : ∃ q, q < 7 ∧ τ 2 p = nI q ∧ rnkS τ q < rnkS τ p ∧ backL τ 7 p = p :: backL τ 7 q := by
  obtain ⟨q, hq, e, h3, h4⟩ := backL_s hi hp hpa 6
  have h6 := rnkS_6 (τ := τ) hp
  exact ⟨q, hq, e, h3, by rw [h4, backL_any hi 6 7 q hq (by omega) (by omega)]⟩
/-- the way's list in the reference's rows -/
def wayR (α : Mem) (set : Int32) (a b : Nat) : List Nat := backL (refS α set a) 7 b
theorem way_stop {α : Mem} (hf : WF α) {set : Int32} (hs : setOK (aN α) set) {a b : Nat} (ha : a < 7) (hb : b < 7) : backL (runA α set (nI b) a) 7 b = wayR α set a b ∧ wayHs (runA α set (nI b) a) 0 (wayR α set a b) = wayHs (refS α set a) 0 (wayR α set a b) ∧ wayWs (runA α set (nI b) a) 0 (wayR α set a b) = wlkS (wA α) (refS α set a) 0 (wayR α set a b) ∧ ∀ x, x ∈ wayR α set a b → pieceV (runA α set (nI b) a) x = pieceV (refS α set a) x ∧ x < 7 := by
  obtain ⟨h1, h2⟩ := run_stop hf hs ha hb
  obtain ⟨r1, r2⟩ := refS_inv hf hs ha
  unfold wayR
  generalize runA α set (nI b) a = σ at h1 h2 ⊢
  generalize refS α set a = τ at h2 r1 r2 ⊢
  by_cases c : a = b
  · subst c
    have e : backL σ 7 a = [] := by
      show (if σ 1 a = -1 then [] else a :: backL σ 6 (σ 2 a).toNatClampNeg) = ([] : List Nat)
      rw [(h2 a ha (Or.inr rfl)).2.1, if_pos r1.2.1.2.1]
    rw [e, backL_a r1]
    exact ⟨rfl, rfl, rfl, fun x hx => absurd hx List.not_mem_nil⟩
  · have hi := h1.resolve_left c
    obtain ⟨g1, g2⟩ := backL_tell hi h2 7 b hb (Or.inr rfl)
    rw [← g1]
    exact ⟨rfl, wayHs_tell h2 _ _ g2, wayWs_tell hi h2 _ _ g2, fun x hx => by
      obtain ⟨q1, q2, q3⟩ := g2 x hx
      unfold pieceV
      rw [(h2 x q1 q2).2.1]
      exact ⟨rfl, q1⟩⟩
theorem way_all {α : Mem} (hf : WF α) {set : Int32} (hs : setOK (aN α) set) {a b : Nat} (ha : a < 7) (hb : b < 7) : wayHs (runA α set (-1) a) 0 (backL (runA α set (-1) a) 7 b) = wayHs (refS α set a) 0 (wayR α set a b) := by
  obtain ⟨h1, h2⟩ := run_all hf hs ha
  unfold wayR
  generalize runA α set (-1) a = σ at h1 h2 ⊢
  generalize refS α set a = τ at h2 ⊢
  have key : ∀ f p, p < 7 → backL (σ) f p = backL (τ) f p ∧ ∀ x, x ∈ backL (σ) f p → x < 7 := by
    intro f
    induction f with
    | zero => intro p _; exact ⟨rfl, fun x hx => absurd hx List.not_mem_nil⟩
    | succ f ih =>
      intro p hp
      by_cases c : p = a
      · rw [c, backL_a h1, backL_a (h1.sim ha h2)]
        exact ⟨rfl, fun x hx => absurd hx List.not_mem_nil⟩
      · obtain ⟨q, hq, e, -, e2⟩ := backL_s h1 hp c f
        obtain ⟨q', hq', e', -, e2'⟩ := backL_s (h1.sim ha h2) hp c f
        have : q = q' := (nI_eq (by omega) (by omega)).mp (e.symm.trans (((h2 p hp).2.2.2 c).trans e'))
        subst this
        rw [e2, e2', (ih q hq).1]
        refine ⟨rfl, fun x hx => ?_⟩
        rcases List.mem_cons.mp hx with rfl | hx
        · exact hp
        · rw [← (ih q hq).1] at hx
          exact (ih q hq).2 x hx
  obtain ⟨k1, k2⟩ := key 7 b hb
  rw [k1]
  rw [k1] at k2
  have ws : ∀ (l : List Nat) (acc : Int32), (∀ x, x ∈ l → x < 7) → wayHs (σ) acc l = wayHs (τ) acc l := by
    intro l
    induction l with
    | nil => intro acc _; rfl
    | cons p l ih =>
      intro acc h
      show wayHs (σ) (if σ 1 p = 7 then acc else acc ||| (1 <<< (σ 1 p &&& 31))) l = wayHs (τ) (if τ 1 p = 7 then acc else acc ||| (1 <<< (τ 1 p &&& 31))) l
      rw [(h2 p (h p List.mem_cons_self)).2.1]
      exact ih _ (fun x hx => h x (List.mem_cons_of_mem p hx))
  exact ws _ _ k2
theorem refS_lt {α : Mem} (hf : WF α) {set : Int32} (hs : setOK (aN α) set) {a : Nat} (ha : a < 7) {k : Nat} (hk : k < 7) : ∃ s, s ≤ 999 ∧ (refS α set a) 0 k = nI s := (refS_inv hf hs ha).1.1 k hk
theorem wayR_lt {α : Mem} (hf : WF α) {set : Int32} (hs : setOK (aN α) set) {a b : Nat} (ha : a < 7) (hb : b < 7) : ∀ x, x ∈ wayR α set a b → x < 7 := fun x hx => ((way_stop hf hs ha hb).2.2.2 x hx).2
theorem wayR_len {α : Mem} (hf : WF α) {set : Int32} (hs : setOK (aN α) set) {a b : Nat} (ha : a < 7) (hb : b < 7) : (wayR α set a b).length ≤ 6 := Nat.le_trans (backL_rnk (refS_inv hf hs ha).1 7 b hb) (rnkS_6 hb)
