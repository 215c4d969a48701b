/-! ===== setting out: soonest first, over four rows (soon, by, before, left) ===== -/
def get4 (β : Nat) (μ : Mem) : Mem := fun r k => μ (β + r) k
def put4 (β : Nat) (μ σ : Mem) : Mem := fun a k => if β ≤ a ∧ a < β + 4 then σ (a - β) k else μ a k
def comeS (σ : Mem) (q : Nat) (at_ way from_ : Int32) : Mem := if at_ < σ 0 q then mset (mset (mset σ 0 q at_) 1 q way) 2 q from_ else σ
def lvH (go : Nat → Nat → Int32) (tm : Nat → Int32 → Int32) (set : Int32) (p : Nat) : Nat → Mem → Mem
  | 0, σ => σ
  | h + 1, σ => if bitB set (nI h) = true ∧ ¬ go h p = -1 ∧ ¬ go h p = nI p then comeS (lvH go tm set p h σ) (go h p).toNatClampNeg (tm h (lvH go tm set p h σ 0 p)) (nI h) (nI p) else lvH go tm set p h σ
def lvF (w : Nat → Nat → Int32) (p : Nat) : Nat → Mem → Mem
  | 0, σ => σ
  | k + 1, σ => if ¬ k = p then comeS (lvF w p k σ) k (lvF w p k σ 0 p + w p k) 7 (nI p) else lvF w p k σ
def leaveS (go : Nat → Nat → Int32) (tm : Nat → Int32 → Int32) (w : Nat → Nat → Int32) (n : Nat) (set : Int32) (p : Nat) (σ : Mem) : Mem := lvF w p 7 (lvH go tm set p n (mset σ 3 p 1))
def pickS (σ : Mem) : Nat → Int32
  | 0 => -1
  | k + 1 => if σ 3 k = 0 ∧ (pickS σ k = -1 ∨ σ 0 k < σ 0 (pickS σ k).toNatClampNeg) then nI k else pickS σ k
def initS (nv bf : Int32) (a : Nat) (σ : Mem) : Mem := fun r k => if k < 7 then (match r with
  | 0 => if k = a then 0 else nv
  | 1 => -1
  | 2 => bf
  | 3 => 0
  | _ => σ r k) else σ r k
def stopRun (go : Nat → Nat → Int32) (tm : Nat → Int32 → Int32) (w : Nat → Nat → Int32) (n : Nat) (set stop : Int32) : Nat → Mem → Mem
  | 0, σ => σ
  | f + 1, σ => if pickS σ 7 = stop ∨ pickS σ 7 = -1 then σ else stopRun go tm w n set stop f (leaveS go tm w n set (pickS σ 7).toNatClampNeg σ)
theorem get_put4 {β : Nat} {μ σ : Mem} {r : Nat} (h : r < 4) : get4 β (put4 β μ σ) r = σ r := by
  funext k
  unfold get4 put4
  rw [if_pos (by omega), Nat.add_sub_cancel_left]
theorem put4_in {β : Nat} {μ σ : Mem} {r : Nat} (h : r < 4) : put4 β μ σ (β + r) = σ r := get_put4 h
theorem put4_out {β : Nat} {μ σ : Mem} {a : Nat} (h : ¬ (β ≤ a ∧ a < β + 4)) : put4 β μ σ a = μ a := by
  funext k
  exact if_neg h
theorem put4_put4 {β : Nat} {μ σ τ : Mem} : put4 β (put4 β μ σ) τ = put4 β μ τ := by
  funext a k
  unfold put4
  split <;> rfl
theorem put4_get4 {β : Nat} {μ : Mem} : put4 β μ (get4 β μ) = μ := by
  funext a k
  unfold put4 get4
  split
  · rw [show β + (a - β) = a by omega]
  · rfl
theorem mset_put4 {β : Nat} {μ σ : Mem} {r k : Nat} {x : Int32} (h : r < 4) : mset (put4 β μ σ) (β + r) k x = put4 β μ (mset σ r k x) := by
  funext a j
  unfold mset put4
  by_cases e : β ≤ a ∧ a < β + 4
  · simp only [e, and_self, if_true]
    by_cases e2 : a = β + r
    · subst e2
      simp
    · rw [if_neg (fun q => e2 q.1), if_neg (fun q => e2 (by omega))]
  · rw [if_neg e, if_neg (fun q => e (by omega)), if_neg e]
theorem put4_congr {β : Nat} {μ σ τ : Mem} (h : ∀ r, r < 4 → σ r = τ r) : put4 β μ σ = put4 β μ τ := by
  funext a k
  unfold put4
  split
  · rename_i q
    rw [h (a - β) (by omega)]
  · rfl
/-- a step of coming, on rows of the heap -/
theorem come_put4 {β : Nat} {μ σ : Mem} {q : Nat} {t w f : Int32} : (if t < put4 β μ σ β q then mset (mset (mset (put4 β μ σ) β q t) (β + 1) q w) (β + 2) q f else put4 β μ σ) = put4 β μ (comeS σ q t w f) := by
  have e0 : put4 β μ σ β = σ 0 := put4_in (r := 0) (by omega)
  unfold comeS
  rw [e0]
  split
  · have a1 := mset_put4 (β := β) (μ := μ) (σ := σ) (r := 0) (k := q) (x := t) (by omega)
    rw [Nat.add_zero] at a1
    rw [a1, mset_put4 (by omega), mset_put4 (by omega)]
  · rfl
theorem pickS_range {σ : Mem} : ∀ k, pickS σ k = -1 ∨ ∃ p, p < k ∧ pickS σ k = nI p ∧ σ 3 p = 0 := by
  intro k
  induction k with
  | zero => exact Or.inl rfl
  | succ k ih =>
    unfold pickS
    split
    · rename_i h
      exact Or.inr ⟨k, by omega, rfl, h.1⟩
    · rcases ih with h | ⟨p, hp, h1, h2⟩
      · exact Or.inl h
      · exact Or.inr ⟨p, by omega, h1, h2⟩
/-- alike in the four rows -/
def eq4 (σ τ : Mem) : Prop := ∀ r, r < 4 → σ r = τ r
theorem eq4.rf (σ : Mem) : eq4 σ σ := fun _ _ => rfl
theorem eq4.sy {σ τ : Mem} (h : eq4 σ τ) : eq4 τ σ := fun r hr => (h r hr).symm
theorem eq4.tr {σ τ υ : Mem} (h : eq4 σ τ) (h2 : eq4 τ υ) : eq4 σ υ := fun r hr => (h r hr).trans (h2 r hr)
theorem eq4.set {σ τ : Mem} (h : eq4 σ τ) (a k : Nat) (x : Int32) : eq4 (mset σ a k x) (mset τ a k x) := by
  intro r hr
  funext j
  unfold mset
  rw [h r hr]
theorem eq4.come {σ τ : Mem} (h : eq4 σ τ) (q : Nat) (t w f : Int32) : eq4 (comeS σ q t w f) (comeS τ q t w f) := by
  unfold comeS
  rw [h 0 (by omega)]
  split
  · exact ((h.set _ _ _).set _ _ _).set _ _ _
  · exact h
theorem eq4.lvH {σ τ : Mem} (h : eq4 σ τ) (go : Nat → Nat → Int32) (tm : Nat → Int32 → Int32) (set : Int32) (p : Nat) : ∀ n, eq4 (lvH go tm set p n σ) (lvH go tm set p n τ) := by
  intro n
  induction n with
  | zero => exact h
  | succ n ih =>
    show eq4 (if _ then _ else _) (if _ then _ else _)
    split
    · rw [ih 0 (by omega)]
      exact ih.come _ _ _ _
    · exact ih
theorem eq4.lvF {σ τ : Mem} (h : eq4 σ τ) (w : Nat → Nat → Int32) (p : Nat) : ∀ n, eq4 (lvF w p n σ) (lvF w p n τ) := by
  intro n
  induction n with
  | zero => exact h
  | succ n ih =>
    show eq4 (if _ then _ else _) (if _ then _ else _)
    split
    · rw [ih 0 (by omega)]
      exact ih.come _ _ _ _
    · exact ih
theorem eq4.leave {σ τ : Mem} (h : eq4 σ τ) (go : Nat → Nat → Int32) (tm : Nat → Int32 → Int32) (w : Nat → Nat → Int32) (n : Nat) (set : Int32) (p : Nat) : eq4 (leaveS go tm w n set p σ) (leaveS go tm w n set p τ) := ((h.set 3 p 1).lvH go tm set p n).lvF w p 7
theorem eq4.pick {σ τ : Mem} (h : eq4 σ τ) : ∀ k, pickS σ k = pickS τ k := by
  intro k
  induction k with
  | zero => rfl
  | succ k ih =>
    unfold pickS
    rw [h 3 (by omega), h 0 (by omega), ih]
theorem eq4.stop {go : Nat → Nat → Int32} {tm : Nat → Int32 → Int32} {w : Nat → Nat → Int32} {n : Nat} {set stop : Int32} : ∀ (f : Nat) {σ τ : Mem}, eq4 σ τ → eq4 (stopRun go tm w n set stop f σ) (stopRun go tm w n set stop f τ) := by
  intro f
  induction f with
  | zero => intro σ τ h; exact h
  | succ f ih =>
    intro σ τ h
    unfold stopRun
    rw [h.pick 7]
    split
    · exact h
    · exact ih (h.leave _ _ _ _ _ _)
theorem eq4.gp {β : Nat} {μ σ : Mem} : eq4 (get4 β (put4 β μ σ)) σ := fun _ h => get_put4 h
/-- alike in the four rows at the places -/
def eq7 (σ τ : Mem) : Prop := ∀ r, r < 4 → ∀ k, k < 7 → σ r k = τ r k
/-- whither the horses of a set go is a place, or nowhere -/
def goOK (go : Nat → Nat → Int32) (set : Int32) : Prop := ∀ h, h < 7 → bitB set (nI h) = true → ∀ p, p < 7 → go h p = -1 ∨ ∃ q, q < 7 ∧ go h p = nI q
theorem eq7.rf (σ : Mem) : eq7 σ σ := fun _ _ _ _ => rfl
theorem eq7.sy {σ τ : Mem} (h : eq7 σ τ) : eq7 τ σ := fun r hr k hk => (h r hr k hk).symm
theorem eq7.tr {σ τ υ : Mem} (h : eq7 σ τ) (h2 : eq7 τ υ) : eq7 σ υ := fun r hr k hk => (h r hr k hk).trans (h2 r hr k hk)
theorem eq4.to7 {σ τ : Mem} (h : eq4 σ τ) : eq7 σ τ := fun r hr k _ => by rw [h r hr]
theorem eq7.set {σ τ : Mem} (h : eq7 σ τ) (a k : Nat) (x : Int32) : eq7 (mset σ a k x) (mset τ a k x) := by
  intro r hr j hj
  unfold mset
  rw [h r hr j hj]
theorem eq7.come {σ τ : Mem} (h : eq7 σ τ) {q : Nat} (hq : q < 7) (t w f : Int32) : eq7 (comeS σ q t w f) (comeS τ q t w f) := by
  unfold comeS
  rw [h 0 (by omega) q hq]
  split
  · exact ((h.set _ _ _).set _ _ _).set _ _ _
  · exact h
theorem eq7.lvH {σ τ : Mem} (h : eq7 σ τ) {go : Nat → Nat → Int32} {tm : Nat → Int32 → Int32} {set : Int32} (hg : goOK go set) {p : Nat} (hp : p < 7) : ∀ n, n ≤ 7 → eq7 (lvH go tm set p n σ) (lvH go tm set p n τ) := by
  intro n
  induction n with
  | zero => intro _; exact h
  | succ n ih =>
    intro hn
    show eq7 (if _ then _ else _) (if _ then _ else _)
    split
    · rename_i c
      rw [ih (by omega) 0 (by omega) p hp]
      rcases hg n (by omega) c.1 p hp with e | ⟨q, hq, e⟩
      · exact absurd e c.2.1
      · rw [e, ix_nI (by omega)]
        exact (ih (by omega)).come hq _ _ _
    · exact ih (by omega)
theorem eq7.lvF {σ τ : Mem} (h : eq7 σ τ) (w : Nat → Nat → Int32) {p : Nat} (hp : p < 7) : ∀ n, n ≤ 7 → eq7 (lvF w p n σ) (lvF w p n τ) := by
  intro n
  induction n with
  | zero => intro _; exact h
  | succ n ih =>
    intro hn
    show eq7 (if _ then _ else _) (if _ then _ else _)
    split
    · rw [ih (by omega) 0 (by omega) p hp]
      exact (ih (by omega)).come (by omega) _ _ _
    · exact ih (by omega)
theorem eq7.leave {σ τ : Mem} (h : eq7 σ τ) {go : Nat → Nat → Int32} {tm : Nat → Int32 → Int32} {w : Nat → Nat → Int32} {n : Nat} (hn : n ≤ 7) {set : Int32} (hg : goOK go set) {p : Nat} (hp : p < 7) : eq7 (leaveS go tm w n set p σ) (leaveS go tm w n set p τ) := ((h.set 3 p 1).lvH hg hp n hn).lvF w hp 7 (Nat.le_refl 7)
theorem eq7.pick {σ τ : Mem} (h : eq7 σ τ) : ∀ k, k ≤ 7 → pickS σ k = pickS τ k := by
  intro k
  induction k with
  | zero => intro _; rfl
  | succ k ih =>
    intro hk
    have ih := ih (by omega)
    have er := pickS_range (σ := τ) k
    show (if σ 3 k = 0 ∧ (pickS σ k = -1 ∨ σ 0 k < σ 0 (pickS σ k).toNatClampNeg) then nI k else pickS σ k) = if τ 3 k = 0 ∧ (pickS τ k = -1 ∨ τ 0 k < τ 0 (pickS τ k).toNatClampNeg) then nI k else pickS τ k
    rw [ih, h 3 (by omega) k (by omega), h 0 (by omega) k (by omega)]
    rcases er with e | ⟨p, hp, e, -⟩
    · simp only [e, true_or, and_true]
    · rw [e, ix_nI (by omega), h 0 (by omega) p (by omega)]
theorem eq7.stop {go : Nat → Nat → Int32} {tm : Nat → Int32 → Int32} {w : Nat → Nat → Int32} {n : Nat} (hn : n ≤ 7) {set stop : Int32} (hg : goOK go set) : ∀ (f : Nat) {σ τ : Mem}, eq7 σ τ → eq7 (stopRun go tm w n set stop f σ) (stopRun go tm w n set stop f τ) := by
  intro f
  induction f with
  | zero => intro σ τ h; exact h
  | succ f ih =>
    intro σ τ h
    have er := pickS_range (σ := τ) 7
    unfold stopRun
    rw [h.pick 7 (Nat.le_refl 7)]
    split
    · exact h
    · rename_i c
      rcases er with e | ⟨p, hp, e, -⟩
      · exact absurd (Or.inr e) c
      · rw [e, ix_nI (by omega)]
        exact ih (h.leave hn hg hp)
theorem eq7.init (nv bf : Int32) (a : Nat) (σ τ : Mem) : eq7 (initS nv bf a σ) (initS nv bf a τ) := by
  intro r hr k hk
  unfold initS
  rw [if_pos hk, if_pos hk]
  rcases (show r = 0 ∨ r = 1 ∨ r = 2 ∨ r = 3 by omega) with rfl | rfl | rfl | rfl <;> rfl
/-- from a place, to where one stops -/
def runV (go : Nat → Nat → Int32) (tm : Nat → Int32 → Int32) (w : Nat → Nat → Int32) (set stop : Int32) (a : Nat) : Mem := stopRun go tm w 7 set stop 7 (initS 1000000000 (nI a) a (fun _ _ => 0))
def soonV (go : Nat → Nat → Int32) (tm : Nat → Int32 → Int32) (w : Nat → Nat → Int32) (set : Int32) (a b : Nat) : Int32 := runV go tm w set (nI b) a 0 b
theorem runV_of {go : Nat → Nat → Int32} {tm : Nat → Int32 → Int32} {w : Nat → Nat → Int32} {set stop : Int32} (hg : goOK go set) (a : Nat) (σ : Mem) : eq7 (stopRun go tm w 7 set stop 7 (initS 1000000000 (nI a) a σ)) (runV go tm w set stop a) := eq7.stop (Nat.le_refl 7) hg 7 (eq7.init _ _ _ _ _)
