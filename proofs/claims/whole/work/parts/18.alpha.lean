/-! ===== the abstract state: alpha; rows: 0 counts (horses, rides, texts, the law, the tape), 1 walks (7 a + b), 2, 3 rides, 4 .. 9 horses (kind, from, to, told, more, ready), 10 the tape, 11 the image (there, horses, rides, law), 12 its walks, 13 its ready, 14 sorts, 15 sizes, 16 numbers (40 s + k), 17 how long the codes of text and part are, 18 the codes ===== -/
def aN (α : Mem) : Nat := (α 0 0).toNatClampNeg
def aR (α : Mem) : Nat := (α 0 1).toNatClampNeg
def aX (α : Mem) : Nat := (α 0 2).toNatClampNeg
def aL (α : Mem) : Nat := (α 0 3).toNatClampNeg
def aT (α : Mem) : Nat := (α 0 4).toNatClampNeg
def wfC (α : Mem) : Prop := (α 0 0 = nI (aN α) ∧ aN α ≤ 7) ∧ (α 0 1 = nI (aR α) ∧ aR α ≤ 4) ∧ (α 0 2 = nI (aX α) ∧ aX α ≤ 6) ∧ (α 0 3 = nI (aL α) ∧ aL α < aX α) ∧ (α 0 4 = nI (aT α) ∧ aT α ≤ 160)
def wfW (row : Nat) (α : Mem) : Prop := ∀ a b, a < 7 → b < 7 → a ≠ b → ∃ w, 1 ≤ w ∧ w ≤ 999 ∧ α row (7 * a + b) = nI w ∧ α row (7 * b + a) = nI w
def wfR (α : Mem) : Prop := ∀ i, i < aR α → (∃ f, f < 7 ∧ α 2 i = nI f) ∧ ∃ t, t < 7 ∧ α 3 i = nI t
def wfH1 (α : Mem) (h : Nat) : Prop := (∃ k, k < 6 ∧ α 4 h = nI k) ∧ (∃ f, f < 7 ∧ α 5 h = nI f) ∧ (∃ t, t < 7 ∧ α 6 h = nI t) ∧ ¬ α 5 h = α 6 h ∧ (∃ d, 1 ≤ d ∧ d ≤ 999 ∧ α 7 h = nI d) ∧ (∃ m, m ≤ 9 ∧ α 8 h = nI m) ∧ ∃ r, r ≤ 999 ∧ α 9 h = nI r
def wfH (α : Mem) : Prop := ∀ h, h < aN α → wfH1 α h
def wfT (α : Mem) : Prop := ∀ i, i < aT α → ∃ b, b < 256 ∧ α 10 i = nI b
def wfX (α : Mem) : Prop := ∀ t, t < aX α → ∀ p, p < 3 → ∃ n, n ≤ 160 ∧ α 17 (3 * t + p) = nI n ∧ wfE (fun k => α 18 (160 * (3 * t + p) + k)) n
def wfI (α : Mem) : Prop := α 11 0 = 0 ∨ (α 11 0 = 1 ∧ (∃ n, n ≤ aN α ∧ α 11 1 = nI n ∧ ∀ h, h < n → ∃ r, r ≤ 999 ∧ α 13 h = nI r) ∧ (∃ r, r ≤ aR α ∧ α 11 2 = nI r) ∧ (∃ l, l < aX α ∧ α 11 3 = nI l) ∧ wfW 12 α)
def wfS (α : Mem) : Prop := ∀ s, s < 4 → (α 14 s = -1 ∨ α 14 s = 0 ∨ α 14 s = 1 ∨ α 14 s = 2) ∧ ∃ z, z ≤ 40 ∧ α 15 s = nI z
def WF (α : Mem) : Prop := wfC α ∧ wfW 1 α ∧ wfR α ∧ wfH α ∧ wfT α ∧ wfX α ∧ wfI α ∧ wfS α
def loP (p : Nat) : Int32 := if p = 2 then 0 else 1
def hiP (p : Nat) : Int32 := if p = 2 then 100 else 999
def envA (α : Mem) (h k : Nat) : Int32 := if k = 0 then α 7 h else if k = 1 then α 8 h else if k = 2 then α 5 h else if k = 3 then α 6 h else if k = 4 then α 9 h else α 1 (7 * (α 5 h).toNatClampNeg + (α 6 h).toNatClampNeg)
/-- what a text says -/
def sayA (α : Mem) (t p h : Nat) : Int32 := boundF (valE (envA α h) (fun k => α 18 (160 * (3 * t + p) + k)) (α 17 (3 * t + p)).toNatClampNeg) (loP p) (hiP p)
/-- what the law says -/
def saidA (α : Mem) (p h : Nat) : Int32 := sayA α (aL α) p h
def goA (α : Mem) (h p : Nat) : Int32 := goesF (α 4 h) (α 5 h) (α 6 h) (α 8 h) (nI p)
def outA (α : Mem) (h : Nat) : Int32 := outF (α 4 h) (α 8 h) (saidA α 0 h)
def homeA (α : Mem) (h : Nat) : Int32 := homeF (α 4 h) (α 8 h) (saidA α 1 h)
def tmA (α : Mem) (h : Nat) (t : Int32) : Int32 := imax t (α 9 h) + outA α h
def wA (α : Mem) (p q : Nat) : Int32 := if p < 7 then α 1 (7 * p + q) else 0
def setOK (n : Nat) (set : Int32) : Prop := ∀ h, n ≤ h → h < 7 → bitB set (nI h) = false
def allA (α : Mem) : Int32 := (1 <<< (α 0 0 &&& 31)) - 1
theorem toFro_range {f t p : Nat} (hf : f < 7) (ht : t < 7) (x : Int32) : toFro (nI f) (nI t) x = -1 ∨ ∃ q, q < 7 ∧ toFro (nI f) (nI t) x = nI q := by
  unfold toFro
  split
  · exact Or.inr ⟨t, ht, rfl⟩
  · split
    · exact Or.inr ⟨f, hf, rfl⟩
    · exact Or.inl rfl
theorem irem7 {m : Nat} (hm : m < 100) : irem (nI m) 7 = nI (m % 7) := pk_rem (a := m) (d := 7) (by omega) (by omega) (by omega)
theorem goes_range {α : Mem} {h : Nat} (hw : wfH1 α h) (p : Nat) : goA α h p = -1 ∨ ∃ q, q < 7 ∧ goA α h p = nI q := by
  obtain ⟨⟨k, hk, ek⟩, ⟨f, hf, ef⟩, ⟨t, ht, et⟩, -, -, ⟨m, hm, em⟩, -⟩ := hw
  unfold goA goesF
  rw [ek, ef, et, em]
  split
  · exact toFro_range (p := 0) hf ht _
  · split
    · split
      · rename_i c
        have e : ∃ q, q < 7 ∧ toFro (nI f) (nI t) (nI p) = nI q := by
          unfold toFro
          by_cases c1 : nI p = nI f
          · rw [if_pos c1]; exact ⟨t, ht, rfl⟩
          · rw [if_neg c1, if_pos (c.resolve_left c1)]; exact ⟨f, hf, rfl⟩
        obtain ⟨q, hq, e⟩ := e
        rw [e, nI_1, irem7 (by omega)]
        exact Or.inr ⟨(q + 1) % 7, by omega, rfl⟩
      · exact Or.inl rfl
    · split
      · split
        · rw [irem7 (by omega)]
          exact Or.inr ⟨m % 7, by omega, rfl⟩
        · exact Or.inl rfl
      · split
        · exact Or.inr ⟨t, ht, rfl⟩
        · exact Or.inl rfl
theorem goA_ok {α : Mem} (hw : wfH α) {set : Int32} (hs : setOK (aN α) set) : goOK (goA α) set := by
  intro h hh hb p _
  have hn : h < aN α := by
    rcases Nat.lt_or_ge h (aN α) with q | q
    · exact q
    · rw [hs h q hh] at hb
      cases hb
  exact goes_range (hw h hn) p
/-! what is soon depends on the horses of the set and on the walks alone -/
theorem lvH_congr {go go' : Nat → Nat → Int32} {tm tm' : Nat → Int32 → Int32} {set : Int32} {p : Nat} (hg : ∀ h, h < 7 → bitB set (nI h) = true → go h p = go' h p) (ht : ∀ h, h < 7 → bitB set (nI h) = true → ∀ t, tm h t = tm' h t) (σ : Mem) : ∀ n, n ≤ 7 → lvH go tm set p n σ = lvH go' tm' set p n σ := by
  intro n
  induction n with
  | zero => intro _; rfl
  | succ n ih =>
    intro hn
    show (if bitB set (nI n) = true ∧ ¬ go n p = -1 ∧ ¬ go n p = nI p then comeS (lvH go tm set p n σ) (go n p).toNatClampNeg (tm n (lvH go tm set p n σ 0 p)) (nI n) (nI p) else lvH go tm set p n σ) = if bitB set (nI n) = true ∧ ¬ go' n p = -1 ∧ ¬ go' n p = nI p then comeS (lvH go' tm' set p n σ) (go' n p).toNatClampNeg (tm' n (lvH go' tm' set p n σ 0 p)) (nI n) (nI p) else lvH go' tm' set p n σ
    rw [ih (by omega)]
    by_cases hb : bitB set (nI n) = true
    · rw [hg n (by omega) hb, ht n (by omega) hb]
    · rw [if_neg (fun q => hb q.1), if_neg (fun q => hb q.1)]
theorem lvF_congr {w w' : Nat → Nat → Int32} {p : Nat} (hw : ∀ q, q < 7 → w p q = w' p q) (σ : Mem) : ∀ n, n ≤ 7 → lvF w p n σ = lvF w' p n σ := by
  intro n
  induction n with
  | zero => intro _; rfl
  | succ n ih =>
    intro hn
    show (if ¬ n = p then comeS (lvF w p n σ) n (lvF w p n σ 0 p + w p n) 7 (nI p) else lvF w p n σ) = if ¬ n = p then comeS (lvF w' p n σ) n (lvF w' p n σ 0 p + w' p n) 7 (nI p) else lvF w' p n σ
    rw [ih (by omega), hw n (by omega)]
/-- two worlds of horses and walks that a set can't tell apart -/
def alikeE (go go' : Nat → Nat → Int32) (tm tm' : Nat → Int32 → Int32) (w w' : Nat → Nat → Int32) (set : Int32) : Prop := (∀ h, h < 7 → bitB set (nI h) = true → ∀ p, p < 7 → go h p = go' h p) ∧ (∀ h, h < 7 → bitB set (nI h) = true → ∀ t, tm h t = tm' h t) ∧ ∀ p, p < 7 → ∀ q, q < 7 → w p q = w' p q
theorem leave_congr {go go' : Nat → Nat → Int32} {tm tm' : Nat → Int32 → Int32} {w w' : Nat → Nat → Int32} {set : Int32} (h : alikeE go go' tm tm' w w' set) {n : Nat} (hn : n ≤ 7) {p : Nat} (hp : p < 7) (σ : Mem) : leaveS go tm w n set p σ = leaveS go' tm' w' n set p σ := by
  unfold leaveS
  rw [lvH_congr (fun i hi hb => h.1 i hi hb p hp) h.2.1 _ n hn, lvF_congr (h.2.2 p hp) _ 7 (Nat.le_refl 7)]
theorem stop_congr {go go' : Nat → Nat → Int32} {tm tm' : Nat → Int32 → Int32} {w w' : Nat → Nat → Int32} {set : Int32} (h : alikeE go go' tm tm' w w' set) {n : Nat} (hn : n ≤ 7) (stop : Int32) : ∀ (f : Nat) (σ : Mem), stopRun go tm w n set stop f σ = stopRun go' tm' w' n set stop f σ := by
  intro f
  induction f with
  | zero => intro σ; rfl
  | succ f ih =>
    intro σ
    unfold stopRun
    split
    · rfl
    · rename_i c
      rcases pickS_range (σ := σ) 7 with e | ⟨p, hp, e, -⟩
      · exact absurd (Or.inr e) c
      · rw [e, ix_nI (by omega), leave_congr h hn hp, ih]
theorem runV_congr {go go' : Nat → Nat → Int32} {tm tm' : Nat → Int32 → Int32} {w w' : Nat → Nat → Int32} {set : Int32} (h : alikeE go go' tm tm' w w' set) (stop : Int32) (a : Nat) : runV go tm w set stop a = runV go' tm' w' set stop a := stop_congr h (Nat.le_refl 7) stop 7 _
def runA (α : Mem) (set stop : Int32) (a : Nat) : Mem := runV (goA α) (tmA α) (wA α) set stop a
def soonA (α : Mem) (set : Int32) (a b : Nat) : Int32 := soonV (goA α) (tmA α) (wA α) set a b
