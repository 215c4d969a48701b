/-! ===== bits ===== -/
theorem bitB_lsb {s : Int32} {h : Nat} (hh : h < 32) : bitB s (nI h) = s.toBitVec.getLsbD h := by
  have e1 : ((s >>> (nI h &&& 31)) &&& 1).toBitVec = (s.toBitVec.sshiftRight h) &&& 1#32 := by
    rw [Int32.toBitVec_and, Int32.toBitVec_shiftRight]
    have e : ((nI h &&& 31).toBitVec.smod 32) = BitVec.ofNat 32 h := by
      have : ∀ k, k < 32 → ((nI k &&& 31).toBitVec.smod 32) = BitVec.ofNat 32 k := by decide
      exact this h hh
    rw [e]
    show (s.toBitVec.sshiftRight (BitVec.ofNat 32 h).toNat) &&& 1#32 = _
    rw [BitVec.toNat_ofNat, Nat.mod_eq_of_lt (by omega)]
  have e2 : ((s >>> (nI h &&& 31)) &&& 1 = 0) ↔ s.toBitVec.getLsbD h = false := by
    rw [← Int32.toBitVec_inj, e1]
    constructor
    · intro q
      have q1 := congrArg (fun v => v.getLsbD 0) q
      simpa [BitVec.getLsbD_sshiftRight, BitVec.getElem_sshiftRight, hh] using q1
    · intro q
      apply BitVec.eq_of_getLsbD_eq
      intro i hi
      rcases Nat.eq_zero_or_pos i with rfl | hp
      · simpa [BitVec.getLsbD_sshiftRight, BitVec.getElem_sshiftRight, hh] using q
      · simp [BitVec.getLsbD_one, show i ≠ 0 by omega, show ¬ (i = 0) by omega]
  unfold bitB
  by_cases c : s.toBitVec.getLsbD h = true
  · rw [c]
    simp [e2, c]
  · have c' : s.toBitVec.getLsbD h = false := by simpa using c
    rw [c']
    simp [e2, c']
theorem bitB_and {a b : Int32} {h : Nat} (hh : h < 32) : bitB (a &&& b) (nI h) = (bitB a (nI h) && bitB b (nI h)) := by
  rw [bitB_lsb hh, bitB_lsb hh, bitB_lsb hh, Int32.toBitVec_and, BitVec.getLsbD_and]
theorem bitB_or {a b : Int32} {h : Nat} (hh : h < 32) : bitB (a ||| b) (nI h) = (bitB a (nI h) || bitB b (nI h)) := by
  rw [bitB_lsb hh, bitB_lsb hh, bitB_lsb hh, Int32.toBitVec_or, BitVec.getLsbD_or]
theorem bitB_one {k h : Nat} (hk : k < 8) (hh : h < 8) : bitB (1 <<< (nI k &&& 31)) (nI h) = decide (k = h) := by
  have : ∀ k, k < 8 → ∀ h, h < 8 → bitB (1 <<< (nI k &&& 31)) (nI h) = decide (k = h) := by decide
  exact this k hk h hh
theorem bitB_nI {k h : Nat} (hk : k < 128) (hh : h < 7) : bitB (nI k) (nI h) = k.testBit h := by
  rw [bitB_lsb (by omega)]
  show (BitVec.ofNat 32 k).getLsbD h = _
  rw [BitVec.getLsbD_ofNat]
  simp
  omega
theorem all_nI {n : Nat} (hn : n ≤ 7) : ((1 : Int32) <<< (nI n &&& 31)) - 1 = nI (2 ^ n - 1) := by
  have : ∀ n, n < 8 → ((1 : Int32) <<< (nI n &&& 31)) - 1 = nI (2 ^ n - 1) := by decide
  exact this n (by omega)
theorem setOK_nI {n k : Nat} (hn : n ≤ 7) (hk : k < 2 ^ n) : setOK n (nI k) := by
  intro h h1 h2
  have h128 : 2 ^ n ≤ 2 ^ 7 := Nat.pow_le_pow_right (by omega) hn
  rw [bitB_nI (by omega) h2]
  exact Nat.testBit_lt_two_pow (Nat.lt_of_lt_of_le hk (Nat.pow_le_pow_right (by omega) h1))
theorem setOK_and {n : Nat} {a : Int32} (h : setOK n a) (b : Int32) : setOK n (a &&& b) := fun i h1 h2 => by
  rw [bitB_and (by omega), h i h1 h2]
  rfl
theorem allA_eq {α : Mem} (hf : wfC α) : allA α = nI (2 ^ aN α - 1) := by
  unfold allA
  have e : α 0 0 = nI (aN α) := hf.1.1
  rw [e, all_nI hf.1.2]
theorem allA_ok {α : Mem} (hf : wfC α) : setOK (aN α) (allA α) := by
  rw [allA_eq hf]
  have := Nat.two_pow_pos (aN α)
  exact setOK_nI hf.1.2 (by omega)
theorem drwV_ok {d : Nat → Int32} {s : Int32} : ∀ n, n ≤ 7 → setOK n (drwV d s n) := by
  intro n
  induction n with
  | zero =>
    intro _ h _ hh
    have : ∀ h, h < 7 → bitB (drwV d s 0) (nI h) = false := by
      show ∀ h, h < 7 → bitB 0 (nI h) = false
      decide
    exact this h hh
  | succ n ih =>
    intro hn h h1 h2
    unfold drwV
    have q := ih (by omega) h (by omega) h2
    split
    · exact q
    · rw [bitB_or (by omega), q, bitB_one (by omega) (by omega)]
      simp
      omega
/-! ===== searching, seen from the abstract state ===== -/
theorem VX.alike {α μ : Mem} {set : Int32} (h : VX α μ) (hs : setOK (aN α) set) : alikeE (goX μ) (goA α) (tmX μ) (tmA α) (wX μ) (wA α) set := alikeX_of hs h.1.2.2.2.1 h.2 h.1.2.1
theorem VX.go {α μ : Mem} {set : Int32} (hf : WF α) (h : VX α μ) (hs : setOK (aN α) set) : goOK (goX μ) set := fun i hi hb p hp => by
  rw [(h.alike hs).1 i hi hb p hp]
  exact goA_ok hf.2.2.2.1 hs i hi hb p hp
theorem VX.run {α μ : Mem} {set : Int32} (h : VX α μ) (hs : setOK (aN α) set) (stop : Int32) (a : Nat) : runV (goX μ) (tmX μ) (wX μ) set stop a = runA α set stop a := runV_congr (h.alike hs) stop a
theorem VX.soon {α μ : Mem} {set : Int32} (h : VX α μ) (hs : setOK (aN α) set) (a b : Nat) : soonV (goX μ) (tmX μ) (wX μ) set a b = soonA α set a b := by
  unfold soonV soonA soonV
  rw [runV_congr (h.alike hs)]
theorem ridV_congr {sv sv' : Nat → Nat → Int32} {f f' t t' : Nat → Nat} : ∀ n, (∀ r, r < n → sv (f r) (t r) = sv' (f' r) (t' r)) → ridV sv f t n = ridV sv' f' t' n := by
  intro n
  induction n with
  | zero => intro _; rfl
  | succ n ih =>
    intro q
    unfold ridV
    rw [ih (fun r hr => q r (by omega)), q n (by omega)]
def ridA (α : Mem) (set : Int32) : Int32 := ridV (soonA α set) (fun r => (α 2 r).toNatClampNeg) (fun r => (α 3 r).toNatClampNeg) (aR α)
theorem VX.rid {α μ : Mem} {set : Int32} (h : VX α μ) (hs : setOK (aN α) set) : riddenX μ set = ridA α set := by
  unfold riddenX ridA
  have c : μ 10 10 = α 0 1 := h.1.1.2.1
  rw [c]
  refine ridV_congr _ (fun r hr => ?_)
  have q := h.1.2.2.1 r hr
  rw [q.1, q.2]
  exact h.soon hs _ _
theorem VX.ridOK {α μ : Mem} (hf : WF α) (h : VX α μ) : ridOK μ := by
  refine ⟨aR α, hf.1.2.1.2, h.1.1.2.1.trans hf.1.2.1.1, fun r hr => ?_⟩
  have q := h.1.2.2.1 r hr
  obtain ⟨⟨f, h1, e1⟩, t, h2, e2⟩ := hf.2.2.1 r hr
  rw [q.1, q.2, e1, e2]
  exact ⟨vp_nI h1 (by omega), vp_nI h2 (by omega)⟩
theorem VX.all {α μ : Mem} (h : VX0 α μ) : ((1 : Int32) <<< (μ 10 9 &&& 31)) - 1 = allA α := by
  unfold allA
  rw [h.1.1]
