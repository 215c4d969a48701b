/-! ===== the reference's tokens ===== -/
def tpM (μ : Mem) (x : Int32) : Prop := ∃ n p, n ≤ 160 ∧ p ≤ n ∧ μ 82 12 = nI n ∧ x = nI p
def ltM (μ : Mem) (x : Int32) : Bool := decide (x < μ 82 12) && letB (μ 92 x.toNatClampNeg)
def dgM (μ : Mem) (x : Int32) : Bool := decide (x < μ 82 12) && digB (μ 92 x.toNatClampNeg)
theorem sg_X8_isLetter_0 {G : GW} {K : Option Value → Mem → Prop} {μ : Mem} {x1 : Int32}  (h : (((μ 82 12) ≤ x1) → K (some (.int 0)) μ) ∧ ((¬ ((μ 82 12) ≤ x1)) → (vp_in x1 160) ∧ (((μ 92 x1.toNatClampNeg) < 97) → K (some (.int 0)) μ) ∧ ((¬ ((μ 92 x1.toNatClampNeg) < 97)) → (vp_in x1 160) ∧ ((122 < (μ 92 x1.toNatClampNeg)) → K (some (.int 0)) μ) ∧ ((¬ (122 < (μ 92 x1.toNatClampNeg))) → K (some (.int 1)) μ)))) : Ev2 G mX8_isLetter 1 0 [(0, .ref 82), (1, .int x1)] [] μ K := by
  refine ev_iload_n dX8_isLetter_0 1 rfl ?_
  refine ev_aload_n dX8_isLetter_1 0 rfl (by decide) ?_
  refine ev_getI' (v := (μ 82 12)) fl_8_79 rfl kd_82 rfl dX8_isLetter_2 ?_
  refine ev_icmp_ge (tgt := 34) dX8_isLetter_5 rfl (fun c1 => ?_) (fun c1 => ?_)
  · have h2 := h.1 c1
    refine ev_iconst (v := 0) dX8_isLetter_34 rfl ?_
    exact ev_ireturn dX8_isLetter_35 rfl rfl rfl rfl ⟨rfl, h2⟩
  · have h3 := h.2 c1
    refine ev_aload_n dX8_isLetter_8 0 rfl (by decide) ?_
    refine ev_getR' fl_8_82 rfl kd_82 rf_82_11 dX8_isLetter_9 ?_
    refine ev_iload_n dX8_isLetter_12 1 rfl ?_
    have p4 := h3.1
    have h5 := h3.2
    refine ev_iaload' (v := (μ 92 x1.toNatClampNeg)) kd_92 ln_92 p4 rfl dX8_isLetter_13 ?_
    refine ev_bipush (v := 97) dX8_isLetter_14 rfl ?_
    refine ev_icmp_lt (tgt := 34) dX8_isLetter_16 rfl (fun c6 => ?_) (fun c6 => ?_)
    · have h7 := h5.1 c6
      refine ev_iconst (v := 0) dX8_isLetter_34 rfl ?_
      exact ev_ireturn dX8_isLetter_35 rfl rfl rfl rfl ⟨rfl, h7⟩
    · have h8 := h5.2 c6
      refine ev_aload_n dX8_isLetter_19 0 rfl (by decide) ?_
      refine ev_getR' fl_8_82 rfl kd_82 rf_82_11 dX8_isLetter_20 ?_
      refine ev_iload_n dX8_isLetter_23 1 rfl ?_
      have p9 := h8.1
      have h10 := h8.2
      refine ev_iaload' (v := (μ 92 x1.toNatClampNeg)) kd_92 ln_92 p9 rfl dX8_isLetter_24 ?_
      refine ev_bipush (v := 122) dX8_isLetter_25 rfl ?_
      refine ev_icmp_gt (tgt := 34) dX8_isLetter_27 rfl (fun c11 => ?_) (fun c11 => ?_)
      · have h12 := h10.1 c11
        refine ev_iconst (v := 0) dX8_isLetter_34 rfl ?_
        exact ev_ireturn dX8_isLetter_35 rfl rfl rfl rfl ⟨rfl, h12⟩
      · have h13 := h10.2 c11
        refine ev_iconst (v := 1) dX8_isLetter_30 rfl ?_
        refine ev_goto (tgt := 35) dX8_isLetter_31 rfl ?_
        exact ev_ireturn dX8_isLetter_35 rfl rfl rfl rfl ⟨rfl, h13⟩
theorem tpM.in_ {μ : Mem} {x : Int32} (h : tpM μ x) (c : ¬ μ 82 12 ≤ x) : vp_in x 160 := by
  obtain ⟨n, p, hn, hp, e, rfl⟩ := h
  rw [e] at c
  exact vp_nI (by
    rcases Nat.lt_or_ge p n with q | q
    · omega
    · exact absurd (nI_le q (by omega)) c) (by omega)
theorem ct_X8_isLetter {G : GW} (x1 : Int32) (μ : Mem) (hp : tpM μ x1) : Ev2 G mX8_isLetter 1 0 [(0, .ref 82), (1, .int x1)] [] μ (fun v μ' => v = some (.int (bi (ltM μ x1))) ∧ μ' = μ) := by
  refine sg_X8_isLetter_0 ⟨fun c => ⟨?_, rfl⟩, fun c => ⟨hp.in_ c, fun d => ⟨?_, rfl⟩, fun d => ⟨hp.in_ c, fun e => ⟨?_, rfl⟩, fun e => ⟨?_, rfl⟩⟩⟩⟩
  · unfold ltM
    rw [decide_eq_false (Int32.not_lt.mpr c)]
    rfl
  · unfold ltM letB
    rw [decide_eq_false (Int32.not_le.mpr d), Bool.false_and, Bool.and_false]
    rfl
  · unfold ltM letB
    rw [decide_eq_false (Int32.not_le.mpr e), Bool.and_false, Bool.and_false]
    rfl
  · unfold ltM letB
    rw [decide_eq_true (Int32.not_le.mp c), decide_eq_true (Int32.not_lt.mp d), decide_eq_true (Int32.not_lt.mp e)]
    rfl
theorem sg_X8_isDigit_0 {G : GW} {K : Option Value → Mem → Prop} {μ : Mem} {x1 : Int32}  (h : (((μ 82 12) ≤ x1) → K (some (.int 0)) μ) ∧ ((¬ ((μ 82 12) ≤ x1)) → (vp_in x1 160) ∧ (((μ 92 x1.toNatClampNeg) < 48) → K (some (.int 0)) μ) ∧ ((¬ ((μ 92 x1.toNatClampNeg) < 48)) → (vp_in x1 160) ∧ ((57 < (μ 92 x1.toNatClampNeg)) → K (some (.int 0)) μ) ∧ ((¬ (57 < (μ 92 x1.toNatClampNeg))) → K (some (.int 1)) μ)))) : Ev2 G mX8_isDigit 1 0 [(0, .ref 82), (1, .int x1)] [] μ K := by
  refine ev_iload_n dX8_isDigit_0 1 rfl ?_
  refine ev_aload_n dX8_isDigit_1 0 rfl (by decide) ?_
  refine ev_getI' (v := (μ 82 12)) fl_8_79 rfl kd_82 rfl dX8_isDigit_2 ?_
  refine ev_icmp_ge (tgt := 34) dX8_isDigit_5 rfl (fun c1 => ?_) (fun c1 => ?_)
  · have h2 := h.1 c1
    refine ev_iconst (v := 0) dX8_isDigit_34 rfl ?_
    exact ev_ireturn dX8_isDigit_35 rfl rfl rfl rfl ⟨rfl, h2⟩
  · have h3 := h.2 c1
    refine ev_aload_n dX8_isDigit_8 0 rfl (by decide) ?_
    refine ev_getR' fl_8_82 rfl kd_82 rf_82_11 dX8_isDigit_9 ?_
    refine ev_iload_n dX8_isDigit_12 1 rfl ?_
    have p4 := h3.1
    have h5 := h3.2
    refine ev_iaload' (v := (μ 92 x1.toNatClampNeg)) kd_92 ln_92 p4 rfl dX8_isDigit_13 ?_
    refine ev_bipush (v := 48) dX8_isDigit_14 rfl ?_
    refine ev_icmp_lt (tgt := 34) dX8_isDigit_16 rfl (fun c6 => ?_) (fun c6 => ?_)
    · have h7 := h5.1 c6
      refine ev_iconst (v := 0) dX8_isDigit_34 rfl ?_
      exact ev_ireturn dX8_isDigit_35 rfl rfl rfl rfl ⟨rfl, h7⟩
    · have h8 := h5.2 c6
      refine ev_aload_n dX8_isDigit_19 0 rfl (by decide) ?_
      refine ev_getR' fl_8_82 rfl kd_82 rf_82_11 dX8_isDigit_20 ?_
      refine ev_iload_n dX8_isDigit_23 1 rfl ?_
      have p9 := h8.1
      have h10 := h8.2
      refine ev_iaload' (v := (μ 92 x1.toNatClampNeg)) kd_92 ln_92 p9 rfl dX8_isDigit_24 ?_
      refine ev_bipush (v := 57) dX8_isDigit_25 rfl ?_
      refine ev_icmp_gt (tgt := 34) dX8_isDigit_27 rfl (fun c11 => ?_) (fun c11 => ?_)
      · have h12 := h10.1 c11
        refine ev_iconst (v := 0) dX8_isDigit_34 rfl ?_
        exact ev_ireturn dX8_isDigit_35 rfl rfl rfl rfl ⟨rfl, h12⟩
      · have h13 := h10.2 c11
        refine ev_iconst (v := 1) dX8_isDigit_30 rfl ?_
        refine ev_goto (tgt := 35) dX8_isDigit_31 rfl ?_
        exact ev_ireturn dX8_isDigit_35 rfl rfl rfl rfl ⟨rfl, h13⟩
theorem ct_X8_isDigit {G : GW} (x1 : Int32) (μ : Mem) (hp : tpM μ x1) : Ev2 G mX8_isDigit 1 0 [(0, .ref 82), (1, .int x1)] [] μ (fun v μ' => v = some (.int (bi (dgM μ x1))) ∧ μ' = μ) := by
  refine sg_X8_isDigit_0 ⟨fun c => ⟨?_, rfl⟩, fun c => ⟨hp.in_ c, fun d => ⟨?_, rfl⟩, fun d => ⟨hp.in_ c, fun e => ⟨?_, rfl⟩, fun e => ⟨?_, rfl⟩⟩⟩⟩
  · unfold dgM
    rw [decide_eq_false (Int32.not_lt.mpr c)]
    rfl
  · unfold dgM digB
    rw [decide_eq_false (Int32.not_le.mpr d), Bool.false_and, Bool.and_false]
    rfl
  · unfold dgM digB
    rw [decide_eq_false (Int32.not_le.mpr e), Bool.and_false, Bool.and_false]
    rfl
  · unfold dgM digB
    rw [decide_eq_true (Int32.not_le.mp c), decide_eq_true (Int32.not_lt.mp d), decide_eq_true (Int32.not_lt.mp e)]
    rfl
/-! what a token is there, and its worth -/
def tokT (k : Int32) : Int32 := if k = 20 then 1 else if inB k 6 11 = true then 2 else if inB k 0 5 = true then 3 else if inB k 12 19 = true then 4 else if k = 21 then 5 else 6
def tokW (k v : Int32) : Int32 := if k = 20 then v else if inB k 6 11 = true then k - 6 else if inB k 0 5 = true then k else if k = 12 then 40 else if k = 13 then 41 else if k = 14 then 59 else if k = 15 then 43 else if k = 16 then 45 else if k = 17 then 42 else if k = 18 then 60 else 61
def tokV (k v t w : Int32) : Prop := t = tokT k ∧ (¬ k = 21 → ¬ k = 22 → w = tokW k v)
def fr4 (μ ν : Mem) : Prop := ∀ a k, ¬ (a = 82 ∧ 17 ≤ k ∧ k ≤ 20) → ν a k = μ a k
theorem fr4.rf (μ : Mem) : fr4 μ μ := fun _ _ _ => rfl
theorem fr4.tr {μ ν ξ : Mem} (h1 : fr4 μ ν) (h2 : fr4 ν ξ) : fr4 μ ξ := fun a k h => (h2 a k h).trans (h1 a k h)
theorem fr4.set {μ : Mem} {k : Nat} {v : Int32} (h1 : 17 ≤ k) (h2 : k ≤ 20) : fr4 μ (mset μ 82 k v) := fun a j h => mset_other (by omega)
theorem fr4.row {μ ν : Mem} (h : fr4 μ ν) {a : Nat} (ha : a ≠ 82) : ν a = μ a := funext fun k => h a k (by omega)
/-! words -/
def lenN (w : Nat) : Nat := ([4, 4, 4, 2, 5, 3, 3, 4, 4, 2, 3, 3] : List Nat).getD w 0
def begN (w : Nat) : Nat := ([0, 4, 8, 12, 14, 19, 22, 25, 29, 33, 35, 38, 41] : List Nat).getD w 0
def clN (w : Nat) : Nat := if w < 6 then w + 6 else w - 6
theorem beg_nI : ∀ w, w < 13 → begM.getD w 0 = nI (begN w) := by decide
theorem beg_len : ∀ w, w < 12 → begN (w + 1) = begN w + lenN w ∧ begN w + lenN w ≤ 41 ∧ lenN w ≤ 5 ∧ clN w < 12 := by decide
theorem wd_tab : ∀ w, w < 12 → ∀ i, i < 5 → scWords.getD (5 * clN w + i) 0 = if i < lenN w then letM.getD (begN w + i) 0 else 32 := by decide
theorem let_tab : ∀ w, w < 12 → ∀ i, i < lenN w → ¬ letM.getD (begN w + i) 0 = 32 := by decide
theorem wd_uni : ∀ c, c < 12 → ∀ d, d < 12 → (∀ i, i < 5 → scWords.getD (5 * c + i) 0 = scWords.getD (5 * d + i) 0) → c = d := by decide
theorem wd_tok : ∀ w, w < 12 → tokT (nI (clN w)) = (if w < 6 then 2 else 3) ∧ tokW (nI (clN w)) 0 = nI (if w < 6 then w else w - 6) ∧ ¬ nI (clN w) = 20 := by decide
def lmB (f : Nat → Int32) (s w : Nat) : Nat → Bool
  | 0 => true
  | k + 1 => lmB f s w k && decide (f (s + k) = letM.getD (begN w + k) 0)
theorem lmB_t {f : Nat → Int32} {s w : Nat} : ∀ n, lmB f s w n = true ↔ ∀ i, i < n → f (s + i) = letM.getD (begN w + i) 0 := by
  intro n
  induction n with
  | zero => exact ⟨fun _ i hi => absurd hi (Nat.not_lt_zero i), fun _ => rfl⟩
  | succ n ih =>
    show (lmB f s w n && decide (f (s + n) = letM.getD (begN w + n) 0)) = true ↔ _
    rw [Bool.and_eq_true, ih, decide_eq_true_eq]
    constructor
    · rintro ⟨h1, h2⟩ i hi
      by_cases c : i = n
      · rw [c]; exact h2
      · exact h1 i (by omega)
    · intro h
      exact ⟨fun i hi => h i (by omega), h n (by omega)⟩
theorem wdB_t {f : Nat → Int32} {s l w : Nat} : ∀ n, wdB f s l w n = true ↔ ∀ i, i < n → (if i < l then f (s + i) else 32) = scWords.getD (5 * w + i) 0 := by
  intro n
  induction n with
  | zero => exact ⟨fun _ i hi => absurd hi (Nat.not_lt_zero i), fun _ => rfl⟩
  | succ n ih =>
    show (wdB f s l w n && decide ((if n < l then f (s + n) else 32) = scWords.getD (5 * w + n) 0)) = true ↔ _
    rw [Bool.and_eq_true, ih, decide_eq_true_eq]
    constructor
    · rintro ⟨h1, h2⟩ i hi
      by_cases c : i = n
      · rw [c]; exact h2
      · exact h1 i (by omega)
    · intro h
      exact ⟨fun i hi => h i (by omega), h n (by omega)⟩
theorem isWd_M {f : Nat → Int32} {s l w : Nat} (hw : w < 12) (hl : ∀ i, i < l → letB (f (s + i)) = true) : isWd f s l (clN w) = (decide (lenN w = l) && lmB f s w (lenN w)) := by
  obtain ⟨-, -, hb5, -⟩ := beg_len w hw
  have tab := wd_tab w hw
  have key : isWd f s l (clN w) = true ↔ (decide (lenN w = l) && lmB f s w (lenN w)) = true := by
    unfold isWd
    rw [Bool.and_eq_true, Bool.and_eq_true, decide_eq_true_eq, decide_eq_true_eq, wdB_t, lmB_t]
    constructor
    · rintro ⟨h5, h⟩
      have el : lenN w = l := by
        rcases Nat.lt_trichotomy (lenN w) l with q | q | q
        · have h1 := h (lenN w) (by omega)
          rw [tab _ (by omega), if_pos q, if_neg (Nat.lt_irrefl _)] at h1
          have h2 := hl (lenN w) q
          rw [h1] at h2
          exact absurd h2 (by decide)
        · exact q
        · have h1 := h l (by omega)
          rw [tab _ (by omega), if_neg (Nat.lt_irrefl _), if_pos q] at h1
          exact absurd h1.symm (let_tab w hw l q)
      refine ⟨el, fun i hi => ?_⟩
      have h1 := h i (by omega)
      rw [tab _ (by omega), if_pos (by omega), if_pos hi] at h1
      exact h1
    · rintro ⟨el, h⟩
      refine ⟨by omega, fun i hi => ?_⟩
      rw [tab i hi]
      by_cases c : i < lenN w
      · rw [if_pos (by omega), if_pos c]
        exact h i c
      · rw [if_neg (by omega), if_neg c]
  cases h1 : isWd f s l (clN w) with
  | true => exact (key.mp h1).symm
  | false =>
    cases h2 : (decide (lenN w = l) && lmB f s w (lenN w)) with
    | false => rfl
    | true => rw [key.mpr h2] at h1; cases h1
theorem isWd_uni {f : Nat → Int32} {s l c d : Nat} (hc : c < 12) (hd : d < 12) (h1 : isWd f s l c = true) (h2 : isWd f s l d = true) : c = d := by
  unfold isWd at h1 h2
  rw [Bool.and_eq_true, wdB_t] at h1 h2
  exact wd_uni c hc d hd (fun i hi => (h1.2 i hi).symm.trans (h2.2 i hi))
theorem wdI_some {f : Nat → Int32} {s l c : Nat} (hc : c < 12) (h : isWd f s l c = true) : ∀ j, j ≤ 12 → 12 - j ≤ c → wdI f s l j = nI c := by
  intro j
  induction j with
  | zero => intro _ q; omega
  | succ j ih =>
    intro hj q
    show (if isWd f s l (11 - j) = true then nI (11 - j) else wdI f s l j) = nI c
    by_cases e : isWd f s l (11 - j) = true
    · rw [if_pos e, isWd_uni (by omega) hc e h]
    · rw [if_neg e]
      refine ih (by omega) ?_
      have : ¬ c = 11 - j := fun z => e (by rw [← z]; exact h)
      omega
theorem wdI_none {f : Nat → Int32} {s l : Nat} (h : ∀ c, c < 12 → isWd f s l c = false) : ∀ j, j ≤ 12 → wdI f s l j = 22 := by
  intro j
  induction j with
  | zero => intro _; rfl
  | succ j ih =>
    intro hj
    show (if isWd f s l (11 - j) = true then nI (11 - j) else wdI f s l j) = 22
    rw [if_neg (by rw [h (11 - j) (by omega)]; decide)]
    exact ih (by omega)
def rwP (μ : Mem) : Prop := ∃ n p, n ≤ 160 ∧ p ≤ n ∧ μ 82 12 = nI n ∧ μ 82 17 = nI p ∧ μ 82 20 = nI p ∧ vMk μ
def rwR (μ ν : Mem) : Prop := fr4 μ ν ∧ ν 82 20 = μ 82 20 ∧ ∀ n p, n ≤ 160 → p ≤ n → μ 82 12 = nI n → μ 82 17 = nI p → ν 82 17 = nI (rnT letB (μ 92) (n - p) p) ∧ tokV (wdI (μ 92) p (rnT letB (μ 92) (n - p) p - p) 12) 0 (ν 82 18) (ν 82 19)
theorem sg_X8_readWord_0 {G : GW} {K : Option Value → Mem → Prop} {μ : Mem}   (h : (tpM μ (μ 82 17)) ∧ (((ltM μ (μ 82 17)) = false) → Ev2 G mX8_readWord 2 32 [(0, .ref 82), (1, .int 0)] [] (mset μ 82 18 6) K) ∧ (((ltM μ (μ 82 17)) = true) → Ev2 G mX8_readWord 2 0 [(0, .ref 82)] [] (mset μ 82 17 ((μ 82 17) + 1)) K)) : Ev2 G mX8_readWord 2 0 [(0, .ref 82)] [] μ K := by
  refine ev_aload_n dX8_readWord_0 0 rfl (by decide) ?_
  refine ev_aload_n dX8_readWord_1 0 rfl (by decide) ?_
  refine ev_getI' (v := (μ 82 17)) fl_8_85 rfl kd_82 rfl dX8_readWord_2 ?_
  have p1 := h.1
  have h2 := h.2
  refine e2_callV (w := .int (bi (ltM μ (μ 82 17)))) (μ1 := μ) (a := 82) (as := [.int (μ 82 17)]) (st := []) ok_X8_isLetter vi_X8_isLetter ml_8_88 hcl_8 kd_82 dX8_readWord_5 rfl rfl (Nat.le_of_ble_eq_true rfl) (Nat.le_of_ble_eq_true rfl) (by decide) (ct_X8_isLetter ((μ 82 17)) μ p1) ?_
  refine ev_ifeq_bi (tgt := 24) dX8_readWord_8 rfl (fun c3 => ?_) (fun c3 => ?_)
  · have h4 := h2.1 c3
    refine ev_aload_n dX8_readWord_24 0 rfl (by decide) ?_
    refine ev_bipush (v := 6) dX8_readWord_25 rfl ?_
    refine ev_putI fl_8_91 ⟨rfl, rfl, rfl⟩ (fun r hr => by cases hr; rfl) kd_82 dX8_readWord_27 ?_
    refine ev_iconst (v := 0) dX8_readWord_30 rfl ?_
    refine ev_istore_n (lv' := [(0, .ref 82), (1, .int 0)]) dX8_readWord_31 (by decide) [1, 0] rfl ?_
    exact h4
  · have h5 := h2.2 c3
    refine ev_aload_n dX8_readWord_11 0 rfl (by decide) ?_
    refine ev_dup dX8_readWord_12 rfl ?_
    refine ev_getI' (v := (μ 82 17)) fl_8_85 rfl kd_82 rfl dX8_readWord_13 ?_
    refine ev_iconst (v := 1) dX8_readWord_16 rfl ?_
    refine ev_iadd dX8_readWord_17 ?_
    refine ev_putI fl_8_85 ⟨rfl, rfl, rfl⟩ (fun r hr => by cases hr; rfl) kd_82 dX8_readWord_18 ?_
    refine ev_goto (tgt := 0) dX8_readWord_21 rfl ?_
    exact h5
theorem sg_X8_readWord_32 {G : GW} {K : Option Value → Mem → Prop} {μ : Mem} {x1 : Int32}  (h : ((12 ≤ x1) → K none μ) ∧ ((¬ (12 ≤ x1)) → (vp_in (x1 + 1) 13) ∧ (vp_in x1 13) ∧ ∀ y8 : Int32, y8 = ((μ 96 (x1 + 1).toNatClampNeg) - (μ 96 x1.toNatClampNeg)) → ((¬ y8 = ((μ 82 17) - (μ 82 20))) → Ev2 G mX8_readWord 2 76 [(0, .ref 82), (1, .int x1), (2, .int y8), (3, .int 0), (4, .int 0)] [] μ K) ∧ ((y8 = ((μ 82 17) - (μ 82 20))) → Ev2 G mX8_readWord 2 76 [(0, .ref 82), (1, .int x1), (2, .int y8), (3, .int 1), (4, .int 0)] [] μ K))) : Ev2 G mX8_readWord 2 32 [(0, .ref 82), (1, .int x1)] [] μ K := by
  refine ev_iload_n dX8_readWord_32 1 rfl ?_
  refine ev_bipush (v := 12) dX8_readWord_33 rfl ?_
  refine ev_icmp_ge (tgt := 170) dX8_readWord_35 rfl (fun c1 => ?_) (fun c1 => ?_)
  · have h2 := h.1 c1
    exact ev_return dX8_readWord_170 rfl rfl rfl ⟨rfl, h2⟩
  · have h3 := h.2 c1
    refine ev_aload_n dX8_readWord_38 0 rfl (by decide) ?_
    refine ev_getR' fl_8_94 rfl kd_82 rf_82_22 dX8_readWord_39 ?_
    refine ev_iload_n dX8_readWord_42 1 rfl ?_
    refine ev_iconst (v := 1) dX8_readWord_43 rfl ?_
    refine ev_iadd dX8_readWord_44 ?_
    have p4 := h3.1
    have h5 := h3.2
    refine ev_iaload' (v := (μ 96 (x1 + 1).toNatClampNeg)) kd_96 ln_96 p4 rfl dX8_readWord_45 ?_
    refine ev_aload_n dX8_readWord_46 0 rfl (by decide) ?_
    refine ev_getR' fl_8_94 rfl kd_82 rf_82_22 dX8_readWord_47 ?_
    refine ev_iload_n dX8_readWord_50 1 rfl ?_
    have p6 := h5.1
    have h7 := h5.2
    refine ev_iaload' (v := (μ 96 x1.toNatClampNeg)) kd_96 ln_96 p6 rfl dX8_readWord_51 ?_
    refine ev_isub dX8_readWord_52 ?_
    refine ev_top (fun y8 ey8 => ?_)
    have h9 := h7 y8 ey8
    refine ev_istore_n (lv' := [(0, .ref 82), (1, .int x1), (2, .int y8)]) dX8_readWord_53 (by decide) [1, 2, 0] rfl ?_
    refine ev_iload_n dX8_readWord_54 2 rfl ?_
    refine ev_aload_n dX8_readWord_55 0 rfl (by decide) ?_
    refine ev_getI' (v := (μ 82 17)) fl_8_85 rfl kd_82 rfl dX8_readWord_56 ?_
    refine ev_aload_n dX8_readWord_59 0 rfl (by decide) ?_
    refine ev_getI' (v := (μ 82 20)) fl_8_97 rfl kd_82 rfl dX8_readWord_60 ?_
    refine ev_isub dX8_readWord_63 ?_
    refine ev_icmp_ne (tgt := 71) dX8_readWord_64 rfl (fun c10 => ?_) (fun c10 => ?_)
    · have h11 := h9.1 c10
      refine ev_iconst (v := 0) dX8_readWord_71 rfl ?_
      refine ev_istore_n (lv' := [(0, .ref 82), (1, .int x1), (2, .int y8), (3, .int 0)]) dX8_readWord_72 (by decide) [1, 2, 3, 0] rfl ?_
      refine ev_iconst (v := 0) dX8_readWord_73 rfl ?_
      refine ev_istore (lv' := [(0, .ref 82), (1, .int x1), (2, .int y8), (3, .int 0), (4, .int 0)]) dX8_readWord_74 (by decide) [1, 2, 3, 4, 0] rfl ?_
      exact h11
    · have h12 := h9.2 c10
      refine ev_iconst (v := 1) dX8_readWord_67 rfl ?_
      refine ev_goto (tgt := 72) dX8_readWord_68 rfl ?_
      refine ev_istore_n (lv' := [(0, .ref 82), (1, .int x1), (2, .int y8), (3, .int 1)]) dX8_readWord_72 (by decide) [1, 2, 3, 0] rfl ?_
      refine ev_iconst (v := 0) dX8_readWord_73 rfl ?_
      refine ev_istore (lv' := [(0, .ref 82), (1, .int x1), (2, .int y8), (3, .int 1), (4, .int 0)]) dX8_readWord_74 (by decide) [1, 2, 3, 4, 0] rfl ?_
      exact h12
theorem sg_X8_readWord_76 {G : GW} {K : Option Value → Mem → Prop} {μ : Mem} {x1 x2 x4 : Int32} {x3 : Bool}  (h : ((x2 ≤ x4) → Ev2 G mX8_readWord 2 127 [(0, .ref 82), (1, .int x1), (3, .int (bi x3))] [] μ K) ∧ ((¬ (x2 ≤ x4)) → ((x3 = false) → Ev2 G mX8_readWord 2 127 [(0, .ref 82), (1, .int x1), (3, .int (bi x3))] [] μ K) ∧ ((x3 = true) → (vp_in ((μ 82 20) + x4) 160) ∧ (vp_in x1 13) ∧ (vp_in ((μ 96 x1.toNatClampNeg) + x4) 41) ∧ ((¬ (μ 92 ((μ 82 20) + x4).toNatClampNeg) = (μ 95 ((μ 96 x1.toNatClampNeg) + x4).toNatClampNeg)) → Ev2 G mX8_readWord 2 76 [(0, .ref 82), (1, .int x1), (2, .int x2), (3, .int 0), (4, .int (x4 + 1))] [] μ K) ∧ (((μ 92 ((μ 82 20) + x4).toNatClampNeg) = (μ 95 ((μ 96 x1.toNatClampNeg) + x4).toNatClampNeg)) → Ev2 G mX8_readWord 2 76 [(0, .ref 82), (1, .int x1), (2, .int x2), (3, .int 1), (4, .int (x4 + 1))] [] μ K)))) : Ev2 G mX8_readWord 2 76 [(0, .ref 82), (1, .int x1), (2, .int x2), (3, .int (bi x3)), (4, .int x4)] [] μ K := by
  refine ev_iload dX8_readWord_76 4 rfl ?_
  refine ev_iload_n dX8_readWord_78 2 rfl ?_
  refine ev_icmp_ge (tgt := 127) dX8_readWord_79 rfl (fun c1 => ?_) (fun c1 => ?_)
  · have h2 := h.1 c1
    refine EvW.less [0, 1, 3] (lv' := [(0, .ref 82), (1, .int x1), (3, .int (bi x3))]) rfl ?_
    exact h2
  · have h3 := h.2 c1
    refine ev_iload_n dX8_readWord_82 3 rfl ?_
    refine ev_ifeq_bi (tgt := 127) dX8_readWord_83 rfl (fun c4 => ?_) (fun c4 => ?_)
    · have h5 := h3.1 c4
      refine EvW.less [0, 1, 3] (lv' := [(0, .ref 82), (1, .int x1), (3, .int (bi x3))]) rfl ?_
      exact h5
    · have h6 := h3.2 c4
      refine ev_aload_n dX8_readWord_86 0 rfl (by decide) ?_
      refine ev_getR' fl_8_82 rfl kd_82 rf_82_11 dX8_readWord_87 ?_
      refine ev_aload_n dX8_readWord_90 0 rfl (by decide) ?_
      refine ev_getI' (v := (μ 82 20)) fl_8_97 rfl kd_82 rfl dX8_readWord_91 ?_
      refine ev_iload dX8_readWord_94 4 rfl ?_
      refine ev_iadd dX8_readWord_96 ?_
      have p7 := h6.1
      have h8 := h6.2
      refine ev_iaload' (v := (μ 92 ((μ 82 20) + x4).toNatClampNeg)) kd_92 ln_92 p7 rfl dX8_readWord_97 ?_
      refine ev_aload_n dX8_readWord_98 0 rfl (by decide) ?_
      refine ev_getR' fl_8_100 rfl kd_82 rf_82_21 dX8_readWord_99 ?_
      refine ev_aload_n dX8_readWord_102 0 rfl (by decide) ?_
      refine ev_getR' fl_8_94 rfl kd_82 rf_82_22 dX8_readWord_103 ?_
      refine ev_iload_n dX8_readWord_106 1 rfl ?_
      have p9 := h8.1
      have h10 := h8.2
      refine ev_iaload' (v := (μ 96 x1.toNatClampNeg)) kd_96 ln_96 p9 rfl dX8_readWord_107 ?_
      refine ev_iload dX8_readWord_108 4 rfl ?_
      refine ev_iadd dX8_readWord_110 ?_
      have p11 := h10.1
      have h12 := h10.2
      refine ev_caload' (v := (μ 95 ((μ 96 x1.toNatClampNeg) + x4).toNatClampNeg)) kd_95 ln_95 p11 rfl dX8_readWord_111 ?_
      refine ev_icmp_ne (tgt := 119) dX8_readWord_112 rfl (fun c13 => ?_) (fun c13 => ?_)
      · have h14 := h12.1 c13
        refine ev_iconst (v := 0) dX8_readWord_119 rfl ?_
        refine ev_istore_n (lv' := [(0, .ref 82), (1, .int x1), (2, .int x2), (3, .int 0), (4, .int x4)]) dX8_readWord_120 (by decide) [1, 2, 3, 0, 4] rfl ?_
        refine ev_iinc (v := (x4 + 1)) (lv' := [(0, .ref 82), (1, .int x1), (2, .int x2), (3, .int 0), (4, .int (x4 + 1))]) dX8_readWord_121 4 rfl rfl (by decide) [1, 2, 3, 4, 0] rfl ?_
        refine ev_goto (tgt := 76) dX8_readWord_124 rfl ?_
        exact h14
      · have h15 := h12.2 c13
        refine ev_iconst (v := 1) dX8_readWord_115 rfl ?_
        refine ev_goto (tgt := 120) dX8_readWord_116 rfl ?_
        refine ev_istore_n (lv' := [(0, .ref 82), (1, .int x1), (2, .int x2), (3, .int 1), (4, .int x4)]) dX8_readWord_120 (by decide) [1, 2, 3, 0, 4] rfl ?_
        refine ev_iinc (v := (x4 + 1)) (lv' := [(0, .ref 82), (1, .int x1), (2, .int x2), (3, .int 1), (4, .int (x4 + 1))]) dX8_readWord_121 4 rfl rfl (by decide) [1, 2, 3, 4, 0] rfl ?_
        refine ev_goto (tgt := 76) dX8_readWord_124 rfl ?_
        exact h15
theorem sg_X8_readWord_127 {G : GW} {K : Option Value → Mem → Prop} {μ : Mem} {x1 : Int32} {x3 : Bool}  (h : ((x3 = false) → Ev2 G mX8_readWord 2 32 [(0, .ref 82), (1, .int (x1 + 1))] [] μ K) ∧ ((x3 = true) → ((6 ≤ x1) → ((6 ≤ x1) → Ev2 G mX8_readWord 2 32 [(0, .ref 82), (1, .int (x1 + 1))] [] (mset (mset μ 82 18 3) 82 19 (x1 - 6)) K) ∧ ((¬ (6 ≤ x1)) → Ev2 G mX8_readWord 2 32 [(0, .ref 82), (1, .int (x1 + 1))] [] (mset (mset μ 82 18 3) 82 19 x1) K)) ∧ ((¬ (6 ≤ x1)) → ((6 ≤ x1) → Ev2 G mX8_readWord 2 32 [(0, .ref 82), (1, .int (x1 + 1))] [] (mset (mset μ 82 18 2) 82 19 (x1 - 6)) K) ∧ ((¬ (6 ≤ x1)) → Ev2 G mX8_readWord 2 32 [(0, .ref 82), (1, .int (x1 + 1))] [] (mset (mset μ 82 18 2) 82 19 x1) K)))) : Ev2 G mX8_readWord 2 127 [(0, .ref 82), (1, .int x1), (3, .int (bi x3))] [] μ K := by
  refine ev_iload_n dX8_readWord_127 2 rfl ?_
  refine ev_ifeq_bi (tgt := 164) dX8_readWord_128 rfl (fun c1 => ?_) (fun c1 => ?_)
  · have h2 := h.1 c1
    refine ev_iinc (v := (x1 + 1)) (lv' := [(0, .ref 82), (1, .int (x1 + 1)), (3, .int (bi x3))]) dX8_readWord_164 1 rfl rfl (by decide) [1, 0, 2] rfl ?_
    refine ev_goto (tgt := 32) dX8_readWord_167 rfl ?_
    refine EvW.less [0, 1] (lv' := [(0, .ref 82), (1, .int (x1 + 1))]) rfl ?_
    exact h2
  · have h3 := h.2 c1
    refine ev_aload_n dX8_readWord_131 0 rfl (by decide) ?_
    refine ev_iload_n dX8_readWord_132 1 rfl ?_
    refine ev_bipush (v := 6) dX8_readWord_133 rfl ?_
    refine ev_icmp_ge (tgt := 142) dX8_readWord_135 rfl (fun c4 => ?_) (fun c4 => ?_)
    · have h5 := h3.1 c4
      refine ev_iconst (v := 3) dX8_readWord_142 rfl ?_
      refine ev_putI fl_8_91 ⟨rfl, rfl, rfl⟩ (fun r hr => by cases hr; rfl) kd_82 dX8_readWord_143 ?_
      refine ev_aload_n dX8_readWord_146 0 rfl (by decide) ?_
      refine ev_iload_n dX8_readWord_147 1 rfl ?_
      refine ev_bipush (v := 6) dX8_readWord_148 rfl ?_
      refine ev_icmp_ge (tgt := 157) dX8_readWord_150 rfl (fun c7 => ?_) (fun c7 => ?_)
      · have h8 := h5.1 c7
        refine ev_iload_n dX8_readWord_157 1 rfl ?_
        refine ev_bipush (v := 6) dX8_readWord_158 rfl ?_
        refine ev_isub dX8_readWord_160 ?_
        refine ev_putI fl_8_104 ⟨rfl, rfl, rfl⟩ (fun r hr => by cases hr; rfl) kd_82 dX8_readWord_161 ?_
        refine ev_iinc (v := (x1 + 1)) (lv' := [(0, .ref 82), (1, .int (x1 + 1)), (3, .int (bi x3))]) dX8_readWord_164 1 rfl rfl (by decide) [1, 0, 2] rfl ?_
        refine ev_goto (tgt := 32) dX8_readWord_167 rfl ?_
        refine EvW.less [0, 1] (lv' := [(0, .ref 82), (1, .int (x1 + 1))]) rfl ?_
        exact h8
      · have h9 := h5.2 c7
        refine ev_iload_n dX8_readWord_153 1 rfl ?_
        refine ev_goto (tgt := 161) dX8_readWord_154 rfl ?_
        refine ev_putI fl_8_104 ⟨rfl, rfl, rfl⟩ (fun r hr => by cases hr; rfl) kd_82 dX8_readWord_161 ?_
        refine ev_iinc (v := (x1 + 1)) (lv' := [(0, .ref 82), (1, .int (x1 + 1)), (3, .int (bi x3))]) dX8_readWord_164 1 rfl rfl (by decide) [1, 0, 2] rfl ?_
        refine ev_goto (tgt := 32) dX8_readWord_167 rfl ?_
        refine EvW.less [0, 1] (lv' := [(0, .ref 82), (1, .int (x1 + 1))]) rfl ?_
        exact h9
    · have h6 := h3.2 c4
      refine ev_iconst (v := 2) dX8_readWord_138 rfl ?_
      refine ev_goto (tgt := 143) dX8_readWord_139 rfl ?_
      refine ev_putI fl_8_91 ⟨rfl, rfl, rfl⟩ (fun r hr => by cases hr; rfl) kd_82 dX8_readWord_143 ?_
      refine ev_aload_n dX8_readWord_146 0 rfl (by decide) ?_
      refine ev_iload_n dX8_readWord_147 1 rfl ?_
      refine ev_bipush (v := 6) dX8_readWord_148 rfl ?_
      refine ev_icmp_ge (tgt := 157) dX8_readWord_150 rfl (fun c10 => ?_) (fun c10 => ?_)
      · have h11 := h6.1 c10
        refine ev_iload_n dX8_readWord_157 1 rfl ?_
        refine ev_bipush (v := 6) dX8_readWord_158 rfl ?_
        refine ev_isub dX8_readWord_160 ?_
        refine ev_putI fl_8_104 ⟨rfl, rfl, rfl⟩ (fun r hr => by cases hr; rfl) kd_82 dX8_readWord_161 ?_
        refine ev_iinc (v := (x1 + 1)) (lv' := [(0, .ref 82), (1, .int (x1 + 1)), (3, .int (bi x3))]) dX8_readWord_164 1 rfl rfl (by decide) [1, 0, 2] rfl ?_
        refine ev_goto (tgt := 32) dX8_readWord_167 rfl ?_
        refine EvW.less [0, 1] (lv' := [(0, .ref 82), (1, .int (x1 + 1))]) rfl ?_
        exact h11
      · have h12 := h6.2 c10
        refine ev_iload_n dX8_readWord_153 1 rfl ?_
        refine ev_goto (tgt := 161) dX8_readWord_154 rfl ?_
        refine ev_putI fl_8_104 ⟨rfl, rfl, rfl⟩ (fun r hr => by cases hr; rfl) kd_82 dX8_readWord_161 ?_
        refine ev_iinc (v := (x1 + 1)) (lv' := [(0, .ref 82), (1, .int (x1 + 1)), (3, .int (bi x3))]) dX8_readWord_164 1 rfl rfl (by decide) [1, 0, 2] rfl ?_
        refine ev_goto (tgt := 32) dX8_readWord_167 rfl ?_
        refine EvW.less [0, 1] (lv' := [(0, .ref 82), (1, .int (x1 + 1))]) rfl ?_
        exact h12
theorem rnT_all (b : Int32 → Bool) (f : Nat → Int32) : ∀ j p i, p ≤ i → i < rnT b f j p → b (f i) = true := by
  intro j
  induction j with
  | zero =>
    intro p i h1 h2
    have : rnT b f 0 p = p := rfl
    omega
  | succ j ih =>
    intro p i h1 h2
    unfold rnT at h2
    by_cases c : b (f p) = true
    · rw [if_pos c] at h2
      by_cases e : i = p
      · rw [e]; exact c
      · exact ih (p + 1) i (by omega) h2
    · rw [if_neg c] at h2
      omega
/-- the words below w looked up -/
def wI (f : Nat → Int32) (s l w : Nat) (ν : Mem) : Prop := (ν 82 18 = 6 ∧ ∀ v, v < w → isWd f s l (clN v) = false) ∨ ∃ v, v < w ∧ v < 12 ∧ isWd f s l (clN v) = true ∧ ν 82 18 = (if v < 6 then 2 else 3) ∧ ν 82 19 = nI (if v < 6 then v else v - 6)
theorem clN_inj : ∀ v, v < 12 → ∀ w, w < 12 → clN v = clN w → v = w := by decide
theorem clN_on : ∀ c, c < 12 → ∃ w, w < 12 ∧ clN w = c := by decide
theorem wI.end_ {f : Nat → Int32} {s l : Nat} {ν : Mem} (h : wI f s l 12 ν) : tokV (wdI f s l 12) 0 (ν 82 18) (ν 82 19) := by
  rcases h with ⟨h1, h2⟩ | ⟨v, -, hv, h3, h4, h5⟩
  · have e : wdI f s l 12 = 22 := wdI_none (fun c hc => by
      obtain ⟨w, hw, rfl⟩ := clN_on c hc
      exact h2 w hw) 12 (Nat.le_refl 12)
    rw [e]
    exact ⟨by rw [h1]; decide, fun _ q => absurd rfl q⟩
  · have hc := (beg_len v hv).2.2.2
    have e : wdI f s l 12 = nI (clN v) := wdI_some hc h3 12 (Nat.le_refl 12) (by omega)
    obtain ⟨t1, t2, -⟩ := wd_tok v hv
    rw [e]
    exact ⟨by rw [t1, h4], fun _ _ => by rw [t2, h5]⟩
theorem lp_X8_readWordL {G : GW} {K : Option Value → Mem → Prop} {ν : Mem} {n s l w : Nat} (hw : w < 12) (hn : s + l ≤ 160) (h20 : ν 82 20 = nI s) (hk : vMk ν) (hl : l = lenN w) {f : Nat → Int32} (hf : ν 92 = f) (hK : Ev2 G mX8_readWord 2 127 [(0, .ref 82), (1, .int (nI w)), (3, .int (bi (lmB f s w (lenN w))))] [] ν K) : ∀ j k, k + j = lenN w → Ev2 G mX8_readWord 2 76 [(0, .ref 82), (1, .int (nI w)), (2, .int (nI (lenN w))), (3, .int (bi (lmB f s w k))), (4, .int (nI k))] [] ν K := by
  obtain ⟨b1, b2, b3, b4⟩ := beg_len w hw
  intro j
  induction j with
  | zero =>
    intro k hkk
    obtain rfl : k = lenN w := hkk
    exact sg_X8_readWord_76 ⟨fun _ => hK, fun c => absurd (Int32.le_refl _) c⟩
  | succ j ih =>
    intro k hkk
    have hh := ih (k + 1) (by omega)
    have ep : lmB f s w (k + 1) = (lmB f s w k && decide (f (s + k) = letM.getD (begN w + k) 0)) := rfl
    rw [ep, ← nI_1] at hh
    have eb : ν 96 w = nI (begN w) := (hk.2 w (by omega)).trans (beg_nI w (by omega))
    refine sg_X8_readWord_76 ⟨fun c => absurd c (nI_ge (by omega) (by omega)), fun _ => ⟨fun c => ?_, fun c => ?_⟩⟩
    · have : lmB f s w (lenN w) = lmB f s w k := by
        rw [c]
        cases h : lmB f s w (lenN w) with
        | false => rfl
        | true =>
          have h2 := (lmB_t (f := f) (s := s) (w := w) k).mpr (fun i hi => (lmB_t _).mp h i (by omega))
          rw [c] at h2
          cases h2
      rw [this] at hK
      exact hK
    · rw [c, Bool.true_and] at hh
      rw [h20, ix_nI (i := w) (by omega), eb, nI_add, nI_add, ix_nI (by omega), ix_nI (by omega), hk.1 _ (by omega), hf]
      refine ⟨vp_nI (by omega) (by omega), vp_nI (by omega) (by omega), vp_nI (by omega) (by omega), fun d => ?_, fun d => ?_⟩
      · rw [decide_eq_false d] at hh
        exact hh
      · rw [decide_eq_true d] at hh
        exact hh
theorem vMk.fr {μ ν : Mem} (h : vMk μ) (hf : fr4 μ ν) : vMk ν := h.eq (hf.row (by omega)) (hf.row (by omega))
theorem lp_X8_readWordW {G : GW} {μ : Mem} {s l : Nat} (hn : s + l ≤ 160) (hk : vMk μ) (hlt : ∀ i, i < l → letB (μ 92 (s + i)) = true) : ∀ j w (ν : Mem), w + j = 12 → fr4 μ ν → ν 82 20 = nI s → ν 82 17 = nI (s + l) → wI (μ 92) s l w ν → Ev2 G mX8_readWord 2 32 [(0, .ref 82), (1, .int (nI w))] [] ν (fun v μ' => v = none ∧ fr4 μ μ' ∧ μ' 82 20 = nI s ∧ μ' 82 17 = nI (s + l) ∧ wI (μ 92) s l 12 μ') := by
  intro j
  induction j with
  | zero =>
    intro w ν hw h1 h2 h3 h4
    obtain rfl : w = 12 := hw
    exact sg_X8_readWord_32 ⟨fun _ => ⟨rfl, h1, h2, h3, h4⟩, fun c => absurd (nI_le (a := 12) (Nat.le_refl 12) (by omega)) c⟩
  | succ j ih =>
    intro w ν hw h1 h2 h3 h4
    obtain ⟨b1, b2, b3, b4⟩ := beg_len w (by omega)
    have hkν := hk.fr h1
    have e0 : ν 96 w = nI (begN w) := (hkν.2 w (by omega)).trans (beg_nI w (by omega))
    have e1 : ν 96 (w + 1) = nI (begN (w + 1)) := (hkν.2 (w + 1) (by omega)).trans (beg_nI (w + 1) (by omega))
    have hM := isWd_M (f := μ 92) (s := s) (l := l) (w := w) (by omega) hlt
    have hno : isWd (μ 92) s l (clN w) = false → wI (μ 92) s l (w + 1) ν := fun q => by
      rcases h4 with ⟨a, b⟩ | ⟨v, a, b⟩
      · refine Or.inl ⟨a, fun v hv => ?_⟩
        by_cases c : v = w
        · rw [c]; exact q
        · exact b v (by omega)
      · exact Or.inr ⟨v, by omega, b⟩
    have h127 : ∀ b : Bool, b = isWd (μ 92) s l (clN w) → Ev2 G mX8_readWord 2 127 [(0, .ref 82), (1, .int (nI w)), (3, .int (bi b))] [] ν (fun v μ' => v = none ∧ fr4 μ μ' ∧ μ' 82 20 = nI s ∧ μ' 82 17 = nI (s + l) ∧ wI (μ 92) s l 12 μ') := by
      intro b hb
      have put : ∀ t x : Int32, isWd (μ 92) s l (clN w) = true → t = (if w < 6 then 2 else 3) → x = nI (if w < 6 then w else w - 6) → Ev2 G mX8_readWord 2 32 [(0, .ref 82), (1, .int (nI w + 1))] [] (mset (mset ν 82 18 t) 82 19 x) (fun v μ' => v = none ∧ fr4 μ μ' ∧ μ' 82 20 = nI s ∧ μ' 82 17 = nI (s + l) ∧ wI (μ 92) s l 12 μ') := fun t x hi ht hx => by
        rw [nI_1]
        refine ih (w + 1) _ (by omega) ((h1.tr (fr4.set (by omega) (by omega))).tr (fr4.set (by omega) (by omega))) (by rw [mset_other (by omega), mset_other (by omega)]; exact h2) (by rw [mset_other (by omega), mset_other (by omega)]; exact h3) (Or.inr ⟨w, by omega, by omega, hi, ?_, ?_⟩)
        · rw [mset_other (by omega), mset_same, ht]
        · rw [mset_same, hx]
      refine sg_X8_readWord_127 ⟨fun c => ?_, fun c => ?_⟩
      · rw [nI_1]
        exact ih (w + 1) ν (by omega) h1 h2 h3 (hno (by rw [← hb]; exact c))
      · have hi : isWd (μ 92) s l (clN w) = true := by rw [← hb]; exact c
        by_cases c6 : w < 6
        · have n6 : ¬ 6 ≤ nI w := nI_ge (b := 6) c6 (by omega)
          exact ⟨fun q => absurd q n6, fun _ => ⟨fun q => absurd q n6, fun _ => put 2 (nI w) hi (by rw [if_pos c6]) (by rw [if_pos c6])⟩⟩
        · have p6 : 6 ≤ nI w := nI_le (a := 6) (by omega) (by omega)
          refine ⟨fun _ => ⟨fun _ => put 3 (nI w - 6) hi (by rw [if_neg c6]) ?_, fun q => absurd p6 q⟩, fun q => absurd p6 q⟩
          rw [if_neg c6, show (6 : Int32) = nI 6 from rfl, pk_sub (by omega)]
    refine sg_X8_readWord_32 ⟨fun c => absurd c (nI_ge (b := 12) (by omega) (by omega)), fun _ => ?_⟩
    rw [nI_1, ix_nI (i := w + 1) (by omega), ix_nI (i := w) (by omega), e0, e1, b1, pk_sub (by omega), show begN w + lenN w - begN w = lenN w by omega, h2, h3, pk_sub (by omega), show s + l - s = l by omega]
    refine ⟨vp_nI (by omega) (by omega), vp_nI (by omega) (by omega), fun y hy => ⟨fun c => ?_, fun c => ?_⟩⟩
    · rw [hy] at c ⊢
      have cl : ¬ lenN w = l := fun q => c (by rw [q])
      have hf : isWd (μ 92) s l (clN w) = false := by rw [hM, decide_eq_false cl]; rfl
      by_cases c0 : lenN w = 0
      · refine sg_X8_readWord_76 (x3 := false) ⟨fun _ => h127 false hf.symm, fun q => absurd (show nI (lenN w) ≤ 0 by rw [c0]; exact Int32.le_refl _) q⟩
      · exact sg_X8_readWord_76 (x3 := false) ⟨fun _ => h127 false hf.symm, fun _ => ⟨fun _ => h127 false hf.symm, fun q => absurd q (by decide)⟩⟩
    · rw [hy] at c ⊢
      have cl : lenN w = l := (nI_eq (by omega) (by omega)).mp c
      have hf : lmB (μ 92) s w (lenN w) = isWd (μ 92) s l (clN w) := by rw [hM, decide_eq_true cl, Bool.true_and]
      exact lp_X8_readWordL (n := 0) (l := l) (by omega) hn h2 hkν cl.symm (h1.row (by omega)) (h127 _ hf) (lenN w) 0 (Nat.zero_add _)
theorem lp_X8_readWord {G : GW} {μ : Mem} {n p : Nat} (hn : n ≤ 160) (hk : vMk μ) (h12 : μ 82 12 = nI n) : ∀ j q (ν : Mem), q + j = n → p ≤ q → fr4 μ ν → ν 82 20 = nI p → ν 82 17 = nI q → rnT letB (μ 92) (n - p) p = rnT letB (μ 92) (n - q) q → Ev2 G mX8_readWord 2 0 [(0, .ref 82)] [] ν (fun v μ' => v = none ∧ fr4 μ μ' ∧ μ' 82 20 = nI p ∧ μ' 82 17 = nI (rnT letB (μ 92) (n - p) p) ∧ wI (μ 92) p (rnT letB (μ 92) (n - p) p - p) 12 μ') := by
  have stop : ∀ q (ν : Mem), q ≤ n → p ≤ q → fr4 μ ν → ν 82 20 = nI p → ν 82 17 = nI q → rnT letB (μ 92) (n - p) p = q → Ev2 G mX8_readWord 2 32 [(0, .ref 82), (1, .int 0)] [] (mset ν 82 18 6) (fun v μ' => v = none ∧ fr4 μ μ' ∧ μ' 82 20 = nI p ∧ μ' 82 17 = nI (rnT letB (μ 92) (n - p) p) ∧ wI (μ 92) p (rnT letB (μ 92) (n - p) p - p) 12 μ') := by
    intro q ν hq hp h1 h2 h3 he
    have L := lp_X8_readWordW (G := G) (μ := μ) (s := p) (l := q - p) (by omega) hk (fun i hi => rnT_all letB (μ 92) (n - p) p (p + i) (by omega) (by omega)) 12 0 (mset ν 82 18 6) rfl (h1.tr (fr4.set (by omega) (by omega))) (by rw [mset_other (by omega)]; exact h2) (by rw [mset_other (by omega), h3, show p + (q - p) = q by omega]) (Or.inl ⟨mset_same, fun v hv => absurd hv (Nat.not_lt_zero v)⟩)
    rw [he]
    rw [show p + (q - p) = q by omega] at L
    exact L
  intro j
  induction j with
  | zero =>
    intro q ν hq hp h1 h2 h3 he
    obtain rfl : q = n := hq
    have e12 : ν 82 12 = nI q := (h1 82 12 (by omega)).trans h12
    have el : ltM ν (nI q) = false := by
      unfold ltM
      rw [e12, decide_eq_false Int32.lt_irrefl]
      rfl
    refine sg_X8_readWord_0 ?_
    rw [h3, el]
    refine ⟨⟨q, q, hn, Nat.le_refl _, e12, rfl⟩, fun _ => stop q ν (Nat.le_refl _) hp h1 h2 h3 ?_, fun c => absurd c (by decide)⟩
    rw [he, Nat.sub_self]
    rfl
  | succ j ih =>
    intro q ν hq hp h1 h2 h3 he
    have e12 : ν 82 12 = nI n := (h1 82 12 (by omega)).trans h12
    have el : ltM ν (nI q) = letB (μ 92 q) := by
      unfold ltM
      rw [e12, decide_eq_true (nI_lt (by omega) (by omega)), Bool.true_and, ix_nI (by omega), h1.row (by omega)]
    have er : rnT letB (μ 92) (n - q) q = if letB (μ 92 q) = true then rnT letB (μ 92) (n - (q + 1)) (q + 1) else q := by
      rw [show n - q = n - (q + 1) + 1 by omega]
      rfl
    refine sg_X8_readWord_0 ?_
    rw [h3, el]
    refine ⟨⟨n, q, hn, by omega, e12, rfl⟩, fun c => stop q ν (by omega) hp h1 h2 h3 ?_, fun c => ?_⟩
    · rw [he, er, if_neg (by rw [c]; decide)]
    · rw [nI_1]
      refine ih (q + 1) _ (by omega) (by omega) (h1.tr (fr4.set (by omega) (by omega))) (by rw [mset_other (by omega)]; exact h2) mset_same ?_
      rw [he, er, if_pos c]
theorem ct_X8_readWord {G : GW} (μ : Mem) (hp : rwP μ) : Ev2 G mX8_readWord 2 0 [(0, .ref 82)] [] μ (fun v μ' => v = none ∧ rwR μ μ') := by
  obtain ⟨n, p, hn, hpn, e1, e2, e3, hk⟩ := hp
  refine ev2_imp (lp_X8_readWord (p := p) hn hk e1 (n - p) p μ (by omega) (Nat.le_refl _) (fr4.rf μ) e3 e2 rfl) ?_
  rintro v ν ⟨rfl, h1, h2, h3, h4⟩
  refine ⟨rfl, h1, h2.trans e3.symm, fun n' p' hn' hp' e1' e2' => ?_⟩
  obtain rfl : n = n' := (nI_eq (by omega) (by omega)).mp (e1.symm.trans e1')
  obtain rfl : p = p' := (nI_eq (by omega) (by omega)).mp (e2.symm.trans e2')
  exact ⟨h3, h4.end_⟩
/-! numbers -/
def nmP (f : Nat → Int32) (p : Nat) : Nat → Int32
  | 0 => 0
  | j + 1 => 10 * nmP f p j + f (p + j) - 48
def rnP (μ : Mem) : Prop := ∃ n p, n ≤ 160 ∧ p ≤ n ∧ μ 82 12 = nI n ∧ μ 82 17 = nI p ∧ μ 82 20 = nI p
def rnR (μ ν : Mem) : Prop := fr4 μ ν ∧ ν 82 20 = μ 82 20 ∧ ∀ n p, n ≤ 160 → p ≤ n → μ 82 12 = nI n → μ 82 17 = nI p → ν 82 17 = nI (rnT digB (μ 92) (n - p) p) ∧ tokV (if rnT digB (μ 92) (n - p) p - p ≤ 4 then 20 else 22) (nmT (μ 92) (n - p) p 0) (ν 82 18) (ν 82 19)
theorem sg_X8_readNumber_0 {G : GW} {K : Option Value → Mem → Prop} {μ : Mem}   (h : Ev2 G mX8_readNumber 2 5 [(0, .ref 82)] [] (mset μ 82 19 0) K) : Ev2 G mX8_readNumber 2 0 [(0, .ref 82)] [] μ K := by
  refine ev_aload_n dX8_readNumber_0 0 rfl (by decide) ?_
  refine ev_iconst (v := 0) dX8_readNumber_1 rfl ?_
  refine ev_putI fl_8_104 ⟨rfl, rfl, rfl⟩ (fun r hr => by cases hr; rfl) kd_82 dX8_readNumber_2 ?_
  exact h
theorem sg_X8_readNumber_5 {G : GW} {K : Option Value → Mem → Prop} {μ : Mem}   (h : (tpM μ (μ 82 17)) ∧ (((dgM μ (μ 82 17)) = false) → ((((μ 82 17) - (μ 82 20)) ≤ 4) → K none (mset μ 82 18 1)) ∧ ((¬ (((μ 82 17) - (μ 82 20)) ≤ 4)) → K none (mset μ 82 18 6))) ∧ (((dgM μ (μ 82 17)) = true) → ((4 ≤ ((μ 82 17) - (μ 82 20))) → Ev2 G mX8_readNumber 2 5 [(0, .ref 82)] [] (mset (mset μ 82 19 (μ 82 19)) 82 17 ((μ 82 17) + 1)) K) ∧ ((¬ (4 ≤ ((μ 82 17) - (μ 82 20)))) → (vp_in (μ 82 17) 160) ∧ Ev2 G mX8_readNumber 2 5 [(0, .ref 82)] [] (mset (mset μ 82 19 (((10 * (μ 82 19)) + (μ 92 (μ 82 17).toNatClampNeg)) - 48)) 82 17 ((μ 82 17) + 1)) K))) : Ev2 G mX8_readNumber 2 5 [(0, .ref 82)] [] μ K := by
  refine ev_aload_n dX8_readNumber_5 0 rfl (by decide) ?_
  refine ev_aload_n dX8_readNumber_6 0 rfl (by decide) ?_
  refine ev_getI' (v := (μ 82 17)) fl_8_85 rfl kd_82 rfl dX8_readNumber_7 ?_
  have p1 := h.1
  have h2 := h.2
  refine e2_callV (w := .int (bi (dgM μ (μ 82 17)))) (μ1 := μ) (a := 82) (as := [.int (μ 82 17)]) (st := []) ok_X8_isDigit vi_X8_isDigit ml_8_107 hcl_8 kd_82 dX8_readNumber_10 rfl rfl (Nat.le_of_ble_eq_true rfl) (Nat.le_of_ble_eq_true rfl) (by decide) (ct_X8_isDigit ((μ 82 17)) μ p1) ?_
  refine ev_ifeq_bi (tgt := 73) dX8_readNumber_13 rfl (fun c3 => ?_) (fun c3 => ?_)
  · have h4 := h2.1 c3
    refine ev_aload_n dX8_readNumber_73 0 rfl (by decide) ?_
    refine ev_aload_n dX8_readNumber_74 0 rfl (by decide) ?_
    refine ev_getI' (v := (μ 82 17)) fl_8_85 rfl kd_82 rfl dX8_readNumber_75 ?_
    refine ev_aload_n dX8_readNumber_78 0 rfl (by decide) ?_
    refine ev_getI' (v := (μ 82 20)) fl_8_97 rfl kd_82 rfl dX8_readNumber_79 ?_
    refine ev_isub dX8_readNumber_82 ?_
    refine ev_iconst (v := 4) dX8_readNumber_83 rfl ?_
    refine ev_icmp_le (tgt := 92) dX8_readNumber_84 rfl (fun c6 => ?_) (fun c6 => ?_)
    · have h7 := h4.1 c6
      refine ev_iconst (v := 1) dX8_readNumber_92 rfl ?_
      refine ev_putI fl_8_91 ⟨rfl, rfl, rfl⟩ (fun r hr => by cases hr; rfl) kd_82 dX8_readNumber_93 ?_
      exact ev_return dX8_readNumber_96 rfl rfl rfl ⟨rfl, h7⟩
    · have h8 := h4.2 c6
      refine ev_bipush (v := 6) dX8_readNumber_87 rfl ?_
      refine ev_goto (tgt := 93) dX8_readNumber_89 rfl ?_
      refine ev_putI fl_8_91 ⟨rfl, rfl, rfl⟩ (fun r hr => by cases hr; rfl) kd_82 dX8_readNumber_93 ?_
      exact ev_return dX8_readNumber_96 rfl rfl rfl ⟨rfl, h8⟩
  · have h5 := h2.2 c3
    refine ev_aload_n dX8_readNumber_16 0 rfl (by decide) ?_
    refine ev_aload_n dX8_readNumber_17 0 rfl (by decide) ?_
    refine ev_getI' (v := (μ 82 17)) fl_8_85 rfl kd_82 rfl dX8_readNumber_18 ?_
    refine ev_aload_n dX8_readNumber_21 0 rfl (by decide) ?_
    refine ev_getI' (v := (μ 82 20)) fl_8_97 rfl kd_82 rfl dX8_readNumber_22 ?_
    refine ev_isub dX8_readNumber_25 ?_
    refine ev_iconst (v := 4) dX8_readNumber_26 rfl ?_
    refine ev_icmp_ge (tgt := 53) dX8_readNumber_27 rfl (fun c9 => ?_) (fun c9 => ?_)
    · have h10 := h5.1 c9
      refine ev_aload_n dX8_readNumber_53 0 rfl (by decide) ?_
      refine ev_getI' (v := (μ 82 19)) fl_8_104 rfl kd_82 rfl dX8_readNumber_54 ?_
      refine ev_putI fl_8_104 ⟨rfl, rfl, rfl⟩ (fun r hr => by cases hr; rfl) kd_82 dX8_readNumber_57 ?_
      refine ev_aload_n dX8_readNumber_60 0 rfl (by decide) ?_
      refine ev_dup dX8_readNumber_61 rfl ?_
      refine ev_getI' (v := (μ 82 17)) fl_8_85 rfl kd_82 rfl dX8_readNumber_62 ?_
      refine ev_iconst (v := 1) dX8_readNumber_65 rfl ?_
      refine ev_iadd dX8_readNumber_66 ?_
      refine ev_putI fl_8_85 ⟨rfl, rfl, rfl⟩ (fun r hr => by cases hr; rfl) kd_82 dX8_readNumber_67 ?_
      refine ev_goto (tgt := 5) dX8_readNumber_70 rfl ?_
      exact h10
    · have h11 := h5.2 c9
      refine ev_bipush (v := 10) dX8_readNumber_30 rfl ?_
      refine ev_aload_n dX8_readNumber_32 0 rfl (by decide) ?_
      refine ev_getI' (v := (μ 82 19)) fl_8_104 rfl kd_82 rfl dX8_readNumber_33 ?_
      refine ev_imul dX8_readNumber_36 ?_
      refine ev_aload_n dX8_readNumber_37 0 rfl (by decide) ?_
      refine ev_getR' fl_8_82 rfl kd_82 rf_82_11 dX8_readNumber_38 ?_
      refine ev_aload_n dX8_readNumber_41 0 rfl (by decide) ?_
      refine ev_getI' (v := (μ 82 17)) fl_8_85 rfl kd_82 rfl dX8_readNumber_42 ?_
      have p12 := h11.1
      have h13 := h11.2
      refine ev_iaload' (v := (μ 92 (μ 82 17).toNatClampNeg)) kd_92 ln_92 p12 rfl dX8_readNumber_45 ?_
      refine ev_iadd dX8_readNumber_46 ?_
      refine ev_bipush (v := 48) dX8_readNumber_47 rfl ?_
      refine ev_isub dX8_readNumber_49 ?_
      refine ev_goto (tgt := 57) dX8_readNumber_50 rfl ?_
      refine ev_putI fl_8_104 ⟨rfl, rfl, rfl⟩ (fun r hr => by cases hr; rfl) kd_82 dX8_readNumber_57 ?_
      refine ev_aload_n dX8_readNumber_60 0 rfl (by decide) ?_
      refine ev_dup dX8_readNumber_61 rfl ?_
      refine ev_getI' (v := (μ 82 17)) fl_8_85 rfl kd_82 rfl dX8_readNumber_62 ?_
      refine ev_iconst (v := 1) dX8_readNumber_65 rfl ?_
      refine ev_iadd dX8_readNumber_66 ?_
      refine ev_putI fl_8_85 ⟨rfl, rfl, rfl⟩ (fun r hr => by cases hr; rfl) kd_82 dX8_readNumber_67 ?_
      refine ev_goto (tgt := 5) dX8_readNumber_70 rfl ?_
      exact h13
def rnK (μ : Mem) (n p : Nat) (v : Option Value) (μ' : Mem) : Prop := v = none ∧ fr4 μ μ' ∧ μ' 82 20 = nI p ∧ μ' 82 17 = nI (rnT digB (μ 92) (n - p) p) ∧ tokV (if rnT digB (μ 92) (n - p) p - p ≤ 4 then 20 else 22) (nmT (μ 92) (n - p) p 0) (μ' 82 18) (μ' 82 19)
theorem lp_X8_readNumber {G : GW} {μ : Mem} {n p : Nat} (hn : n ≤ 160) (h12 : μ 82 12 = nI n) : ∀ j q (ν : Mem), q + j = n → p ≤ q → fr4 μ ν → ν 82 20 = nI p → ν 82 17 = nI q → (q - p ≤ 4 → ν 82 19 = nmP (μ 92) p (q - p)) → rnT digB (μ 92) (n - p) p = rnT digB (μ 92) (n - q) q → nmT (μ 92) (n - p) p 0 = nmT (μ 92) (n - q) q (nmP (μ 92) p (q - p)) → Ev2 G mX8_readNumber 2 5 [(0, .ref 82)] [] ν (rnK μ n p) := by
  have stop : ∀ q (ν : Mem), q ≤ n → p ≤ q → fr4 μ ν → ν 82 20 = nI p → ν 82 17 = nI q → (q - p ≤ 4 → ν 82 19 = nmP (μ 92) p (q - p)) → rnT digB (μ 92) (n - p) p = q → nmT (μ 92) (n - p) p 0 = nmP (μ 92) p (q - p) → ((nI q - nI p ≤ 4) → rnK μ n p none (mset ν 82 18 1)) ∧ ((¬ (nI q - nI p ≤ 4)) → rnK μ n p none (mset ν 82 18 6)) := by
    intro q ν hq hp h1 h2 h3 h4 he hv
    unfold rnK
    rw [he, hv, pk_sub hp]
    have f4 : ∀ v, fr4 μ (mset ν 82 18 v) := fun v => h1.tr (fr4.set (by omega) (by omega))
    refine ⟨fun c => ?_, fun c => ?_⟩
    · have c4 : q - p ≤ 4 := (nI_leI (a := q - p) (b := 4) (by omega) (by omega)).mp c
      refine ⟨rfl, f4 1, by rw [mset_other (by omega)]; exact h2, by rw [mset_other (by omega)]; exact h3, ?_⟩
      rw [if_pos c4, mset_same, mset_other (by omega), h4 c4]
      exact ⟨rfl, fun _ _ => rfl⟩
    · have c4 : ¬ q - p ≤ 4 := fun z => c (nI_le (b := 4) z (by omega))
      refine ⟨rfl, f4 6, by rw [mset_other (by omega)]; exact h2, by rw [mset_other (by omega)]; exact h3, ?_⟩
      rw [if_neg c4, mset_same]
      exact ⟨rfl, fun _ z => absurd rfl z⟩
  intro j
  induction j with
  | zero =>
    intro q ν hq hp h1 h2 h3 h4 he hv
    obtain rfl : q = n := hq
    have e12 : ν 82 12 = nI q := (h1 82 12 (by omega)).trans h12
    have el : dgM ν (nI q) = false := by
      unfold dgM
      rw [e12, decide_eq_false Int32.lt_irrefl]
      rfl
    rw [Nat.sub_self] at he hv
    refine sg_X8_readNumber_5 ?_
    rw [h3, el, h2]
    exact ⟨⟨q, q, hn, Nat.le_refl _, e12, rfl⟩, fun _ => stop q ν (Nat.le_refl _) hp h1 h2 h3 h4 he hv, fun c => absurd c (by decide)⟩
  | succ j ih =>
    intro q ν hq hp h1 h2 h3 h4 he hv
    have e12 : ν 82 12 = nI n := (h1 82 12 (by omega)).trans h12
    have el : dgM ν (nI q) = digB (μ 92 q) := by
      unfold dgM
      rw [e12, decide_eq_true (nI_lt (by omega) (by omega)), Bool.true_and, ix_nI (by omega), h1.row (by omega)]
    have er : rnT digB (μ 92) (n - q) q = if digB (μ 92 q) = true then rnT digB (μ 92) (n - (q + 1)) (q + 1) else q := by
      rw [show n - q = n - (q + 1) + 1 by omega]
      rfl
    have ev : nmT (μ 92) (n - q) q (nmP (μ 92) p (q - p)) = if digB (μ 92 q) = true then nmT (μ 92) (n - (q + 1)) (q + 1) (10 * nmP (μ 92) p (q - p) + μ 92 q - 48) else nmP (μ 92) p (q - p) := by
      rw [show n - q = n - (q + 1) + 1 by omega]
      rfl
    have eP : nmP (μ 92) p (q + 1 - p) = 10 * nmP (μ 92) p (q - p) + μ 92 q - 48 := by
      rw [show q + 1 - p = q - p + 1 by omega]
      show 10 * nmP (μ 92) p (q - p) + μ 92 (p + (q - p)) - 48 = _
      rw [show p + (q - p) = q by omega]
    refine sg_X8_readNumber_5 ?_
    rw [h3, el, h2, pk_sub hp]
    refine ⟨⟨n, q, hn, by omega, e12, rfl⟩, fun c => ?_, fun c => ⟨fun d => ?_, fun d => ⟨vp_nI (by omega) (by omega), ?_⟩⟩⟩
    · have := stop q ν (by omega) hp h1 h2 h3 h4 (by rw [he, er, if_neg (by rw [c]; decide)]) (by rw [hv, ev, if_neg (by rw [c]; decide)])
      rw [pk_sub hp] at this
      exact this
    · have d4 : 4 ≤ q - p := (nI_leI (a := 4) (b := q - p) (by omega) (by omega)).mp d
      rw [nI_1]
      refine ih (q + 1) _ (by omega) (by omega) ((h1.tr (fr4.set (by omega) (by omega))).tr (fr4.set (by omega) (by omega))) (by rw [mset_other (by omega), mset_other (by omega)]; exact h2) mset_same (fun z => absurd z (by omega)) ?_ ?_
      · rw [he, er, if_pos c]
      · rw [hv, ev, if_pos c, eP]
    · rw [nI_1, ix_nI (by omega), h1.row (a := 92) (by omega)]
      have d4 : q - p < 4 := Nat.not_le.mp (fun z => d (nI_le (a := 4) z (by omega)))
      refine ih (q + 1) _ (by omega) (by omega) ((h1.tr (fr4.set (by omega) (by omega))).tr (fr4.set (by omega) (by omega))) (by rw [mset_other (by omega), mset_other (by omega)]; exact h2) mset_same (fun z => ?_) ?_ ?_
      · rw [mset_other (by omega), mset_same, eP, h4 (by omega)]
      · rw [he, er, if_pos c]
      · rw [hv, ev, if_pos c, eP]
theorem ct_X8_readNumber {G : GW} (μ : Mem) (hp : rnP μ) : Ev2 G mX8_readNumber 2 0 [(0, .ref 82)] [] μ (fun v μ' => v = none ∧ rnR μ μ') := by
  obtain ⟨n, p, hn, hpn, e1, e2, e3⟩ := hp
  have L := lp_X8_readNumber (G := G) (p := p) hn e1 (n - p) p (mset μ 82 19 0) (by omega) (Nat.le_refl _) (fr4.set (by omega) (by omega)) (by rw [mset_other (by omega)]; exact e3) (by rw [mset_other (by omega)]; exact e2) (fun _ => by rw [mset_same, Nat.sub_self]; rfl) rfl (by rw [Nat.sub_self]; rfl)
  refine sg_X8_readNumber_0 (ev2_imp L ?_)
  rintro v ν ⟨rfl, h1, h2, h3, h4⟩
  refine ⟨rfl, h1, h2.trans e3.symm, fun n' p' hn' hp' e1' e2' => ?_⟩
  obtain rfl : n = n' := (nI_eq (by omega) (by omega)).mp (e1.symm.trans e1')
  obtain rfl : p = p' := (nI_eq (by omega) (by omega)).mp (e2.symm.trans e2')
  exact ⟨h3, h4⟩
/-! the next token -/
def sgT (k : Nat) : Int32 := if k = 40 then 12 else if k = 41 then 13 else if k = 59 then 14 else if k = 43 then 15 else if k = 45 then 16 else if k = 42 then 17 else if k = 60 then 18 else if k = 61 then 19 else 22
theorem sg_tab : ∀ k, k < 256 → sgK (nI k) = sgT k := by decide +kernel
def nxP (μ : Mem) : Prop := ∃ n p, n ≤ 160 ∧ p ≤ n ∧ μ 82 12 = nI n ∧ μ 82 17 = nI p ∧ vMk μ ∧ ∀ k, k < n → ∃ b, b < 256 ∧ μ 92 k = nI b
def nxR (μ ν : Mem) : Prop := fr4 μ ν ∧ ∀ n p, n ≤ 160 → p ≤ n → μ 82 12 = nI n → μ 82 17 = nI p → ν 82 20 = nI (skp (μ 92) n p) ∧ ν 82 17 = nI (tkE (μ 92) n (skp (μ 92) n p)) ∧ tokV (tkK (μ 92) n (skp (μ 92) n p)) (nmT (μ 92) (n - skp (μ 92) n p) (skp (μ 92) n p) 0) (ν 82 18) (ν 82 19)
theorem sg_X8_next_0 {G : GW} {K : Option Value → Mem → Prop} {μ : Mem}   (h : (((μ 82 12) ≤ (μ 82 17)) → Ev2 G mX8_next 3 52 [(0, .ref 82)] [] μ K) ∧ ((¬ ((μ 82 12) ≤ (μ 82 17))) → (vp_in (μ 82 17) 160) ∧ (((μ 92 (μ 82 17).toNatClampNeg) = 32) → Ev2 G mX8_next 3 0 [(0, .ref 82)] [] (mset μ 82 17 ((μ 82 17) + 1)) K) ∧ ((¬ ((μ 92 (μ 82 17).toNatClampNeg) = 32)) → (vp_in (μ 82 17) 160) ∧ ((¬ (μ 92 (μ 82 17).toNatClampNeg) = 10) → Ev2 G mX8_next 3 52 [(0, .ref 82)] [] μ K) ∧ (((μ 92 (μ 82 17).toNatClampNeg) = 10) → Ev2 G mX8_next 3 0 [(0, .ref 82)] [] (mset μ 82 17 ((μ 82 17) + 1)) K)))) : Ev2 G mX8_next 3 0 [(0, .ref 82)] [] μ K := by
  refine ev_aload_n dX8_next_0 0 rfl (by decide) ?_
  refine ev_getI' (v := (μ 82 17)) fl_8_85 rfl kd_82 rfl dX8_next_1 ?_
  refine ev_aload_n dX8_next_4 0 rfl (by decide) ?_
  refine ev_getI' (v := (μ 82 12)) fl_8_79 rfl kd_82 rfl dX8_next_5 ?_
  refine ev_icmp_ge (tgt := 52) dX8_next_8 rfl (fun c1 => ?_) (fun c1 => ?_)
  · have h2 := h.1 c1
    exact h2
  · have h3 := h.2 c1
    refine ev_aload_n dX8_next_11 0 rfl (by decide) ?_
    refine ev_getR' fl_8_82 rfl kd_82 rf_82_11 dX8_next_12 ?_
    refine ev_aload_n dX8_next_15 0 rfl (by decide) ?_
    refine ev_getI' (v := (μ 82 17)) fl_8_85 rfl kd_82 rfl dX8_next_16 ?_
    have p4 := h3.1
    have h5 := h3.2
    refine ev_iaload' (v := (μ 92 (μ 82 17).toNatClampNeg)) kd_92 ln_92 p4 rfl dX8_next_19 ?_
    refine ev_bipush (v := 32) dX8_next_20 rfl ?_
    refine ev_icmp_eq (tgt := 39) dX8_next_22 rfl (fun c6 => ?_) (fun c6 => ?_)
    · have h7 := h5.1 c6
      refine ev_aload_n dX8_next_39 0 rfl (by decide) ?_
      refine ev_dup dX8_next_40 rfl ?_
      refine ev_getI' (v := (μ 82 17)) fl_8_85 rfl kd_82 rfl dX8_next_41 ?_
      refine ev_iconst (v := 1) dX8_next_44 rfl ?_
      refine ev_iadd dX8_next_45 ?_
      refine ev_putI fl_8_85 ⟨rfl, rfl, rfl⟩ (fun r hr => by cases hr; rfl) kd_82 dX8_next_46 ?_
      refine ev_goto (tgt := 0) dX8_next_49 rfl ?_
      exact h7
    · have h8 := h5.2 c6
      refine ev_aload_n dX8_next_25 0 rfl (by decide) ?_
      refine ev_getR' fl_8_82 rfl kd_82 rf_82_11 dX8_next_26 ?_
      refine ev_aload_n dX8_next_29 0 rfl (by decide) ?_
      refine ev_getI' (v := (μ 82 17)) fl_8_85 rfl kd_82 rfl dX8_next_30 ?_
      have p9 := h8.1
      have h10 := h8.2
      refine ev_iaload' (v := (μ 92 (μ 82 17).toNatClampNeg)) kd_92 ln_92 p9 rfl dX8_next_33 ?_
      refine ev_bipush (v := 10) dX8_next_34 rfl ?_
      refine ev_icmp_ne (tgt := 52) dX8_next_36 rfl (fun c11 => ?_) (fun c11 => ?_)
      · have h12 := h10.1 c11
        exact h12
      · have h13 := h10.2 c11
        refine ev_aload_n dX8_next_39 0 rfl (by decide) ?_
        refine ev_dup dX8_next_40 rfl ?_
        refine ev_getI' (v := (μ 82 17)) fl_8_85 rfl kd_82 rfl dX8_next_41 ?_
        refine ev_iconst (v := 1) dX8_next_44 rfl ?_
        refine ev_iadd dX8_next_45 ?_
        refine ev_putI fl_8_85 ⟨rfl, rfl, rfl⟩ (fun r hr => by cases hr; rfl) kd_82 dX8_next_46 ?_
        refine ev_goto (tgt := 0) dX8_next_49 rfl ?_
        exact h13
theorem sg_X8_next_52 {G : GW} {K : Option Value → Mem → Prop} {μ : Mem}   (h : ((¬ (μ 82 17) = (μ 82 12)) → (tpM (mset μ 82 20 (μ 82 17)) (μ 82 17)) ∧ (((ltM (mset μ 82 20 (μ 82 17)) (μ 82 17)) = false) → (tpM (mset μ 82 20 (μ 82 17)) (μ 82 17)) ∧ (((dgM (mset μ 82 20 (μ 82 17)) (μ 82 17)) = false) → (vp_in (μ 82 17) 160) ∧ Ev2 G mX8_next 3 128 [(0, .ref 82)] [] (mset (mset μ 82 20 (μ 82 17)) 82 19 (μ 92 (μ 82 17).toNatClampNeg)) K) ∧ (((dgM (mset μ 82 20 (μ 82 17)) (μ 82 17)) = true) → (rnP (mset μ 82 20 (μ 82 17))) ∧ ∀ μ18 : Mem, (rnR (mset μ 82 20 (μ 82 17)) μ18) → K none μ18)) ∧ (((ltM (mset μ 82 20 (μ 82 17)) (μ 82 17)) = true) → (rwP (mset μ 82 20 (μ 82 17))) ∧ ∀ μ23 : Mem, (rwR (mset μ 82 20 (μ 82 17)) μ23) → K none μ23)) ∧ (((μ 82 17) = (μ 82 12)) → K none (mset (mset μ 82 20 (μ 82 17)) 82 18 5))) : Ev2 G mX8_next 3 52 [(0, .ref 82)] [] μ K := by
  refine ev_aload_n dX8_next_52 0 rfl (by decide) ?_
  refine ev_aload_n dX8_next_53 0 rfl (by decide) ?_
  refine ev_getI' (v := (μ 82 17)) fl_8_85 rfl kd_82 rfl dX8_next_54 ?_
  refine ev_putI fl_8_97 ⟨rfl, rfl, rfl⟩ (fun r hr => by cases hr; rfl) kd_82 dX8_next_57 ?_
  refine ev_aload_n dX8_next_60 0 rfl (by decide) ?_
  refine ev_getI' (v := (μ 82 17)) fl_8_85 rfl kd_82 rfl dX8_next_61 ?_
  refine ev_aload_n dX8_next_64 0 rfl (by decide) ?_
  refine ev_getI' (v := (μ 82 12)) fl_8_79 rfl kd_82 rfl dX8_next_65 ?_
  refine ev_icmp_ne (tgt := 79) dX8_next_68 rfl (fun c1 => ?_) (fun c1 => ?_)
  · have h2 := h.1 c1
    refine ev_aload_n dX8_next_79 0 rfl (by decide) ?_
    refine ev_aload_n dX8_next_80 0 rfl (by decide) ?_
    refine ev_getI' (v := (μ 82 17)) fl_8_85 rfl kd_82 rfl dX8_next_81 ?_
    have p4 := h2.1
    have h5 := h2.2
    refine e2_callV (w := .int (bi (ltM (mset μ 82 20 (μ 82 17)) (μ 82 17)))) (μ1 := (mset μ 82 20 (μ 82 17))) (a := 82) (as := [.int (μ 82 17)]) (st := []) ok_X8_isLetter vi_X8_isLetter ml_8_88 hcl_8 kd_82 dX8_next_84 rfl rfl (Nat.le_of_ble_eq_true rfl) (Nat.le_of_ble_eq_true rfl) (by decide) (ct_X8_isLetter ((μ 82 17)) (mset μ 82 20 (μ 82 17)) p4) ?_
    refine ev_ifeq_bi (tgt := 97) dX8_next_87 rfl (fun c6 => ?_) (fun c6 => ?_)
    · have h7 := h5.1 c6
      refine ev_aload_n dX8_next_97 0 rfl (by decide) ?_
      refine ev_aload_n dX8_next_98 0 rfl (by decide) ?_
      refine ev_getI' (v := (μ 82 17)) fl_8_85 rfl kd_82 rfl dX8_next_99 ?_
      have p9 := h7.1
      have h10 := h7.2
      refine e2_callV (w := .int (bi (dgM (mset μ 82 20 (μ 82 17)) (μ 82 17)))) (μ1 := (mset μ 82 20 (μ 82 17))) (a := 82) (as := [.int (μ 82 17)]) (st := []) ok_X8_isDigit vi_X8_isDigit ml_8_107 hcl_8 kd_82 dX8_next_102 rfl rfl (Nat.le_of_ble_eq_true rfl) (Nat.le_of_ble_eq_true rfl) (by decide) (ct_X8_isDigit ((μ 82 17)) (mset μ 82 20 (μ 82 17)) p9) ?_
      refine ev_ifeq_bi (tgt := 115) dX8_next_105 rfl (fun c11 => ?_) (fun c11 => ?_)
      · have h12 := h10.1 c11
        refine ev_aload_n dX8_next_115 0 rfl (by decide) ?_
        refine ev_aload_n dX8_next_116 0 rfl (by decide) ?_
        refine ev_getR' fl_8_82 rfl kd_82 rf_82_11 dX8_next_117 ?_
        refine ev_aload_n dX8_next_120 0 rfl (by decide) ?_
        refine ev_getI' (v := (μ 82 17)) fl_8_85 rfl kd_82 rfl dX8_next_121 ?_
        have p14 := h12.1
        have h15 := h12.2
        refine ev_iaload' (v := (μ 92 (μ 82 17).toNatClampNeg)) kd_92 ln_92 p14 rfl dX8_next_124 ?_
        refine ev_putI fl_8_104 ⟨rfl, rfl, rfl⟩ (fun r hr => by cases hr; rfl) kd_82 dX8_next_125 ?_
        exact h15
      · have h13 := h10.2 c11
        refine ev_aload_n dX8_next_108 0 rfl (by decide) ?_
        have p16 := h13.1
        have h17 := h13.2
        refine e2_callVrv (Rl := fun μ18 => rnR (mset μ 82 20 (μ 82 17)) μ18) (a := 82) (as := []) (st := []) ok_X8_readNumber vi_X8_readNumber ml_8_114 hcl_8 kd_82 dX8_next_109 rfl rfl (Nat.le_of_ble_eq_true rfl) (Nat.le_of_ble_eq_true rfl) (by decide) (ct_X8_readNumber (mset μ 82 20 (μ 82 17)) p16) (fun μ18 r19 => ?_)
        have h20 := h17 μ18 r19
        refine ev_goto (tgt := 230) dX8_next_112 rfl ?_
        exact ev_return dX8_next_230 rfl rfl rfl ⟨rfl, h20⟩
    · have h8 := h5.2 c6
      refine ev_aload_n dX8_next_90 0 rfl (by decide) ?_
      have p21 := h8.1
      have h22 := h8.2
      refine e2_callVrv (Rl := fun μ23 => rwR (mset μ 82 20 (μ 82 17)) μ23) (a := 82) (as := []) (st := []) ok_X8_readWord vi_X8_readWord ml_8_110 hcl_8 kd_82 dX8_next_91 rfl rfl (Nat.le_of_ble_eq_true rfl) (Nat.le_of_ble_eq_true rfl) (by decide) (ct_X8_readWord (mset μ 82 20 (μ 82 17)) p21) (fun μ23 r24 => ?_)
      have h25 := h22 μ23 r24
      refine ev_goto (tgt := 230) dX8_next_94 rfl ?_
      exact ev_return dX8_next_230 rfl rfl rfl ⟨rfl, h25⟩
  · have h3 := h.2 c1
    refine ev_aload_n dX8_next_71 0 rfl (by decide) ?_
    refine ev_iconst (v := 5) dX8_next_72 rfl ?_
    refine ev_putI fl_8_91 ⟨rfl, rfl, rfl⟩ (fun r hr => by cases hr; rfl) kd_82 dX8_next_73 ?_
    refine ev_goto (tgt := 230) dX8_next_76 rfl ?_
    exact ev_return dX8_next_230 rfl rfl rfl ⟨rfl, h3⟩
theorem sg_X8_next_128 {G : GW} {K : Option Value → Mem → Prop} {μ : Mem}   (h : (((μ 82 19) = 40) → Ev2 G mX8_next 3 206 [(0, .ref 82), (1, .int 1)] [] μ K) ∧ ((¬ ((μ 82 19) = 40)) → (((μ 82 19) = 41) → Ev2 G mX8_next 3 206 [(0, .ref 82), (1, .int 1)] [] μ K) ∧ ((¬ ((μ 82 19) = 41)) → (((μ 82 19) = 59) → Ev2 G mX8_next 3 206 [(0, .ref 82), (1, .int 1)] [] μ K) ∧ ((¬ ((μ 82 19) = 59)) → (((μ 82 19) = 43) → Ev2 G mX8_next 3 206 [(0, .ref 82), (1, .int 1)] [] μ K) ∧ ((¬ ((μ 82 19) = 43)) → (((μ 82 19) = 45) → Ev2 G mX8_next 3 206 [(0, .ref 82), (1, .int 1)] [] μ K) ∧ ((¬ ((μ 82 19) = 45)) → (((μ 82 19) = 42) → Ev2 G mX8_next 3 206 [(0, .ref 82), (1, .int 1)] [] μ K) ∧ ((¬ ((μ 82 19) = 42)) → (((μ 82 19) = 60) → Ev2 G mX8_next 3 206 [(0, .ref 82), (1, .int 1)] [] μ K) ∧ ((¬ ((μ 82 19) = 60)) → ((¬ (μ 82 19) = 61) → Ev2 G mX8_next 3 206 [(0, .ref 82), (1, .int 0)] [] μ K) ∧ (((μ 82 19) = 61) → Ev2 G mX8_next 3 206 [(0, .ref 82), (1, .int 1)] [] μ K))))))))) : Ev2 G mX8_next 3 128 [(0, .ref 82)] [] μ K := by
  refine ev_aload_n dX8_next_128 0 rfl (by decide) ?_
  refine ev_getI' (v := (μ 82 19)) fl_8_104 rfl kd_82 rfl dX8_next_129 ?_
  refine ev_bipush (v := 40) dX8_next_132 rfl ?_
  refine ev_icmp_eq (tgt := 200) dX8_next_134 rfl (fun c1 => ?_) (fun c1 => ?_)
  · have h2 := h.1 c1
    refine ev_iconst (v := 1) dX8_next_200 rfl ?_
    refine ev_goto (tgt := 205) dX8_next_201 rfl ?_
    refine ev_istore_n (lv' := [(0, .ref 82), (1, .int 1)]) dX8_next_205 (by decide) [1, 0] rfl ?_
    exact h2
  · have h3 := h.2 c1
    refine ev_aload_n dX8_next_137 0 rfl (by decide) ?_
    refine ev_getI' (v := (μ 82 19)) fl_8_104 rfl kd_82 rfl dX8_next_138 ?_
    refine ev_bipush (v := 41) dX8_next_141 rfl ?_
    refine ev_icmp_eq (tgt := 200) dX8_next_143 rfl (fun c4 => ?_) (fun c4 => ?_)
    · have h5 := h3.1 c4
      refine ev_iconst (v := 1) dX8_next_200 rfl ?_
      refine ev_goto (tgt := 205) dX8_next_201 rfl ?_
      refine ev_istore_n (lv' := [(0, .ref 82), (1, .int 1)]) dX8_next_205 (by decide) [1, 0] rfl ?_
      exact h5
    · have h6 := h3.2 c4
      refine ev_aload_n dX8_next_146 0 rfl (by decide) ?_
      refine ev_getI' (v := (μ 82 19)) fl_8_104 rfl kd_82 rfl dX8_next_147 ?_
      refine ev_bipush (v := 59) dX8_next_150 rfl ?_
      refine ev_icmp_eq (tgt := 200) dX8_next_152 rfl (fun c7 => ?_) (fun c7 => ?_)
      · have h8 := h6.1 c7
        refine ev_iconst (v := 1) dX8_next_200 rfl ?_
        refine ev_goto (tgt := 205) dX8_next_201 rfl ?_
        refine ev_istore_n (lv' := [(0, .ref 82), (1, .int 1)]) dX8_next_205 (by decide) [1, 0] rfl ?_
        exact h8
      · have h9 := h6.2 c7
        refine ev_aload_n dX8_next_155 0 rfl (by decide) ?_
        refine ev_getI' (v := (μ 82 19)) fl_8_104 rfl kd_82 rfl dX8_next_156 ?_
        refine ev_bipush (v := 43) dX8_next_159 rfl ?_
        refine ev_icmp_eq (tgt := 200) dX8_next_161 rfl (fun c10 => ?_) (fun c10 => ?_)
        · have h11 := h9.1 c10
          refine ev_iconst (v := 1) dX8_next_200 rfl ?_
          refine ev_goto (tgt := 205) dX8_next_201 rfl ?_
          refine ev_istore_n (lv' := [(0, .ref 82), (1, .int 1)]) dX8_next_205 (by decide) [1, 0] rfl ?_
          exact h11
        · have h12 := h9.2 c10
          refine ev_aload_n dX8_next_164 0 rfl (by decide) ?_
          refine ev_getI' (v := (μ 82 19)) fl_8_104 rfl kd_82 rfl dX8_next_165 ?_
          refine ev_bipush (v := 45) dX8_next_168 rfl ?_
          refine ev_icmp_eq (tgt := 200) dX8_next_170 rfl (fun c13 => ?_) (fun c13 => ?_)
          · have h14 := h12.1 c13
            refine ev_iconst (v := 1) dX8_next_200 rfl ?_
            refine ev_goto (tgt := 205) dX8_next_201 rfl ?_
            refine ev_istore_n (lv' := [(0, .ref 82), (1, .int 1)]) dX8_next_205 (by decide) [1, 0] rfl ?_
            exact h14
          · have h15 := h12.2 c13
            refine ev_aload_n dX8_next_173 0 rfl (by decide) ?_
            refine ev_getI' (v := (μ 82 19)) fl_8_104 rfl kd_82 rfl dX8_next_174 ?_
            refine ev_bipush (v := 42) dX8_next_177 rfl ?_
            refine ev_icmp_eq (tgt := 200) dX8_next_179 rfl (fun c16 => ?_) (fun c16 => ?_)
            · have h17 := h15.1 c16
              refine ev_iconst (v := 1) dX8_next_200 rfl ?_
              refine ev_goto (tgt := 205) dX8_next_201 rfl ?_
              refine ev_istore_n (lv' := [(0, .ref 82), (1, .int 1)]) dX8_next_205 (by decide) [1, 0] rfl ?_
              exact h17
            · have h18 := h15.2 c16
              refine ev_aload_n dX8_next_182 0 rfl (by decide) ?_
              refine ev_getI' (v := (μ 82 19)) fl_8_104 rfl kd_82 rfl dX8_next_183 ?_
              refine ev_bipush (v := 60) dX8_next_186 rfl ?_
              refine ev_icmp_eq (tgt := 200) dX8_next_188 rfl (fun c19 => ?_) (fun c19 => ?_)
              · have h20 := h18.1 c19
                refine ev_iconst (v := 1) dX8_next_200 rfl ?_
                refine ev_goto (tgt := 205) dX8_next_201 rfl ?_
                refine ev_istore_n (lv' := [(0, .ref 82), (1, .int 1)]) dX8_next_205 (by decide) [1, 0] rfl ?_
                exact h20
              · have h21 := h18.2 c19
                refine ev_aload_n dX8_next_191 0 rfl (by decide) ?_
                refine ev_getI' (v := (μ 82 19)) fl_8_104 rfl kd_82 rfl dX8_next_192 ?_
                refine ev_bipush (v := 61) dX8_next_195 rfl ?_
                refine ev_icmp_ne (tgt := 204) dX8_next_197 rfl (fun c22 => ?_) (fun c22 => ?_)
                · have h23 := h21.1 c22
                  refine ev_iconst (v := 0) dX8_next_204 rfl ?_
                  refine ev_istore_n (lv' := [(0, .ref 82), (1, .int 0)]) dX8_next_205 (by decide) [1, 0] rfl ?_
                  exact h23
                · have h24 := h21.2 c22
                  refine ev_iconst (v := 1) dX8_next_200 rfl ?_
                  refine ev_goto (tgt := 205) dX8_next_201 rfl ?_
                  refine ev_istore_n (lv' := [(0, .ref 82), (1, .int 1)]) dX8_next_205 (by decide) [1, 0] rfl ?_
                  exact h24
theorem sg_X8_next_206 {G : GW} {K : Option Value → Mem → Prop} {μ : Mem} {x1 : Bool}  (h : ((x1 = false) → K none (mset (mset μ 82 18 6) 82 17 ((μ 82 17) + 1))) ∧ ((x1 = true) → K none (mset (mset μ 82 18 4) 82 17 ((μ 82 17) + 1)))) : Ev2 G mX8_next 3 206 [(0, .ref 82), (1, .int (bi x1))] [] μ K := by
  refine ev_aload_n dX8_next_206 0 rfl (by decide) ?_
  refine ev_iload_n dX8_next_207 1 rfl ?_
  refine ev_ifeq_bi (tgt := 215) dX8_next_208 rfl (fun c1 => ?_) (fun c1 => ?_)
  · have h2 := h.1 c1
    refine ev_bipush (v := 6) dX8_next_215 rfl ?_
    refine ev_putI fl_8_91 ⟨rfl, rfl, rfl⟩ (fun r hr => by cases hr; rfl) kd_82 dX8_next_217 ?_
    refine ev_aload_n dX8_next_220 0 rfl (by decide) ?_
    refine ev_dup dX8_next_221 rfl ?_
    refine ev_getI' (v := (μ 82 17)) fl_8_85 rfl kd_82 rfl dX8_next_222 ?_
    refine ev_iconst (v := 1) dX8_next_225 rfl ?_
    refine ev_iadd dX8_next_226 ?_
    refine ev_putI fl_8_85 ⟨rfl, rfl, rfl⟩ (fun r hr => by cases hr; rfl) kd_82 dX8_next_227 ?_
    exact ev_return dX8_next_230 rfl rfl rfl ⟨rfl, h2⟩
  · have h3 := h.2 c1
    refine ev_iconst (v := 4) dX8_next_211 rfl ?_
    refine ev_goto (tgt := 217) dX8_next_212 rfl ?_
    refine ev_putI fl_8_91 ⟨rfl, rfl, rfl⟩ (fun r hr => by cases hr; rfl) kd_82 dX8_next_217 ?_
    refine ev_aload_n dX8_next_220 0 rfl (by decide) ?_
    refine ev_dup dX8_next_221 rfl ?_
    refine ev_getI' (v := (μ 82 17)) fl_8_85 rfl kd_82 rfl dX8_next_222 ?_
    refine ev_iconst (v := 1) dX8_next_225 rfl ?_
    refine ev_iadd dX8_next_226 ?_
    refine ev_putI fl_8_85 ⟨rfl, rfl, rfl⟩ (fun r hr => by cases hr; rfl) kd_82 dX8_next_227 ?_
    exact ev_return dX8_next_230 rfl rfl rfl ⟨rfl, h3⟩
def nxK (μ : Mem) (n s : Nat) (v : Option Value) (ν : Mem) : Prop := v = none ∧ fr4 μ ν ∧ ν 82 20 = nI s ∧ ν 82 17 = nI (tkE (μ 92) n s) ∧ tokV (tkK (μ 92) n s) (nmT (μ 92) (n - s) s 0) (ν 82 18) (ν 82 19)
theorem lp_X8_nextS {G : GW} {μ : Mem} {n s b : Nat} (hs : s < n) (hn : n ≤ 160) (hl : letB (μ 92 s) = false) (hd : digB (μ 92 s) = false) (hb : b < 256) (eb : μ 92 s = nI b) (ν : Mem) (h1 : fr4 μ ν) (h2 : ν 82 20 = nI s) (h3 : ν 82 17 = nI s) (h4 : ν 82 19 = nI b) : Ev2 G mX8_next 3 128 [(0, .ref 82)] [] ν (nxK μ n s) := by
  have eE : tkE (μ 92) n s = s + 1 := by simp [tkE, hs, hl, hd]
  have eK : tkK (μ 92) n s = sgT b := by
    have : tkK (μ 92) n s = sgK (μ 92 s) := by simp [tkK, hs, hl, hd]
    rw [this, eb, sg_tab b hb]
  have ne : ∀ c : Nat, c < 256 → (ν 82 19 = nI c ↔ b = c) := fun c hc => by
    rw [h4]
    exact nI_eq (by omega) (by omega)
  have f : ∀ t : Int32, fr4 μ (mset (mset ν 82 18 t) 82 17 (ν 82 17 + 1)) := fun t => (h1.tr (fr4.set (by omega) (by omega))).tr (fr4.set (by omega) (by omega))
  have done : ∀ x : Bool, (x = true → tokT (sgT b) = 4 ∧ tokW (sgT b) (nmT (μ 92) (n - s) s 0) = nI b) → (x = false → sgT b = 22) → Ev2 G mX8_next 3 206 [(0, .ref 82), (1, .int (bi x))] [] ν (nxK μ n s) := by
    intro x hx hx2
    refine sg_X8_next_206 ⟨fun c => ?_, fun c => ?_⟩
    · refine ⟨rfl, f 6, by rw [mset_other (by omega), mset_other (by omega)]; exact h2, by rw [mset_same, h3, nI_1, eE], ?_⟩
      rw [eK, hx2 c, mset_other (by omega), mset_same]
      exact ⟨rfl, fun _ z => absurd rfl z⟩
    · obtain ⟨t1, t2⟩ := hx c
      refine ⟨rfl, f 4, by rw [mset_other (by omega), mset_other (by omega)]; exact h2, by rw [mset_same, h3, nI_1, eE], ?_⟩
      rw [eK, mset_other (by omega), mset_same, mset_other (by omega), mset_other (by omega), h4]
      exact ⟨t1.symm, fun _ _ => t2.symm⟩
  have c40 : ν 82 19 = 40 ↔ b = 40 := ne 40 (by omega)
  have c41 : ν 82 19 = 41 ↔ b = 41 := ne 41 (by omega)
  have c59 : ν 82 19 = 59 ↔ b = 59 := ne 59 (by omega)
  have c43 : ν 82 19 = 43 ↔ b = 43 := ne 43 (by omega)
  have c45 : ν 82 19 = 45 ↔ b = 45 := ne 45 (by omega)
  have c42 : ν 82 19 = 42 ↔ b = 42 := ne 42 (by omega)
  have c60 : ν 82 19 = 60 ↔ b = 60 := ne 60 (by omega)
  have c61 : ν 82 19 = 61 ↔ b = 61 := ne 61 (by omega)
  have yes : (b = 40 ∨ b = 41 ∨ b = 59 ∨ b = 43 ∨ b = 45 ∨ b = 42 ∨ b = 60 ∨ b = 61) → Ev2 G mX8_next 3 206 [(0, .ref 82), (1, .int 1)] [] ν (nxK μ n s) := fun q => done true (fun _ => by
    rcases q with rfl | rfl | rfl | rfl | rfl | rfl | rfl | rfl <;> exact ⟨rfl, rfl⟩) (fun z => absurd z (by decide))
  refine sg_X8_next_128 ?_
  rw [c40, c41, c59, c43, c45, c42, c60, c61]
  refine ⟨fun q => yes (by omega), fun n1 => ⟨fun q => yes (by omega), fun n2 => ⟨fun q => yes (by omega), fun n3 => ⟨fun q => yes (by omega), fun n4 => ⟨fun q => yes (by omega), fun n5 => ⟨fun q => yes (by omega), fun n6 => ⟨fun q => yes (by omega), fun n7 => ⟨fun n8 => ?_, fun q => yes (by omega)⟩⟩⟩⟩⟩⟩⟩⟩
  refine done false (fun z => absurd z (by decide)) (fun _ => ?_)
  unfold sgT
  rw [if_neg n1, if_neg n2, if_neg n3, if_neg n4, if_neg n5, if_neg n6, if_neg n7, if_neg n8]
theorem lp_X8_nextT {G : GW} {μ : Mem} {n s : Nat} (hs : s ≤ n) (hn : n ≤ 160) (h12 : μ 82 12 = nI n) (hk : vMk μ) (hby : ∀ k, k < n → ∃ b, b < 256 ∧ μ 92 k = nI b) (ν : Mem) (h1 : fr4 μ ν) (h3 : ν 82 17 = nI s) : Ev2 G mX8_next 3 52 [(0, .ref 82)] [] ν (nxK μ n s) := by
  have e12 : ν 82 12 = nI n := (h1 82 12 (by omega)).trans h12
  have e92 : ν 92 = μ 92 := h1.row (by omega)
  refine sg_X8_next_52 ?_
  rw [h3, e12, e92]
  generalize hξ : mset ν 82 20 (nI s) = ξ
  have x1 : fr4 μ ξ := by rw [← hξ]; exact h1.tr (fr4.set (by omega) (by omega))
  have x20 : ξ 82 20 = nI s := by rw [← hξ, mset_same]
  have x17 : ξ 82 17 = nI s := by rw [← hξ, mset_other (by omega)]; exact h3
  have x12 : ξ 82 12 = nI n := by rw [← hξ, mset_other (by omega)]; exact e12
  have x92 : ξ 92 = μ 92 := x1.row (by omega)
  refine ⟨fun c => ?_, fun c => ?_⟩
  · have hsn : s < n := by
      rcases Nat.lt_or_ge s n with q | q
      · exact q
      · exact absurd (show nI s = nI n by rw [show s = n by omega]) c
    have tp : tpM ξ (nI s) := ⟨n, s, hn, hs, x12, rfl⟩
    have el : ltM ξ (nI s) = letB (μ 92 s) := by
      unfold ltM
      rw [x12, decide_eq_true (nI_lt hsn (by omega)), Bool.true_and, ix_nI (by omega), x92]
    have ed : dgM ξ (nI s) = digB (μ 92 s) := by
      unfold dgM
      rw [x12, decide_eq_true (nI_lt hsn (by omega)), Bool.true_and, ix_nI (by omega), x92]
    rw [el, ed]
    refine ⟨tp, fun c1 => ⟨tp, fun c2 => ⟨vp_nI (by omega) (by omega), ?_⟩, fun c2 => ⟨⟨n, s, hn, hs, x12, x17, x20⟩, fun ζ hζ => ?_⟩⟩, fun c1 => ⟨⟨n, s, hn, hs, x12, x17, x20, hk.fr x1⟩, fun ζ hζ => ?_⟩⟩
    · obtain ⟨b, hb, eb⟩ := hby s hsn
      rw [ix_nI (by omega), eb]
      refine lp_X8_nextS hsn hn c1 c2 hb eb _ (x1.tr (fr4.set (by omega) (by omega))) (by rw [mset_other (by omega)]; exact x20) (by rw [mset_other (by omega)]; exact x17) mset_same
    · obtain ⟨f1, f2, f3⟩ := hζ
      obtain ⟨g1, g2⟩ := f3 n s hn hs x12 x17
      rw [x92] at g1 g2
      have eE : tkE (μ 92) n s = rnT digB (μ 92) (n - s) s := by simp [tkE, hsn, c1, c2]
      have eK : tkK (μ 92) n s = if rnT digB (μ 92) (n - s) s - s ≤ 4 then 20 else 22 := by simp [tkK, hsn, c1, c2]
      exact ⟨rfl, x1.tr f1, f2.trans x20, by rw [eE]; exact g1, by rw [eK]; exact g2⟩
    · obtain ⟨f1, f2, f3⟩ := hζ
      obtain ⟨g1, g2⟩ := f3 n s hn hs x12 x17
      rw [x92] at g1 g2
      have eE : tkE (μ 92) n s = rnT letB (μ 92) (n - s) s := by simp [tkE, hsn, c1]
      have eK : tkK (μ 92) n s = wdI (μ 92) s (rnT letB (μ 92) (n - s) s - s) 12 := by simp [tkK, hsn, c1]
      refine ⟨rfl, x1.tr f1, f2.trans x20, by rw [eE]; exact g1, ?_⟩
      rw [eK]
      refine ⟨g2.1, fun z1 z2 => (g2.2 z1 z2).trans ?_⟩
      have h20 : ¬ wdI (μ 92) s (rnT letB (μ 92) (n - s) s - s) 12 = 20 := by
        rcases wdI_range (μ 92) s (rnT letB (μ 92) (n - s) s - s) 12 with e | ⟨w, hw, e⟩
        · rw [e]; decide
        · rw [e]; exact nI_ne (b := 20) (by omega) (by omega) (by omega)
      unfold tokW
      rw [if_neg h20, if_neg h20]
  · have hsn : s = n := (nI_eq (by omega) (by omega)).mp c
    have eE : tkE (μ 92) n s = s := by simp [tkE, hsn]
    have eK : tkK (μ 92) n s = 21 := by simp [tkK, hsn]
    refine ⟨rfl, x1.tr (fr4.set (by omega) (by omega)), by rw [mset_other (by omega)]; exact x20, by rw [mset_other (by omega), eE]; exact x17, ?_⟩
    rw [eK, mset_same]
    exact ⟨rfl, fun z => absurd rfl z⟩
theorem lp_X8_next {G : GW} {μ : Mem} {n p : Nat} (hn : n ≤ 160) (h12 : μ 82 12 = nI n) (hk : vMk μ) (hby : ∀ k, k < n → ∃ b, b < 256 ∧ μ 92 k = nI b) : ∀ j q (ν : Mem), q + j = n → fr4 μ ν → ν 82 17 = nI q → skp (μ 92) n p = skp (μ 92) n q → Ev2 G mX8_next 3 0 [(0, .ref 82)] [] ν (nxK μ n (skp (μ 92) n p)) := by
  intro j
  induction j with
  | zero =>
    intro q ν hq h1 h3 he
    obtain rfl : q = n := hq
    have e12 : ν 82 12 = nI q := (h1 82 12 (by omega)).trans h12
    have es : skp (μ 92) q q = q := by
      unfold skp
      rw [Nat.sub_self]
      rfl
    rw [he, es]
    refine sg_X8_next_0 ⟨fun _ => lp_X8_nextT (Nat.le_refl _) hn h12 hk hby ν h1 h3, fun c => ?_⟩
    rw [e12, h3] at c
    exact absurd (Int32.le_refl _) c
  | succ j ih =>
    intro q ν hq h1 h3 he
    have e12 : ν 82 12 = nI n := (h1 82 12 (by omega)).trans h12
    have e92 : ν 92 = μ 92 := h1.row (by omega)
    have es : skp (μ 92) n q = if μ 92 q = 32 ∨ μ 92 q = 10 then skp (μ 92) n (q + 1) else q := by
      unfold skp
      rw [show n - q = n - (q + 1) + 1 by omega]
      rfl
    have go : μ 92 q = 32 ∨ μ 92 q = 10 → Ev2 G mX8_next 3 0 [(0, .ref 82)] [] (mset ν 82 17 (nI q + 1)) (nxK μ n (skp (μ 92) n p)) := fun c => by
      rw [nI_1]
      refine ih (q + 1) _ (by omega) (h1.tr (fr4.set (by omega) (by omega))) mset_same ?_
      rw [he, es, if_pos c]
    refine sg_X8_next_0 ?_
    rw [h3, e12, e92, ix_nI (by omega)]
    have hv : vp_in (nI q) 160 := vp_nI (by omega) (by omega)
    refine ⟨fun c => absurd c (nI_ge (by omega) (by omega)), fun _ => ⟨hv, fun c => go (Or.inl c), fun c1 => ⟨hv, fun c2 => ?_, fun c => go (Or.inr c)⟩⟩⟩
    rw [he, es, if_neg (fun z => z.elim c1 c2)]
    exact lp_X8_nextT (by omega) hn h12 hk hby ν h1 h3
theorem ct_X8_next {G : GW} (μ : Mem) (hp : nxP μ) : Ev2 G mX8_next 3 0 [(0, .ref 82)] [] μ (fun v μ' => v = none ∧ nxR μ μ') := by
  obtain ⟨n, p, hn, hpn, e1, e2, hk, hby⟩ := hp
  refine ev2_imp (lp_X8_next (p := p) hn e1 hk hby (n - p) p μ (by omega) (fr4.rf μ) e2 rfl) ?_
  rintro v ν ⟨rfl, h1, h2, h3, h4⟩
  refine ⟨rfl, h1, fun n' p' hn' hp' e1' e2' => ?_⟩
  obtain rfl : n = n' := (nI_eq (by omega) (by omega)).mp (e1.symm.trans e1')
  obtain rfl : p = p' := (nI_eq (by omega) (by omega)).mp (e2.symm.trans e2')
  exact ⟨h2, h3, h4⟩
