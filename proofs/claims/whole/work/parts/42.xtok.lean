/-! ===== the tape's tokens ===== -/
def nN (μ : Mem) : Nat := (μ 24 1).toNatClampNeg
def pN (μ : Mem) : Nat := (μ 24 2).toNatClampNeg
def skT (f : Nat → Int32) : Nat → Nat → Nat
  | 0, p => p
  | j + 1, p => if f p = 32 ∨ f p = 10 then skT f j (p + 1) else p
def rnT (b : Int32 → Bool) (f : Nat → Int32) : Nat → Nat → Nat
  | 0, p => p
  | j + 1, p => if b (f p) = true then rnT b f j (p + 1) else p
def nmT (f : Nat → Int32) : Nat → Nat → Int32 → Int32
  | 0, _, v => v
  | j + 1, p, v => if digB (f p) = true then nmT f j (p + 1) (10 * v + f p - 48) else v
/-- the first letters of a word of the row of words, blanks behind it -/
def wdB (f : Nat → Int32) (s l w : Nat) : Nat → Bool
  | 0 => true
  | i + 1 => wdB f s l w i && decide ((if i < l then f (s + i) else 32) = scWords.getD (5 * w + i) 0)
def isWd (f : Nat → Int32) (s l w : Nat) : Bool := decide (l ≤ 5) && wdB f s l w 5
def wdI (f : Nat → Int32) (s l : Nat) : Nat → Int32
  | 0 => 22
  | j + 1 => if isWd f s l (11 - j) = true then nI (11 - j) else wdI f s l j
def sgK (b : Int32) : Int32 := if 0 ≤ scI (Int32.toUInt32 b % 65536).toInt32 then 12 + scI (Int32.toUInt32 b % 65536).toInt32 else 22
def tkK (f : Nat → Int32) (n s : Nat) : Int32 := if s < n then (if letB (f s) = true then wdI f s (rnT letB f (n - s) s - s) 12 else if digB (f s) = true then (if rnT digB f (n - s) s - s ≤ 4 then 20 else 22) else sgK (f s)) else 21
def tkE (f : Nat → Int32) (n s : Nat) : Nat := if s < n then (if letB (f s) = true then rnT letB f (n - s) s else if digB (f s) = true then rnT digB f (n - s) s else s + 1) else s
def tkV (f : Nat → Int32) (n s : Nat) (old : Int32) : Int32 := if s < n ∧ letB (f s) = false ∧ digB (f s) = true then nmT f (n - s) s 0 else old
def skp (f : Nat → Int32) (n p : Nat) : Nat := skT f (n - p) p
def tpP (n p : Nat) (μ : Mem) : Prop := n ≤ 160 ∧ p ≤ n ∧ μ 24 1 = nI n ∧ μ 24 2 = nI p
theorem tpP.eN {n p : Nat} {μ : Mem} (h : tpP n p μ) : nN μ = n := by
  unfold nN
  rw [h.2.2.1, ix_nI (by have := h.1; omega)]
theorem tpP.eP {n p : Nat} {μ : Mem} (h : tpP n p μ) : pN μ = p := by
  unfold pN
  rw [h.2.2.2, ix_nI (by have := h.1; have := h.2.1; omega)]
theorem mset_self {μ : Mem} {a k : Nat} {x : Int32} (h : μ a k = x) : mset μ a k x = μ := by
  funext r j
  unfold mset
  split
  · rename_i q
    rw [q.1, q.2, h]
  · rfl
theorem mset_mset {μ : Mem} {a k : Nat} {x y : Int32} : mset (mset μ a k x) a k y = mset μ a k y := by
  funext r j
  unfold mset
  split <;> rfl
theorem mset_comm {μ : Mem} {a k b j : Nat} {x y : Int32} (h : ¬ (a = b ∧ k = j)) : mset (mset μ a k x) b j y = mset (mset μ b j y) a k x := by
  funext r i
  unfold mset
  by_cases c1 : r = a ∧ i = k
  · by_cases c2 : r = b ∧ i = j
    · exact absurd ⟨c1.1.symm.trans c2.1, c1.2.symm.trans c2.2⟩ h
    · show (if r = b ∧ i = j then y else if r = a ∧ i = k then x else μ r i) = if r = a ∧ i = k then x else if r = b ∧ i = j then y else μ r i
      rw [if_neg c2, if_pos c1, if_pos c1]
  · by_cases c2 : r = b ∧ i = j
    · show (if r = b ∧ i = j then y else if r = a ∧ i = k then x else μ r i) = if r = a ∧ i = k then x else if r = b ∧ i = j then y else μ r i
      rw [if_pos c2, if_neg c1, if_pos c2]
    · show (if r = b ∧ i = j then y else if r = a ∧ i = k then x else μ r i) = if r = a ∧ i = k then x else if r = b ∧ i = j then y else μ r i
      rw [if_neg c2, if_neg c1, if_neg c1, if_neg c2]
theorem wdB_no {f : Nat → Int32} {s l w i : Nat} (h : ¬ (if i < l then f (s + i) else 32) = scWords.getD (5 * w + i) 0) : ∀ n, i < n → wdB f s l w n = false := by
  intro n
  induction n with
  | zero => intro q; omega
  | succ n ih =>
    intro q
    show (wdB f s l w n && decide ((if n < l then f (s + n) else 32) = scWords.getD (5 * w + n) 0)) = false
    by_cases e : i = n
    · subst e
      simp only [h, decide_false, Bool.and_false]
    · rw [ih (by omega)]
      rfl
def wdP (μ : Mem) (x : Int32) : Prop := ∃ s e w, w < 12 ∧ x = nI w ∧ μ 24 3 = nI s ∧ μ 24 2 = nI e ∧ s ≤ e ∧ e ≤ 160
theorem sg_X5_isWord_0 {G : GW} {K : Option Value → Mem → Prop} {μ : Mem} {x1 : Int32}  (h : ((((μ 24 2) - (μ 24 3)) ≤ 5) → Ev2 G mX5_isWord 9 19 [(0, .ref 24), (1, .int x1), (2, .int ((μ 24 2) - (μ 24 3))), (3, .int 0)] [] μ K) ∧ ((¬ (((μ 24 2) - (μ 24 3)) ≤ 5)) → K (some (.int 0)) μ)) : Ev2 G mX5_isWord 9 0 [(0, .ref 24), (1, .int x1)] [] μ K := by
  refine ev_aload_n dX5_isWord_0 0 rfl (by decide) ?_
  refine ev_getI' (v := (μ 24 2)) fl_5_19 rfl kd_24 rfl dX5_isWord_1 ?_
  refine ev_aload_n dX5_isWord_4 0 rfl (by decide) ?_
  refine ev_getI' (v := (μ 24 3)) fl_5_22 rfl kd_24 rfl dX5_isWord_5 ?_
  refine ev_isub dX5_isWord_8 ?_
  refine ev_istore_n (lv' := [(0, .ref 24), (1, .int x1), (2, .int ((μ 24 2) - (μ 24 3)))]) dX5_isWord_9 (by decide) [1, 2, 0] rfl ?_
  refine ev_iload_n dX5_isWord_10 2 rfl ?_
  refine ev_iconst (v := 5) dX5_isWord_11 rfl ?_
  refine ev_icmp_le (tgt := 17) dX5_isWord_12 rfl (fun c1 => ?_) (fun c1 => ?_)
  · have h2 := h.1 c1
    refine ev_iconst (v := 0) dX5_isWord_17 rfl ?_
    refine ev_istore_n (lv' := [(0, .ref 24), (1, .int x1), (2, .int ((μ 24 2) - (μ 24 3))), (3, .int 0)]) dX5_isWord_18 (by decide) [1, 2, 3, 0] rfl ?_
    exact h2
  · have h3 := h.2 c1
    refine ev_iconst (v := 0) dX5_isWord_15 rfl ?_
    exact ev_ireturn dX5_isWord_16 rfl rfl rfl rfl ⟨rfl, h3⟩
theorem sg_X5_isWord_19 {G : GW} {K : Option Value → Mem → Prop} {μ : Mem} {x1 x2 x3 : Int32}  (h : ((5 ≤ x3) → K (some (.int 1)) μ) ∧ ((¬ (5 ≤ x3)) → ((x2 ≤ x3) → (vp_in ((x1 * 5) + x3) 60) ∧ ((32 = (scW ((x1 * 5) + x3))) → Ev2 G mX5_isWord 9 19 [(0, .ref 24), (1, .int x1), (2, .int x2), (3, .int (x3 + 1))] [] μ K) ∧ ((¬ (32 = (scW ((x1 * 5) + x3)))) → K (some (.int 0)) μ)) ∧ ((¬ (x2 ≤ x3)) → (vp_in ((μ 24 3) + x3) 160) ∧ ∀ y14 : Int32, y14 = (μ 25 ((μ 24 3) + x3).toNatClampNeg) → (vp_in ((x1 * 5) + x3) 60) ∧ ((y14 = (scW ((x1 * 5) + x3))) → Ev2 G mX5_isWord 9 19 [(0, .ref 24), (1, .int x1), (2, .int x2), (3, .int (x3 + 1))] [] μ K) ∧ ((¬ (y14 = (scW ((x1 * 5) + x3)))) → K (some (.int 0)) μ)))) : Ev2 G mX5_isWord 9 19 [(0, .ref 24), (1, .int x1), (2, .int x2), (3, .int x3)] [] μ K := by
  refine ev_iload_n dX5_isWord_19 3 rfl ?_
  refine ev_iconst (v := 5) dX5_isWord_20 rfl ?_
  refine ev_icmp_ge (tgt := 70) dX5_isWord_21 rfl (fun c1 => ?_) (fun c1 => ?_)
  · have h2 := h.1 c1
    refine ev_iconst (v := 1) dX5_isWord_70 rfl ?_
    exact ev_ireturn dX5_isWord_71 rfl rfl rfl rfl ⟨rfl, h2⟩
  · have h3 := h.2 c1
    refine ev_iload_n dX5_isWord_24 3 rfl ?_
    refine ev_iload_n dX5_isWord_25 2 rfl ?_
    refine ev_icmp_ge (tgt := 43) dX5_isWord_26 rfl (fun c4 => ?_) (fun c4 => ?_)
    · have h5 := h3.1 c4
      refine ev_bipush (v := 32) dX5_isWord_43 rfl ?_
      refine ev_istore (lv' := [(0, .ref 24), (1, .int x1), (2, .int x2), (3, .int x3), (4, .int 32)]) dX5_isWord_45 (by decide) [1, 2, 3, 4, 0] rfl ?_
      refine ev_iload dX5_isWord_47 4 rfl ?_
      refine ev_ldcs54 rfl dX5_isWord_49 ?_
      refine ev_iload_n dX5_isWord_51 1 rfl ?_
      refine ev_iconst (v := 5) dX5_isWord_52 rfl ?_
      refine ev_imul dX5_isWord_53 ?_
      refine ev_iload_n dX5_isWord_54 3 rfl ?_
      refine ev_iadd dX5_isWord_55 ?_
      have p7 := h5.1
      have h8 := h5.2
      refine ev_charAt p7 rfl dX5_isWord_56 (Nat.le_of_ble_eq_true rfl) (by decide) ?_
      refine ev_icmp_eq (tgt := 64) dX5_isWord_59 rfl (fun c9 => ?_) (fun c9 => ?_)
      · have h10 := h8.1 c9
        refine ev_iinc (v := (x3 + 1)) (lv' := [(0, .ref 24), (1, .int x1), (2, .int x2), (3, .int (x3 + 1)), (4, .int 32)]) dX5_isWord_64 3 rfl rfl (by decide) [1, 2, 3, 0, 4] rfl ?_
        refine ev_goto (tgt := 19) dX5_isWord_67 rfl ?_
        refine EvW.less [0, 1, 2, 3] (lv' := [(0, .ref 24), (1, .int x1), (2, .int x2), (3, .int (x3 + 1))]) rfl ?_
        exact h10
      · have h11 := h8.2 c9
        refine ev_iconst (v := 0) dX5_isWord_62 rfl ?_
        exact ev_ireturn dX5_isWord_63 rfl rfl rfl rfl ⟨rfl, h11⟩
    · have h6 := h3.2 c4
      refine ev_aload_n dX5_isWord_29 0 rfl (by decide) ?_
      refine ev_getR' fl_5_9 rfl kd_24 rf_24_0 dX5_isWord_30 ?_
      refine ev_aload_n dX5_isWord_33 0 rfl (by decide) ?_
      refine ev_getI' (v := (μ 24 3)) fl_5_22 rfl kd_24 rfl dX5_isWord_34 ?_
      refine ev_iload_n dX5_isWord_37 3 rfl ?_
      refine ev_iadd dX5_isWord_38 ?_
      have p12 := h6.1
      have h13 := h6.2
      refine ev_iaload' (v := (μ 25 ((μ 24 3) + x3).toNatClampNeg)) kd_25 ln_25 p12 rfl dX5_isWord_39 ?_
      refine ev_goto (tgt := 45) dX5_isWord_40 rfl ?_
      refine ev_top (fun y14 ey14 => ?_)
      have h15 := h13 y14 ey14
      refine ev_istore (lv' := [(0, .ref 24), (1, .int x1), (2, .int x2), (3, .int x3), (4, .int y14)]) dX5_isWord_45 (by decide) [1, 2, 3, 4, 0] rfl ?_
      refine ev_iload dX5_isWord_47 4 rfl ?_
      refine ev_ldcs54 rfl dX5_isWord_49 ?_
      refine ev_iload_n dX5_isWord_51 1 rfl ?_
      refine ev_iconst (v := 5) dX5_isWord_52 rfl ?_
      refine ev_imul dX5_isWord_53 ?_
      refine ev_iload_n dX5_isWord_54 3 rfl ?_
      refine ev_iadd dX5_isWord_55 ?_
      have p16 := h15.1
      have h17 := h15.2
      refine ev_charAt p16 rfl dX5_isWord_56 (Nat.le_of_ble_eq_true rfl) (by decide) ?_
      refine ev_icmp_eq (tgt := 64) dX5_isWord_59 rfl (fun c18 => ?_) (fun c18 => ?_)
      · have h19 := h17.1 c18
        refine ev_iinc (v := (x3 + 1)) (lv' := [(0, .ref 24), (1, .int x1), (2, .int x2), (3, .int (x3 + 1)), (4, .int y14)]) dX5_isWord_64 3 rfl rfl (by decide) [1, 2, 3, 0, 4] rfl ?_
        refine ev_goto (tgt := 19) dX5_isWord_67 rfl ?_
        refine EvW.less [0, 1, 2, 3] (lv' := [(0, .ref 24), (1, .int x1), (2, .int x2), (3, .int (x3 + 1))]) rfl ?_
        exact h19
      · have h20 := h17.2 c18
        refine ev_iconst (v := 0) dX5_isWord_62 rfl ?_
        exact ev_ireturn dX5_isWord_63 rfl rfl rfl rfl ⟨rfl, h20⟩
theorem scW_at {w i : Nat} (hw : w < 12) (hi : i < 5) : vp_in (nI w * 5 + nI i) 60 ∧ scW (nI w * 5 + nI i) = scWords.getD (5 * w + i) 0 := by
  have e : nI w * 5 + nI i = nI (5 * w + i) := by
    rw [show (5 : Int32) = nI 5 from rfl, pk_mul, nI_add, Nat.mul_comm]
  rw [e]
  refine ⟨vp_nI (by omega) (by omega), ?_⟩
  unfold scW
  rw [ix_nI (by omega)]
theorem lp_X5_isWord {G : GW} {s l w : Nat} (hw : w < 12) (hl : l ≤ 5) (hs : s + l ≤ 160) {μ : Mem} (h3 : μ 24 3 = nI s) : ∀ j i, i + j = 5 → wdB (μ 25) s l w i = true → Ev2 G mX5_isWord 9 19 [(0, .ref 24), (1, .int (nI w)), (2, .int (nI l)), (3, .int (nI i))] [] μ (fun v μ' => v = some (.int (bi (wdB (μ 25) s l w 5))) ∧ μ' = μ) := by
  intro j
  induction j with
  | zero =>
    intro i hi ht
    obtain rfl : i = 5 := by omega
    exact sg_X5_isWord_19 ⟨fun _ => ⟨by rw [ht]; rfl, rfl⟩, fun c => absurd (nI_le (a := 5) (Nat.le_refl 5) (by omega)) c⟩
  | succ j ih =>
    intro i hi ht
    obtain ⟨e1, e2⟩ := scW_at hw (show i < 5 by omega)
    have key : ∀ x : Int32, x = (if i < l then μ 25 (s + i) else 32) → (x = scW (nI w * 5 + nI i) → Ev2 G mX5_isWord 9 19 [(0, .ref 24), (1, .int (nI w)), (2, .int (nI l)), (3, .int (nI i + 1))] [] μ (fun v μ' => v = some (.int (bi (wdB (μ 25) s l w 5))) ∧ μ' = μ)) ∧ (¬ x = scW (nI w * 5 + nI i) → some (Value.int 0) = some (.int (bi (wdB (μ 25) s l w 5))) ∧ μ = μ) := by
      intro x hx
      rw [e2, hx]
      refine ⟨fun c => ?_, fun c => ⟨?_, rfl⟩⟩
      · have h := ih (i + 1) (by omega) (by
          show (wdB (μ 25) s l w i && decide ((if i < l then μ 25 (s + i) else 32) = scWords.getD (5 * w + i) 0)) = true
          rw [ht, c]
          simp)
        rw [← nI_1] at h
        exact h
      · rw [wdB_no c 5 (by omega)]
        rfl
    refine sg_X5_isWord_19 ⟨fun c => absurd c (nI_ge (b := 5) (by omega) (by omega)), fun _ => ⟨fun c => ⟨e1, key 32 ?_⟩, fun c => ⟨?_, fun y hy => ⟨e1, key y ?_⟩⟩⟩⟩
    · rw [if_neg]
      intro q
      exact absurd c (nI_ge q (by omega))
    · have hil : i < l := Nat.not_le.mp fun q => c (nI_le q (by omega))
      rw [h3, nI_add]
      exact vp_nI (by omega) (by omega)
    · have hil : i < l := Nat.not_le.mp fun q => c (nI_le q (by omega))
      rw [hy, h3, nI_add, ix_nI (by omega), if_pos hil]
theorem ct_X5_isWord {G : GW} (x1 : Int32) (μ : Mem) (hp : wdP μ x1) : Ev2 G mX5_isWord 9 0 [(0, .ref 24), (1, .int x1)] [] μ (fun v μ' => v = some (.int (bi (isWd (μ 25) (μ 24 3).toNatClampNeg ((μ 24 2).toNatClampNeg - (μ 24 3).toNatClampNeg) x1.toNatClampNeg))) ∧ μ' = μ) := by
  obtain ⟨s, e, w, hw, rfl, h3, h2, hse, he⟩ := hp
  have e1 : μ 24 2 - μ 24 3 = nI (e - s) := by rw [h2, h3, pk_sub hse]
  refine sg_X5_isWord_0 ⟨fun c => ?_, fun c => ?_⟩
  · rw [e1] at c ⊢
    rw [h3, h2, ix_nI (by omega), ix_nI (by omega), ix_nI (by omega)]
    have hl : e - s ≤ 5 := (nI_leI (a := e - s) (b := 5) (by omega) (by omega)).mp c
    have h := lp_X5_isWord (G := G) (l := e - s) hw hl (by omega) h3 5 0 rfl rfl
    have ew : isWd (μ 25) s (e - s) w = wdB (μ 25) s (e - s) w 5 := by
      unfold isWd
      rw [decide_eq_true hl, Bool.true_and]
    rw [ew]
    exact h
  · rw [e1] at c
    have hl : ¬ e - s ≤ 5 := fun q => c (nI_le (b := 5) q (by omega))
    rw [h3, h2, ix_nI (by omega), ix_nI (by omega), ix_nI (by omega)]
    refine ⟨?_, rfl⟩
    unfold isWd
    rw [decide_eq_false hl]
    rfl
def stP (μ : Mem) : Prop := ∃ n p, tpP n p μ ∧ p < n ∧ μ 24 3 = nI p
theorem sg_X5_nextWord_0 {G : GW} {K : Option Value → Mem → Prop} {μ : Mem}   (h : (((μ 24 1) ≤ (μ 24 2)) → Ev2 G mX5_nextWord 10 31 [(0, .ref 24)] [] μ K) ∧ ((¬ ((μ 24 1) ≤ (μ 24 2))) → (vp_in (μ 24 2) 160) ∧ (((letB (μ 25 (μ 24 2).toNatClampNeg)) = false) → Ev2 G mX5_nextWord 10 31 [(0, .ref 24)] [] μ K) ∧ (((letB (μ 25 (μ 24 2).toNatClampNeg)) = true) → Ev2 G mX5_nextWord 10 0 [(0, .ref 24)] [] (mset μ 24 2 ((μ 24 2) + 1)) K))) : Ev2 G mX5_nextWord 10 0 [(0, .ref 24)] [] μ K := by
  refine ev_aload_n dX5_nextWord_0 0 rfl (by decide) ?_
  refine ev_getI' (v := (μ 24 2)) fl_5_19 rfl kd_24 rfl dX5_nextWord_1 ?_
  refine ev_aload_n dX5_nextWord_4 0 rfl (by decide) ?_
  refine ev_getI' (v := (μ 24 1)) fl_5_15 rfl kd_24 rfl dX5_nextWord_5 ?_
  refine ev_icmp_ge (tgt := 31) dX5_nextWord_8 rfl (fun c1 => ?_) (fun c1 => ?_)
  · have h2 := h.1 c1
    exact h2
  · have h3 := h.2 c1
    refine ev_aload_n dX5_nextWord_11 0 rfl (by decide) ?_
    have p4 := h3.1
    have h5 := h3.2
    refine e2_callV (w := .int (bi (letB (μ 25 (μ 24 2).toNatClampNeg)))) (μ1 := μ) (a := 24) (as := []) (st := []) ok_X5_isLetter vi_X5_isLetter ml_5_28 hcl_5 kd_24 dX5_nextWord_12 rfl rfl (Nat.le_of_ble_eq_true rfl) (Nat.le_of_ble_eq_true rfl) (by decide) (ct_X5_isLetter μ p4) ?_
    refine ev_ifeq_bi (tgt := 31) dX5_nextWord_15 rfl (fun c6 => ?_) (fun c6 => ?_)
    · have h7 := h5.1 c6
      exact h7
    · have h8 := h5.2 c6
      refine ev_aload_n dX5_nextWord_18 0 rfl (by decide) ?_
      refine ev_dup dX5_nextWord_19 rfl ?_
      refine ev_getI' (v := (μ 24 2)) fl_5_19 rfl kd_24 rfl dX5_nextWord_20 ?_
      refine ev_iconst (v := 1) dX5_nextWord_23 rfl ?_
      refine ev_iadd dX5_nextWord_24 ?_
      refine ev_putI fl_5_19 ⟨rfl, rfl, rfl⟩ (fun r hr => by cases hr; rfl) kd_24 dX5_nextWord_25 ?_
      refine ev_goto (tgt := 0) dX5_nextWord_28 rfl ?_
      exact h8
theorem sg_X5_nextWord_31 {G : GW} {K : Option Value → Mem → Prop} {μ : Mem}   (h : Ev2 G mX5_nextWord 10 33 [(0, .ref 24), (1, .int 0)] [] μ K) : Ev2 G mX5_nextWord 10 31 [(0, .ref 24)] [] μ K := by
  refine ev_iconst (v := 0) dX5_nextWord_31 rfl ?_
  refine ev_istore_n (lv' := [(0, .ref 24), (1, .int 0)]) dX5_nextWord_32 (by decide) [1, 0] rfl ?_
  exact h
theorem sg_X5_nextWord_33 {G : GW} {K : Option Value → Mem → Prop} {μ : Mem} {x1 : Int32}  (h : ((12 ≤ x1) → K (some (.int 22)) μ) ∧ ((¬ (12 ≤ x1)) → (wdP μ x1) ∧ (((isWd (μ 25) (μ 24 3).toNatClampNeg ((μ 24 2).toNatClampNeg - (μ 24 3).toNatClampNeg) x1.toNatClampNeg) = false) → Ev2 G mX5_nextWord 10 33 [(0, .ref 24), (1, .int (x1 + 1))] [] μ K) ∧ (((isWd (μ 25) (μ 24 3).toNatClampNeg ((μ 24 2).toNatClampNeg - (μ 24 3).toNatClampNeg) x1.toNatClampNeg) = true) → K (some (.int x1)) μ))) : Ev2 G mX5_nextWord 10 33 [(0, .ref 24), (1, .int x1)] [] μ K := by
  refine ev_iload_n dX5_nextWord_33 1 rfl ?_
  refine ev_bipush (v := 12) dX5_nextWord_34 rfl ?_
  refine ev_icmp_ge (tgt := 55) dX5_nextWord_36 rfl (fun c1 => ?_) (fun c1 => ?_)
  · have h2 := h.1 c1
    refine ev_bipush (v := 22) dX5_nextWord_55 rfl ?_
    exact ev_ireturn dX5_nextWord_57 rfl True.intro rfl rfl ⟨rfl, h2⟩
  · have h3 := h.2 c1
    refine ev_aload_n dX5_nextWord_39 0 rfl (by decide) ?_
    refine ev_iload_n dX5_nextWord_40 1 rfl ?_
    have p4 := h3.1
    have h5 := h3.2
    refine e2_callV (w := .int (bi (isWd (μ 25) (μ 24 3).toNatClampNeg ((μ 24 2).toNatClampNeg - (μ 24 3).toNatClampNeg) x1.toNatClampNeg))) (μ1 := μ) (a := 24) (as := [.int x1]) (st := []) ok_X5_isWord vi_X5_isWord ml_5_50 hcl_5 kd_24 dX5_nextWord_41 rfl rfl (Nat.le_of_ble_eq_true rfl) (Nat.le_of_ble_eq_true rfl) (by decide) (ct_X5_isWord (x1) μ p4) ?_
    refine ev_ifeq_bi (tgt := 49) dX5_nextWord_44 rfl (fun c6 => ?_) (fun c6 => ?_)
    · have h7 := h5.1 c6
      refine ev_iinc (v := (x1 + 1)) (lv' := [(0, .ref 24), (1, .int (x1 + 1))]) dX5_nextWord_49 1 rfl rfl (by decide) [1, 0] rfl ?_
      refine ev_goto (tgt := 33) dX5_nextWord_52 rfl ?_
      exact h7
    · have h8 := h5.2 c6
      refine ev_iload_n dX5_nextWord_47 1 rfl ?_
      exact ev_ireturn dX5_nextWord_48 rfl True.intro rfl rfl ⟨rfl, h8⟩
theorem rnT_le (b : Int32 → Bool) (f : Nat → Int32) : ∀ j p, p ≤ rnT b f j p ∧ rnT b f j p ≤ p + j := by
  intro j
  induction j with
  | zero => intro p; exact ⟨Nat.le_refl _, Nat.le_refl _⟩
  | succ j ih =>
    intro p
    unfold rnT
    split
    · have := ih (p + 1)
      omega
    · omega
theorem skT_le (f : Nat → Int32) : ∀ j p, p ≤ skT f j p ∧ skT f j p ≤ p + j := by
  intro j
  induction j with
  | zero => intro p; exact ⟨Nat.le_refl _, Nat.le_refl _⟩
  | succ j ih =>
    intro p
    unfold skT
    split
    · have := ih (p + 1)
      omega
    · omega
theorem tpP.up {n p : Nat} {μ : Mem} (h : tpP n p μ) (hp : p < n) : tpP n (p + 1) (mset μ 24 2 (μ 24 2 + 1)) := by
  refine ⟨h.1, hp, ?_, ?_⟩
  · rw [mset_other (by omega)]
    exact h.2.2.1
  · rw [mset_same, h.2.2.2, nI_1]
theorem lp_X5_nextWord {G : GW} {K : Option Value → Mem → Prop} {n : Nat} : ∀ j p (μ : Mem), p + j = n → tpP n p μ → Ev2 G mX5_nextWord 10 31 [(0, .ref 24)] [] (mset μ 24 2 (nI (rnT letB (μ 25) j p))) K → Ev2 G mX5_nextWord 10 0 [(0, .ref 24)] [] μ K := by
  intro j
  induction j with
  | zero =>
    intro p μ hj h hk
    obtain rfl : p = n := by omega
    have e : mset μ 24 2 (nI (rnT letB (μ 25) 0 p)) = μ := mset_self h.2.2.2
    rw [e] at hk
    refine sg_X5_nextWord_0 ⟨fun _ => hk, fun c => ?_⟩
    rw [h.2.2.1, h.2.2.2] at c
    exact absurd (nI_le (Nat.le_refl p) (by have := h.1; omega)) c
  | succ j ih =>
    intro p μ hj h hk
    have hn := h.1
    have ep : rnT letB (μ 25) (j + 1) p = if letB (μ 25 p) = true then rnT letB (μ 25) j (p + 1) else p := rfl
    rw [ep] at hk
    refine sg_X5_nextWord_0 ⟨fun c => ?_, fun _ => ⟨?_, fun c => ?_, fun c => ?_⟩⟩
    · rw [h.2.2.1, h.2.2.2] at c
      exact absurd c (nI_ge (by omega) (by omega))
    · rw [h.2.2.2]
      exact vp_nI (by omega) (by omega)
    · rw [h.2.2.2, ix_nI (by omega)] at c
      rw [if_neg (by rw [c]; decide), mset_self h.2.2.2] at hk
      exact hk
    · rw [h.2.2.2, ix_nI (by omega)] at c
      rw [if_pos c] at hk
      refine ih (p + 1) _ (by omega) (h.up (by omega)) ?_
      rw [mset_mset, mset_ne (b := 25) (a := 24) (by omega)]
      exact hk
theorem lp_X5_words {G : GW} {s l : Nat} {μ : Mem} (h3 : μ 24 3 = nI s) (h2 : μ 24 2 = nI (s + l)) (hl : s + l ≤ 160) : ∀ j w, w + j = 12 → Ev2 G mX5_nextWord 10 33 [(0, .ref 24), (1, .int (nI w))] [] μ (fun v μ' => v = some (.int (wdI (μ 25) s l j)) ∧ μ' = μ) := by
  intro j
  induction j with
  | zero =>
    intro w hw
    obtain rfl : w = 12 := by omega
    exact sg_X5_nextWord_33 ⟨fun _ => ⟨rfl, rfl⟩, fun c => absurd (nI_le (a := 12) (Nat.le_refl 12) (by omega)) c⟩
  | succ j ih =>
    intro w hw
    have h := ih (w + 1) (by omega)
    rw [← nI_1] at h
    have ep : wdI (μ 25) s l (j + 1) = if isWd (μ 25) s l w = true then nI w else wdI (μ 25) s l j := by
      rw [show w = 11 - j by omega]
      rfl
    rw [ep]
    have ei : isWd (μ 25) (μ 24 3).toNatClampNeg ((μ 24 2).toNatClampNeg - (μ 24 3).toNatClampNeg) (nI w).toNatClampNeg = isWd (μ 25) s l w := by
      rw [h3, h2, ix_nI (by omega), ix_nI (by omega), ix_nI (by omega), Nat.add_sub_cancel_left]
    refine sg_X5_nextWord_33 ⟨fun c => absurd c (nI_ge (b := 12) (by omega) (by omega)), fun _ => ⟨⟨s, s + l, w, by omega, rfl, h3, h2, by omega, hl⟩, fun c => ?_, fun c => ?_⟩⟩
    · rw [ei] at c
      rw [if_neg (by rw [c]; decide)]
      exact h
    · rw [ei] at c
      rw [if_pos c]
      exact ⟨rfl, rfl⟩
theorem ct_X5_nextWord {G : GW} (μ : Mem) (hp : stP μ) : Ev2 G mX5_nextWord 10 0 [(0, .ref 24)] [] μ (fun v μ' => v = some (.int (wdI (μ 25) (pN μ) (rnT letB (μ 25) (nN μ - pN μ) (pN μ) - pN μ) 12)) ∧ μ' = mset μ 24 2 (nI (rnT letB (μ 25) (nN μ - pN μ) (pN μ)))) := by
  obtain ⟨n, p, h, hpn, h3⟩ := hp
  rw [h.eN, h.eP]
  have hr := rnT_le letB (μ 25) (n - p) p
  have hn := h.1
  refine lp_X5_nextWord (n - p) p μ (by omega) h (sg_X5_nextWord_31 ?_)
  have hw := lp_X5_words (G := G) (s := p) (l := rnT letB (μ 25) (n - p) p - p) (μ := mset μ 24 2 (nI (rnT letB (μ 25) (n - p) p))) (by rw [mset_other (by omega)]; exact h3) (by rw [mset_same]; congr 1; omega) (by omega) 12 0 rfl
  have e25 : mset μ 24 2 (nI (rnT letB (μ 25) (n - p) p)) 25 = μ 25 := mset_ne (by omega)
  rw [e25] at hw
  exact hw
theorem sg_X5_nextNumber_0 {G : GW} {K : Option Value → Mem → Prop} {μ : Mem}   (h : Ev2 G mX5_nextNumber 2 5 [(0, .ref 24)] [] (mset μ 24 4 0) K) : Ev2 G mX5_nextNumber 2 0 [(0, .ref 24)] [] μ K := by
  refine ev_aload_n dX5_nextNumber_0 0 rfl (by decide) ?_
  refine ev_iconst (v := 0) dX5_nextNumber_1 rfl ?_
  refine ev_putI fl_5_25 ⟨rfl, rfl, rfl⟩ (fun r hr => by cases hr; rfl) kd_24 dX5_nextNumber_2 ?_
  exact h
theorem sg_X5_nextNumber_5 {G : GW} {K : Option Value → Mem → Prop} {μ : Mem}   (h : (((μ 24 1) ≤ (μ 24 2)) → Ev2 G mX5_nextNumber 2 60 [(0, .ref 24)] [] μ K) ∧ ((¬ ((μ 24 1) ≤ (μ 24 2))) → (vp_in (μ 24 2) 160) ∧ (((digB (μ 25 (μ 24 2).toNatClampNeg)) = false) → Ev2 G mX5_nextNumber 2 60 [(0, .ref 24)] [] μ K) ∧ (((digB (μ 25 (μ 24 2).toNatClampNeg)) = true) → (vp_in (μ 24 2) 160) ∧ Ev2 G mX5_nextNumber 2 5 [(0, .ref 24)] [] (mset (mset μ 24 4 (((10 * (μ 24 4)) + (μ 25 (μ 24 2).toNatClampNeg)) - 48)) 24 2 ((μ 24 2) + 1)) K))) : Ev2 G mX5_nextNumber 2 5 [(0, .ref 24)] [] μ K := by
  refine ev_aload_n dX5_nextNumber_5 0 rfl (by decide) ?_
  refine ev_getI' (v := (μ 24 2)) fl_5_19 rfl kd_24 rfl dX5_nextNumber_6 ?_
  refine ev_aload_n dX5_nextNumber_9 0 rfl (by decide) ?_
  refine ev_getI' (v := (μ 24 1)) fl_5_15 rfl kd_24 rfl dX5_nextNumber_10 ?_
  refine ev_icmp_ge (tgt := 60) dX5_nextNumber_13 rfl (fun c1 => ?_) (fun c1 => ?_)
  · have h2 := h.1 c1
    exact h2
  · have h3 := h.2 c1
    refine ev_aload_n dX5_nextNumber_16 0 rfl (by decide) ?_
    have p4 := h3.1
    have h5 := h3.2
    refine e2_callV (w := .int (bi (digB (μ 25 (μ 24 2).toNatClampNeg)))) (μ1 := μ) (a := 24) (as := []) (st := []) ok_X5_isDigit vi_X5_isDigit ml_5_36 hcl_5 kd_24 dX5_nextNumber_17 rfl rfl (Nat.le_of_ble_eq_true rfl) (Nat.le_of_ble_eq_true rfl) (by decide) (ct_X5_isDigit μ p4) ?_
    refine ev_ifeq_bi (tgt := 60) dX5_nextNumber_20 rfl (fun c6 => ?_) (fun c6 => ?_)
    · have h7 := h5.1 c6
      exact h7
    · have h8 := h5.2 c6
      refine ev_aload_n dX5_nextNumber_23 0 rfl (by decide) ?_
      refine ev_bipush (v := 10) dX5_nextNumber_24 rfl ?_
      refine ev_aload_n dX5_nextNumber_26 0 rfl (by decide) ?_
      refine ev_getI' (v := (μ 24 4)) fl_5_25 rfl kd_24 rfl dX5_nextNumber_27 ?_
      refine ev_imul dX5_nextNumber_30 ?_
      refine ev_aload_n dX5_nextNumber_31 0 rfl (by decide) ?_
      refine ev_getR' fl_5_9 rfl kd_24 rf_24_0 dX5_nextNumber_32 ?_
      refine ev_aload_n dX5_nextNumber_35 0 rfl (by decide) ?_
      refine ev_getI' (v := (μ 24 2)) fl_5_19 rfl kd_24 rfl dX5_nextNumber_36 ?_
      have p9 := h8.1
      have h10 := h8.2
      refine ev_iaload' (v := (μ 25 (μ 24 2).toNatClampNeg)) kd_25 ln_25 p9 rfl dX5_nextNumber_39 ?_
      refine ev_iadd dX5_nextNumber_40 ?_
      refine ev_bipush (v := 48) dX5_nextNumber_41 rfl ?_
      refine ev_isub dX5_nextNumber_43 ?_
      refine ev_putI fl_5_25 ⟨rfl, rfl, rfl⟩ (fun r hr => by cases hr; rfl) kd_24 dX5_nextNumber_44 ?_
      refine ev_aload_n dX5_nextNumber_47 0 rfl (by decide) ?_
      refine ev_dup dX5_nextNumber_48 rfl ?_
      refine ev_getI' (v := (μ 24 2)) fl_5_19 rfl kd_24 rfl dX5_nextNumber_49 ?_
      refine ev_iconst (v := 1) dX5_nextNumber_52 rfl ?_
      refine ev_iadd dX5_nextNumber_53 ?_
      refine ev_putI fl_5_19 ⟨rfl, rfl, rfl⟩ (fun r hr => by cases hr; rfl) kd_24 dX5_nextNumber_54 ?_
      refine ev_goto (tgt := 5) dX5_nextNumber_57 rfl ?_
      exact h10
theorem sg_X5_nextNumber_60 {G : GW} {K : Option Value → Mem → Prop} {μ : Mem}   (h : ((((μ 24 2) - (μ 24 3)) ≤ 4) → K (some (.int 20)) μ) ∧ ((¬ (((μ 24 2) - (μ 24 3)) ≤ 4)) → K (some (.int 22)) μ)) : Ev2 G mX5_nextNumber 2 60 [(0, .ref 24)] [] μ K := by
  refine ev_aload_n dX5_nextNumber_60 0 rfl (by decide) ?_
  refine ev_getI' (v := (μ 24 2)) fl_5_19 rfl kd_24 rfl dX5_nextNumber_61 ?_
  refine ev_aload_n dX5_nextNumber_64 0 rfl (by decide) ?_
  refine ev_getI' (v := (μ 24 3)) fl_5_22 rfl kd_24 rfl dX5_nextNumber_65 ?_
  refine ev_isub dX5_nextNumber_68 ?_
  refine ev_iconst (v := 4) dX5_nextNumber_69 rfl ?_
  refine ev_icmp_le (tgt := 78) dX5_nextNumber_70 rfl (fun c1 => ?_) (fun c1 => ?_)
  · have h2 := h.1 c1
    refine ev_bipush (v := 20) dX5_nextNumber_78 rfl ?_
    exact ev_ireturn dX5_nextNumber_80 rfl True.intro rfl rfl ⟨rfl, h2⟩
  · have h3 := h.2 c1
    refine ev_bipush (v := 22) dX5_nextNumber_73 rfl ?_
    refine ev_goto (tgt := 80) dX5_nextNumber_75 rfl ?_
    exact ev_ireturn dX5_nextNumber_80 rfl True.intro rfl rfl ⟨rfl, h3⟩
theorem lp_X5_nextNumber {G : GW} {K : Option Value → Mem → Prop} {n : Nat} : ∀ j p (μ : Mem), p + j = n → tpP n p μ → Ev2 G mX5_nextNumber 2 60 [(0, .ref 24)] [] (mset (mset μ 24 4 (nmT (μ 25) j p (μ 24 4))) 24 2 (nI (rnT digB (μ 25) j p))) K → Ev2 G mX5_nextNumber 2 5 [(0, .ref 24)] [] μ K := by
  intro j
  induction j with
  | zero =>
    intro p μ hj h hk
    obtain rfl : p = n := by omega
    have e : mset (mset μ 24 4 (nmT (μ 25) 0 p (μ 24 4))) 24 2 (nI (rnT digB (μ 25) 0 p)) = μ := by
      have e1 : mset μ 24 4 (nmT (μ 25) 0 p (μ 24 4)) = μ := mset_self rfl
      rw [e1]
      exact mset_self h.2.2.2
    rw [e] at hk
    refine sg_X5_nextNumber_5 ⟨fun _ => hk, fun c => ?_⟩
    rw [h.2.2.1, h.2.2.2] at c
    exact absurd (nI_le (Nat.le_refl p) (by have := h.1; omega)) c
  | succ j ih =>
    intro p μ hj h hk
    have hn := h.1
    have ep : rnT digB (μ 25) (j + 1) p = if digB (μ 25 p) = true then rnT digB (μ 25) j (p + 1) else p := rfl
    have ev : nmT (μ 25) (j + 1) p (μ 24 4) = if digB (μ 25 p) = true then nmT (μ 25) j (p + 1) (10 * μ 24 4 + μ 25 p - 48) else μ 24 4 := rfl
    rw [ep, ev] at hk
    have hv : vp_in (μ 24 2) 160 := by
      rw [h.2.2.2]
      exact vp_nI (by omega) (by omega)
    have e2 : μ 24 2 = nI p := h.2.2.2
    refine sg_X5_nextNumber_5 ⟨fun c => ?_, fun _ => ⟨hv, fun c => ?_, fun c => ⟨hv, ?_⟩⟩⟩
    · rw [h.2.2.1, h.2.2.2] at c
      exact absurd c (nI_ge (by omega) (by omega))
    · rw [e2, ix_nI (by omega)] at c
      rw [if_neg (by rw [c]; decide), if_neg (by rw [c]; decide), mset_self (x := μ 24 4) rfl, mset_self h.2.2.2] at hk
      exact hk
    · rw [e2, ix_nI (by omega)] at c
      rw [if_pos c, if_pos c] at hk
      rw [e2, ix_nI (by omega), nI_1]
      refine ih (p + 1) _ (by omega) ⟨hn, by omega, ?_, mset_same⟩ ?_
      · rw [mset_other (by omega), mset_other (by omega)]
        exact h.2.2.1
      · have e25 : mset (mset μ 24 4 (10 * μ 24 4 + μ 25 p - 48)) 24 2 (nI (p + 1)) 25 = μ 25 := by rw [mset_ne (by omega), mset_ne (by omega)]
        have e4 : mset (mset μ 24 4 (10 * μ 24 4 + μ 25 p - 48)) 24 2 (nI (p + 1)) 24 4 = 10 * μ 24 4 + μ 25 p - 48 := by rw [mset_other (by omega), mset_same]
        rw [e25, e4, mset_comm (a := 24) (k := 2) (b := 24) (j := 4) (by omega), mset_mset, mset_mset]
        exact hk
theorem ct_X5_nextNumber {G : GW} (μ : Mem) (hp : stP μ) : Ev2 G mX5_nextNumber 2 0 [(0, .ref 24)] [] μ (fun v μ' => v = some (.int (if rnT digB (μ 25) (nN μ - pN μ) (pN μ) - pN μ ≤ 4 then 20 else 22)) ∧ μ' = mset (mset μ 24 4 (nmT (μ 25) (nN μ - pN μ) (pN μ) 0)) 24 2 (nI (rnT digB (μ 25) (nN μ - pN μ) (pN μ)))) := by
  obtain ⟨n, p, h, hpn, h3⟩ := hp
  rw [h.eN, h.eP]
  have hr := rnT_le digB (μ 25) (n - p) p
  have hn := h.1
  have e25 : mset μ 24 4 0 25 = μ 25 := mset_ne (by omega)
  refine sg_X5_nextNumber_0 (lp_X5_nextNumber (n - p) p _ (by omega) ⟨hn, h.2.1, by rw [mset_other (by omega)]; exact h.2.2.1, by rw [mset_other (by omega)]; exact h.2.2.2⟩ ?_)
  rw [e25, mset_same, mset_mset]
  have e2 : mset (mset μ 24 4 (nmT (μ 25) (n - p) p 0)) 24 2 (nI (rnT digB (μ 25) (n - p) p)) 24 2 - mset (mset μ 24 4 (nmT (μ 25) (n - p) p 0)) 24 2 (nI (rnT digB (μ 25) (n - p) p)) 24 3 = nI (rnT digB (μ 25) (n - p) p - p) := by
    rw [mset_same, mset_other (by omega), mset_other (by omega), h3, pk_sub hr.1]
  refine sg_X5_nextNumber_60 ⟨fun c => ⟨?_, rfl⟩, fun c => ⟨?_, rfl⟩⟩
  · rw [e2] at c
    rw [if_pos ((nI_leI (b := 4) (by omega) (by omega)).mp c)]
  · rw [e2] at c
    rw [if_neg (fun q => c (nI_le (b := 4) q (by omega)))]
def nxM (μ : Mem) (n s : Nat) : Mem := mset (mset (mset μ 24 3 (nI s)) 24 4 (tkV (μ 25) n s (μ 24 4))) 24 2 (nI (tkE (μ 25) n s))
theorem sg_X5_next_0 {G : GW} {K : Option Value → Mem → Prop} {μ : Mem}   (h : (((μ 24 1) ≤ (μ 24 2)) → Ev2 G mX5_next 11 52 [(0, .ref 24)] [] μ K) ∧ ((¬ ((μ 24 1) ≤ (μ 24 2))) → (vp_in (μ 24 2) 160) ∧ (((μ 25 (μ 24 2).toNatClampNeg) = 32) → Ev2 G mX5_next 11 0 [(0, .ref 24)] [] (mset μ 24 2 ((μ 24 2) + 1)) K) ∧ ((¬ ((μ 25 (μ 24 2).toNatClampNeg) = 32)) → (vp_in (μ 24 2) 160) ∧ ((¬ (μ 25 (μ 24 2).toNatClampNeg) = 10) → Ev2 G mX5_next 11 52 [(0, .ref 24)] [] μ K) ∧ (((μ 25 (μ 24 2).toNatClampNeg) = 10) → Ev2 G mX5_next 11 0 [(0, .ref 24)] [] (mset μ 24 2 ((μ 24 2) + 1)) K)))) : Ev2 G mX5_next 11 0 [(0, .ref 24)] [] μ K := by
  refine ev_aload_n dX5_next_0 0 rfl (by decide) ?_
  refine ev_getI' (v := (μ 24 2)) fl_5_19 rfl kd_24 rfl dX5_next_1 ?_
  refine ev_aload_n dX5_next_4 0 rfl (by decide) ?_
  refine ev_getI' (v := (μ 24 1)) fl_5_15 rfl kd_24 rfl dX5_next_5 ?_
  refine ev_icmp_ge (tgt := 52) dX5_next_8 rfl (fun c1 => ?_) (fun c1 => ?_)
  · have h2 := h.1 c1
    exact h2
  · have h3 := h.2 c1
    refine ev_aload_n dX5_next_11 0 rfl (by decide) ?_
    refine ev_getR' fl_5_9 rfl kd_24 rf_24_0 dX5_next_12 ?_
    refine ev_aload_n dX5_next_15 0 rfl (by decide) ?_
    refine ev_getI' (v := (μ 24 2)) fl_5_19 rfl kd_24 rfl dX5_next_16 ?_
    have p4 := h3.1
    have h5 := h3.2
    refine ev_iaload' (v := (μ 25 (μ 24 2).toNatClampNeg)) kd_25 ln_25 p4 rfl dX5_next_19 ?_
    refine ev_bipush (v := 32) dX5_next_20 rfl ?_
    refine ev_icmp_eq (tgt := 39) dX5_next_22 rfl (fun c6 => ?_) (fun c6 => ?_)
    · have h7 := h5.1 c6
      refine ev_aload_n dX5_next_39 0 rfl (by decide) ?_
      refine ev_dup dX5_next_40 rfl ?_
      refine ev_getI' (v := (μ 24 2)) fl_5_19 rfl kd_24 rfl dX5_next_41 ?_
      refine ev_iconst (v := 1) dX5_next_44 rfl ?_
      refine ev_iadd dX5_next_45 ?_
      refine ev_putI fl_5_19 ⟨rfl, rfl, rfl⟩ (fun r hr => by cases hr; rfl) kd_24 dX5_next_46 ?_
      refine ev_goto (tgt := 0) dX5_next_49 rfl ?_
      exact h7
    · have h8 := h5.2 c6
      refine ev_aload_n dX5_next_25 0 rfl (by decide) ?_
      refine ev_getR' fl_5_9 rfl kd_24 rf_24_0 dX5_next_26 ?_
      refine ev_aload_n dX5_next_29 0 rfl (by decide) ?_
      refine ev_getI' (v := (μ 24 2)) fl_5_19 rfl kd_24 rfl dX5_next_30 ?_
      have p9 := h8.1
      have h10 := h8.2
      refine ev_iaload' (v := (μ 25 (μ 24 2).toNatClampNeg)) kd_25 ln_25 p9 rfl dX5_next_33 ?_
      refine ev_bipush (v := 10) dX5_next_34 rfl ?_
      refine ev_icmp_ne (tgt := 52) dX5_next_36 rfl (fun c11 => ?_) (fun c11 => ?_)
      · have h12 := h10.1 c11
        exact h12
      · have h13 := h10.2 c11
        refine ev_aload_n dX5_next_39 0 rfl (by decide) ?_
        refine ev_dup dX5_next_40 rfl ?_
        refine ev_getI' (v := (μ 24 2)) fl_5_19 rfl kd_24 rfl dX5_next_41 ?_
        refine ev_iconst (v := 1) dX5_next_44 rfl ?_
        refine ev_iadd dX5_next_45 ?_
        refine ev_putI fl_5_19 ⟨rfl, rfl, rfl⟩ (fun r hr => by cases hr; rfl) kd_24 dX5_next_46 ?_
        refine ev_goto (tgt := 0) dX5_next_49 rfl ?_
        exact h13
theorem sg_X5_next_52 {G : GW} {K : Option Value → Mem → Prop} {μ : Mem}   (h : (((μ 24 2) < (μ 24 1)) → (vp_in ((mset μ 24 3 (μ 24 2)) 24 2) 160) ∧ (((letB ((mset μ 24 3 (μ 24 2)) 25 ((mset μ 24 3 (μ 24 2)) 24 2).toNatClampNeg)) = false) → (vp_in ((mset μ 24 3 (μ 24 2)) 24 2) 160) ∧ (((digB ((mset μ 24 3 (μ 24 2)) 25 ((mset μ 24 3 (μ 24 2)) 24 2).toNatClampNeg)) = false) → (vp_in (μ 24 2) 160) ∧ ∀ y16 : Int32, y16 = (scI (Int32.toUInt32 (μ 25 (μ 24 2).toNatClampNeg) % 65536).toInt32) → ((0 ≤ y16) → K (some (.int (12 + y16))) (mset (mset μ 24 3 (μ 24 2)) 24 2 ((μ 24 2) + 1))) ∧ ((¬ (0 ≤ y16)) → K (some (.int 22)) (mset (mset μ 24 3 (μ 24 2)) 24 2 ((μ 24 2) + 1)))) ∧ (((digB ((mset μ 24 3 (μ 24 2)) 25 ((mset μ 24 3 (μ 24 2)) 24 2).toNatClampNeg)) = true) → (stP (mset μ 24 3 (μ 24 2))) ∧ K (some (.int (if rnT digB ((mset μ 24 3 (μ 24 2)) 25) (nN (mset μ 24 3 (μ 24 2)) - pN (mset μ 24 3 (μ 24 2))) (pN (mset μ 24 3 (μ 24 2))) - pN (mset μ 24 3 (μ 24 2)) ≤ 4 then 20 else 22))) (mset (mset (mset μ 24 3 (μ 24 2)) 24 4 (nmT ((mset μ 24 3 (μ 24 2)) 25) (nN (mset μ 24 3 (μ 24 2)) - pN (mset μ 24 3 (μ 24 2))) (pN (mset μ 24 3 (μ 24 2))) 0)) 24 2 (nI (rnT digB ((mset μ 24 3 (μ 24 2)) 25) (nN (mset μ 24 3 (μ 24 2)) - pN (mset μ 24 3 (μ 24 2))) (pN (mset μ 24 3 (μ 24 2)))))))) ∧ (((letB ((mset μ 24 3 (μ 24 2)) 25 ((mset μ 24 3 (μ 24 2)) 24 2).toNatClampNeg)) = true) → (stP (mset μ 24 3 (μ 24 2))) ∧ K (some (.int (wdI ((mset μ 24 3 (μ 24 2)) 25) (pN (mset μ 24 3 (μ 24 2))) (rnT letB ((mset μ 24 3 (μ 24 2)) 25) (nN (mset μ 24 3 (μ 24 2)) - pN (mset μ 24 3 (μ 24 2))) (pN (mset μ 24 3 (μ 24 2))) - pN (mset μ 24 3 (μ 24 2))) 12))) (mset (mset μ 24 3 (μ 24 2)) 24 2 (nI (rnT letB ((mset μ 24 3 (μ 24 2)) 25) (nN (mset μ 24 3 (μ 24 2)) - pN (mset μ 24 3 (μ 24 2))) (pN (mset μ 24 3 (μ 24 2)))))))) ∧ ((¬ ((μ 24 2) < (μ 24 1))) → K (some (.int 21)) (mset μ 24 3 (μ 24 2)))) : Ev2 G mX5_next 11 52 [(0, .ref 24)] [] μ K := by
  refine ev_aload_n dX5_next_52 0 rfl (by decide) ?_
  refine ev_aload_n dX5_next_53 0 rfl (by decide) ?_
  refine ev_getI' (v := (μ 24 2)) fl_5_19 rfl kd_24 rfl dX5_next_54 ?_
  refine ev_putI fl_5_22 ⟨rfl, rfl, rfl⟩ (fun r hr => by cases hr; rfl) kd_24 dX5_next_57 ?_
  refine ev_aload_n dX5_next_60 0 rfl (by decide) ?_
  refine ev_getI' (v := (μ 24 2)) fl_5_19 rfl kd_24 rfl dX5_next_61 ?_
  refine ev_aload_n dX5_next_64 0 rfl (by decide) ?_
  refine ev_getI' (v := (μ 24 1)) fl_5_15 rfl kd_24 rfl dX5_next_65 ?_
  refine ev_icmp_lt (tgt := 74) dX5_next_68 rfl (fun c1 => ?_) (fun c1 => ?_)
  · have h2 := h.1 c1
    refine ev_aload_n dX5_next_74 0 rfl (by decide) ?_
    have p4 := h2.1
    have h5 := h2.2
    refine e2_callV (w := .int (bi (letB ((mset μ 24 3 (μ 24 2)) 25 ((mset μ 24 3 (μ 24 2)) 24 2).toNatClampNeg)))) (μ1 := (mset μ 24 3 (μ 24 2))) (a := 24) (as := []) (st := []) ok_X5_isLetter vi_X5_isLetter ml_5_28 hcl_5 kd_24 dX5_next_75 rfl rfl (Nat.le_of_ble_eq_true rfl) (Nat.le_of_ble_eq_true rfl) (by decide) (ct_X5_isLetter (mset μ 24 3 (μ 24 2)) p4) ?_
    refine ev_ifeq_bi (tgt := 86) dX5_next_78 rfl (fun c6 => ?_) (fun c6 => ?_)
    · have h7 := h5.1 c6
      refine ev_aload_n dX5_next_86 0 rfl (by decide) ?_
      have p9 := h7.1
      have h10 := h7.2
      refine e2_callV (w := .int (bi (digB ((mset μ 24 3 (μ 24 2)) 25 ((mset μ 24 3 (μ 24 2)) 24 2).toNatClampNeg)))) (μ1 := (mset μ 24 3 (μ 24 2))) (a := 24) (as := []) (st := []) ok_X5_isDigit vi_X5_isDigit ml_5_36 hcl_5 kd_24 dX5_next_87 rfl rfl (Nat.le_of_ble_eq_true rfl) (Nat.le_of_ble_eq_true rfl) (by decide) (ct_X5_isDigit (mset μ 24 3 (μ 24 2)) p9) ?_
      refine ev_ifeq_bi (tgt := 98) dX5_next_90 rfl (fun c11 => ?_) (fun c11 => ?_)
      · have h12 := h10.1 c11
        refine ev_ldcs42 rfl dX5_next_98 ?_
        refine ev_aload_n dX5_next_100 0 rfl (by decide) ?_
        refine ev_getR' fl_5_9 rfl kd_24 rf_24_0 dX5_next_101 ?_
        refine ev_aload_n dX5_next_104 0 rfl (by decide) ?_
        refine ev_getI' (v := (μ 24 2)) fl_5_19 rfl kd_24 rfl dX5_next_105 ?_
        have p14 := h12.1
        have h15 := h12.2
        refine ev_iaload' (v := (μ 25 (μ 24 2).toNatClampNeg)) kd_25 ln_25 p14 rfl dX5_next_108 ?_
        refine ev_i2c dX5_next_109 ?_
        refine ev_indexOf rfl dX5_next_110 (Nat.le_of_ble_eq_true rfl) (by decide) ?_
        refine ev_top (fun y16 ey16 => ?_)
        have h17 := h15 y16 ey16
        refine ev_istore_n (lv' := [(0, .ref 24), (1, .int y16)]) dX5_next_113 (by decide) [1, 0] rfl ?_
        refine ev_aload_n dX5_next_114 0 rfl (by decide) ?_
        refine ev_dup dX5_next_115 rfl ?_
        refine ev_getI' (v := (μ 24 2)) fl_5_19 rfl kd_24 rfl dX5_next_116 ?_
        refine ev_iconst (v := 1) dX5_next_119 rfl ?_
        refine ev_iadd dX5_next_120 ?_
        refine ev_putI fl_5_19 ⟨rfl, rfl, rfl⟩ (fun r hr => by cases hr; rfl) kd_24 dX5_next_121 ?_
        refine ev_iload_n dX5_next_124 1 rfl ?_
        refine ev_if_ge (tgt := 133) dX5_next_125 rfl (fun c18 => ?_) (fun c18 => ?_)
        · have h19 := h17.1 c18
          refine ev_bipush (v := 12) dX5_next_133 rfl ?_
          refine ev_iload_n dX5_next_135 1 rfl ?_
          refine ev_iadd dX5_next_136 ?_
          exact ev_ireturn dX5_next_137 rfl True.intro rfl rfl ⟨rfl, h19⟩
        · have h20 := h17.2 c18
          refine ev_bipush (v := 22) dX5_next_128 rfl ?_
          refine ev_goto (tgt := 137) dX5_next_130 rfl ?_
          exact ev_ireturn dX5_next_137 rfl True.intro rfl rfl ⟨rfl, h20⟩
      · have h13 := h10.2 c11
        refine ev_aload_n dX5_next_93 0 rfl (by decide) ?_
        have p21 := h13.1
        have h22 := h13.2
        refine e2_callV (w := .int (if rnT digB ((mset μ 24 3 (μ 24 2)) 25) (nN (mset μ 24 3 (μ 24 2)) - pN (mset μ 24 3 (μ 24 2))) (pN (mset μ 24 3 (μ 24 2))) - pN (mset μ 24 3 (μ 24 2)) ≤ 4 then 20 else 22)) (μ1 := (mset (mset (mset μ 24 3 (μ 24 2)) 24 4 (nmT ((mset μ 24 3 (μ 24 2)) 25) (nN (mset μ 24 3 (μ 24 2)) - pN (mset μ 24 3 (μ 24 2))) (pN (mset μ 24 3 (μ 24 2))) 0)) 24 2 (nI (rnT digB ((mset μ 24 3 (μ 24 2)) 25) (nN (mset μ 24 3 (μ 24 2)) - pN (mset μ 24 3 (μ 24 2))) (pN (mset μ 24 3 (μ 24 2))))))) (a := 24) (as := []) (st := []) ok_X5_nextNumber vi_X5_nextNumber ml_5_39 hcl_5 kd_24 dX5_next_94 rfl rfl (Nat.le_of_ble_eq_true rfl) (Nat.le_of_ble_eq_true rfl) (by decide) (ct_X5_nextNumber (mset μ 24 3 (μ 24 2)) p21) ?_
        exact ev_ireturn dX5_next_97 rfl True.intro rfl rfl ⟨rfl, h22⟩
    · have h8 := h5.2 c6
      refine ev_aload_n dX5_next_81 0 rfl (by decide) ?_
      have p23 := h8.1
      have h24 := h8.2
      refine e2_callV (w := .int (wdI ((mset μ 24 3 (μ 24 2)) 25) (pN (mset μ 24 3 (μ 24 2))) (rnT letB ((mset μ 24 3 (μ 24 2)) 25) (nN (mset μ 24 3 (μ 24 2)) - pN (mset μ 24 3 (μ 24 2))) (pN (mset μ 24 3 (μ 24 2))) - pN (mset μ 24 3 (μ 24 2))) 12)) (μ1 := (mset (mset μ 24 3 (μ 24 2)) 24 2 (nI (rnT letB ((mset μ 24 3 (μ 24 2)) 25) (nN (mset μ 24 3 (μ 24 2)) - pN (mset μ 24 3 (μ 24 2))) (pN (mset μ 24 3 (μ 24 2))))))) (a := 24) (as := []) (st := []) ok_X5_nextWord vi_X5_nextWord ml_5_32 hcl_5 kd_24 dX5_next_82 rfl rfl (Nat.le_of_ble_eq_true rfl) (Nat.le_of_ble_eq_true rfl) (by decide) (ct_X5_nextWord (mset μ 24 3 (μ 24 2)) p23) ?_
      exact ev_ireturn dX5_next_85 rfl True.intro rfl rfl ⟨rfl, h24⟩
  · have h3 := h.2 c1
    refine ev_bipush (v := 21) dX5_next_71 rfl ?_
    exact ev_ireturn dX5_next_73 rfl True.intro rfl rfl ⟨rfl, h3⟩
theorem lp_X5_next {G : GW} {K : Option Value → Mem → Prop} {n : Nat} : ∀ j p (μ : Mem), p + j = n → tpP n p μ → Ev2 G mX5_next 11 52 [(0, .ref 24)] [] (mset μ 24 2 (nI (skT (μ 25) j p))) K → Ev2 G mX5_next 11 0 [(0, .ref 24)] [] μ K := by
  intro j
  induction j with
  | zero =>
    intro p μ hj h hk
    obtain rfl : p = n := by omega
    have e : mset μ 24 2 (nI (skT (μ 25) 0 p)) = μ := mset_self h.2.2.2
    rw [e] at hk
    refine sg_X5_next_0 ⟨fun _ => hk, fun c => ?_⟩
    rw [h.2.2.1, h.2.2.2] at c
    exact absurd (nI_le (Nat.le_refl p) (by have := h.1; omega)) c
  | succ j ih =>
    intro p μ hj h hk
    have hn := h.1
    have ep : skT (μ 25) (j + 1) p = if μ 25 p = 32 ∨ μ 25 p = 10 then skT (μ 25) j (p + 1) else p := rfl
    rw [ep] at hk
    have hv : vp_in (μ 24 2) 160 := by
      rw [h.2.2.2]
      exact vp_nI (by omega) (by omega)
    have e2 : μ 24 2 = nI p := h.2.2.2
    have e25 : mset μ 24 2 (μ 24 2 + 1) 25 = μ 25 := mset_ne (by omega)
    have go : μ 25 p = 32 ∨ μ 25 p = 10 → Ev2 G mX5_next 11 0 [(0, .ref 24)] [] (mset μ 24 2 (μ 24 2 + 1)) K := fun c => by
      rw [if_pos c] at hk
      refine ih (p + 1) _ (by omega) (h.up (by omega)) ?_
      rw [mset_mset, e25]
      exact hk
    refine sg_X5_next_0 ⟨fun c => ?_, fun _ => ⟨hv, fun c => ?_, fun c => ⟨hv, fun c2 => ?_, fun c2 => ?_⟩⟩⟩
    · rw [h.2.2.1, h.2.2.2] at c
      exact absurd c (nI_ge (by omega) (by omega))
    · exact go (Or.inl (by rw [e2, ix_nI (by omega)] at c; exact c))
    · rw [e2, ix_nI (by omega)] at c c2
      rw [if_neg (fun q => q.elim c c2), mset_self h.2.2.2] at hk
      exact hk
    · exact go (Or.inr (by rw [e2, ix_nI (by omega)] at c2; exact c2))
theorem at_X5_next {G : GW} {n s : Nat} (ν : Mem) (h : tpP n s ν) : Ev2 G mX5_next 11 52 [(0, .ref 24)] [] ν (fun v μ' => v = some (.int (tkK (ν 25) n s)) ∧ μ' = nxM ν n s) := by
  have hn := h.1
  have e1 : ν 24 1 = nI n := h.2.2.1
  have e2 : ν 24 2 = nI s := h.2.2.2
  have hs := h.2.1
  have f2 : mset ν 24 3 (nI s) 24 2 = nI s := by rw [mset_other (by omega)]; exact e2
  have f1 : mset ν 24 3 (nI s) 24 1 = nI n := by rw [mset_other (by omega)]; exact e1
  have f4 : mset ν 24 3 (nI s) 24 4 = ν 24 4 := mset_other (by omega)
  have f25 : mset ν 24 3 (nI s) 25 = ν 25 := mset_ne (by omega)
  have ht : tpP n s (mset ν 24 3 (nI s)) := ⟨hn, hs, f1, f2⟩
  have hst : s < n → stP (mset ν 24 3 (nI s)) := fun q => ⟨n, s, ht, q, mset_same⟩
  have m4 : mset (mset ν 24 3 (nI s)) 24 4 (ν 24 4) = mset ν 24 3 (nI s) := mset_self f4
  refine sg_X5_next_52 ?_
  rw [e2, e1, ht.eN, ht.eP, f2, f25, ix_nI (by omega)]
  refine ⟨fun c => ?_, fun c => ?_⟩
  · have hsn : s < n := (nI_ltI (by omega) (by omega)).mp c
    have hv : vp_in (nI s) 160 := vp_nI (by omega) (by omega)
    refine ⟨hv, fun c1 => ⟨hv, fun c2 => ⟨hv, fun y hy => ⟨fun c3 => ?_, fun c3 => ?_⟩⟩, fun c2 => ⟨hst hsn, ?_, ?_⟩⟩, fun c1 => ⟨hst hsn, ?_, ?_⟩⟩
    · have ek : tkK (ν 25) n s = 12 + y := by simp [tkK, sgK, hsn, c1, c2, ← hy, c3]
      have em : nxM ν n s = mset (mset ν 24 3 (nI s)) 24 2 (nI s + 1) := by simp [nxM, tkV, tkE, hsn, c1, c2, m4, nI_1]
      rw [ek, em]
      exact ⟨rfl, rfl⟩
    · have ek : tkK (ν 25) n s = 22 := by simp [tkK, sgK, hsn, c1, c2, ← hy, c3]
      have em : nxM ν n s = mset (mset ν 24 3 (nI s)) 24 2 (nI s + 1) := by simp [nxM, tkV, tkE, hsn, c1, c2, m4, nI_1]
      rw [ek, em]
      exact ⟨rfl, rfl⟩
    · have ek : tkK (ν 25) n s = if rnT digB (ν 25) (n - s) s - s ≤ 4 then 20 else 22 := by simp [tkK, hsn, c1, c2]
      rw [ek]
    · simp [nxM, tkV, tkE, hsn, c1, c2]
    · have ek : tkK (ν 25) n s = wdI (ν 25) s (rnT letB (ν 25) (n - s) s - s) 12 := by simp [tkK, hsn, c1]
      rw [ek]
    · simp [nxM, tkV, tkE, hsn, c1, m4]
  · have hsn : ¬ s < n := fun q => c (nI_lt q (by omega))
    have ek : tkK (ν 25) n s = 21 := by simp [tkK, hsn]
    have em : nxM ν n s = mset ν 24 3 (nI s) := by simp [nxM, tkV, tkE, hsn, m4, mset_self f2]
    rw [ek, em]
    exact ⟨rfl, rfl⟩
theorem ct_X5_next {G : GW} (μ : Mem) (hp : ∃ n p, tpP n p μ) : Ev2 G mX5_next 11 0 [(0, .ref 24)] [] μ (fun v μ' => v = some (.int (tkK (μ 25) (nN μ) (skp (μ 25) (nN μ) (pN μ)))) ∧ μ' = nxM μ (nN μ) (skp (μ 25) (nN μ) (pN μ))) := by
  obtain ⟨n, p, h⟩ := hp
  have hp' := h.2.1
  rw [h.eN, h.eP]
  have hs := skT_le (μ 25) (n - p) p
  have hn := h.1
  refine lp_X5_next (n - p) p μ (by omega) h ?_
  have ha := at_X5_next (G := G) (n := n) (s := skp (μ 25) n p) (mset μ 24 2 (nI (skp (μ 25) n p))) ⟨hn, by unfold skp; omega, by rw [mset_other (by omega)]; exact h.2.2.1, mset_same⟩
  have e25 : mset μ 24 2 (nI (skp (μ 25) n p)) 25 = μ 25 := mset_ne (by omega)
  have ex : nxM (mset μ 24 2 (nI (skp (μ 25) n p))) n (skp (μ 25) n p) = nxM μ n (skp (μ 25) n p) := by
    unfold nxM
    rw [e25, mset_other (a' := 24) (k' := 4) (by omega), mset_comm (a := 24) (k := 2) (b := 24) (j := 3) (by omega), mset_comm (a := 24) (k := 2) (b := 24) (j := 4) (by omega), mset_mset]
  rw [e25, ex] at ha
  exact ha
